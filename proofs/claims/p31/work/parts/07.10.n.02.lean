-- wn_X3_lookWhole_6
abbrev rm_wn_X3_lookWhole_6 : Room := { frames := 4, cells := 0, slots := 0, locals := 97 }
def q_wn_X3_lookWhole_6_0 (f_minute : Int32) (f_avalanches : Int32) (f_begun : Int32) (a_huts : Nat → Int32) (a_known : Nat → Int32) (a_levels : Nat → Int32) (a_snow : Nat → Int32) (a_open : Nat → Int32) (lf_huts : Int32) (lf_singers : Int32) (lf_dams : Int32) (lf_deep : Int32) (la_heights : Nat → Int32) (la_minutes : Nat → Int32) (la_talls : Nat → Int32) (x2 : Int32) (post : Int32 → (Nat → Int32) → Prop) : Prop :=
  (x2.toInt < 0 ∨ 4 < x2.toInt → (post (-1000 : Int32) a_open)) ∧ (x2 = (0 : Int32) → (post f_minute a_open)) ∧ (x2 = (1 : Int32) → (post f_avalanches a_open)) ∧ (x2 = (2 : Int32) → (q_wn_X3_seers_6_0 f_begun a_known lf_singers (fun r_1 => post r_1 a_open))) ∧ (x2 = (3 : Int32) → (post f_begun a_open)) ∧ (x2 = (4 : Int32) → (q_wn_X3_doneFor_6_0 f_begun a_huts a_known a_levels a_snow a_open lf_huts lf_singers lf_dams lf_deep la_heights la_minutes la_talls (fun r_2 a_open_1 => post r_2 a_open_1)))
set_option maxRecDepth 20000 in
theorem t_wn_X3_lookWhole_6_0 {p : Program} {l : Launch} {e : Env} {s : State} {m : MethodId} {args : Array Value} {below : List Frame} {meth : Method} {c : Code} {E : zE} {qn ql qv : Nat} {f_minute : Int32} {f_avalanches : Int32} {f_begun : Int32} {f_climbed : Int32} {f_seed : Int32} {a_huts : Nat → Int32} {a_known : Nat → Int32} {a_levels : Nat → Int32} {a_snow : Nat → Int32} {a_open : Nat → Int32} {lf_huts : Int32} {lf_singers : Int32} {lf_villages : Int32} {lf_dams : Int32} {lf_echoes : Int32} {lf_deep : Int32} {lf_slide : Int32} {la_heights : Nat → Int32} {la_ladders : Nat → Int32} {la_minutes : Nat → Int32} {la_echoFrom : Nat → Int32} {la_echoTo : Nat → Int32} {la_homes : Nat → Int32} {la_talls : Nat → Int32} {la_known : Nat → Int32} {vf_deeds : Int32} {va_kinds : Nat → Int32} {va_firsts : Nat → Int32} {va_seconds : Nat → Int32} {post : Int32 → (Nat → Int32) → Prop} {x2 : Int32} {ls : Array Slot} {H : Heap} {locs : List Loc}
    (zc : zC p s m args meth c cX3_lookWhole 3 RX3 (some .int))
    (hK : zK E s)
    (hM : wnW E qn ql qv f_minute f_avalanches f_begun f_climbed f_seed a_huts a_known a_levels a_snow a_open lf_huts lf_singers lf_villages lf_dams lf_echoes lf_deep lf_slide la_heights la_ladders la_minutes la_echoFrom la_echoTo la_homes la_talls la_known vf_deeds va_kinds va_firsts va_seconds H)
    (hS : va_S (wnA qn ql qv) s.heap H locs)
    (hl : lv_has ls 3 [(0, .ref qn), (1, .ref ql), (2, .int x2)])
    (hw : q_wn_X3_lookWhole_6_0 f_minute f_avalanches f_begun a_huts a_known a_levels a_snow a_open lf_huts lf_singers lf_dams lf_deep la_heights la_minutes la_talls x2 post) :
    W p l e rm_wn_X3_lookWhole_6 s m args below meth c H locs 0 0 (MQ below (zQi (S := (Nat → Int32)) (fun r u => post r u) (fun u H => wnW E qn ql qv f_minute f_avalanches f_begun f_climbed f_seed a_huts a_known a_levels a_snow u lf_huts lf_singers lf_villages lf_dams lf_echoes lf_deep lf_slide la_heights la_ladders la_minutes la_echoFrom la_echoTo la_homes la_talls la_known vf_deeds va_kinds va_firsts va_seconds H) (wnA qn ql qv)) args s 0 0 (wnA qn ql qv)) (F0 m 0 ls []) := by
  have hx := zc.1
  have hb := zc.2.1
  refine lv_iload_n hx hb dX3_lookWhole_0 rfl (lv_at hl 2 rfl) ?_
  by_cases hc : x2.toInt < 0 ∨ 4 < x2.toInt
  · have hw := hw.1 hc
    refine lv_tableOut (tgt := 63) hx hb dX3_lookWhole_1 hc (by decide) ?_
    refine lv_sipush (v := (-1000 : Int32)) hx hb dX3_lookWhole_63 (by decide) ?_
    exact zret_iw a_open zc hS hw hM dX3_lookWhole_66
  have hin := zsw hc
  by_cases hc0 : x2 = (0 : Int32)
  · have hw := hw.2.1 hc0
    refine lv_tableIn (tgt := 36) hx hb dX3_lookWhole_1 (by rw [hc0]; decide) (by rw [hc0]; decide) (by rw [hc0]; rfl) (by decide) ?_
    refine lv_aload_n hx hb dX3_lookWhole_36 rfl (lv_at hl 0 rfl) ?_
    refine wng_3_72_0 zc hK hM dX3_lookWhole_37 ?_
    exact zret_iw a_open zc hS hw hM dX3_lookWhole_40
  by_cases hc1 : x2 = (1 : Int32)
  · have hw := hw.2.2.1 hc1
    refine lv_tableIn (tgt := 41) hx hb dX3_lookWhole_1 (by rw [hc1]; decide) (by rw [hc1]; decide) (by rw [hc1]; rfl) (by decide) ?_
    refine lv_aload_n hx hb dX3_lookWhole_41 rfl (lv_at hl 0 rfl) ?_
    refine wng_3_75_0 zc hK hM dX3_lookWhole_42 ?_
    exact zret_iw a_open zc hS hw hM dX3_lookWhole_45
  by_cases hc2 : x2 = (2 : Int32)
  · have hw := hw.2.2.2.1 hc2
    refine lv_tableIn (tgt := 46) hx hb dX3_lookWhole_1 (by rw [hc2]; decide) (by rw [hc2]; decide) (by rw [hc2]; rfl) (by decide) ?_
    refine lv_aload_n hx hb dX3_lookWhole_46 rfl (lv_at hl 0 rfl) ?_
    refine lv_aload_n hx hb dX3_lookWhole_47 rfl (lv_at hl 1 rfl) ?_
    refine zV_i [.ref ql] [] zc ky_X3_seers kz_X3_seers km_3_168 (c_wn_X3_seers_6 l hw) (wnPreV0 hK hM) rfl rfl hl.1 (Nat.le_of_ble_eq_true rfl) ⟨rfl, rfl⟩ ⟨Nat.le_of_ble_eq_true rfl, Nat.le_of_ble_eq_true rfl⟩ ⟨(Nat.zero_le _), (Nat.zero_le _)⟩ dX3_lookWhole_48 (fun r_1 hw => ?_)
    exact zret_iw a_open zc hS hw hM dX3_lookWhole_51
  by_cases hc3 : x2 = (3 : Int32)
  · have hw := hw.2.2.2.2.1 hc3
    refine lv_tableIn (tgt := 52) hx hb dX3_lookWhole_1 (by rw [hc3]; decide) (by rw [hc3]; decide) (by rw [hc3]; rfl) (by decide) ?_
    refine lv_aload_n hx hb dX3_lookWhole_52 rfl (lv_at hl 0 rfl) ?_
    refine wng_3_64_0 zc hK hM dX3_lookWhole_53 ?_
    exact zret_iw a_open zc hS hw hM dX3_lookWhole_56
  by_cases hc4 : x2 = (4 : Int32)
  · have hw := hw.2.2.2.2.2 hc4
    refine lv_tableIn (tgt := 57) hx hb dX3_lookWhole_1 (by rw [hc4]; decide) (by rw [hc4]; decide) (by rw [hc4]; rfl) (by decide) ?_
    refine lv_aload_n hx hb dX3_lookWhole_57 rfl (lv_at hl 0 rfl) ?_
    refine lv_aload_n hx hb dX3_lookWhole_58 rfl (lv_at hl 1 rfl) ?_
    refine zVw_i [.ref ql] [] zc ky_X3_doneFor kz_X3_doneFor km_3_172 (c_wn_X3_doneFor_6 l hw) (wnPreV0 hK hM) hS rfl rfl hl.1 (Nat.le_of_ble_eq_true rfl) ⟨rfl, rfl⟩ ⟨Nat.le_of_ble_eq_true rfl, Nat.le_of_ble_eq_true rfl⟩ ⟨(Nat.zero_le _), (Nat.zero_le _)⟩ dX3_lookWhole_59 (fun r_2 a_open_1 H locs hw hM hS => ?_)
    exact zret_iw a_open_1 zc hS hw hM dX3_lookWhole_62
  exact absurd hin (by have h0 := zne hc0; have h1 := zne hc1; have h2 := zne hc2; have h3 := zne hc3; have h4 := zne hc4; simp at *; omega)
set_option maxRecDepth 20000 in
theorem c_wn_X3_lookWhole_6 (l : Launch) {E : zE} {qn ql qv : Nat} {f_minute : Int32} {f_avalanches : Int32} {f_begun : Int32} {f_climbed : Int32} {f_seed : Int32} {a_huts : Nat → Int32} {a_known : Nat → Int32} {a_levels : Nat → Int32} {a_snow : Nat → Int32} {a_open : Nat → Int32} {lf_huts : Int32} {lf_singers : Int32} {lf_villages : Int32} {lf_dams : Int32} {lf_echoes : Int32} {lf_deep : Int32} {lf_slide : Int32} {la_heights : Nat → Int32} {la_ladders : Nat → Int32} {la_minutes : Nat → Int32} {la_echoFrom : Nat → Int32} {la_echoTo : Nat → Int32} {la_homes : Nat → Int32} {la_talls : Nat → Int32} {la_known : Nat → Int32} {vf_deeds : Int32} {va_kinds : Nat → Int32} {va_firsts : Nat → Int32} {va_seconds : Nat → Int32} {x2 : Int32} {post : Int32 → (Nat → Int32) → Prop} (hw : q_wn_X3_lookWhole_6_0 f_minute f_avalanches f_begun a_huts a_known a_levels a_snow a_open lf_huts lf_singers lf_dams lf_deep la_heights la_minutes la_talls x2 post) : Met l yX3_lookWhole (Cond.code yX3_lookWhole cX3_lookWhole 3 (some .int) :: zb) rm_wn_X3_lookWhole_6 (va_Pc [.ref qn, .ref ql, .int x2] (fun U => wnW E qn ql qv f_minute f_avalanches f_begun f_climbed f_seed a_huts a_known a_levels a_snow a_open lf_huts lf_singers lf_villages lf_dams lf_echoes lf_deep lf_slide la_heights la_ladders la_minutes la_echoFrom la_echoTo la_homes la_talls la_known vf_deeds va_kinds va_firsts va_seconds U.heap ∧ zK E U)) (zQi (S := (Nat → Int32)) (fun r u => post r u) (fun u H => wnW E qn ql qv f_minute f_avalanches f_begun f_climbed f_seed a_huts a_known a_levels a_snow u lf_huts lf_singers lf_villages lf_dams lf_echoes lf_deep lf_slide la_heights la_ladders la_minutes la_echoFrom la_echoTo la_homes la_talls la_known vf_deeds va_kinds va_firsts va_seconds H) (wnA qn ql qv)) 0 0 (wnA qn ql qv) := by
  refine Met.ofW (cc := cX3_lookWhole) (maxL := 3) (ret := (some .int)) (by decide) rfl ?_
  intro p e s m args below meth c s₁ B hml hv
  obtain ⟨rfl, hM, hK⟩ := hv
  have zc := zc_of B hml
  have hl := lv_entry ([.ref qn, .ref ql, .int x2]) (n := 3) (Nat.le_of_ble_eq_true rfl)
  rw [lg_entry_eq]
  generalize (lg_sl ([.ref qn, .ref ql, .int x2]) ++ List.replicate (3 - (lg_sl ([.ref qn, .ref ql, .int x2])).length) Slot.unset).toArray = ls at hl ⊢
  have hl : lv_has ls 3 [(0, .ref qn), (1, .ref ql), (2, .int x2)] := hl
  exact t_wn_X3_lookWhole_6_0 zc hK hM va_S.rf (lv_sub hl [0, 1, 2] rfl) hw
-- wn_X3_look_6
abbrev rm_wn_X3_look_6 : Room := { frames := 5, cells := 0, slots := 0, locals := 119 }
def q_wn_X3_look_6_135 (f_minute : Int32) (f_avalanches : Int32) (f_begun : Int32) (f_climbed : Int32) (a_huts : Nat → Int32) (a_known : Nat → Int32) (a_levels : Nat → Int32) (a_snow : Nat → Int32) (a_open : Nat → Int32) (lf_huts : Int32) (lf_singers : Int32) (lf_dams : Int32) (lf_deep : Int32) (la_heights : Nat → Int32) (la_ladders : Nat → Int32) (la_minutes : Nat → Int32) (la_talls : Nat → Int32) (x2 : Int32) (x3 : Int32) (post : Int32 → (Nat → Int32) → Prop) : Prop :=
  q_wl_X2_hasSinger_0 lf_singers x3 (fun r_1 => (r_1 = 0 → (post (-1000 : Int32) a_open)) ∧ (¬ r_1 = 0 → (q_wn_X3_lookSinger_6_0 f_climbed a_huts a_known la_heights la_ladders la_talls (x2 / (10 : Int32)) x3 (fun r_2 => post r_2 a_open))))
def q_wn_X3_look_6_0 (f_minute : Int32) (f_avalanches : Int32) (f_begun : Int32) (f_climbed : Int32) (a_huts : Nat → Int32) (a_known : Nat → Int32) (a_levels : Nat → Int32) (a_snow : Nat → Int32) (a_open : Nat → Int32) (lf_huts : Int32) (lf_singers : Int32) (lf_dams : Int32) (lf_deep : Int32) (la_heights : Nat → Int32) (la_ladders : Nat → Int32) (la_minutes : Nat → Int32) (la_talls : Nat → Int32) (x2 : Int32) (post : Int32 → (Nat → Int32) → Prop) : Prop :=
  (x2 < 0 → (post (-1000 : Int32) a_open)) ∧ (¬ x2 < 0 → ((x2 ≤ (79 : Int32) → (∀ v_1 : Int32, v_1 = (x2 - x2 / (10 : Int32) * (10 : Int32)) → (((x2 / (10 : Int32)).toInt < 0 ∨ 7 < (x2 / (10 : Int32)).toInt → (q_wn_X3_look_6_135 f_minute f_avalanches f_begun f_climbed a_huts a_known a_levels a_snow a_open lf_huts lf_singers lf_dams lf_deep la_heights la_ladders la_minutes la_talls x2 v_1 post)) ∧ ((x2 / (10 : Int32)) = (0 : Int32) → (q_wn_X3_lookWhole_6_0 f_minute f_avalanches f_begun a_huts a_known a_levels a_snow a_open lf_huts lf_singers lf_dams lf_deep la_heights la_minutes la_talls v_1 (fun r_1 a_open_1 => post r_1 a_open_1))) ∧ ((x2 / (10 : Int32)) = (1 : Int32) → (((5 : Int32) ≤ v_1 → (post (-1000 : Int32) a_open)) ∧ (¬ (5 : Int32) ≤ v_1 → (vp_in v_1 5 ∧ (post (a_levels (Int32.toNatClampNeg v_1)) a_open))))) ∧ ((x2 / (10 : Int32)) = (2 : Int32) → (((5 : Int32) ≤ v_1 → (post (-1000 : Int32) a_open)) ∧ (¬ (5 : Int32) ≤ v_1 → (q_wn_X3_knowers_6_0 a_known lf_singers v_1 (fun r_2 => q_z_J6_bitCount_0f7a4_0 r_2 (fun r_3 => post r_3 a_open)))))) ∧ ((x2 / (10 : Int32)) = (3 : Int32) → (q_wn_X3_look_6_135 f_minute f_avalanches f_begun f_climbed a_huts a_known a_levels a_snow a_open lf_huts lf_singers lf_dams lf_deep la_heights la_ladders la_minutes la_talls x2 v_1 post)) ∧ ((x2 / (10 : Int32)) = (4 : Int32) → (q_wn_X3_look_6_135 f_minute f_avalanches f_begun f_climbed a_huts a_known a_levels a_snow a_open lf_huts lf_singers lf_dams lf_deep la_heights la_ladders la_minutes la_talls x2 v_1 post)) ∧ ((x2 / (10 : Int32)) = (5 : Int32) → (q_wn_X3_look_6_135 f_minute f_avalanches f_begun f_climbed a_huts a_known a_levels a_snow a_open lf_huts lf_singers lf_dams lf_deep la_heights la_ladders la_minutes la_talls x2 v_1 post)) ∧ ((x2 / (10 : Int32)) = (6 : Int32) → (q_wn_X3_look_6_135 f_minute f_avalanches f_begun f_climbed a_huts a_known a_levels a_snow a_open lf_huts lf_singers lf_dams lf_deep la_heights la_ladders la_minutes la_talls x2 v_1 post)) ∧ ((x2 / (10 : Int32)) = (7 : Int32) → (q_wl_X2_hasHut_0 lf_huts v_1 (fun r_4 => (r_4 = 0 → (post (-1000 : Int32) a_open)) ∧ (¬ r_4 = 0 → (vp_in v_1 9 ∧ (post (a_snow (Int32.toNatClampNeg v_1)) a_open))))))))) ∧ (¬ x2 ≤ (79 : Int32) → (post (-1000 : Int32) a_open))))
set_option maxRecDepth 20000 in
theorem t_wn_X3_look_6_135 {p : Program} {l : Launch} {e : Env} {s : State} {m : MethodId} {args : Array Value} {below : List Frame} {meth : Method} {c : Code} {E : zE} {qn ql qv : Nat} {f_minute : Int32} {f_avalanches : Int32} {f_begun : Int32} {f_climbed : Int32} {f_seed : Int32} {a_huts : Nat → Int32} {a_known : Nat → Int32} {a_levels : Nat → Int32} {a_snow : Nat → Int32} {a_open : Nat → Int32} {lf_huts : Int32} {lf_singers : Int32} {lf_villages : Int32} {lf_dams : Int32} {lf_echoes : Int32} {lf_deep : Int32} {lf_slide : Int32} {la_heights : Nat → Int32} {la_ladders : Nat → Int32} {la_minutes : Nat → Int32} {la_echoFrom : Nat → Int32} {la_echoTo : Nat → Int32} {la_homes : Nat → Int32} {la_talls : Nat → Int32} {la_known : Nat → Int32} {vf_deeds : Int32} {va_kinds : Nat → Int32} {va_firsts : Nat → Int32} {va_seconds : Nat → Int32} {post : Int32 → (Nat → Int32) → Prop} {x2 : Int32} {x3 : Int32} {ls : Array Slot} {H : Heap} {locs : List Loc}
    (zc : zC p s m args meth c cX3_look 4 RX3 (some .int))
    (hK : zK E s)
    (hM : wnW E qn ql qv f_minute f_avalanches f_begun f_climbed f_seed a_huts a_known a_levels a_snow a_open lf_huts lf_singers lf_villages lf_dams lf_echoes lf_deep lf_slide la_heights la_ladders la_minutes la_echoFrom la_echoTo la_homes la_talls la_known vf_deeds va_kinds va_firsts va_seconds H)
    (hS : va_S (wnA qn ql qv) s.heap H locs)
    (hl : lv_has ls 4 [(0, .ref qn), (1, .ref ql), (2, .int x2), (3, .int x3)])
    (hw : q_wn_X3_look_6_135 f_minute f_avalanches f_begun f_climbed a_huts a_known a_levels a_snow a_open lf_huts lf_singers lf_dams lf_deep la_heights la_ladders la_minutes la_talls x2 x3 post) :
    W p l e rm_wn_X3_look_6 s m args below meth c H locs 0 0 (MQ below (zQi (S := (Nat → Int32)) (fun r u => post r u) (fun u H => wnW E qn ql qv f_minute f_avalanches f_begun f_climbed f_seed a_huts a_known a_levels a_snow u lf_huts lf_singers lf_villages lf_dams lf_echoes lf_deep lf_slide la_heights la_ladders la_minutes la_echoFrom la_echoTo la_homes la_talls la_known vf_deeds va_kinds va_firsts va_seconds H) (wnA qn ql qv)) args s 0 0 (wnA qn ql qv)) (F0 m 135 ls []) := by
  have hx := zc.1
  have hb := zc.2.1
  refine lv_aload_n hx hb dX3_look_135 rfl (lv_at hl 1 rfl) ?_
  refine lv_iload_n hx hb dX3_look_136 rfl (lv_at hl 3 rfl) ?_
  refine zV_i [.int x3] [] zc ky_X2_hasSinger kz_X2_hasSinger km_3_97 (c_wl_X2_hasSinger l hw) (wlPreV0 hK (pj_wn_wl_6 hM)) rfl rfl hl.1 (Nat.le_of_ble_eq_true rfl) ⟨rfl, rfl⟩ ⟨Nat.le_of_ble_eq_true rfl, Nat.le_of_ble_eq_true rfl⟩ ⟨(Nat.zero_le _), (Nat.zero_le _)⟩ dX3_look_137 (fun r_1 hw => ?_)
  refine lv_if_eq (tgt := 156) hx hb dX3_look_140 (by decide) (fun hc => ?_) (fun hc => ?_)
  · have hw := hw.1 hc
    refine lv_sipush (v := (-1000 : Int32)) hx hb dX3_look_156 (by decide) ?_
    exact zret_iw a_open zc hS hw hM dX3_look_159
  · have hw := hw.2 hc
    refine lv_aload_n hx hb dX3_look_143 rfl (lv_at hl 0 rfl) ?_
    refine lv_aload_n hx hb dX3_look_144 rfl (lv_at hl 1 rfl) ?_
    refine lv_iload_n hx hb dX3_look_145 rfl (lv_at hl 2 rfl) ?_
    refine lv_bipush (v := (10 : Int32)) hx hb dX3_look_146 (by decide) ?_
    refine lv_idiv hx hb dX3_look_148 (by decide) ?_
    refine lv_iload_n hx hb dX3_look_149 rfl (lv_at hl 3 rfl) ?_
    refine zV_i [.ref ql, .int (x2 / (10 : Int32)), .int x3] [] zc ky_X3_lookSinger kz_X3_lookSinger km_3_164 (c_wn_X3_lookSinger_6 l hw) (wnPreV0 hK hM) rfl rfl hl.1 (Nat.le_of_ble_eq_true rfl) ⟨rfl, rfl⟩ ⟨Nat.le_of_ble_eq_true rfl, Nat.le_of_ble_eq_true rfl⟩ ⟨(Nat.zero_le _), (Nat.zero_le _)⟩ dX3_look_150 (fun r_2 hw => ?_)
    refine lv_goto (tgt := 159) hx hb dX3_look_153 (by decide) ?_
    exact zret_iw a_open zc hS hw hM dX3_look_159
set_option maxRecDepth 20000 in
theorem t_wn_X3_look_6_0 {p : Program} {l : Launch} {e : Env} {s : State} {m : MethodId} {args : Array Value} {below : List Frame} {meth : Method} {c : Code} {E : zE} {qn ql qv : Nat} {f_minute : Int32} {f_avalanches : Int32} {f_begun : Int32} {f_climbed : Int32} {f_seed : Int32} {a_huts : Nat → Int32} {a_known : Nat → Int32} {a_levels : Nat → Int32} {a_snow : Nat → Int32} {a_open : Nat → Int32} {lf_huts : Int32} {lf_singers : Int32} {lf_villages : Int32} {lf_dams : Int32} {lf_echoes : Int32} {lf_deep : Int32} {lf_slide : Int32} {la_heights : Nat → Int32} {la_ladders : Nat → Int32} {la_minutes : Nat → Int32} {la_echoFrom : Nat → Int32} {la_echoTo : Nat → Int32} {la_homes : Nat → Int32} {la_talls : Nat → Int32} {la_known : Nat → Int32} {vf_deeds : Int32} {va_kinds : Nat → Int32} {va_firsts : Nat → Int32} {va_seconds : Nat → Int32} {post : Int32 → (Nat → Int32) → Prop} {x2 : Int32} {ls : Array Slot} {H : Heap} {locs : List Loc}
    (zc : zC p s m args meth c cX3_look 4 RX3 (some .int))
    (hK : zK E s)
    (hM : wnW E qn ql qv f_minute f_avalanches f_begun f_climbed f_seed a_huts a_known a_levels a_snow a_open lf_huts lf_singers lf_villages lf_dams lf_echoes lf_deep lf_slide la_heights la_ladders la_minutes la_echoFrom la_echoTo la_homes la_talls la_known vf_deeds va_kinds va_firsts va_seconds H)
    (hS : va_S (wnA qn ql qv) s.heap H locs)
    (hl : lv_has ls 4 [(0, .ref qn), (1, .ref ql), (2, .int x2)])
    (hw : q_wn_X3_look_6_0 f_minute f_avalanches f_begun f_climbed a_huts a_known a_levels a_snow a_open lf_huts lf_singers lf_dams lf_deep la_heights la_ladders la_minutes la_talls x2 post) :
    W p l e rm_wn_X3_look_6 s m args below meth c H locs 0 0 (MQ below (zQi (S := (Nat → Int32)) (fun r u => post r u) (fun u H => wnW E qn ql qv f_minute f_avalanches f_begun f_climbed f_seed a_huts a_known a_levels a_snow u lf_huts lf_singers lf_villages lf_dams lf_echoes lf_deep lf_slide la_heights la_ladders la_minutes la_echoFrom la_echoTo la_homes la_talls la_known vf_deeds va_kinds va_firsts va_seconds H) (wnA qn ql qv)) args s 0 0 (wnA qn ql qv)) (F0 m 0 ls []) := by
  have hx := zc.1
  have hb := zc.2.1
  refine lv_iload_n hx hb dX3_look_0 rfl (lv_at hl 2 rfl) ?_
  refine lv_if_lt (tgt := 10) hx hb dX3_look_1 (by decide) (fun hc => ?_) (fun hc => ?_)
  · have hw := hw.1 hc
    refine lv_sipush (v := (-1000 : Int32)) hx hb dX3_look_10 (by decide) ?_
    exact zret_iw a_open zc hS hw hM dX3_look_13
  · have hw := hw.2 hc
    refine lv_iload_n hx hb dX3_look_4 rfl (lv_at hl 2 rfl) ?_
    refine lv_bipush (v := (79 : Int32)) hx hb dX3_look_5 (by decide) ?_
    refine lv_icmp_le (tgt := 14) hx hb dX3_look_7 (by decide) (fun hc => ?_) (fun hc => ?_)
    · have hw := hw.1 hc
      refine lv_iload_n hx hb dX3_look_14 rfl (lv_at hl 2 rfl) ?_
      refine lv_bipush (v := (10 : Int32)) hx hb dX3_look_15 (by decide) ?_
      refine lv_irem hx hb dX3_look_17 (by decide) ?_
      refine lv_topi (fun v_1 ev_1 => ?_)
      have hw := hw v_1 ev_1
      refine lv_istore_n (lv' := [(3, .int v_1), (0, .ref qn), (1, .ref ql), (2, .int x2)]) hx hb dX3_look_18 rfl hl (by decide) rfl (fun ls hl => ?_)
      refine lv_iload_n hx hb dX3_look_19 rfl (lv_at hl 3 rfl) ?_
      refine lv_bipush (v := (10 : Int32)) hx hb dX3_look_20 (by decide) ?_
      refine lv_idiv hx hb dX3_look_22 (by decide) ?_
      by_cases hc : (x2 / (10 : Int32)).toInt < 0 ∨ 7 < (x2 / (10 : Int32)).toInt
      · have hw := hw.1 hc
        refine lv_tableOut (tgt := 135) hx hb dX3_look_23 hc (by decide) ?_
        exact t_wn_X3_look_6_135 zc hK hM hS  (lv_sub hl [1, 2, 3, 0] rfl) hw
      have hin := zsw hc
      by_cases hc0 : (x2 / (10 : Int32)) = (0 : Int32)
      · have hw := hw.2.1 hc0
        refine lv_tableIn (tgt := 68) hx hb dX3_look_23 (by rw [hc0]; decide) (by rw [hc0]; decide) (by rw [hc0]; rfl) (by decide) ?_
        refine lv_aload_n hx hb dX3_look_68 rfl (lv_at hl 1 rfl) ?_
        refine lv_aload_n hx hb dX3_look_69 rfl (lv_at hl 2 rfl) ?_
        refine lv_iload_n hx hb dX3_look_70 rfl (lv_at hl 0 rfl) ?_
        refine zVw_i [.ref ql, .int v_1] [] zc ky_X3_lookWhole kz_X3_lookWhole km_3_153 (c_wn_X3_lookWhole_6 l hw) (wnPreV0 hK hM) hS rfl rfl hl.1 (Nat.le_of_ble_eq_true rfl) ⟨rfl, rfl⟩ ⟨Nat.le_of_ble_eq_true rfl, Nat.le_of_ble_eq_true rfl⟩ ⟨(Nat.zero_le _), (Nat.zero_le _)⟩ dX3_look_71 (fun r_1 a_open_1 H locs hw hM hS => ?_)
        exact zret_iw a_open_1 zc hS hw hM dX3_look_74
      by_cases hc1 : (x2 / (10 : Int32)) = (1 : Int32)
      · have hw := hw.2.2.1 hc1
        refine lv_tableIn (tgt := 75) hx hb dX3_look_23 (by rw [hc1]; decide) (by rw [hc1]; decide) (by rw [hc1]; rfl) (by decide) ?_
        refine lv_iload_n hx hb dX3_look_75 rfl (lv_at hl 0 rfl) ?_
        refine lv_iconst (v := (5 : Int32)) hx hb dX3_look_76 (by decide) ?_
        refine lv_icmp_ge (tgt := 89) hx hb dX3_look_77 (by decide) (fun hc => ?_) (fun hc => ?_)
        · have hw := hw.1 hc
          refine lv_sipush (v := (-1000 : Int32)) hx hb dX3_look_89 (by decide) ?_
          exact zret_iw a_open zc hS hw hM dX3_look_92
        · have hw := hw.2 hc
          refine lv_aload_n hx hb dX3_look_80 rfl (lv_at hl 1 rfl) ?_
          refine wng_3_18_0 zc hK hM dX3_look_81 ?_
          refine lv_iload_n hx hb dX3_look_84 rfl (lv_at hl 0 rfl) ?_
          refine wnld_3 zc hK hM hw.1 dX3_look_85 ?_
          have hw := hw.2
          refine lv_goto (tgt := 92) hx hb dX3_look_86 (by decide) ?_
          exact zret_iw a_open zc hS hw hM dX3_look_92
      by_cases hc2 : (x2 / (10 : Int32)) = (2 : Int32)
      · have hw := hw.2.2.2.1 hc2
        refine lv_tableIn (tgt := 93) hx hb dX3_look_23 (by rw [hc2]; decide) (by rw [hc2]; decide) (by rw [hc2]; rfl) (by decide) ?_
        refine lv_iload_n hx hb dX3_look_93 rfl (lv_at hl 0 rfl) ?_
        refine lv_iconst (v := (5 : Int32)) hx hb dX3_look_94 (by decide) ?_
        refine lv_icmp_ge (tgt := 110) hx hb dX3_look_95 (by decide) (fun hc => ?_) (fun hc => ?_)
        · have hw := hw.1 hc
          refine lv_sipush (v := (-1000 : Int32)) hx hb dX3_look_110 (by decide) ?_
          exact zret_iw a_open zc hS hw hM dX3_look_113
        · have hw := hw.2 hc
          refine lv_aload_n hx hb dX3_look_98 rfl (lv_at hl 1 rfl) ?_
          refine lv_aload_n hx hb dX3_look_99 rfl (lv_at hl 2 rfl) ?_
          refine lv_iload_n hx hb dX3_look_100 rfl (lv_at hl 0 rfl) ?_
          refine zV_i [.ref ql, .int v_1] [] zc ky_X3_knowers kz_X3_knowers km_3_156 (c_wn_X3_knowers_6 l hw) (wnPreV0 hK hM) rfl rfl hl.1 (Nat.le_of_ble_eq_true rfl) ⟨rfl, rfl⟩ ⟨Nat.le_of_ble_eq_true rfl, Nat.le_of_ble_eq_true rfl⟩ ⟨(Nat.zero_le _), (Nat.zero_le _)⟩ dX3_look_101 (fun r_2 hw => ?_)
          refine zS_i [.int r_2] [] zc ky_J6_bitCount_0f7a4 kz_J6_bitCount_0f7a4 km_3_159 (c_z_J6_bitCount_0f7a4 l hw) (zPre0 _) rfl rfl hl.1 (Nat.le_of_ble_eq_true rfl) ⟨rfl, rfl⟩ ⟨Nat.le_of_ble_eq_true rfl, Nat.le_of_ble_eq_true rfl⟩ ⟨(Nat.zero_le _), (Nat.zero_le _)⟩ dX3_look_104 (fun r_3 hw => ?_)
          refine lv_goto (tgt := 113) hx hb dX3_look_107 (by decide) ?_
          exact zret_iw a_open zc hS hw hM dX3_look_113
      by_cases hc3 : (x2 / (10 : Int32)) = (3 : Int32)
      · have hw := hw.2.2.2.2.1 hc3
        refine lv_tableIn (tgt := 135) hx hb dX3_look_23 (by rw [hc3]; decide) (by rw [hc3]; decide) (by rw [hc3]; rfl) (by decide) ?_
        exact t_wn_X3_look_6_135 zc hK hM hS  (lv_sub hl [1, 2, 3, 0] rfl) hw
      by_cases hc4 : (x2 / (10 : Int32)) = (4 : Int32)
      · have hw := hw.2.2.2.2.2.1 hc4
        refine lv_tableIn (tgt := 135) hx hb dX3_look_23 (by rw [hc4]; decide) (by rw [hc4]; decide) (by rw [hc4]; rfl) (by decide) ?_
        exact t_wn_X3_look_6_135 zc hK hM hS  (lv_sub hl [1, 2, 3, 0] rfl) hw
      by_cases hc5 : (x2 / (10 : Int32)) = (5 : Int32)
      · have hw := hw.2.2.2.2.2.2.1 hc5
        refine lv_tableIn (tgt := 135) hx hb dX3_look_23 (by rw [hc5]; decide) (by rw [hc5]; decide) (by rw [hc5]; rfl) (by decide) ?_
        exact t_wn_X3_look_6_135 zc hK hM hS  (lv_sub hl [1, 2, 3, 0] rfl) hw
      by_cases hc6 : (x2 / (10 : Int32)) = (6 : Int32)
      · have hw := hw.2.2.2.2.2.2.2.1 hc6
        refine lv_tableIn (tgt := 135) hx hb dX3_look_23 (by rw [hc6]; decide) (by rw [hc6]; decide) (by rw [hc6]; rfl) (by decide) ?_
        exact t_wn_X3_look_6_135 zc hK hM hS  (lv_sub hl [1, 2, 3, 0] rfl) hw
      by_cases hc7 : (x2 / (10 : Int32)) = (7 : Int32)
      · have hw := hw.2.2.2.2.2.2.2.2 hc7
        refine lv_tableIn (tgt := 114) hx hb dX3_look_23 (by rw [hc7]; decide) (by rw [hc7]; decide) (by rw [hc7]; rfl) (by decide) ?_
        refine lv_aload_n hx hb dX3_look_114 rfl (lv_at hl 2 rfl) ?_
        refine lv_iload_n hx hb dX3_look_115 rfl (lv_at hl 0 rfl) ?_
        refine zV_i [.int v_1] [] zc ky_X2_hasHut kz_X2_hasHut km_3_115 (c_wl_X2_hasHut l hw) (wlPreV0 hK (pj_wn_wl_6 hM)) rfl rfl hl.1 (Nat.le_of_ble_eq_true rfl) ⟨rfl, rfl⟩ ⟨Nat.le_of_ble_eq_true rfl, Nat.le_of_ble_eq_true rfl⟩ ⟨(Nat.zero_le _), (Nat.zero_le _)⟩ dX3_look_116 (fun r_4 hw => ?_)
        refine lv_if_eq (tgt := 131) hx hb dX3_look_119 (by decide) (fun hc => ?_) (fun hc => ?_)
        · have hw := hw.1 hc
          refine lv_sipush (v := (-1000 : Int32)) hx hb dX3_look_131 (by decide) ?_
          exact zret_iw a_open zc hS hw hM dX3_look_134
        · have hw := hw.2 hc
          refine lv_aload_n hx hb dX3_look_122 rfl (lv_at hl 1 rfl) ?_
          refine wng_3_21_0 zc hK hM dX3_look_123 ?_
          refine lv_iload_n hx hb dX3_look_126 rfl (lv_at hl 0 rfl) ?_
          refine wnld_4 zc hK hM hw.1 dX3_look_127 ?_
          have hw := hw.2
          refine lv_goto (tgt := 134) hx hb dX3_look_128 (by decide) ?_
          exact zret_iw a_open zc hS hw hM dX3_look_134
      exact absurd hin (by have h0 := zne hc0; have h1 := zne hc1; have h2 := zne hc2; have h3 := zne hc3; have h4 := zne hc4; have h5 := zne hc5; have h6 := zne hc6; have h7 := zne hc7; simp at *; omega)
    · have hw := hw.2 hc
      refine lv_sipush (v := (-1000 : Int32)) hx hb dX3_look_10 (by decide) ?_
      exact zret_iw a_open zc hS hw hM dX3_look_13
set_option maxRecDepth 20000 in
theorem c_wn_X3_look_6 (l : Launch) {E : zE} {qn ql qv : Nat} {f_minute : Int32} {f_avalanches : Int32} {f_begun : Int32} {f_climbed : Int32} {f_seed : Int32} {a_huts : Nat → Int32} {a_known : Nat → Int32} {a_levels : Nat → Int32} {a_snow : Nat → Int32} {a_open : Nat → Int32} {lf_huts : Int32} {lf_singers : Int32} {lf_villages : Int32} {lf_dams : Int32} {lf_echoes : Int32} {lf_deep : Int32} {lf_slide : Int32} {la_heights : Nat → Int32} {la_ladders : Nat → Int32} {la_minutes : Nat → Int32} {la_echoFrom : Nat → Int32} {la_echoTo : Nat → Int32} {la_homes : Nat → Int32} {la_talls : Nat → Int32} {la_known : Nat → Int32} {vf_deeds : Int32} {va_kinds : Nat → Int32} {va_firsts : Nat → Int32} {va_seconds : Nat → Int32} {x2 : Int32} {post : Int32 → (Nat → Int32) → Prop} (hw : q_wn_X3_look_6_0 f_minute f_avalanches f_begun f_climbed a_huts a_known a_levels a_snow a_open lf_huts lf_singers lf_dams lf_deep la_heights la_ladders la_minutes la_talls x2 post) : Met l yX3_look (Cond.code yX3_look cX3_look 4 (some .int) :: zb) rm_wn_X3_look_6 (va_Pc [.ref qn, .ref ql, .int x2] (fun U => wnW E qn ql qv f_minute f_avalanches f_begun f_climbed f_seed a_huts a_known a_levels a_snow a_open lf_huts lf_singers lf_villages lf_dams lf_echoes lf_deep lf_slide la_heights la_ladders la_minutes la_echoFrom la_echoTo la_homes la_talls la_known vf_deeds va_kinds va_firsts va_seconds U.heap ∧ zK E U)) (zQi (S := (Nat → Int32)) (fun r u => post r u) (fun u H => wnW E qn ql qv f_minute f_avalanches f_begun f_climbed f_seed a_huts a_known a_levels a_snow u lf_huts lf_singers lf_villages lf_dams lf_echoes lf_deep lf_slide la_heights la_ladders la_minutes la_echoFrom la_echoTo la_homes la_talls la_known vf_deeds va_kinds va_firsts va_seconds H) (wnA qn ql qv)) 0 0 (wnA qn ql qv) := by
  refine Met.ofW (cc := cX3_look) (maxL := 4) (ret := (some .int)) (by decide) rfl ?_
  intro p e s m args below meth c s₁ B hml hv
  obtain ⟨rfl, hM, hK⟩ := hv
  have zc := zc_of B hml
  have hl := lv_entry ([.ref qn, .ref ql, .int x2]) (n := 4) (Nat.le_of_ble_eq_true rfl)
  rw [lg_entry_eq]
  generalize (lg_sl ([.ref qn, .ref ql, .int x2]) ++ List.replicate (4 - (lg_sl ([.ref qn, .ref ql, .int x2])).length) Slot.unset).toArray = ls at hl ⊢
  have hl : lv_has ls 4 [(0, .ref qn), (1, .ref ql), (2, .int x2)] := hl
  exact t_wn_X3_look_6_0 zc hK hM va_S.rf (lv_sub hl [0, 1, 2] rfl) hw
-- wn_X3_highestOf_6
abbrev rm_wn_X3_highestOf_6 : Room := { frames := 2, cells := 0, slots := 0, locals := 45 }
def q_wn_X3_highestOf_6_52 (P10 : Int32 → Int32 → Int32 → Prop) (f_climbed : Int32) (a_huts : Nat → Int32) (lf_singers : Int32) (la_heights : Nat → Int32) (la_ladders : Nat → Int32) (la_talls : Nat → Int32) (x2 : Int32) (x3 : Int32) (x4 : Int32) (x5 : Int32) (post : Int32 → Prop) : Prop :=
  ∀ v_1 : Int32, v_1 = x5 + (1 : Int32) → (P10 x3 x4 v_1)
def q_wn_X3_highestOf_6_10 (f_climbed : Int32) (a_huts : Nat → Int32) (lf_singers : Int32) (la_heights : Nat → Int32) (la_ladders : Nat → Int32) (la_talls : Nat → Int32) (x2 : Int32) (x3 : Int32) (x4 : Int32) (x5 : Int32) (post : Int32 → Prop) : Prop :=
  ∀ P10 : Int32 → Int32 → Int32 → Prop, (∀ (x3 : Int32) (x4 : Int32) (x5 : Int32), ((lf_singers ≤ x5 → (post x3)) ∧ (¬ lf_singers ≤ x5 → (q_z_X10_has_0 x2 x5 (fun r_1 => (r_1 = 0 → (q_wn_X3_highestOf_6_52 P10 f_climbed a_huts lf_singers la_heights la_ladders la_talls x2 x3 x4 x5 post)) ∧ (¬ r_1 = 0 → (q_wn_X3_high_6_0 f_climbed a_huts la_heights la_ladders la_talls x5 (fun r_2 => (r_2 ≤ x4 → (q_wn_X3_highestOf_6_52 P10 f_climbed a_huts lf_singers la_heights la_ladders la_talls x2 x3 x4 x5 post)) ∧ (¬ r_2 ≤ x4 → (q_wn_X3_high_6_0 f_climbed a_huts la_heights la_ladders la_talls x5 (fun r_3 => q_wn_X3_highestOf_6_52 P10 f_climbed a_huts lf_singers la_heights la_ladders la_talls x2 x5 r_3 x5 post)))))))))) → P10 x3 x4 x5) → P10 x3 x4 x5
def q_wn_X3_highestOf_6_0 (f_climbed : Int32) (a_huts : Nat → Int32) (lf_singers : Int32) (la_heights : Nat → Int32) (la_ladders : Nat → Int32) (la_talls : Nat → Int32) (x2 : Int32) (post : Int32 → Prop) : Prop :=
  q_wn_X3_highestOf_6_10 f_climbed a_huts lf_singers la_heights la_ladders la_talls x2 (0 : Int32) (-1000 : Int32) (0 : Int32) post
set_option maxRecDepth 20000 in
theorem t_wn_X3_highestOf_6_52 {p : Program} {l : Launch} {e : Env} {s : State} {m : MethodId} {args : Array Value} {below : List Frame} {meth : Method} {c : Code} {E : zE} {qn ql qv : Nat} {f_minute : Int32} {f_avalanches : Int32} {f_begun : Int32} {f_climbed : Int32} {f_seed : Int32} {a_huts : Nat → Int32} {a_known : Nat → Int32} {a_levels : Nat → Int32} {a_snow : Nat → Int32} {a_open : Nat → Int32} {lf_huts : Int32} {lf_singers : Int32} {lf_villages : Int32} {lf_dams : Int32} {lf_echoes : Int32} {lf_deep : Int32} {lf_slide : Int32} {la_heights : Nat → Int32} {la_ladders : Nat → Int32} {la_minutes : Nat → Int32} {la_echoFrom : Nat → Int32} {la_echoTo : Nat → Int32} {la_homes : Nat → Int32} {la_talls : Nat → Int32} {la_known : Nat → Int32} {vf_deeds : Int32} {va_kinds : Nat → Int32} {va_firsts : Nat → Int32} {va_seconds : Nat → Int32} {P10 : Int32 → Int32 → Int32 → Prop} {post : Int32 → Prop} {x2 : Int32} {x3 : Int32} {x4 : Int32} {x5 : Int32} {ls : Array Slot}
    (zc : zC p s m args meth c cX3_highestOf 6 RX3 (some .int))
    (hK : zK E s)
    (hM : wnW E qn ql qv f_minute f_avalanches f_begun f_climbed f_seed a_huts a_known a_levels a_snow a_open lf_huts lf_singers lf_villages lf_dams lf_echoes lf_deep lf_slide la_heights la_ladders la_minutes la_echoFrom la_echoTo la_homes la_talls la_known vf_deeds va_kinds va_firsts va_seconds s.heap)
    (hP10 : ∀ (x3 : Int32) (x4 : Int32) (x5 : Int32) (ls : Array Slot), P10 x3 x4 x5 → lv_has ls 6 [(0, .ref qn), (1, .ref ql), (2, .int x2), (3, .int x3), (4, .int x4), (5, .int x5)] → W p l e rm_wn_X3_highestOf_6 s m args below meth c s.heap [] 0 0 (MQ below (vp_Si post) args s 0 0 (fun _ => False)) (F0 m 10 ls []))
    (hl : lv_has ls 6 [(0, .ref qn), (1, .ref ql), (2, .int x2), (3, .int x3), (4, .int x4), (5, .int x5)])
    (hw : q_wn_X3_highestOf_6_52 P10 f_climbed a_huts lf_singers la_heights la_ladders la_talls x2 x3 x4 x5 post) :
    W p l e rm_wn_X3_highestOf_6 s m args below meth c s.heap [] 0 0 (MQ below (vp_Si post) args s 0 0 (fun _ => False)) (F0 m 52 ls []) := by
  have hx := zc.1
  have hb := zc.2.1
  obtain ⟨v_1, ev_1⟩ : ∃ y : Int32, y = x5 + (1 : Int32) := ⟨_, rfl⟩
  have hw := hw v_1 ev_1
  refine lv_iinc (v := v_1) (k := 5) (lv' := [(5, .int v_1), (0, .ref qn), (1, .ref ql), (2, .int x2), (3, .int x3), (4, .int x4)]) hx hb dX3_highestOf_52 hl rfl (by rw [ev_1]; rfl) (by decide) rfl (fun ls hl => ?_)
  refine lv_goto (tgt := 10) hx hb dX3_highestOf_55 (by decide) ?_
  exact hP10 _ _ _ _ hw (lv_sub hl [1, 2, 3, 4, 5, 0] rfl)
set_option maxRecDepth 20000 in
theorem t_wn_X3_highestOf_6_10 {p : Program} {l : Launch} {e : Env} {s : State} {m : MethodId} {args : Array Value} {below : List Frame} {meth : Method} {c : Code} {E : zE} {qn ql qv : Nat} {f_minute : Int32} {f_avalanches : Int32} {f_begun : Int32} {f_climbed : Int32} {f_seed : Int32} {a_huts : Nat → Int32} {a_known : Nat → Int32} {a_levels : Nat → Int32} {a_snow : Nat → Int32} {a_open : Nat → Int32} {lf_huts : Int32} {lf_singers : Int32} {lf_villages : Int32} {lf_dams : Int32} {lf_echoes : Int32} {lf_deep : Int32} {lf_slide : Int32} {la_heights : Nat → Int32} {la_ladders : Nat → Int32} {la_minutes : Nat → Int32} {la_echoFrom : Nat → Int32} {la_echoTo : Nat → Int32} {la_homes : Nat → Int32} {la_talls : Nat → Int32} {la_known : Nat → Int32} {vf_deeds : Int32} {va_kinds : Nat → Int32} {va_firsts : Nat → Int32} {va_seconds : Nat → Int32} {post : Int32 → Prop} {x2 : Int32} {x3 : Int32} {x4 : Int32} {x5 : Int32} {ls : Array Slot}
    (zc : zC p s m args meth c cX3_highestOf 6 RX3 (some .int))
    (hK : zK E s)
    (hM : wnW E qn ql qv f_minute f_avalanches f_begun f_climbed f_seed a_huts a_known a_levels a_snow a_open lf_huts lf_singers lf_villages lf_dams lf_echoes lf_deep lf_slide la_heights la_ladders la_minutes la_echoFrom la_echoTo la_homes la_talls la_known vf_deeds va_kinds va_firsts va_seconds s.heap)
    (hl : lv_has ls 6 [(0, .ref qn), (1, .ref ql), (2, .int x2), (3, .int x3), (4, .int x4), (5, .int x5)])
    (hw : q_wn_X3_highestOf_6_10 f_climbed a_huts lf_singers la_heights la_ladders la_talls x2 x3 x4 x5 post) :
    W p l e rm_wn_X3_highestOf_6 s m args below meth c s.heap [] 0 0 (MQ below (vp_Si post) args s 0 0 (fun _ => False)) (F0 m 10 ls []) := by
  have hx := zc.1
  have hb := zc.2.1
  refine hw (fun x3 x4 x5 => ∀ (ls : Array Slot), lv_has ls 6 [(0, .ref qn), (1, .ref ql), (2, .int x2), (3, .int x3), (4, .int x4), (5, .int x5)] → W p l e rm_wn_X3_highestOf_6 s m args below meth c s.heap [] 0 0 (MQ below (vp_Si post) args s 0 0 (fun _ => False)) (F0 m 10 ls [])) ?_ _ hl
  intro x3 x4 x5 hw ls hl
  refine lv_iload hx hb dX3_highestOf_10 (lv_at hl 5 rfl) ?_
  refine lv_aload_n hx hb dX3_highestOf_12 rfl (lv_at hl 1 rfl) ?_
  refine wng_3_53_6 zc hK hM dX3_highestOf_13 ?_
  refine lv_icmp_ge (tgt := 58) hx hb dX3_highestOf_16 (by decide) (fun hc => ?_) (fun hc => ?_)
  · have hw := hw.1 hc
    refine lv_iload_n hx hb dX3_highestOf_58 rfl (lv_at hl 3 rfl) ?_
    exact zret_i zc hw dX3_highestOf_59
  · have hw := hw.2 hc
    refine lv_iload_n hx hb dX3_highestOf_19 rfl (lv_at hl 2 rfl) ?_
    refine lv_iload hx hb dX3_highestOf_20 (lv_at hl 5 rfl) ?_
    refine zSN_i [.int x2, .int x5] [] zc ky_X10_has kz_X10_has (hK.2 _ kn_3_67) (c_z_X10_has l hw) (zPre0 _) rfl rfl hl.1 (Nat.le_of_ble_eq_true rfl) ⟨rfl, rfl⟩ ⟨Nat.le_of_ble_eq_true rfl, Nat.le_of_ble_eq_true rfl⟩ ⟨(Nat.zero_le _), (Nat.zero_le _)⟩ dX3_highestOf_22 (fun r_1 hw => ?_)
    refine lv_if_eq (tgt := 52) hx hb dX3_highestOf_25 (by decide) (fun hc => ?_) (fun hc => ?_)
    · have hw := hw.1 hc
      exact t_wn_X3_highestOf_6_52 zc hK hM (fun _ _ _ ls h hl => h ls hl) (lv_sub hl [0, 1, 2, 3, 4, 5] rfl) hw
    · have hw := hw.2 hc
      refine lv_aload_n hx hb dX3_highestOf_28 rfl (lv_at hl 0 rfl) ?_
      refine lv_aload_n hx hb dX3_highestOf_29 rfl (lv_at hl 1 rfl) ?_
      refine lv_iload hx hb dX3_highestOf_30 (lv_at hl 5 rfl) ?_
      refine zV_i [.ref ql, .int x5] [] zc ky_X3_high kz_X3_high km_3_130 (c_wn_X3_high_6 l hw) (wnPreV0 hK hM) rfl rfl hl.1 (Nat.le_of_ble_eq_true rfl) ⟨rfl, rfl⟩ ⟨Nat.le_of_ble_eq_true rfl, Nat.le_of_ble_eq_true rfl⟩ ⟨(Nat.zero_le _), (Nat.zero_le _)⟩ dX3_highestOf_32 (fun r_2 hw => ?_)
      refine lv_iload hx hb dX3_highestOf_35 (lv_at hl 4 rfl) ?_
      refine lv_icmp_le (tgt := 52) hx hb dX3_highestOf_37 (by decide) (fun hc => ?_) (fun hc => ?_)
      · have hw := hw.1 hc
        exact t_wn_X3_highestOf_6_52 zc hK hM (fun _ _ _ ls h hl => h ls hl) (lv_sub hl [0, 1, 2, 3, 4, 5] rfl) hw
      · have hw := hw.2 hc
        refine lv_iload hx hb dX3_highestOf_40 (lv_at hl 5 rfl) ?_
        refine lv_istore_n (lv' := [(3, .int x5), (0, .ref qn), (1, .ref ql), (2, .int x2), (4, .int x4), (5, .int x5)]) hx hb dX3_highestOf_42 rfl hl (by decide) rfl (fun ls hl => ?_)
        refine lv_aload_n hx hb dX3_highestOf_43 rfl (lv_at hl 1 rfl) ?_
        refine lv_aload_n hx hb dX3_highestOf_44 rfl (lv_at hl 2 rfl) ?_
        refine lv_iload hx hb dX3_highestOf_45 (lv_at hl 5 rfl) ?_
        refine zV_i [.ref ql, .int x5] [] zc ky_X3_high kz_X3_high km_3_130 (c_wn_X3_high_6 l hw) (wnPreV0 hK hM) rfl rfl hl.1 (Nat.le_of_ble_eq_true rfl) ⟨rfl, rfl⟩ ⟨Nat.le_of_ble_eq_true rfl, Nat.le_of_ble_eq_true rfl⟩ ⟨(Nat.zero_le _), (Nat.zero_le _)⟩ dX3_highestOf_47 (fun r_3 hw => ?_)
        refine lv_istore (lv' := [(4, .int r_3), (3, .int x5), (0, .ref qn), (1, .ref ql), (2, .int x2), (5, .int x5)]) hx hb dX3_highestOf_50 hl (by decide) rfl (fun ls hl => ?_)
        exact t_wn_X3_highestOf_6_52 zc hK hM (fun _ _ _ ls h hl => h ls hl) (lv_sub hl [2, 3, 4, 1, 0, 5] rfl) hw
set_option maxRecDepth 20000 in
theorem t_wn_X3_highestOf_6_0 {p : Program} {l : Launch} {e : Env} {s : State} {m : MethodId} {args : Array Value} {below : List Frame} {meth : Method} {c : Code} {E : zE} {qn ql qv : Nat} {f_minute : Int32} {f_avalanches : Int32} {f_begun : Int32} {f_climbed : Int32} {f_seed : Int32} {a_huts : Nat → Int32} {a_known : Nat → Int32} {a_levels : Nat → Int32} {a_snow : Nat → Int32} {a_open : Nat → Int32} {lf_huts : Int32} {lf_singers : Int32} {lf_villages : Int32} {lf_dams : Int32} {lf_echoes : Int32} {lf_deep : Int32} {lf_slide : Int32} {la_heights : Nat → Int32} {la_ladders : Nat → Int32} {la_minutes : Nat → Int32} {la_echoFrom : Nat → Int32} {la_echoTo : Nat → Int32} {la_homes : Nat → Int32} {la_talls : Nat → Int32} {la_known : Nat → Int32} {vf_deeds : Int32} {va_kinds : Nat → Int32} {va_firsts : Nat → Int32} {va_seconds : Nat → Int32} {post : Int32 → Prop} {x2 : Int32} {ls : Array Slot}
    (zc : zC p s m args meth c cX3_highestOf 6 RX3 (some .int))
    (hK : zK E s)
    (hM : wnW E qn ql qv f_minute f_avalanches f_begun f_climbed f_seed a_huts a_known a_levels a_snow a_open lf_huts lf_singers lf_villages lf_dams lf_echoes lf_deep lf_slide la_heights la_ladders la_minutes la_echoFrom la_echoTo la_homes la_talls la_known vf_deeds va_kinds va_firsts va_seconds s.heap)
    (hl : lv_has ls 6 [(0, .ref qn), (1, .ref ql), (2, .int x2)])
    (hw : q_wn_X3_highestOf_6_0 f_climbed a_huts lf_singers la_heights la_ladders la_talls x2 post) :
    W p l e rm_wn_X3_highestOf_6 s m args below meth c s.heap [] 0 0 (MQ below (vp_Si post) args s 0 0 (fun _ => False)) (F0 m 0 ls []) := by
  have hx := zc.1
  have hb := zc.2.1
  refine lv_iconst (v := (0 : Int32)) hx hb dX3_highestOf_0 (by decide) ?_
  refine lv_istore_n (lv' := [(3, .int (0 : Int32)), (0, .ref qn), (1, .ref ql), (2, .int x2)]) hx hb dX3_highestOf_1 rfl hl (by decide) rfl (fun ls hl => ?_)
  refine lv_sipush (v := (-1000 : Int32)) hx hb dX3_highestOf_2 (by decide) ?_
  refine lv_istore (lv' := [(4, .int (-1000 : Int32)), (3, .int (0 : Int32)), (0, .ref qn), (1, .ref ql), (2, .int x2)]) hx hb dX3_highestOf_5 hl (by decide) rfl (fun ls hl => ?_)
  refine lv_iconst (v := (0 : Int32)) hx hb dX3_highestOf_7 (by decide) ?_
  refine lv_istore (lv' := [(5, .int (0 : Int32)), (4, .int (-1000 : Int32)), (3, .int (0 : Int32)), (0, .ref qn), (1, .ref ql), (2, .int x2)]) hx hb dX3_highestOf_8 hl (by decide) rfl (fun ls hl => ?_)
  exact t_wn_X3_highestOf_6_10 zc hK hM  (lv_sub hl [3, 4, 5, 2, 1, 0] rfl) hw
set_option maxRecDepth 20000 in
theorem c_wn_X3_highestOf_6 (l : Launch) {E : zE} {qn ql qv : Nat} {f_minute : Int32} {f_avalanches : Int32} {f_begun : Int32} {f_climbed : Int32} {f_seed : Int32} {a_huts : Nat → Int32} {a_known : Nat → Int32} {a_levels : Nat → Int32} {a_snow : Nat → Int32} {a_open : Nat → Int32} {lf_huts : Int32} {lf_singers : Int32} {lf_villages : Int32} {lf_dams : Int32} {lf_echoes : Int32} {lf_deep : Int32} {lf_slide : Int32} {la_heights : Nat → Int32} {la_ladders : Nat → Int32} {la_minutes : Nat → Int32} {la_echoFrom : Nat → Int32} {la_echoTo : Nat → Int32} {la_homes : Nat → Int32} {la_talls : Nat → Int32} {la_known : Nat → Int32} {vf_deeds : Int32} {va_kinds : Nat → Int32} {va_firsts : Nat → Int32} {va_seconds : Nat → Int32} {x2 : Int32} {post : Int32 → Prop} (hw : q_wn_X3_highestOf_6_0 f_climbed a_huts lf_singers la_heights la_ladders la_talls x2 post) : Met l yX3_highestOf (Cond.code yX3_highestOf cX3_highestOf 6 (some .int) :: zb) rm_wn_X3_highestOf_6 (va_Pc [.ref qn, .ref ql, .int x2] (fun U => wnW E qn ql qv f_minute f_avalanches f_begun f_climbed f_seed a_huts a_known a_levels a_snow a_open lf_huts lf_singers lf_villages lf_dams lf_echoes lf_deep lf_slide la_heights la_ladders la_minutes la_echoFrom la_echoTo la_homes la_talls la_known vf_deeds va_kinds va_firsts va_seconds U.heap ∧ zK E U)) (vp_Si post) 0 0 (fun _ => False) := by
  refine Met.ofW (cc := cX3_highestOf) (maxL := 6) (ret := (some .int)) (by decide) rfl ?_
  intro p e s m args below meth c s₁ B hml hv
  obtain ⟨rfl, hM, hK⟩ := hv
  have zc := zc_of B hml
  have hl := lv_entry ([.ref qn, .ref ql, .int x2]) (n := 6) (Nat.le_of_ble_eq_true rfl)
  rw [lg_entry_eq]
  generalize (lg_sl ([.ref qn, .ref ql, .int x2]) ++ List.replicate (6 - (lg_sl ([.ref qn, .ref ql, .int x2])).length) Slot.unset).toArray = ls at hl ⊢
  have hl : lv_has ls 6 [(0, .ref qn), (1, .ref ql), (2, .int x2)] := hl
  exact t_wn_X3_highestOf_6_0 zc hK hM (lv_sub hl [0, 1, 2] rfl) hw
-- wn_X3_spreads_6
abbrev rm_wn_X3_spreads_6 : Room := { frames := 3, cells := 0, slots := 0, locals := 70 }
def q_wn_X3_spreads_6_144 (f_begun : Int32) (f_climbed : Int32) (a_huts : Nat → Int32) (a_known : Nat → Int32) (a_levels : Nat → Int32) (lf_singers : Int32) (lf_dams : Int32) (lf_echoes : Int32) (la_heights : Nat → Int32) (la_ladders : Nat → Int32) (la_echoFrom : Nat → Int32) (la_echoTo : Nat → Int32) (la_talls : Nat → Int32) (x4 : Int32) (post : Int32 → Prop) : Prop :=
  q_z_J6_bitCount_0f7a4_0 x4 (fun r_1 => (¬ r_1 = lf_singers → (post (0 : Int32))) ∧ (r_1 = lf_singers → (post (1 : Int32))))
def q_wn_X3_spreads_6_39 (f_begun : Int32) (f_climbed : Int32) (a_huts : Nat → Int32) (a_known : Nat → Int32) (a_levels : Nat → Int32) (lf_singers : Int32) (lf_dams : Int32) (lf_echoes : Int32) (la_heights : Nat → Int32) (la_ladders : Nat → Int32) (la_echoFrom : Nat → Int32) (la_echoTo : Nat → Int32) (la_talls : Nat → Int32) (x4 : Int32) (x5 : Int32) (x6 : Int32) (x7 : Int32) (post : Int32 → Prop) : Prop :=
  ∀ P39 : Int32 → Int32 → Int32 → Int32 → Prop, (∀ (x4 : Int32) (x5 : Int32) (x6 : Int32) (x7 : Int32), (((6 : Int32) ≤ x7 → (q_wn_X3_spreads_6_144 f_begun f_climbed a_huts a_known a_levels lf_singers lf_dams lf_echoes la_heights la_ladders la_echoFrom la_echoTo la_talls x4 post)) ∧ (¬ (6 : Int32) ≤ x7 → ((x6 = 0 → (q_wn_X3_spreads_6_144 f_begun f_climbed a_huts a_known a_levels lf_singers lf_dams lf_echoes la_heights la_ladders la_echoFrom la_echoTo la_talls x4 post)) ∧ (¬ x6 = 0 → (q_wn_X3_highestOf_6_0 f_climbed a_huts lf_singers la_heights la_ladders la_talls x6 (fun r_1 => q_wn_X3_high_6_0 f_climbed a_huts la_heights la_ladders la_talls r_1 (fun r_2 => q_z_X10_has_0 x4 r_1 (fun r_3 => (r_3 = 0 → (post (0 : Int32))) ∧ (¬ r_3 = 0 → ((x5 ≤ r_2 → (post (0 : Int32))) ∧ (¬ x5 ≤ r_2 → (vp_in r_1 6 ∧ (q_wl_X2_isDam_0 lf_dams (a_huts (Int32.toNatClampNeg r_1)) (fun r_4 => (r_4 = 0 → (vp_in r_1 6 ∧ (q_wl_X2_earshot_0 lf_dams lf_echoes la_echoFrom la_echoTo (a_huts (Int32.toNatClampNeg r_1)) (fun r_5 => q_wn_X3_singersIn_6_0 a_huts lf_singers r_5 (fun r_6 => ∀ v_1 : Int32, v_1 = (x4 ||| r_6) → (∀ v_2 : Int32, v_2 = (x6 &&& (((1 : Int32) <<< (r_1 &&& 31)) ^^^ (-1 : Int32))) → (∀ v_3 : Int32, v_3 = x7 + (1 : Int32) → (P39 v_1 r_2 v_2 v_3)))))))) ∧ (¬ r_4 = 0 → (post (0 : Int32))))))))))))))))) → P39 x4 x5 x6 x7) → P39 x4 x5 x6 x7
def q_wn_X3_spreads_6_31 (f_begun : Int32) (f_climbed : Int32) (a_huts : Nat → Int32) (a_known : Nat → Int32) (a_levels : Nat → Int32) (lf_singers : Int32) (lf_dams : Int32) (lf_echoes : Int32) (la_heights : Nat → Int32) (la_ladders : Nat → Int32) (la_echoFrom : Nat → Int32) (la_echoTo : Nat → Int32) (la_talls : Nat → Int32) (x3 : Int32) (x4 : Int32) (y0 : Int32) (post : Int32 → Prop) : Prop :=
  q_wn_X3_spreads_6_39 f_begun f_climbed a_huts a_known a_levels lf_singers lf_dams lf_echoes la_heights la_ladders la_echoFrom la_echoTo la_talls x4 y0 x3 (0 : Int32) post
def q_wn_X3_spreads_6_0 (f_begun : Int32) (f_climbed : Int32) (a_huts : Nat → Int32) (a_known : Nat → Int32) (a_levels : Nat → Int32) (lf_singers : Int32) (lf_dams : Int32) (lf_echoes : Int32) (la_heights : Nat → Int32) (la_ladders : Nat → Int32) (la_echoFrom : Nat → Int32) (la_echoTo : Nat → Int32) (la_talls : Nat → Int32) (x2 : Int32) (x3 : Int32) (post : Int32 → Prop) : Prop :=
  q_wn_X3_knowers_6_0 a_known lf_singers x2 (fun r_1 => q_z_X10_has_0 f_begun x2 (fun r_2 => (r_2 = 0 → (q_wn_X3_spreads_6_31 f_begun f_climbed a_huts a_known a_levels lf_singers lf_dams lf_echoes la_heights la_ladders la_echoFrom la_echoTo la_talls x3 r_1 (1000 : Int32) post)) ∧ (¬ r_2 = 0 → (vp_in x2 5 ∧ (q_wn_X3_spreads_6_31 f_begun f_climbed a_huts a_known a_levels lf_singers lf_dams lf_echoes la_heights la_ladders la_echoFrom la_echoTo la_talls x3 r_1 (a_levels (Int32.toNatClampNeg x2)) post)))))
set_option maxRecDepth 20000 in
theorem t_wn_X3_spreads_6_144 {p : Program} {l : Launch} {e : Env} {s : State} {m : MethodId} {args : Array Value} {below : List Frame} {meth : Method} {c : Code} {E : zE} {qn ql qv : Nat} {f_minute : Int32} {f_avalanches : Int32} {f_begun : Int32} {f_climbed : Int32} {f_seed : Int32} {a_huts : Nat → Int32} {a_known : Nat → Int32} {a_levels : Nat → Int32} {a_snow : Nat → Int32} {a_open : Nat → Int32} {lf_huts : Int32} {lf_singers : Int32} {lf_villages : Int32} {lf_dams : Int32} {lf_echoes : Int32} {lf_deep : Int32} {lf_slide : Int32} {la_heights : Nat → Int32} {la_ladders : Nat → Int32} {la_minutes : Nat → Int32} {la_echoFrom : Nat → Int32} {la_echoTo : Nat → Int32} {la_homes : Nat → Int32} {la_talls : Nat → Int32} {la_known : Nat → Int32} {vf_deeds : Int32} {va_kinds : Nat → Int32} {va_firsts : Nat → Int32} {va_seconds : Nat → Int32} {post : Int32 → Prop} {x4 : Int32} {ls : Array Slot}
    (zc : zC p s m args meth c cX3_spreads 10 RX3 (some .boolean))
    (hK : zK E s)
    (hM : wnW E qn ql qv f_minute f_avalanches f_begun f_climbed f_seed a_huts a_known a_levels a_snow a_open lf_huts lf_singers lf_villages lf_dams lf_echoes lf_deep lf_slide la_heights la_ladders la_minutes la_echoFrom la_echoTo la_homes la_talls la_known vf_deeds va_kinds va_firsts va_seconds s.heap)
    (hl : lv_has ls 10 [(1, .ref ql), (4, .int x4)])
    (hw : q_wn_X3_spreads_6_144 f_begun f_climbed a_huts a_known a_levels lf_singers lf_dams lf_echoes la_heights la_ladders la_echoFrom la_echoTo la_talls x4 post) :
    W p l e rm_wn_X3_spreads_6 s m args below meth c s.heap [] 0 0 (MQ below (vp_Si post) args s 0 0 (fun _ => False)) (F0 m 144 ls []) := by
  have hx := zc.1
  have hb := zc.2.1
  refine lv_iload hx hb dX3_spreads_144 (lv_at hl 1 rfl) ?_
  refine zS_i [.int x4] [] zc ky_J6_bitCount_0f7a4 kz_J6_bitCount_0f7a4 km_3_159 (c_z_J6_bitCount_0f7a4 l hw) (zPre0 _) rfl rfl hl.1 (Nat.le_of_ble_eq_true rfl) ⟨rfl, rfl⟩ ⟨Nat.le_of_ble_eq_true rfl, Nat.le_of_ble_eq_true rfl⟩ ⟨(Nat.zero_le _), (Nat.zero_le _)⟩ dX3_spreads_146 (fun r_1 hw => ?_)
  refine lv_aload_n hx hb dX3_spreads_149 rfl (lv_at hl 0 rfl) ?_
  refine wng_3_53_6 zc hK hM dX3_spreads_150 ?_
  refine lv_icmp_ne (tgt := 160) hx hb dX3_spreads_153 (by decide) (fun hc => ?_) (fun hc => ?_)
  · have hw := hw.1 hc
    refine lv_iconst (v := (0 : Int32)) hx hb dX3_spreads_160 (by decide) ?_
    exact zret_z zc rfl hw dX3_spreads_161
  · have hw := hw.2 hc
    refine lv_iconst (v := (1 : Int32)) hx hb dX3_spreads_156 (by decide) ?_
    refine lv_goto (tgt := 161) hx hb dX3_spreads_157 (by decide) ?_
    exact zret_z zc rfl hw dX3_spreads_161
set_option maxRecDepth 20000 in
theorem t_wn_X3_spreads_6_39 {p : Program} {l : Launch} {e : Env} {s : State} {m : MethodId} {args : Array Value} {below : List Frame} {meth : Method} {c : Code} {E : zE} {qn ql qv : Nat} {f_minute : Int32} {f_avalanches : Int32} {f_begun : Int32} {f_climbed : Int32} {f_seed : Int32} {a_huts : Nat → Int32} {a_known : Nat → Int32} {a_levels : Nat → Int32} {a_snow : Nat → Int32} {a_open : Nat → Int32} {lf_huts : Int32} {lf_singers : Int32} {lf_villages : Int32} {lf_dams : Int32} {lf_echoes : Int32} {lf_deep : Int32} {lf_slide : Int32} {la_heights : Nat → Int32} {la_ladders : Nat → Int32} {la_minutes : Nat → Int32} {la_echoFrom : Nat → Int32} {la_echoTo : Nat → Int32} {la_homes : Nat → Int32} {la_talls : Nat → Int32} {la_known : Nat → Int32} {vf_deeds : Int32} {va_kinds : Nat → Int32} {va_firsts : Nat → Int32} {va_seconds : Nat → Int32} {post : Int32 → Prop} {x4 : Int32} {x5 : Int32} {x6 : Int32} {x7 : Int32} {ls : Array Slot}
    (zc : zC p s m args meth c cX3_spreads 10 RX3 (some .boolean))
    (hK : zK E s)
    (hM : wnW E qn ql qv f_minute f_avalanches f_begun f_climbed f_seed a_huts a_known a_levels a_snow a_open lf_huts lf_singers lf_villages lf_dams lf_echoes lf_deep lf_slide la_heights la_ladders la_minutes la_echoFrom la_echoTo la_homes la_talls la_known vf_deeds va_kinds va_firsts va_seconds s.heap)
    (hl : lv_has ls 10 [(0, .ref qn), (1, .ref ql), (4, .int x4), (5, .int x5), (6, .int x6), (7, .int x7)])
    (hw : q_wn_X3_spreads_6_39 f_begun f_climbed a_huts a_known a_levels lf_singers lf_dams lf_echoes la_heights la_ladders la_echoFrom la_echoTo la_talls x4 x5 x6 x7 post) :
    W p l e rm_wn_X3_spreads_6 s m args below meth c s.heap [] 0 0 (MQ below (vp_Si post) args s 0 0 (fun _ => False)) (F0 m 39 ls []) := by
  have hx := zc.1
  have hb := zc.2.1
  refine hw (fun x4 x5 x6 x7 => ∀ (ls : Array Slot), lv_has ls 10 [(0, .ref qn), (1, .ref ql), (4, .int x4), (5, .int x5), (6, .int x6), (7, .int x7)] → W p l e rm_wn_X3_spreads_6 s m args below meth c s.heap [] 0 0 (MQ below (vp_Si post) args s 0 0 (fun _ => False)) (F0 m 39 ls [])) ?_ _ hl
  intro x4 x5 x6 x7 hw ls hl
  refine lv_iload hx hb dX3_spreads_39 (lv_at hl 5 rfl) ?_
  refine lv_bipush (v := (6 : Int32)) hx hb dX3_spreads_41 (by decide) ?_
  refine lv_icmp_ge (tgt := 144) hx hb dX3_spreads_43 (by decide) (fun hc => ?_) (fun hc => ?_)
  · have hw := hw.1 hc
    exact t_wn_X3_spreads_6_144 zc hK hM  (lv_sub hl [1, 2] rfl) hw
  · have hw := hw.2 hc
    refine lv_iload hx hb dX3_spreads_46 (lv_at hl 4 rfl) ?_
    refine lv_if_eq (tgt := 144) hx hb dX3_spreads_48 (by decide) (fun hc => ?_) (fun hc => ?_)
    · have hw := hw.1 hc
      exact t_wn_X3_spreads_6_144 zc hK hM  (lv_sub hl [1, 2] rfl) hw
    · have hw := hw.2 hc
      refine lv_aload_n hx hb dX3_spreads_51 rfl (lv_at hl 0 rfl) ?_
      refine lv_aload_n hx hb dX3_spreads_52 rfl (lv_at hl 1 rfl) ?_
      refine lv_iload hx hb dX3_spreads_53 (lv_at hl 4 rfl) ?_
      refine zV_i [.ref ql, .int x6] [] zc ky_X3_highestOf kz_X3_highestOf km_3_196 (c_wn_X3_highestOf_6 l hw) (wnPreV0 hK hM) rfl rfl hl.1 (Nat.le_of_ble_eq_true rfl) ⟨rfl, rfl⟩ ⟨Nat.le_of_ble_eq_true rfl, Nat.le_of_ble_eq_true rfl⟩ ⟨(Nat.zero_le _), (Nat.zero_le _)⟩ dX3_spreads_55 (fun r_1 hw => ?_)
      refine lv_istore (lv' := [(8, .int r_1), (0, .ref qn), (1, .ref ql), (4, .int x4), (5, .int x5), (6, .int x6), (7, .int x7)]) hx hb dX3_spreads_58 hl (by decide) rfl (fun ls hl => ?_)
      refine lv_aload_n hx hb dX3_spreads_60 rfl (lv_at hl 1 rfl) ?_
      refine lv_aload_n hx hb dX3_spreads_61 rfl (lv_at hl 2 rfl) ?_
      refine lv_iload hx hb dX3_spreads_62 (lv_at hl 0 rfl) ?_
      refine zV_i [.ref ql, .int r_1] [] zc ky_X3_high kz_X3_high km_3_130 (c_wn_X3_high_6 l hw) (wnPreV0 hK hM) rfl rfl hl.1 (Nat.le_of_ble_eq_true rfl) ⟨rfl, rfl⟩ ⟨Nat.le_of_ble_eq_true rfl, Nat.le_of_ble_eq_true rfl⟩ ⟨(Nat.zero_le _), (Nat.zero_le _)⟩ dX3_spreads_64 (fun r_2 hw => ?_)
      refine lv_istore (lv' := [(9, .int r_2), (8, .int r_1), (0, .ref qn), (1, .ref ql), (4, .int x4), (5, .int x5), (6, .int x6), (7, .int x7)]) hx hb dX3_spreads_67 hl (by decide) rfl (fun ls hl => ?_)
      refine lv_iload hx hb dX3_spreads_69 (lv_at hl 4 rfl) ?_
      refine lv_iload hx hb dX3_spreads_71 (lv_at hl 1 rfl) ?_
      refine zSN_i [.int x4, .int r_1] [] zc ky_X10_has kz_X10_has (hK.2 _ kn_3_67) (c_z_X10_has l hw) (zPre0 _) rfl rfl hl.1 (Nat.le_of_ble_eq_true rfl) ⟨rfl, rfl⟩ ⟨Nat.le_of_ble_eq_true rfl, Nat.le_of_ble_eq_true rfl⟩ ⟨(Nat.zero_le _), (Nat.zero_le _)⟩ dX3_spreads_73 (fun r_3 hw => ?_)
      refine lv_if_eq (tgt := 100) hx hb dX3_spreads_76 (by decide) (fun hc => ?_) (fun hc => ?_)
      · have hw := hw.1 hc
        refine lv_iconst (v := (0 : Int32)) hx hb dX3_spreads_100 (by decide) ?_
        exact zret_z zc rfl hw dX3_spreads_101
      · have hw := hw.2 hc
        refine lv_iload hx hb dX3_spreads_79 (lv_at hl 0 rfl) ?_
        refine lv_iload hx hb dX3_spreads_81 (lv_at hl 5 rfl) ?_
        refine lv_icmp_ge (tgt := 100) hx hb dX3_spreads_83 (by decide) (fun hc => ?_) (fun hc => ?_)
        · have hw := hw.1 hc
          refine lv_iconst (v := (0 : Int32)) hx hb dX3_spreads_100 (by decide) ?_
          exact zret_z zc rfl hw dX3_spreads_101
        · have hw := hw.2 hc
          refine lv_aload_n hx hb dX3_spreads_86 rfl (lv_at hl 3 rfl) ?_
          refine lv_aload_n hx hb dX3_spreads_87 rfl (lv_at hl 2 rfl) ?_
          refine wng_3_9_0 zc hK hM dX3_spreads_88 ?_
          refine lv_iload hx hb dX3_spreads_91 (lv_at hl 1 rfl) ?_
          refine wnld_1 zc hK hM hw.1 dX3_spreads_93 ?_
          have hw := hw.2
          refine zV_i [.int (a_huts (Int32.toNatClampNeg r_1))] [] zc ky_X2_isDam kz_X2_isDam km_3_127 (c_wl_X2_isDam l hw) (wlPreV0 hK (pj_wn_wl_6 hM)) rfl rfl hl.1 (Nat.le_of_ble_eq_true rfl) ⟨rfl, rfl⟩ ⟨Nat.le_of_ble_eq_true rfl, Nat.le_of_ble_eq_true rfl⟩ ⟨(Nat.zero_le _), (Nat.zero_le _)⟩ dX3_spreads_94 (fun r_4 hw => ?_)
          refine lv_if_eq (tgt := 102) hx hb dX3_spreads_97 (by decide) (fun hc => ?_) (fun hc => ?_)
          · have hw := hw.1 hc
            refine lv_iload hx hb dX3_spreads_102 (lv_at hl 0 rfl) ?_
            refine lv_istore (lv' := [(5, .int r_2), (9, .int r_2), (8, .int r_1), (0, .ref qn), (1, .ref ql), (4, .int x4), (6, .int x6), (7, .int x7)]) hx hb dX3_spreads_104 hl (by decide) rfl (fun ls hl => ?_)
            refine lv_iload hx hb dX3_spreads_106 (lv_at hl 5 rfl) ?_
            refine lv_aload_n hx hb dX3_spreads_108 rfl (lv_at hl 3 rfl) ?_
            refine lv_aload_n hx hb dX3_spreads_109 rfl (lv_at hl 4 rfl) ?_
            refine lv_aload_n hx hb dX3_spreads_110 rfl (lv_at hl 4 rfl) ?_
            refine lv_aload_n hx hb dX3_spreads_111 rfl (lv_at hl 3 rfl) ?_
            refine wng_3_9_0 zc hK hM dX3_spreads_112 ?_
            refine lv_iload hx hb dX3_spreads_115 (lv_at hl 2 rfl) ?_
            refine wnld_1 zc hK hM hw.1 dX3_spreads_117 ?_
            have hw := hw.2
            refine zV_i [.int (a_huts (Int32.toNatClampNeg r_1))] [.ref ql, .ref qn, .int x4] zc ky_X2_earshot kz_X2_earshot km_3_138 (c_wl_X2_earshot l hw) (wlPreV0 hK (pj_wn_wl_6 hM)) rfl rfl hl.1 (Nat.le_of_ble_eq_true rfl) ⟨rfl, rfl⟩ ⟨Nat.le_of_ble_eq_true rfl, Nat.le_of_ble_eq_true rfl⟩ ⟨(Nat.zero_le _), (Nat.zero_le _)⟩ dX3_spreads_118 (fun r_5 hw => ?_)
            refine zV_i [.ref ql, .int r_5] [.int x4] zc ky_X3_singersIn kz_X3_singersIn km_3_141 (c_wn_X3_singersIn_6 l hw) (wnPreV0 hK hM) rfl rfl hl.1 (Nat.le_of_ble_eq_true rfl) ⟨rfl, rfl⟩ ⟨Nat.le_of_ble_eq_true rfl, Nat.le_of_ble_eq_true rfl⟩ ⟨(Nat.zero_le _), (Nat.zero_le _)⟩ dX3_spreads_121 (fun r_6 hw => ?_)
            refine lv_ior hx hb dX3_spreads_124 ?_
            refine lv_topi (fun v_1 ev_1 => ?_)
            have hw := hw v_1 ev_1
            refine lv_istore (lv' := [(4, .int v_1), (5, .int r_2), (9, .int r_2), (8, .int r_1), (0, .ref qn), (1, .ref ql), (6, .int x6), (7, .int x7)]) hx hb dX3_spreads_125 hl (by decide) rfl (fun ls hl => ?_)
            refine lv_iload hx hb dX3_spreads_127 (lv_at hl 6 rfl) ?_
            refine lv_iconst (v := (1 : Int32)) hx hb dX3_spreads_129 (by decide) ?_
            refine lv_iload hx hb dX3_spreads_130 (lv_at hl 3 rfl) ?_
            refine lv_ishl hx hb dX3_spreads_132 ?_
            refine lv_iconst (v := (-1 : Int32)) hx hb dX3_spreads_133 (by decide) ?_
            refine lv_ixor hx hb dX3_spreads_134 ?_
            refine lv_iand hx hb dX3_spreads_135 ?_
            refine lv_topi (fun v_2 ev_2 => ?_)
            have hw := hw v_2 ev_2
            refine lv_istore (lv' := [(6, .int v_2), (4, .int v_1), (5, .int r_2), (9, .int r_2), (8, .int r_1), (0, .ref qn), (1, .ref ql), (7, .int x7)]) hx hb dX3_spreads_136 hl (by decide) rfl (fun ls hl => ?_)
            obtain ⟨v_3, ev_3⟩ : ∃ y : Int32, y = x7 + (1 : Int32) := ⟨_, rfl⟩
            have hw := hw v_3 ev_3
            refine lv_iinc (v := v_3) (k := 7) (lv' := [(7, .int v_3), (6, .int v_2), (4, .int v_1), (5, .int r_2), (9, .int r_2), (8, .int r_1), (0, .ref qn), (1, .ref ql)]) hx hb dX3_spreads_138 hl rfl (by rw [ev_3]; rfl) (by decide) rfl (fun ls hl => ?_)
            refine lv_goto (tgt := 39) hx hb dX3_spreads_141 (by decide) ?_
            exact hw _ (lv_sub hl [6, 7, 2, 3, 1, 0] rfl)
          · have hw := hw.2 hc
            refine lv_iconst (v := (0 : Int32)) hx hb dX3_spreads_100 (by decide) ?_
            exact zret_z zc rfl hw dX3_spreads_101
set_option maxRecDepth 20000 in
theorem t_wn_X3_spreads_6_31 {p : Program} {l : Launch} {e : Env} {s : State} {m : MethodId} {args : Array Value} {below : List Frame} {meth : Method} {c : Code} {E : zE} {qn ql qv : Nat} {f_minute : Int32} {f_avalanches : Int32} {f_begun : Int32} {f_climbed : Int32} {f_seed : Int32} {a_huts : Nat → Int32} {a_known : Nat → Int32} {a_levels : Nat → Int32} {a_snow : Nat → Int32} {a_open : Nat → Int32} {lf_huts : Int32} {lf_singers : Int32} {lf_villages : Int32} {lf_dams : Int32} {lf_echoes : Int32} {lf_deep : Int32} {lf_slide : Int32} {la_heights : Nat → Int32} {la_ladders : Nat → Int32} {la_minutes : Nat → Int32} {la_echoFrom : Nat → Int32} {la_echoTo : Nat → Int32} {la_homes : Nat → Int32} {la_talls : Nat → Int32} {la_known : Nat → Int32} {vf_deeds : Int32} {va_kinds : Nat → Int32} {va_firsts : Nat → Int32} {va_seconds : Nat → Int32} {post : Int32 → Prop} {x3 : Int32} {x4 : Int32} {y0 : Int32} {ls : Array Slot}
    (zc : zC p s m args meth c cX3_spreads 10 RX3 (some .boolean))
    (hK : zK E s)
    (hM : wnW E qn ql qv f_minute f_avalanches f_begun f_climbed f_seed a_huts a_known a_levels a_snow a_open lf_huts lf_singers lf_villages lf_dams lf_echoes lf_deep lf_slide la_heights la_ladders la_minutes la_echoFrom la_echoTo la_homes la_talls la_known vf_deeds va_kinds va_firsts va_seconds s.heap)
    (hl : lv_has ls 10 [(0, .ref qn), (1, .ref ql), (3, .int x3), (4, .int x4)])
    (hw : q_wn_X3_spreads_6_31 f_begun f_climbed a_huts a_known a_levels lf_singers lf_dams lf_echoes la_heights la_ladders la_echoFrom la_echoTo la_talls x3 x4 y0 post) :
    W p l e rm_wn_X3_spreads_6 s m args below meth c s.heap [] 0 0 (MQ below (vp_Si post) args s 0 0 (fun _ => False)) (F0 m 31 ls [.int y0]) := by
  have hx := zc.1
  have hb := zc.2.1
  refine lv_istore (lv' := [(5, .int y0), (0, .ref qn), (1, .ref ql), (3, .int x3), (4, .int x4)]) hx hb dX3_spreads_31 hl (by decide) rfl (fun ls hl => ?_)
  refine lv_iload_n hx hb dX3_spreads_33 rfl (lv_at hl 3 rfl) ?_
  refine lv_istore (lv' := [(6, .int x3), (5, .int y0), (0, .ref qn), (1, .ref ql), (3, .int x3), (4, .int x4)]) hx hb dX3_spreads_34 hl (by decide) rfl (fun ls hl => ?_)
  refine lv_iconst (v := (0 : Int32)) hx hb dX3_spreads_36 (by decide) ?_
  refine lv_istore (lv' := [(7, .int (0 : Int32)), (6, .int x3), (5, .int y0), (0, .ref qn), (1, .ref ql), (3, .int x3), (4, .int x4)]) hx hb dX3_spreads_37 hl (by decide) rfl (fun ls hl => ?_)
  exact t_wn_X3_spreads_6_39 zc hK hM  (lv_sub hl [3, 4, 6, 2, 1, 0] rfl) hw
set_option maxRecDepth 20000 in
theorem t_wn_X3_spreads_6_0 {p : Program} {l : Launch} {e : Env} {s : State} {m : MethodId} {args : Array Value} {below : List Frame} {meth : Method} {c : Code} {E : zE} {qn ql qv : Nat} {f_minute : Int32} {f_avalanches : Int32} {f_begun : Int32} {f_climbed : Int32} {f_seed : Int32} {a_huts : Nat → Int32} {a_known : Nat → Int32} {a_levels : Nat → Int32} {a_snow : Nat → Int32} {a_open : Nat → Int32} {lf_huts : Int32} {lf_singers : Int32} {lf_villages : Int32} {lf_dams : Int32} {lf_echoes : Int32} {lf_deep : Int32} {lf_slide : Int32} {la_heights : Nat → Int32} {la_ladders : Nat → Int32} {la_minutes : Nat → Int32} {la_echoFrom : Nat → Int32} {la_echoTo : Nat → Int32} {la_homes : Nat → Int32} {la_talls : Nat → Int32} {la_known : Nat → Int32} {vf_deeds : Int32} {va_kinds : Nat → Int32} {va_firsts : Nat → Int32} {va_seconds : Nat → Int32} {post : Int32 → Prop} {x2 : Int32} {x3 : Int32} {ls : Array Slot}
    (zc : zC p s m args meth c cX3_spreads 10 RX3 (some .boolean))
    (hK : zK E s)
    (hM : wnW E qn ql qv f_minute f_avalanches f_begun f_climbed f_seed a_huts a_known a_levels a_snow a_open lf_huts lf_singers lf_villages lf_dams lf_echoes lf_deep lf_slide la_heights la_ladders la_minutes la_echoFrom la_echoTo la_homes la_talls la_known vf_deeds va_kinds va_firsts va_seconds s.heap)
    (hl : lv_has ls 10 [(0, .ref qn), (1, .ref ql), (2, .int x2), (3, .int x3)])
    (hw : q_wn_X3_spreads_6_0 f_begun f_climbed a_huts a_known a_levels lf_singers lf_dams lf_echoes la_heights la_ladders la_echoFrom la_echoTo la_talls x2 x3 post) :
    W p l e rm_wn_X3_spreads_6 s m args below meth c s.heap [] 0 0 (MQ below (vp_Si post) args s 0 0 (fun _ => False)) (F0 m 0 ls []) := by
  have hx := zc.1
  have hb := zc.2.1
  refine lv_aload_n hx hb dX3_spreads_0 rfl (lv_at hl 0 rfl) ?_
  refine lv_aload_n hx hb dX3_spreads_1 rfl (lv_at hl 1 rfl) ?_
  refine lv_iload_n hx hb dX3_spreads_2 rfl (lv_at hl 2 rfl) ?_
  refine zV_i [.ref ql, .int x2] [] zc ky_X3_knowers kz_X3_knowers km_3_156 (c_wn_X3_knowers_6 l hw) (wnPreV0 hK hM) rfl rfl hl.1 (Nat.le_of_ble_eq_true rfl) ⟨rfl, rfl⟩ ⟨Nat.le_of_ble_eq_true rfl, Nat.le_of_ble_eq_true rfl⟩ ⟨(Nat.zero_le _), (Nat.zero_le _)⟩ dX3_spreads_3 (fun r_1 hw => ?_)
  refine lv_istore (lv' := [(4, .int r_1), (0, .ref qn), (1, .ref ql), (2, .int x2), (3, .int x3)]) hx hb dX3_spreads_6 hl (by decide) rfl (fun ls hl => ?_)
  refine lv_aload_n hx hb dX3_spreads_8 rfl (lv_at hl 1 rfl) ?_
  refine wng_3_64_0 zc hK hM dX3_spreads_9 ?_
  refine lv_iload_n hx hb dX3_spreads_12 rfl (lv_at hl 3 rfl) ?_
  refine zSN_i [.int f_begun, .int x2] [] zc ky_X10_has kz_X10_has (hK.2 _ kn_3_67) (c_z_X10_has l hw) (zPre0 _) rfl rfl hl.1 (Nat.le_of_ble_eq_true rfl) ⟨rfl, rfl⟩ ⟨Nat.le_of_ble_eq_true rfl, Nat.le_of_ble_eq_true rfl⟩ ⟨(Nat.zero_le _), (Nat.zero_le _)⟩ dX3_spreads_13 (fun r_2 hw => ?_)
  refine lv_if_eq (tgt := 28) hx hb dX3_spreads_16 (by decide) (fun hc => ?_) (fun hc => ?_)
  · have hw := hw.1 hc
    refine lv_sipush (v := (1000 : Int32)) hx hb dX3_spreads_28 (by decide) ?_
    exact t_wn_X3_spreads_6_31 zc hK hM  (lv_sub hl [1, 2, 4, 0] rfl) hw
  · have hw := hw.2 hc
    refine lv_aload_n hx hb dX3_spreads_19 rfl (lv_at hl 1 rfl) ?_
    refine wng_3_18_0 zc hK hM dX3_spreads_20 ?_
    refine lv_iload_n hx hb dX3_spreads_23 rfl (lv_at hl 3 rfl) ?_
    refine wnld_3 zc hK hM hw.1 dX3_spreads_24 ?_
    have hw := hw.2
    refine lv_goto (tgt := 31) hx hb dX3_spreads_25 (by decide) ?_
    exact t_wn_X3_spreads_6_31 zc hK hM  (lv_sub hl [1, 2, 4, 0] rfl) hw
set_option maxRecDepth 20000 in
theorem c_wn_X3_spreads_6 (l : Launch) {E : zE} {qn ql qv : Nat} {f_minute : Int32} {f_avalanches : Int32} {f_begun : Int32} {f_climbed : Int32} {f_seed : Int32} {a_huts : Nat → Int32} {a_known : Nat → Int32} {a_levels : Nat → Int32} {a_snow : Nat → Int32} {a_open : Nat → Int32} {lf_huts : Int32} {lf_singers : Int32} {lf_villages : Int32} {lf_dams : Int32} {lf_echoes : Int32} {lf_deep : Int32} {lf_slide : Int32} {la_heights : Nat → Int32} {la_ladders : Nat → Int32} {la_minutes : Nat → Int32} {la_echoFrom : Nat → Int32} {la_echoTo : Nat → Int32} {la_homes : Nat → Int32} {la_talls : Nat → Int32} {la_known : Nat → Int32} {vf_deeds : Int32} {va_kinds : Nat → Int32} {va_firsts : Nat → Int32} {va_seconds : Nat → Int32} {x2 : Int32} {x3 : Int32} {post : Int32 → Prop} (hw : q_wn_X3_spreads_6_0 f_begun f_climbed a_huts a_known a_levels lf_singers lf_dams lf_echoes la_heights la_ladders la_echoFrom la_echoTo la_talls x2 x3 post) : Met l yX3_spreads (Cond.code yX3_spreads cX3_spreads 10 (some .boolean) :: zb) rm_wn_X3_spreads_6 (va_Pc [.ref qn, .ref ql, .int x2, .int x3] (fun U => wnW E qn ql qv f_minute f_avalanches f_begun f_climbed f_seed a_huts a_known a_levels a_snow a_open lf_huts lf_singers lf_villages lf_dams lf_echoes lf_deep lf_slide la_heights la_ladders la_minutes la_echoFrom la_echoTo la_homes la_talls la_known vf_deeds va_kinds va_firsts va_seconds U.heap ∧ zK E U)) (vp_Si post) 0 0 (fun _ => False) := by
  refine Met.ofW (cc := cX3_spreads) (maxL := 10) (ret := (some .boolean)) (by decide) rfl ?_
  intro p e s m args below meth c s₁ B hml hv
  obtain ⟨rfl, hM, hK⟩ := hv
  have zc := zc_of B hml
  have hl := lv_entry ([.ref qn, .ref ql, .int x2, .int x3]) (n := 10) (Nat.le_of_ble_eq_true rfl)
  rw [lg_entry_eq]
  generalize (lg_sl ([.ref qn, .ref ql, .int x2, .int x3]) ++ List.replicate (10 - (lg_sl ([.ref qn, .ref ql, .int x2, .int x3])).length) Slot.unset).toArray = ls at hl ⊢
  have hl : lv_has ls 10 [(0, .ref qn), (1, .ref ql), (2, .int x2), (3, .int x3)] := hl
  exact t_wn_X3_spreads_6_0 zc hK hM (lv_sub hl [0, 1, 2, 3] rfl) hw
-- wn_X3_fewestTimes_6
abbrev rm_wn_X3_fewestTimes_6 : Room := { frames := 4, cells := 0, slots := 0, locals := 99 }
def q_wn_X3_fewestTimes_6_48 (P5 : Int32 → Int32 → Prop) (f_begun : Int32) (f_climbed : Int32) (a_huts : Nat → Int32) (a_known : Nat → Int32) (a_levels : Nat → Int32) (lf_singers : Int32) (lf_dams : Int32) (lf_echoes : Int32) (la_heights : Nat → Int32) (la_ladders : Nat → Int32) (la_echoFrom : Nat → Int32) (la_echoTo : Nat → Int32) (la_talls : Nat → Int32) (x2 : Int32) (x3 : Int32) (x4 : Int32) (post : Int32 → Prop) : Prop :=
  ∀ v_1 : Int32, v_1 = x4 + (1 : Int32) → (P5 x3 v_1)
def q_wn_X3_fewestTimes_6_34 (P5 : Int32 → Int32 → Prop) (f_begun : Int32) (f_climbed : Int32) (a_huts : Nat → Int32) (a_known : Nat → Int32) (a_levels : Nat → Int32) (lf_singers : Int32) (lf_dams : Int32) (lf_echoes : Int32) (la_heights : Nat → Int32) (la_ladders : Nat → Int32) (la_echoFrom : Nat → Int32) (la_echoTo : Nat → Int32) (la_talls : Nat → Int32) (x2 : Int32) (x3 : Int32) (x4 : Int32) (x5 : Int32) (post : Int32 → Prop) : Prop :=
  q_wn_X3_spreads_6_0 f_begun f_climbed a_huts a_known a_levels lf_singers lf_dams lf_echoes la_heights la_ladders la_echoFrom la_echoTo la_talls x2 x4 (fun r_1 => (r_1 = 0 → (q_wn_X3_fewestTimes_6_48 P5 f_begun f_climbed a_huts a_known a_levels lf_singers lf_dams lf_echoes la_heights la_ladders la_echoFrom la_echoTo la_talls x2 x3 x4 post)) ∧ (¬ r_1 = 0 → (q_wn_X3_fewestTimes_6_48 P5 f_begun f_climbed a_huts a_known a_levels lf_singers lf_dams lf_echoes la_heights la_ladders la_echoFrom la_echoTo la_talls x2 x5 x4 post)))
def q_wn_X3_fewestTimes_6_5 (f_begun : Int32) (f_climbed : Int32) (a_huts : Nat → Int32) (a_known : Nat → Int32) (a_levels : Nat → Int32) (lf_singers : Int32) (lf_dams : Int32) (lf_echoes : Int32) (la_heights : Nat → Int32) (la_ladders : Nat → Int32) (la_echoFrom : Nat → Int32) (la_echoTo : Nat → Int32) (la_talls : Nat → Int32) (x2 : Int32) (x3 : Int32) (x4 : Int32) (post : Int32 → Prop) : Prop :=
  ∀ P5 : Int32 → Int32 → Prop, (∀ (x3 : Int32) (x4 : Int32), ((((1 : Int32) <<< (lf_singers &&& 31)) ≤ x4 → (post x3)) ∧ (¬ ((1 : Int32) <<< (lf_singers &&& 31)) ≤ x4 → (q_z_J6_bitCount_0f7a4_0 x4 (fun r_1 => (x3 = (-1 : Int32) → (q_wn_X3_fewestTimes_6_34 P5 f_begun f_climbed a_huts a_known a_levels lf_singers lf_dams lf_echoes la_heights la_ladders la_echoFrom la_echoTo la_talls x2 x3 x4 r_1 post)) ∧ (¬ x3 = (-1 : Int32) → ((x3 ≤ r_1 → (q_wn_X3_fewestTimes_6_48 P5 f_begun f_climbed a_huts a_known a_levels lf_singers lf_dams lf_echoes la_heights la_ladders la_echoFrom la_echoTo la_talls x2 x3 x4 post)) ∧ (¬ x3 ≤ r_1 → (q_wn_X3_fewestTimes_6_34 P5 f_begun f_climbed a_huts a_known a_levels lf_singers lf_dams lf_echoes la_heights la_ladders la_echoFrom la_echoTo la_talls x2 x3 x4 r_1 post)))))))) → P5 x3 x4) → P5 x3 x4
def q_wn_X3_fewestTimes_6_0 (f_begun : Int32) (f_climbed : Int32) (a_huts : Nat → Int32) (a_known : Nat → Int32) (a_levels : Nat → Int32) (lf_singers : Int32) (lf_dams : Int32) (lf_echoes : Int32) (la_heights : Nat → Int32) (la_ladders : Nat → Int32) (la_echoFrom : Nat → Int32) (la_echoTo : Nat → Int32) (la_talls : Nat → Int32) (x2 : Int32) (post : Int32 → Prop) : Prop :=
  q_wn_X3_fewestTimes_6_5 f_begun f_climbed a_huts a_known a_levels lf_singers lf_dams lf_echoes la_heights la_ladders la_echoFrom la_echoTo la_talls x2 (-1 : Int32) (0 : Int32) post
set_option maxRecDepth 20000 in
theorem t_wn_X3_fewestTimes_6_48 {p : Program} {l : Launch} {e : Env} {s : State} {m : MethodId} {args : Array Value} {below : List Frame} {meth : Method} {c : Code} {E : zE} {qn ql qv : Nat} {f_minute : Int32} {f_avalanches : Int32} {f_begun : Int32} {f_climbed : Int32} {f_seed : Int32} {a_huts : Nat → Int32} {a_known : Nat → Int32} {a_levels : Nat → Int32} {a_snow : Nat → Int32} {a_open : Nat → Int32} {lf_huts : Int32} {lf_singers : Int32} {lf_villages : Int32} {lf_dams : Int32} {lf_echoes : Int32} {lf_deep : Int32} {lf_slide : Int32} {la_heights : Nat → Int32} {la_ladders : Nat → Int32} {la_minutes : Nat → Int32} {la_echoFrom : Nat → Int32} {la_echoTo : Nat → Int32} {la_homes : Nat → Int32} {la_talls : Nat → Int32} {la_known : Nat → Int32} {vf_deeds : Int32} {va_kinds : Nat → Int32} {va_firsts : Nat → Int32} {va_seconds : Nat → Int32} {P5 : Int32 → Int32 → Prop} {post : Int32 → Prop} {x2 : Int32} {x3 : Int32} {x4 : Int32} {ls : Array Slot}
    (zc : zC p s m args meth c cX3_fewestTimes 6 RX3 (some .int))
    (hK : zK E s)
    (hM : wnW E qn ql qv f_minute f_avalanches f_begun f_climbed f_seed a_huts a_known a_levels a_snow a_open lf_huts lf_singers lf_villages lf_dams lf_echoes lf_deep lf_slide la_heights la_ladders la_minutes la_echoFrom la_echoTo la_homes la_talls la_known vf_deeds va_kinds va_firsts va_seconds s.heap)
    (hP5 : ∀ (x3 : Int32) (x4 : Int32) (ls : Array Slot), P5 x3 x4 → lv_has ls 6 [(0, .ref qn), (1, .ref ql), (2, .int x2), (3, .int x3), (4, .int x4)] → W p l e rm_wn_X3_fewestTimes_6 s m args below meth c s.heap [] 0 0 (MQ below (vp_Si post) args s 0 0 (fun _ => False)) (F0 m 5 ls []))
    (hl : lv_has ls 6 [(0, .ref qn), (1, .ref ql), (2, .int x2), (3, .int x3), (4, .int x4)])
    (hw : q_wn_X3_fewestTimes_6_48 P5 f_begun f_climbed a_huts a_known a_levels lf_singers lf_dams lf_echoes la_heights la_ladders la_echoFrom la_echoTo la_talls x2 x3 x4 post) :
    W p l e rm_wn_X3_fewestTimes_6 s m args below meth c s.heap [] 0 0 (MQ below (vp_Si post) args s 0 0 (fun _ => False)) (F0 m 48 ls []) := by
  have hx := zc.1
  have hb := zc.2.1
  obtain ⟨v_1, ev_1⟩ : ∃ y : Int32, y = x4 + (1 : Int32) := ⟨_, rfl⟩
  have hw := hw v_1 ev_1
  refine lv_iinc (v := v_1) (k := 4) (lv' := [(4, .int v_1), (0, .ref qn), (1, .ref ql), (2, .int x2), (3, .int x3)]) hx hb dX3_fewestTimes_48 hl rfl (by rw [ev_1]; rfl) (by decide) rfl (fun ls hl => ?_)
  refine lv_goto (tgt := 5) hx hb dX3_fewestTimes_51 (by decide) ?_
  exact hP5 _ _ _ hw (lv_sub hl [1, 2, 3, 4, 0] rfl)
set_option maxRecDepth 20000 in
theorem t_wn_X3_fewestTimes_6_34 {p : Program} {l : Launch} {e : Env} {s : State} {m : MethodId} {args : Array Value} {below : List Frame} {meth : Method} {c : Code} {E : zE} {qn ql qv : Nat} {f_minute : Int32} {f_avalanches : Int32} {f_begun : Int32} {f_climbed : Int32} {f_seed : Int32} {a_huts : Nat → Int32} {a_known : Nat → Int32} {a_levels : Nat → Int32} {a_snow : Nat → Int32} {a_open : Nat → Int32} {lf_huts : Int32} {lf_singers : Int32} {lf_villages : Int32} {lf_dams : Int32} {lf_echoes : Int32} {lf_deep : Int32} {lf_slide : Int32} {la_heights : Nat → Int32} {la_ladders : Nat → Int32} {la_minutes : Nat → Int32} {la_echoFrom : Nat → Int32} {la_echoTo : Nat → Int32} {la_homes : Nat → Int32} {la_talls : Nat → Int32} {la_known : Nat → Int32} {vf_deeds : Int32} {va_kinds : Nat → Int32} {va_firsts : Nat → Int32} {va_seconds : Nat → Int32} {P5 : Int32 → Int32 → Prop} {post : Int32 → Prop} {x2 : Int32} {x3 : Int32} {x4 : Int32} {x5 : Int32} {ls : Array Slot}
    (zc : zC p s m args meth c cX3_fewestTimes 6 RX3 (some .int))
    (hK : zK E s)
    (hM : wnW E qn ql qv f_minute f_avalanches f_begun f_climbed f_seed a_huts a_known a_levels a_snow a_open lf_huts lf_singers lf_villages lf_dams lf_echoes lf_deep lf_slide la_heights la_ladders la_minutes la_echoFrom la_echoTo la_homes la_talls la_known vf_deeds va_kinds va_firsts va_seconds s.heap)
    (hP5 : ∀ (x3 : Int32) (x4 : Int32) (ls : Array Slot), P5 x3 x4 → lv_has ls 6 [(0, .ref qn), (1, .ref ql), (2, .int x2), (3, .int x3), (4, .int x4)] → W p l e rm_wn_X3_fewestTimes_6 s m args below meth c s.heap [] 0 0 (MQ below (vp_Si post) args s 0 0 (fun _ => False)) (F0 m 5 ls []))
    (hl : lv_has ls 6 [(0, .ref qn), (1, .ref ql), (2, .int x2), (3, .int x3), (4, .int x4), (5, .int x5)])
    (hw : q_wn_X3_fewestTimes_6_34 P5 f_begun f_climbed a_huts a_known a_levels lf_singers lf_dams lf_echoes la_heights la_ladders la_echoFrom la_echoTo la_talls x2 x3 x4 x5 post) :
    W p l e rm_wn_X3_fewestTimes_6 s m args below meth c s.heap [] 0 0 (MQ below (vp_Si post) args s 0 0 (fun _ => False)) (F0 m 34 ls []) := by
  have hx := zc.1
  have hb := zc.2.1
  refine lv_aload_n hx hb dX3_fewestTimes_34 rfl (lv_at hl 0 rfl) ?_
  refine lv_aload_n hx hb dX3_fewestTimes_35 rfl (lv_at hl 1 rfl) ?_
  refine lv_iload_n hx hb dX3_fewestTimes_36 rfl (lv_at hl 2 rfl) ?_
  refine lv_iload hx hb dX3_fewestTimes_37 (lv_at hl 4 rfl) ?_
  refine zV_i [.ref ql, .int x2, .int x4] [] zc ky_X3_spreads kz_X3_spreads km_3_193 (c_wn_X3_spreads_6 l hw) (wnPreV0 hK hM) rfl rfl hl.1 (Nat.le_of_ble_eq_true rfl) ⟨rfl, rfl⟩ ⟨Nat.le_of_ble_eq_true rfl, Nat.le_of_ble_eq_true rfl⟩ ⟨(Nat.zero_le _), (Nat.zero_le _)⟩ dX3_fewestTimes_39 (fun r_1 hw => ?_)
  refine lv_if_eq (tgt := 48) hx hb dX3_fewestTimes_42 (by decide) (fun hc => ?_) (fun hc => ?_)
  · have hw := hw.1 hc
    exact t_wn_X3_fewestTimes_6_48 zc hK hM hP5 (lv_sub hl [0, 1, 2, 3, 4] rfl) hw
  · have hw := hw.2 hc
    refine lv_iload hx hb dX3_fewestTimes_45 (lv_at hl 5 rfl) ?_
    refine lv_istore_n (lv' := [(3, .int x5), (0, .ref qn), (1, .ref ql), (2, .int x2), (4, .int x4), (5, .int x5)]) hx hb dX3_fewestTimes_47 rfl hl (by decide) rfl (fun ls hl => ?_)
    exact t_wn_X3_fewestTimes_6_48 zc hK hM hP5 (lv_sub hl [1, 2, 3, 0, 4] rfl) hw
set_option maxRecDepth 20000 in
theorem t_wn_X3_fewestTimes_6_5 {p : Program} {l : Launch} {e : Env} {s : State} {m : MethodId} {args : Array Value} {below : List Frame} {meth : Method} {c : Code} {E : zE} {qn ql qv : Nat} {f_minute : Int32} {f_avalanches : Int32} {f_begun : Int32} {f_climbed : Int32} {f_seed : Int32} {a_huts : Nat → Int32} {a_known : Nat → Int32} {a_levels : Nat → Int32} {a_snow : Nat → Int32} {a_open : Nat → Int32} {lf_huts : Int32} {lf_singers : Int32} {lf_villages : Int32} {lf_dams : Int32} {lf_echoes : Int32} {lf_deep : Int32} {lf_slide : Int32} {la_heights : Nat → Int32} {la_ladders : Nat → Int32} {la_minutes : Nat → Int32} {la_echoFrom : Nat → Int32} {la_echoTo : Nat → Int32} {la_homes : Nat → Int32} {la_talls : Nat → Int32} {la_known : Nat → Int32} {vf_deeds : Int32} {va_kinds : Nat → Int32} {va_firsts : Nat → Int32} {va_seconds : Nat → Int32} {post : Int32 → Prop} {x2 : Int32} {x3 : Int32} {x4 : Int32} {ls : Array Slot}
    (zc : zC p s m args meth c cX3_fewestTimes 6 RX3 (some .int))
    (hK : zK E s)
    (hM : wnW E qn ql qv f_minute f_avalanches f_begun f_climbed f_seed a_huts a_known a_levels a_snow a_open lf_huts lf_singers lf_villages lf_dams lf_echoes lf_deep lf_slide la_heights la_ladders la_minutes la_echoFrom la_echoTo la_homes la_talls la_known vf_deeds va_kinds va_firsts va_seconds s.heap)
    (hl : lv_has ls 6 [(0, .ref qn), (1, .ref ql), (2, .int x2), (3, .int x3), (4, .int x4)])
    (hw : q_wn_X3_fewestTimes_6_5 f_begun f_climbed a_huts a_known a_levels lf_singers lf_dams lf_echoes la_heights la_ladders la_echoFrom la_echoTo la_talls x2 x3 x4 post) :
    W p l e rm_wn_X3_fewestTimes_6 s m args below meth c s.heap [] 0 0 (MQ below (vp_Si post) args s 0 0 (fun _ => False)) (F0 m 5 ls []) := by
  have hx := zc.1
  have hb := zc.2.1
  refine hw (fun x3 x4 => ∀ (ls : Array Slot), lv_has ls 6 [(0, .ref qn), (1, .ref ql), (2, .int x2), (3, .int x3), (4, .int x4)] → W p l e rm_wn_X3_fewestTimes_6 s m args below meth c s.heap [] 0 0 (MQ below (vp_Si post) args s 0 0 (fun _ => False)) (F0 m 5 ls [])) ?_ _ hl
  intro x3 x4 hw ls hl
  refine lv_iload hx hb dX3_fewestTimes_5 (lv_at hl 4 rfl) ?_
  refine lv_iconst (v := (1 : Int32)) hx hb dX3_fewestTimes_7 (by decide) ?_
  refine lv_aload_n hx hb dX3_fewestTimes_8 rfl (lv_at hl 1 rfl) ?_
  refine wng_3_53_6 zc hK hM dX3_fewestTimes_9 ?_
  refine lv_ishl hx hb dX3_fewestTimes_12 ?_
  refine lv_icmp_ge (tgt := 54) hx hb dX3_fewestTimes_13 (by decide) (fun hc => ?_) (fun hc => ?_)
  · have hw := hw.1 hc
    refine lv_iload_n hx hb dX3_fewestTimes_54 rfl (lv_at hl 3 rfl) ?_
    exact zret_i zc hw dX3_fewestTimes_55
  · have hw := hw.2 hc
    refine lv_iload hx hb dX3_fewestTimes_16 (lv_at hl 4 rfl) ?_
    refine zS_i [.int x4] [] zc ky_J6_bitCount_0f7a4 kz_J6_bitCount_0f7a4 km_3_159 (c_z_J6_bitCount_0f7a4 l hw) (zPre0 _) rfl rfl hl.1 (Nat.le_of_ble_eq_true rfl) ⟨rfl, rfl⟩ ⟨Nat.le_of_ble_eq_true rfl, Nat.le_of_ble_eq_true rfl⟩ ⟨(Nat.zero_le _), (Nat.zero_le _)⟩ dX3_fewestTimes_18 (fun r_1 hw => ?_)
    refine lv_istore (lv' := [(5, .int r_1), (0, .ref qn), (1, .ref ql), (2, .int x2), (3, .int x3), (4, .int x4)]) hx hb dX3_fewestTimes_21 hl (by decide) rfl (fun ls hl => ?_)
    refine lv_iload_n hx hb dX3_fewestTimes_23 rfl (lv_at hl 4 rfl) ?_
    refine lv_iconst (v := (-1 : Int32)) hx hb dX3_fewestTimes_24 (by decide) ?_
    refine lv_icmp_eq (tgt := 34) hx hb dX3_fewestTimes_25 (by decide) (fun hc => ?_) (fun hc => ?_)
    · have hw := hw.1 hc
      exact t_wn_X3_fewestTimes_6_34 zc hK hM (fun _ _ ls h hl => h ls hl) (lv_sub hl [1, 2, 3, 4, 5, 0] rfl) hw
    · have hw := hw.2 hc
      refine lv_iload hx hb dX3_fewestTimes_28 (lv_at hl 0 rfl) ?_
      refine lv_iload_n hx hb dX3_fewestTimes_30 rfl (lv_at hl 4 rfl) ?_
      refine lv_icmp_ge (tgt := 48) hx hb dX3_fewestTimes_31 (by decide) (fun hc => ?_) (fun hc => ?_)
      · have hw := hw.1 hc
        exact t_wn_X3_fewestTimes_6_48 zc hK hM (fun _ _ ls h hl => h ls hl) (lv_sub hl [1, 2, 3, 4, 5] rfl) hw
      · have hw := hw.2 hc
        exact t_wn_X3_fewestTimes_6_34 zc hK hM (fun _ _ ls h hl => h ls hl) (lv_sub hl [1, 2, 3, 4, 5, 0] rfl) hw
set_option maxRecDepth 20000 in
theorem t_wn_X3_fewestTimes_6_0 {p : Program} {l : Launch} {e : Env} {s : State} {m : MethodId} {args : Array Value} {below : List Frame} {meth : Method} {c : Code} {E : zE} {qn ql qv : Nat} {f_minute : Int32} {f_avalanches : Int32} {f_begun : Int32} {f_climbed : Int32} {f_seed : Int32} {a_huts : Nat → Int32} {a_known : Nat → Int32} {a_levels : Nat → Int32} {a_snow : Nat → Int32} {a_open : Nat → Int32} {lf_huts : Int32} {lf_singers : Int32} {lf_villages : Int32} {lf_dams : Int32} {lf_echoes : Int32} {lf_deep : Int32} {lf_slide : Int32} {la_heights : Nat → Int32} {la_ladders : Nat → Int32} {la_minutes : Nat → Int32} {la_echoFrom : Nat → Int32} {la_echoTo : Nat → Int32} {la_homes : Nat → Int32} {la_talls : Nat → Int32} {la_known : Nat → Int32} {vf_deeds : Int32} {va_kinds : Nat → Int32} {va_firsts : Nat → Int32} {va_seconds : Nat → Int32} {post : Int32 → Prop} {x2 : Int32} {ls : Array Slot}
    (zc : zC p s m args meth c cX3_fewestTimes 6 RX3 (some .int))
    (hK : zK E s)
    (hM : wnW E qn ql qv f_minute f_avalanches f_begun f_climbed f_seed a_huts a_known a_levels a_snow a_open lf_huts lf_singers lf_villages lf_dams lf_echoes lf_deep lf_slide la_heights la_ladders la_minutes la_echoFrom la_echoTo la_homes la_talls la_known vf_deeds va_kinds va_firsts va_seconds s.heap)
    (hl : lv_has ls 6 [(0, .ref qn), (1, .ref ql), (2, .int x2)])
    (hw : q_wn_X3_fewestTimes_6_0 f_begun f_climbed a_huts a_known a_levels lf_singers lf_dams lf_echoes la_heights la_ladders la_echoFrom la_echoTo la_talls x2 post) :
    W p l e rm_wn_X3_fewestTimes_6 s m args below meth c s.heap [] 0 0 (MQ below (vp_Si post) args s 0 0 (fun _ => False)) (F0 m 0 ls []) := by
  have hx := zc.1
  have hb := zc.2.1
  refine lv_iconst (v := (-1 : Int32)) hx hb dX3_fewestTimes_0 (by decide) ?_
  refine lv_istore_n (lv' := [(3, .int (-1 : Int32)), (0, .ref qn), (1, .ref ql), (2, .int x2)]) hx hb dX3_fewestTimes_1 rfl hl (by decide) rfl (fun ls hl => ?_)
  refine lv_iconst (v := (0 : Int32)) hx hb dX3_fewestTimes_2 (by decide) ?_
  refine lv_istore (lv' := [(4, .int (0 : Int32)), (3, .int (-1 : Int32)), (0, .ref qn), (1, .ref ql), (2, .int x2)]) hx hb dX3_fewestTimes_3 hl (by decide) rfl (fun ls hl => ?_)
  exact t_wn_X3_fewestTimes_6_5 zc hK hM  (lv_sub hl [2, 3, 4, 1, 0] rfl) hw
set_option maxRecDepth 20000 in
theorem c_wn_X3_fewestTimes_6 (l : Launch) {E : zE} {qn ql qv : Nat} {f_minute : Int32} {f_avalanches : Int32} {f_begun : Int32} {f_climbed : Int32} {f_seed : Int32} {a_huts : Nat → Int32} {a_known : Nat → Int32} {a_levels : Nat → Int32} {a_snow : Nat → Int32} {a_open : Nat → Int32} {lf_huts : Int32} {lf_singers : Int32} {lf_villages : Int32} {lf_dams : Int32} {lf_echoes : Int32} {lf_deep : Int32} {lf_slide : Int32} {la_heights : Nat → Int32} {la_ladders : Nat → Int32} {la_minutes : Nat → Int32} {la_echoFrom : Nat → Int32} {la_echoTo : Nat → Int32} {la_homes : Nat → Int32} {la_talls : Nat → Int32} {la_known : Nat → Int32} {vf_deeds : Int32} {va_kinds : Nat → Int32} {va_firsts : Nat → Int32} {va_seconds : Nat → Int32} {x2 : Int32} {post : Int32 → Prop} (hw : q_wn_X3_fewestTimes_6_0 f_begun f_climbed a_huts a_known a_levels lf_singers lf_dams lf_echoes la_heights la_ladders la_echoFrom la_echoTo la_talls x2 post) : Met l yX3_fewestTimes (Cond.code yX3_fewestTimes cX3_fewestTimes 6 (some .int) :: zb) rm_wn_X3_fewestTimes_6 (va_Pc [.ref qn, .ref ql, .int x2] (fun U => wnW E qn ql qv f_minute f_avalanches f_begun f_climbed f_seed a_huts a_known a_levels a_snow a_open lf_huts lf_singers lf_villages lf_dams lf_echoes lf_deep lf_slide la_heights la_ladders la_minutes la_echoFrom la_echoTo la_homes la_talls la_known vf_deeds va_kinds va_firsts va_seconds U.heap ∧ zK E U)) (vp_Si post) 0 0 (fun _ => False) := by
  refine Met.ofW (cc := cX3_fewestTimes) (maxL := 6) (ret := (some .int)) (by decide) rfl ?_
  intro p e s m args below meth c s₁ B hml hv
  obtain ⟨rfl, hM, hK⟩ := hv
  have zc := zc_of B hml
  have hl := lv_entry ([.ref qn, .ref ql, .int x2]) (n := 6) (Nat.le_of_ble_eq_true rfl)
  rw [lg_entry_eq]
  generalize (lg_sl ([.ref qn, .ref ql, .int x2]) ++ List.replicate (6 - (lg_sl ([.ref qn, .ref ql, .int x2])).length) Slot.unset).toArray = ls at hl ⊢
  have hl : lv_has ls 6 [(0, .ref qn), (1, .ref ql), (2, .int x2)] := hl
  exact t_wn_X3_fewestTimes_6_0 zc hK hM (lv_sub hl [0, 1, 2] rfl) hw
