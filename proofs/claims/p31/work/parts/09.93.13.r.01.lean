-- wr_X0_tell
abbrev rm_wr_X0_tell : Room := { frames := 0, cells := 0, slots := 0, locals := 0 }
def q_wr_X0_tell_0 (cf_voices : Int32) (ca_parts : Nat → Int32) (ca_heights : Nat → Int32) (x1 : Int32) (x2 : Int32) (post : (Int32) → (Nat → Int32) → (Nat → Int32) → Prop) : Prop :=
  ((9 : Int32) ≤ cf_voices → (post cf_voices ca_parts ca_heights)) ∧ (¬ (9 : Int32) ≤ cf_voices → (vp_in cf_voices 9 ∧ (∀ ca_parts_1 : Nat → Int32, ca_parts_1 = upd ca_parts (Int32.toNatClampNeg cf_voices) x1 → (vp_in cf_voices 9 ∧ (∀ ca_heights_1 : Nat → Int32, ca_heights_1 = upd ca_heights (Int32.toNatClampNeg cf_voices) x2 → (∀ v_1 : Int32, v_1 = (cf_voices + (1 : Int32)) → (post v_1 ca_parts_1 ca_heights_1)))))))
set_option maxRecDepth 20000 in
theorem t_wr_X0_tell_0 {p : Program} {l : Launch} {e : Env} {s : State} {m : MethodId} {args : Array Value} {below : List Frame} {meth : Method} {c : Code} {E : zE} {qr qt : Nat} {lf_huts : Int32} {lf_singers : Int32} {lf_villages : Int32} {lf_dams : Int32} {lf_echoes : Int32} {lf_deep : Int32} {lf_slide : Int32} {la_heights : Nat → Int32} {la_ladders : Nat → Int32} {la_minutes : Nat → Int32} {la_echoFrom : Nat → Int32} {la_echoTo : Nat → Int32} {la_homes : Nat → Int32} {la_talls : Nat → Int32} {la_known : Nat → Int32} {vf_deeds : Int32} {va_kinds : Nat → Int32} {va_firsts : Nat → Int32} {va_seconds : Nat → Int32} {sf_facts : Int32} {sa_heard : Nat → Int32} {sa_huts : Nat → Int32} {sa_minutes : Nat → Int32} {cf_voices : Int32} {cf_step : Int32} {ca_parts : Nat → Int32} {ca_heights : Nat → Int32} {f_fault : Int32} {f_faultPlace : Int32} {a_numbers : Nat → Int32} {a_tape : Nat → Int32} {f_length : Int32} {f_behind : Int32} {f_kind : Int32} {f_first : Int32} {f_value : Int32} {f_hutsToldOf : Int32} {f_singersToldOf : Int32} {z_from : Nat → Int32} {post : (Int32) → (Nat → Int32) → (Nat → Int32) → Prop} {x1 : Int32} {x2 : Int32} {ls : Array Slot} {H : Heap} {locs : List Loc}
    (zc : zC p s m args meth c cX0_tell 3 RX0 none)
    (hK : zK E s)
    (hM : wrW E qr qt lf_huts lf_singers lf_villages lf_dams lf_echoes lf_deep lf_slide la_heights la_ladders la_minutes la_echoFrom la_echoTo la_homes la_talls la_known vf_deeds va_kinds va_firsts va_seconds sf_facts sa_heard sa_huts sa_minutes cf_voices cf_step ca_parts ca_heights f_fault f_faultPlace a_numbers a_tape f_length f_behind f_kind f_first f_value f_hutsToldOf f_singersToldOf z_from H)
    (hS : va_S (wrA qr qt) s.heap H locs)
    (hl : lv_has ls 3 [(0, .ref (qr + 18)), (1, .int x1), (2, .int x2)])
    (hw : q_wr_X0_tell_0 cf_voices ca_parts ca_heights x1 x2 post) :
    W p l e rm_wr_X0_tell s m args below meth c H locs 0 0 (MQ below (zQv (S := (Int32) × (Nat → Int32) × (Nat → Int32)) (fun u => post u.1 u.2.1 u.2.2) (fun u H => wrW E qr qt lf_huts lf_singers lf_villages lf_dams lf_echoes lf_deep lf_slide la_heights la_ladders la_minutes la_echoFrom la_echoTo la_homes la_talls la_known vf_deeds va_kinds va_firsts va_seconds sf_facts sa_heard sa_huts sa_minutes u.1 cf_step u.2.1 u.2.2 f_fault f_faultPlace a_numbers a_tape f_length f_behind f_kind f_first f_value f_hutsToldOf f_singersToldOf z_from H) (wrA qr qt)) args s 0 0 (wrA qr qt)) (F0 m 0 ls []) := by
  have hx := zc.1
  have hb := zc.2.1
  refine lv_aload_n hx hb dX0_tell_0 rfl (lv_at hl 0 rfl) ?_
  refine wrg_0_18_18 zc hK hM dX0_tell_1 ?_
  refine lv_bipush (v := (9 : Int32)) hx hb dX0_tell_4 (by decide) ?_
  refine lv_icmp_ge (tgt := 39) hx hb dX0_tell_6 (by decide) (fun hc => ?_) (fun hc => ?_)
  · have hw := hw.1 hc
    exact zret_vw ⟨cf_voices, ca_parts, ca_heights⟩ zc hS hw hM dX0_tell_39
  · have hw := hw.2 hc
    refine lv_aload_n hx hb dX0_tell_9 rfl (lv_at hl 0 rfl) ?_
    refine wrg_0_9_18 zc hK hM dX0_tell_10 ?_
    refine lv_aload_n hx hb dX0_tell_13 rfl (lv_at hl 0 rfl) ?_
    refine wrg_0_18_18 zc hK hM dX0_tell_14 ?_
    refine lv_iload_n hx hb dX0_tell_17 rfl (lv_at hl 1 rfl) ?_
    refine wrst_19 zc hK hM hS hw.1 dX0_tell_18 (fun ca_parts_1 H locs eca_parts_1 hM hS => ?_)
    have hw := hw.2 ca_parts_1 eca_parts_1
    refine lv_aload_n hx hb dX0_tell_19 rfl (lv_at hl 0 rfl) ?_
    refine wrg_0_15_18 zc hK hM dX0_tell_20 ?_
    refine lv_aload_n hx hb dX0_tell_23 rfl (lv_at hl 0 rfl) ?_
    refine wrg_0_18_18 zc hK hM dX0_tell_24 ?_
    refine lv_iload_n hx hb dX0_tell_27 rfl (lv_at hl 2 rfl) ?_
    refine wrst_20 zc hK hM hS hw.1 dX0_tell_28 (fun ca_heights_1 H locs eca_heights_1 hM hS => ?_)
    have hw := hw.2 ca_heights_1 eca_heights_1
    refine lv_aload_n hx hb dX0_tell_29 rfl (lv_at hl 0 rfl) ?_
    refine lv_dup hx hb dX0_tell_30 rfl ?_
    refine wrg_0_18_18 zc hK hM dX0_tell_31 ?_
    refine lv_iconst (v := (1 : Int32)) hx hb dX0_tell_34 (by decide) ?_
    refine lv_iadd hx hb dX0_tell_35 ?_
    refine lv_topi (fun v_1 ev_1 => ?_)
    have hw := hw v_1 ev_1
    refine wrp_0_18_18 zc hK hM hS dX0_tell_36 (fun H locs hM hS => ?_)
    exact zret_vw ⟨v_1, ca_parts_1, ca_heights_1⟩ zc hS hw hM dX0_tell_39
set_option maxRecDepth 20000 in
theorem c_wr_X0_tell (l : Launch) {E : zE} {qr qt : Nat} {lf_huts : Int32} {lf_singers : Int32} {lf_villages : Int32} {lf_dams : Int32} {lf_echoes : Int32} {lf_deep : Int32} {lf_slide : Int32} {la_heights : Nat → Int32} {la_ladders : Nat → Int32} {la_minutes : Nat → Int32} {la_echoFrom : Nat → Int32} {la_echoTo : Nat → Int32} {la_homes : Nat → Int32} {la_talls : Nat → Int32} {la_known : Nat → Int32} {vf_deeds : Int32} {va_kinds : Nat → Int32} {va_firsts : Nat → Int32} {va_seconds : Nat → Int32} {sf_facts : Int32} {sa_heard : Nat → Int32} {sa_huts : Nat → Int32} {sa_minutes : Nat → Int32} {cf_voices : Int32} {cf_step : Int32} {ca_parts : Nat → Int32} {ca_heights : Nat → Int32} {f_fault : Int32} {f_faultPlace : Int32} {a_numbers : Nat → Int32} {a_tape : Nat → Int32} {f_length : Int32} {f_behind : Int32} {f_kind : Int32} {f_first : Int32} {f_value : Int32} {f_hutsToldOf : Int32} {f_singersToldOf : Int32} {z_from : Nat → Int32} {x1 : Int32} {x2 : Int32} {post : (Int32) → (Nat → Int32) → (Nat → Int32) → Prop} (hw : q_wr_X0_tell_0 cf_voices ca_parts ca_heights x1 x2 post) : Met l yX0_tell (Cond.code yX0_tell cX0_tell 3 none :: zb) rm_wr_X0_tell (va_Pc [.ref (qr + 18), .int x1, .int x2] (fun U => wrW E qr qt lf_huts lf_singers lf_villages lf_dams lf_echoes lf_deep lf_slide la_heights la_ladders la_minutes la_echoFrom la_echoTo la_homes la_talls la_known vf_deeds va_kinds va_firsts va_seconds sf_facts sa_heard sa_huts sa_minutes cf_voices cf_step ca_parts ca_heights f_fault f_faultPlace a_numbers a_tape f_length f_behind f_kind f_first f_value f_hutsToldOf f_singersToldOf z_from U.heap ∧ zK E U)) (zQv (S := (Int32) × (Nat → Int32) × (Nat → Int32)) (fun u => post u.1 u.2.1 u.2.2) (fun u H => wrW E qr qt lf_huts lf_singers lf_villages lf_dams lf_echoes lf_deep lf_slide la_heights la_ladders la_minutes la_echoFrom la_echoTo la_homes la_talls la_known vf_deeds va_kinds va_firsts va_seconds sf_facts sa_heard sa_huts sa_minutes u.1 cf_step u.2.1 u.2.2 f_fault f_faultPlace a_numbers a_tape f_length f_behind f_kind f_first f_value f_hutsToldOf f_singersToldOf z_from H) (wrA qr qt)) 0 0 (wrA qr qt) := by
  refine Met.ofW (cc := cX0_tell) (maxL := 3) (ret := none) (by decide) rfl ?_
  intro p e s m args below meth c s₁ B hml hv
  obtain ⟨rfl, hM, hK⟩ := hv
  have zc := zc_of B hml
  have hl := lv_entry ([.ref (qr + 18), .int x1, .int x2]) (n := 3) (Nat.le_of_ble_eq_true rfl)
  rw [lg_entry_eq]
  generalize (lg_sl ([.ref (qr + 18), .int x1, .int x2]) ++ List.replicate (3 - (lg_sl ([.ref (qr + 18), .int x1, .int x2])).length) Slot.unset).toArray = ls at hl ⊢
  have hl : lv_has ls 3 [(0, .ref (qr + 18)), (1, .int x1), (2, .int x2)] := hl
  exact t_wr_X0_tell_0 zc hK hM va_S.rf (lv_sub hl [0, 1, 2] rfl) hw
-- wr_X6_tell
abbrev rm_wr_X6_tell : Room := { frames := 0, cells := 0, slots := 0, locals := 0 }
def q_wr_X6_tell_0 (sf_facts : Int32) (sa_heard : Nat → Int32) (sa_huts : Nat → Int32) (sa_minutes : Nat → Int32) (x1 : Int32) (x2 : Int32) (x3 : Int32) (post : (Int32) → (Nat → Int32) → (Nat → Int32) → (Nat → Int32) → Prop) : Prop :=
  ((10 : Int32) ≤ sf_facts → (post sf_facts sa_heard sa_huts sa_minutes)) ∧ (¬ (10 : Int32) ≤ sf_facts → (vp_in sf_facts 10 ∧ (∀ sa_heard_1 : Nat → Int32, sa_heard_1 = upd sa_heard (Int32.toNatClampNeg sf_facts) x1 → (vp_in sf_facts 10 ∧ (∀ sa_huts_1 : Nat → Int32, sa_huts_1 = upd sa_huts (Int32.toNatClampNeg sf_facts) x2 → (vp_in sf_facts 10 ∧ (∀ sa_minutes_1 : Nat → Int32, sa_minutes_1 = upd sa_minutes (Int32.toNatClampNeg sf_facts) x3 → (∀ v_1 : Int32, v_1 = (sf_facts + (1 : Int32)) → (post v_1 sa_heard_1 sa_huts_1 sa_minutes_1)))))))))
set_option maxRecDepth 20000 in
theorem t_wr_X6_tell_0 {p : Program} {l : Launch} {e : Env} {s : State} {m : MethodId} {args : Array Value} {below : List Frame} {meth : Method} {c : Code} {E : zE} {qr qt : Nat} {lf_huts : Int32} {lf_singers : Int32} {lf_villages : Int32} {lf_dams : Int32} {lf_echoes : Int32} {lf_deep : Int32} {lf_slide : Int32} {la_heights : Nat → Int32} {la_ladders : Nat → Int32} {la_minutes : Nat → Int32} {la_echoFrom : Nat → Int32} {la_echoTo : Nat → Int32} {la_homes : Nat → Int32} {la_talls : Nat → Int32} {la_known : Nat → Int32} {vf_deeds : Int32} {va_kinds : Nat → Int32} {va_firsts : Nat → Int32} {va_seconds : Nat → Int32} {sf_facts : Int32} {sa_heard : Nat → Int32} {sa_huts : Nat → Int32} {sa_minutes : Nat → Int32} {cf_voices : Int32} {cf_step : Int32} {ca_parts : Nat → Int32} {ca_heights : Nat → Int32} {f_fault : Int32} {f_faultPlace : Int32} {a_numbers : Nat → Int32} {a_tape : Nat → Int32} {f_length : Int32} {f_behind : Int32} {f_kind : Int32} {f_first : Int32} {f_value : Int32} {f_hutsToldOf : Int32} {f_singersToldOf : Int32} {z_from : Nat → Int32} {post : (Int32) → (Nat → Int32) → (Nat → Int32) → (Nat → Int32) → Prop} {x1 : Int32} {x2 : Int32} {x3 : Int32} {ls : Array Slot} {H : Heap} {locs : List Loc}
    (zc : zC p s m args meth c cX6_tell 4 RX6 none)
    (hK : zK E s)
    (hM : wrW E qr qt lf_huts lf_singers lf_villages lf_dams lf_echoes lf_deep lf_slide la_heights la_ladders la_minutes la_echoFrom la_echoTo la_homes la_talls la_known vf_deeds va_kinds va_firsts va_seconds sf_facts sa_heard sa_huts sa_minutes cf_voices cf_step ca_parts ca_heights f_fault f_faultPlace a_numbers a_tape f_length f_behind f_kind f_first f_value f_hutsToldOf f_singersToldOf z_from H)
    (hS : va_S (wrA qr qt) s.heap H locs)
    (hl : lv_has ls 4 [(0, .ref (qr + 14)), (1, .int x1), (2, .int x2), (3, .int x3)])
    (hw : q_wr_X6_tell_0 sf_facts sa_heard sa_huts sa_minutes x1 x2 x3 post) :
    W p l e rm_wr_X6_tell s m args below meth c H locs 0 0 (MQ below (zQv (S := (Int32) × (Nat → Int32) × (Nat → Int32) × (Nat → Int32)) (fun u => post u.1 u.2.1 u.2.2.1 u.2.2.2) (fun u H => wrW E qr qt lf_huts lf_singers lf_villages lf_dams lf_echoes lf_deep lf_slide la_heights la_ladders la_minutes la_echoFrom la_echoTo la_homes la_talls la_known vf_deeds va_kinds va_firsts va_seconds u.1 u.2.1 u.2.2.1 u.2.2.2 cf_voices cf_step ca_parts ca_heights f_fault f_faultPlace a_numbers a_tape f_length f_behind f_kind f_first f_value f_hutsToldOf f_singersToldOf z_from H) (wrA qr qt)) args s 0 0 (wrA qr qt)) (F0 m 0 ls []) := by
  have hx := zc.1
  have hb := zc.2.1
  refine lv_aload_n hx hb dX6_tell_0 rfl (lv_at hl 0 rfl) ?_
  refine wrg_6_21_14 zc hK hM dX6_tell_1 ?_
  refine lv_bipush (v := (10 : Int32)) hx hb dX6_tell_4 (by decide) ?_
  refine lv_icmp_ge (tgt := 49) hx hb dX6_tell_6 (by decide) (fun hc => ?_) (fun hc => ?_)
  · have hw := hw.1 hc
    exact zret_vw ⟨sf_facts, sa_heard, sa_huts, sa_minutes⟩ zc hS hw hM dX6_tell_49
  · have hw := hw.2 hc
    refine lv_aload_n hx hb dX6_tell_9 rfl (lv_at hl 0 rfl) ?_
    refine wrg_6_9_14 zc hK hM dX6_tell_10 ?_
    refine lv_aload_n hx hb dX6_tell_13 rfl (lv_at hl 0 rfl) ?_
    refine wrg_6_21_14 zc hK hM dX6_tell_14 ?_
    refine lv_iload_n hx hb dX6_tell_17 rfl (lv_at hl 1 rfl) ?_
    refine wrst_15 zc hK hM hS hw.1 dX6_tell_18 (fun sa_heard_1 H locs esa_heard_1 hM hS => ?_)
    have hw := hw.2 sa_heard_1 esa_heard_1
    refine lv_aload_n hx hb dX6_tell_19 rfl (lv_at hl 0 rfl) ?_
    refine wrg_6_15_14 zc hK hM dX6_tell_20 ?_
    refine lv_aload_n hx hb dX6_tell_23 rfl (lv_at hl 0 rfl) ?_
    refine wrg_6_21_14 zc hK hM dX6_tell_24 ?_
    refine lv_iload_n hx hb dX6_tell_27 rfl (lv_at hl 2 rfl) ?_
    refine wrst_16 zc hK hM hS hw.1 dX6_tell_28 (fun sa_huts_1 H locs esa_huts_1 hM hS => ?_)
    have hw := hw.2 sa_huts_1 esa_huts_1
    refine lv_aload_n hx hb dX6_tell_29 rfl (lv_at hl 0 rfl) ?_
    refine wrg_6_18_14 zc hK hM dX6_tell_30 ?_
    refine lv_aload_n hx hb dX6_tell_33 rfl (lv_at hl 0 rfl) ?_
    refine wrg_6_21_14 zc hK hM dX6_tell_34 ?_
    refine lv_iload_n hx hb dX6_tell_37 rfl (lv_at hl 3 rfl) ?_
    refine wrst_17 zc hK hM hS hw.1 dX6_tell_38 (fun sa_minutes_1 H locs esa_minutes_1 hM hS => ?_)
    have hw := hw.2 sa_minutes_1 esa_minutes_1
    refine lv_aload_n hx hb dX6_tell_39 rfl (lv_at hl 0 rfl) ?_
    refine lv_dup hx hb dX6_tell_40 rfl ?_
    refine wrg_6_21_14 zc hK hM dX6_tell_41 ?_
    refine lv_iconst (v := (1 : Int32)) hx hb dX6_tell_44 (by decide) ?_
    refine lv_iadd hx hb dX6_tell_45 ?_
    refine lv_topi (fun v_1 ev_1 => ?_)
    have hw := hw v_1 ev_1
    refine wrp_6_21_14 zc hK hM hS dX6_tell_46 (fun H locs hM hS => ?_)
    exact zret_vw ⟨v_1, sa_heard_1, sa_huts_1, sa_minutes_1⟩ zc hS hw hM dX6_tell_49
set_option maxRecDepth 20000 in
theorem c_wr_X6_tell (l : Launch) {E : zE} {qr qt : Nat} {lf_huts : Int32} {lf_singers : Int32} {lf_villages : Int32} {lf_dams : Int32} {lf_echoes : Int32} {lf_deep : Int32} {lf_slide : Int32} {la_heights : Nat → Int32} {la_ladders : Nat → Int32} {la_minutes : Nat → Int32} {la_echoFrom : Nat → Int32} {la_echoTo : Nat → Int32} {la_homes : Nat → Int32} {la_talls : Nat → Int32} {la_known : Nat → Int32} {vf_deeds : Int32} {va_kinds : Nat → Int32} {va_firsts : Nat → Int32} {va_seconds : Nat → Int32} {sf_facts : Int32} {sa_heard : Nat → Int32} {sa_huts : Nat → Int32} {sa_minutes : Nat → Int32} {cf_voices : Int32} {cf_step : Int32} {ca_parts : Nat → Int32} {ca_heights : Nat → Int32} {f_fault : Int32} {f_faultPlace : Int32} {a_numbers : Nat → Int32} {a_tape : Nat → Int32} {f_length : Int32} {f_behind : Int32} {f_kind : Int32} {f_first : Int32} {f_value : Int32} {f_hutsToldOf : Int32} {f_singersToldOf : Int32} {z_from : Nat → Int32} {x1 : Int32} {x2 : Int32} {x3 : Int32} {post : (Int32) → (Nat → Int32) → (Nat → Int32) → (Nat → Int32) → Prop} (hw : q_wr_X6_tell_0 sf_facts sa_heard sa_huts sa_minutes x1 x2 x3 post) : Met l yX6_tell (Cond.code yX6_tell cX6_tell 4 none :: zb) rm_wr_X6_tell (va_Pc [.ref (qr + 14), .int x1, .int x2, .int x3] (fun U => wrW E qr qt lf_huts lf_singers lf_villages lf_dams lf_echoes lf_deep lf_slide la_heights la_ladders la_minutes la_echoFrom la_echoTo la_homes la_talls la_known vf_deeds va_kinds va_firsts va_seconds sf_facts sa_heard sa_huts sa_minutes cf_voices cf_step ca_parts ca_heights f_fault f_faultPlace a_numbers a_tape f_length f_behind f_kind f_first f_value f_hutsToldOf f_singersToldOf z_from U.heap ∧ zK E U)) (zQv (S := (Int32) × (Nat → Int32) × (Nat → Int32) × (Nat → Int32)) (fun u => post u.1 u.2.1 u.2.2.1 u.2.2.2) (fun u H => wrW E qr qt lf_huts lf_singers lf_villages lf_dams lf_echoes lf_deep lf_slide la_heights la_ladders la_minutes la_echoFrom la_echoTo la_homes la_talls la_known vf_deeds va_kinds va_firsts va_seconds u.1 u.2.1 u.2.2.1 u.2.2.2 cf_voices cf_step ca_parts ca_heights f_fault f_faultPlace a_numbers a_tape f_length f_behind f_kind f_first f_value f_hutsToldOf f_singersToldOf z_from H) (wrA qr qt)) 0 0 (wrA qr qt) := by
  refine Met.ofW (cc := cX6_tell) (maxL := 4) (ret := none) (by decide) rfl ?_
  intro p e s m args below meth c s₁ B hml hv
  obtain ⟨rfl, hM, hK⟩ := hv
  have zc := zc_of B hml
  have hl := lv_entry ([.ref (qr + 14), .int x1, .int x2, .int x3]) (n := 4) (Nat.le_of_ble_eq_true rfl)
  rw [lg_entry_eq]
  generalize (lg_sl ([.ref (qr + 14), .int x1, .int x2, .int x3]) ++ List.replicate (4 - (lg_sl ([.ref (qr + 14), .int x1, .int x2, .int x3])).length) Slot.unset).toArray = ls at hl ⊢
  have hl : lv_has ls 4 [(0, .ref (qr + 14)), (1, .int x1), (2, .int x2), (3, .int x3)] := hl
  exact t_wr_X6_tell_0 zc hK hM va_S.rf (lv_sub hl [0, 1, 2, 3] rfl) hw
-- wr_X1_tell
abbrev rm_wr_X1_tell : Room := { frames := 0, cells := 0, slots := 0, locals := 0 }
def q_wr_X1_tell_0 (vf_deeds : Int32) (va_kinds : Nat → Int32) (va_firsts : Nat → Int32) (va_seconds : Nat → Int32) (x1 : Int32) (x2 : Int32) (x3 : Int32) (post : (Int32) → (Nat → Int32) → (Nat → Int32) → (Nat → Int32) → Prop) : Prop :=
  ((40 : Int32) ≤ vf_deeds → (post vf_deeds va_kinds va_firsts va_seconds)) ∧ (¬ (40 : Int32) ≤ vf_deeds → (vp_in vf_deeds 40 ∧ (∀ va_kinds_1 : Nat → Int32, va_kinds_1 = upd va_kinds (Int32.toNatClampNeg vf_deeds) x1 → (vp_in vf_deeds 40 ∧ (∀ va_firsts_1 : Nat → Int32, va_firsts_1 = upd va_firsts (Int32.toNatClampNeg vf_deeds) x2 → (vp_in vf_deeds 40 ∧ (∀ va_seconds_1 : Nat → Int32, va_seconds_1 = upd va_seconds (Int32.toNatClampNeg vf_deeds) x3 → (∀ v_1 : Int32, v_1 = (vf_deeds + (1 : Int32)) → (post v_1 va_kinds_1 va_firsts_1 va_seconds_1)))))))))
set_option maxRecDepth 20000 in
theorem t_wr_X1_tell_0 {p : Program} {l : Launch} {e : Env} {s : State} {m : MethodId} {args : Array Value} {below : List Frame} {meth : Method} {c : Code} {E : zE} {qr qt : Nat} {lf_huts : Int32} {lf_singers : Int32} {lf_villages : Int32} {lf_dams : Int32} {lf_echoes : Int32} {lf_deep : Int32} {lf_slide : Int32} {la_heights : Nat → Int32} {la_ladders : Nat → Int32} {la_minutes : Nat → Int32} {la_echoFrom : Nat → Int32} {la_echoTo : Nat → Int32} {la_homes : Nat → Int32} {la_talls : Nat → Int32} {la_known : Nat → Int32} {vf_deeds : Int32} {va_kinds : Nat → Int32} {va_firsts : Nat → Int32} {va_seconds : Nat → Int32} {sf_facts : Int32} {sa_heard : Nat → Int32} {sa_huts : Nat → Int32} {sa_minutes : Nat → Int32} {cf_voices : Int32} {cf_step : Int32} {ca_parts : Nat → Int32} {ca_heights : Nat → Int32} {f_fault : Int32} {f_faultPlace : Int32} {a_numbers : Nat → Int32} {a_tape : Nat → Int32} {f_length : Int32} {f_behind : Int32} {f_kind : Int32} {f_first : Int32} {f_value : Int32} {f_hutsToldOf : Int32} {f_singersToldOf : Int32} {z_from : Nat → Int32} {post : (Int32) → (Nat → Int32) → (Nat → Int32) → (Nat → Int32) → Prop} {x1 : Int32} {x2 : Int32} {x3 : Int32} {ls : Array Slot} {H : Heap} {locs : List Loc}
    (zc : zC p s m args meth c cX1_tell 4 RX1 none)
    (hK : zK E s)
    (hM : wrW E qr qt lf_huts lf_singers lf_villages lf_dams lf_echoes lf_deep lf_slide la_heights la_ladders la_minutes la_echoFrom la_echoTo la_homes la_talls la_known vf_deeds va_kinds va_firsts va_seconds sf_facts sa_heard sa_huts sa_minutes cf_voices cf_step ca_parts ca_heights f_fault f_faultPlace a_numbers a_tape f_length f_behind f_kind f_first f_value f_hutsToldOf f_singersToldOf z_from H)
    (hS : va_S (wrA qr qt) s.heap H locs)
    (hl : lv_has ls 4 [(0, .ref (qr + 10)), (1, .int x1), (2, .int x2), (3, .int x3)])
    (hw : q_wr_X1_tell_0 vf_deeds va_kinds va_firsts va_seconds x1 x2 x3 post) :
    W p l e rm_wr_X1_tell s m args below meth c H locs 0 0 (MQ below (zQv (S := (Int32) × (Nat → Int32) × (Nat → Int32) × (Nat → Int32)) (fun u => post u.1 u.2.1 u.2.2.1 u.2.2.2) (fun u H => wrW E qr qt lf_huts lf_singers lf_villages lf_dams lf_echoes lf_deep lf_slide la_heights la_ladders la_minutes la_echoFrom la_echoTo la_homes la_talls la_known u.1 u.2.1 u.2.2.1 u.2.2.2 sf_facts sa_heard sa_huts sa_minutes cf_voices cf_step ca_parts ca_heights f_fault f_faultPlace a_numbers a_tape f_length f_behind f_kind f_first f_value f_hutsToldOf f_singersToldOf z_from H) (wrA qr qt)) args s 0 0 (wrA qr qt)) (F0 m 0 ls []) := by
  have hx := zc.1
  have hb := zc.2.1
  refine lv_aload_n hx hb dX1_tell_0 rfl (lv_at hl 0 rfl) ?_
  refine wrg_1_21_10 zc hK hM dX1_tell_1 ?_
  refine lv_bipush (v := (40 : Int32)) hx hb dX1_tell_4 (by decide) ?_
  refine lv_icmp_ge (tgt := 49) hx hb dX1_tell_6 (by decide) (fun hc => ?_) (fun hc => ?_)
  · have hw := hw.1 hc
    exact zret_vw ⟨vf_deeds, va_kinds, va_firsts, va_seconds⟩ zc hS hw hM dX1_tell_49
  · have hw := hw.2 hc
    refine lv_aload_n hx hb dX1_tell_9 rfl (lv_at hl 0 rfl) ?_
    refine wrg_1_9_10 zc hK hM dX1_tell_10 ?_
    refine lv_aload_n hx hb dX1_tell_13 rfl (lv_at hl 0 rfl) ?_
    refine wrg_1_21_10 zc hK hM dX1_tell_14 ?_
    refine lv_iload_n hx hb dX1_tell_17 rfl (lv_at hl 1 rfl) ?_
    refine wrst_11 zc hK hM hS hw.1 dX1_tell_18 (fun va_kinds_1 H locs eva_kinds_1 hM hS => ?_)
    have hw := hw.2 va_kinds_1 eva_kinds_1
    refine lv_aload_n hx hb dX1_tell_19 rfl (lv_at hl 0 rfl) ?_
    refine wrg_1_15_10 zc hK hM dX1_tell_20 ?_
    refine lv_aload_n hx hb dX1_tell_23 rfl (lv_at hl 0 rfl) ?_
    refine wrg_1_21_10 zc hK hM dX1_tell_24 ?_
    refine lv_iload_n hx hb dX1_tell_27 rfl (lv_at hl 2 rfl) ?_
    refine wrst_12 zc hK hM hS hw.1 dX1_tell_28 (fun va_firsts_1 H locs eva_firsts_1 hM hS => ?_)
    have hw := hw.2 va_firsts_1 eva_firsts_1
    refine lv_aload_n hx hb dX1_tell_29 rfl (lv_at hl 0 rfl) ?_
    refine wrg_1_18_10 zc hK hM dX1_tell_30 ?_
    refine lv_aload_n hx hb dX1_tell_33 rfl (lv_at hl 0 rfl) ?_
    refine wrg_1_21_10 zc hK hM dX1_tell_34 ?_
    refine lv_iload_n hx hb dX1_tell_37 rfl (lv_at hl 3 rfl) ?_
    refine wrst_13 zc hK hM hS hw.1 dX1_tell_38 (fun va_seconds_1 H locs eva_seconds_1 hM hS => ?_)
    have hw := hw.2 va_seconds_1 eva_seconds_1
    refine lv_aload_n hx hb dX1_tell_39 rfl (lv_at hl 0 rfl) ?_
    refine lv_dup hx hb dX1_tell_40 rfl ?_
    refine wrg_1_21_10 zc hK hM dX1_tell_41 ?_
    refine lv_iconst (v := (1 : Int32)) hx hb dX1_tell_44 (by decide) ?_
    refine lv_iadd hx hb dX1_tell_45 ?_
    refine lv_topi (fun v_1 ev_1 => ?_)
    have hw := hw v_1 ev_1
    refine wrp_1_21_10 zc hK hM hS dX1_tell_46 (fun H locs hM hS => ?_)
    exact zret_vw ⟨v_1, va_kinds_1, va_firsts_1, va_seconds_1⟩ zc hS hw hM dX1_tell_49
set_option maxRecDepth 20000 in
theorem c_wr_X1_tell (l : Launch) {E : zE} {qr qt : Nat} {lf_huts : Int32} {lf_singers : Int32} {lf_villages : Int32} {lf_dams : Int32} {lf_echoes : Int32} {lf_deep : Int32} {lf_slide : Int32} {la_heights : Nat → Int32} {la_ladders : Nat → Int32} {la_minutes : Nat → Int32} {la_echoFrom : Nat → Int32} {la_echoTo : Nat → Int32} {la_homes : Nat → Int32} {la_talls : Nat → Int32} {la_known : Nat → Int32} {vf_deeds : Int32} {va_kinds : Nat → Int32} {va_firsts : Nat → Int32} {va_seconds : Nat → Int32} {sf_facts : Int32} {sa_heard : Nat → Int32} {sa_huts : Nat → Int32} {sa_minutes : Nat → Int32} {cf_voices : Int32} {cf_step : Int32} {ca_parts : Nat → Int32} {ca_heights : Nat → Int32} {f_fault : Int32} {f_faultPlace : Int32} {a_numbers : Nat → Int32} {a_tape : Nat → Int32} {f_length : Int32} {f_behind : Int32} {f_kind : Int32} {f_first : Int32} {f_value : Int32} {f_hutsToldOf : Int32} {f_singersToldOf : Int32} {z_from : Nat → Int32} {x1 : Int32} {x2 : Int32} {x3 : Int32} {post : (Int32) → (Nat → Int32) → (Nat → Int32) → (Nat → Int32) → Prop} (hw : q_wr_X1_tell_0 vf_deeds va_kinds va_firsts va_seconds x1 x2 x3 post) : Met l yX1_tell (Cond.code yX1_tell cX1_tell 4 none :: zb) rm_wr_X1_tell (va_Pc [.ref (qr + 10), .int x1, .int x2, .int x3] (fun U => wrW E qr qt lf_huts lf_singers lf_villages lf_dams lf_echoes lf_deep lf_slide la_heights la_ladders la_minutes la_echoFrom la_echoTo la_homes la_talls la_known vf_deeds va_kinds va_firsts va_seconds sf_facts sa_heard sa_huts sa_minutes cf_voices cf_step ca_parts ca_heights f_fault f_faultPlace a_numbers a_tape f_length f_behind f_kind f_first f_value f_hutsToldOf f_singersToldOf z_from U.heap ∧ zK E U)) (zQv (S := (Int32) × (Nat → Int32) × (Nat → Int32) × (Nat → Int32)) (fun u => post u.1 u.2.1 u.2.2.1 u.2.2.2) (fun u H => wrW E qr qt lf_huts lf_singers lf_villages lf_dams lf_echoes lf_deep lf_slide la_heights la_ladders la_minutes la_echoFrom la_echoTo la_homes la_talls la_known u.1 u.2.1 u.2.2.1 u.2.2.2 sf_facts sa_heard sa_huts sa_minutes cf_voices cf_step ca_parts ca_heights f_fault f_faultPlace a_numbers a_tape f_length f_behind f_kind f_first f_value f_hutsToldOf f_singersToldOf z_from H) (wrA qr qt)) 0 0 (wrA qr qt) := by
  refine Met.ofW (cc := cX1_tell) (maxL := 4) (ret := none) (by decide) rfl ?_
  intro p e s m args below meth c s₁ B hml hv
  obtain ⟨rfl, hM, hK⟩ := hv
  have zc := zc_of B hml
  have hl := lv_entry ([.ref (qr + 10), .int x1, .int x2, .int x3]) (n := 4) (Nat.le_of_ble_eq_true rfl)
  rw [lg_entry_eq]
  generalize (lg_sl ([.ref (qr + 10), .int x1, .int x2, .int x3]) ++ List.replicate (4 - (lg_sl ([.ref (qr + 10), .int x1, .int x2, .int x3])).length) Slot.unset).toArray = ls at hl ⊢
  have hl : lv_has ls 4 [(0, .ref (qr + 10)), (1, .int x1), (2, .int x2), (3, .int x3)] := hl
  exact t_wr_X1_tell_0 zc hK hM va_S.rf (lv_sub hl [0, 1, 2, 3] rfl) hw
-- wr_X4_tellOfLand
abbrev rm_wr_X4_tellOfLand : Room := { frames := 0, cells := 0, slots := 0, locals := 0 }
def q_wr_X4_tellOfLand_0 (lf_huts : Int32) (lf_singers : Int32) (lf_villages : Int32) (lf_dams : Int32) (lf_echoes : Int32) (lf_deep : Int32) (lf_slide : Int32) (la_heights : Nat → Int32) (la_ladders : Nat → Int32) (la_minutes : Nat → Int32) (la_echoFrom : Nat → Int32) (la_echoTo : Nat → Int32) (la_homes : Nat → Int32) (la_talls : Nat → Int32) (la_known : Nat → Int32) (f_hutsToldOf : Int32) (f_singersToldOf : Int32) (x1 : Int32) (x2 : Int32) (x3 : Int32) (x4 : Int32) (post : (Int32) → (Int32) → (Int32) → (Int32) → (Int32) → (Int32) → (Int32) → (Nat → Int32) → (Nat → Int32) → (Nat → Int32) → (Nat → Int32) → (Nat → Int32) → (Nat → Int32) → (Nat → Int32) → (Nat → Int32) → (Int32) → (Int32) → Prop) : Prop :=
  (x1.toInt < 0 ∨ 8 < x1.toInt → (vp_in x2 6 ∧ (∀ v_1 : Int32, v_1 = ((la_known (Int32.toNatClampNeg x2)) ||| ((1 : Int32) <<< (x3 &&& 31))) → (vp_in x2 6 ∧ (∀ la_known_1 : Nat → Int32, la_known_1 = upd la_known (Int32.toNatClampNeg x2) v_1 → (∀ v_2 : Int32, v_2 = (f_singersToldOf ||| ((1 : Int32) <<< (x2 &&& 31))) → (post lf_huts lf_singers lf_villages lf_dams lf_echoes lf_deep lf_slide la_heights la_ladders la_minutes la_echoFrom la_echoTo la_homes la_talls la_known_1 f_hutsToldOf v_2))))))) ∧ (x1 = (0 : Int32) → (vp_in lf_huts 9 ∧ (∀ la_heights_1 : Nat → Int32, la_heights_1 = upd la_heights (Int32.toNatClampNeg lf_huts) x2 → (∀ v_3 : Int32, v_3 = (lf_huts + (1 : Int32)) → (post v_3 lf_singers lf_villages lf_dams lf_echoes lf_deep lf_slide la_heights_1 la_ladders la_minutes la_echoFrom la_echoTo la_homes la_talls la_known f_hutsToldOf f_singersToldOf))))) ∧ (x1 = (1 : Int32) → (∀ v_4 : Int32, v_4 = (lf_villages ||| ((1 : Int32) <<< (x2 &&& 31))) → (∀ v_5 : Int32, v_5 = (f_hutsToldOf ||| ((1 : Int32) <<< (x2 &&& 31))) → (post lf_huts lf_singers v_4 lf_dams lf_echoes lf_deep lf_slide la_heights la_ladders la_minutes la_echoFrom la_echoTo la_homes la_talls la_known v_5 f_singersToldOf)))) ∧ (x1 = (2 : Int32) → (∀ v_6 : Int32, v_6 = (lf_dams ||| ((1 : Int32) <<< (x2 &&& 31))) → (∀ v_7 : Int32, v_7 = (f_hutsToldOf ||| ((1 : Int32) <<< (x2 &&& 31))) → (post lf_huts lf_singers lf_villages v_6 lf_echoes lf_deep lf_slide la_heights la_ladders la_minutes la_echoFrom la_echoTo la_homes la_talls la_known v_7 f_singersToldOf)))) ∧ (x1 = (3 : Int32) → (post lf_huts lf_singers lf_villages lf_dams lf_echoes x2 lf_slide la_heights la_ladders la_minutes la_echoFrom la_echoTo la_homes la_talls la_known f_hutsToldOf f_singersToldOf)) ∧ (x1 = (4 : Int32) → (post lf_huts lf_singers lf_villages lf_dams lf_echoes lf_deep x2 la_heights la_ladders la_minutes la_echoFrom la_echoTo la_homes la_talls la_known f_hutsToldOf f_singersToldOf)) ∧ (x1 = (5 : Int32) → (vp_in ((x2 * (9 : Int32)) + x3) 81 ∧ (∀ la_minutes_1 : Nat → Int32, la_minutes_1 = upd la_minutes (Int32.toNatClampNeg ((x2 * (9 : Int32)) + x3)) x4 → (vp_in ((x3 * (9 : Int32)) + x2) 81 ∧ (∀ la_minutes_2 : Nat → Int32, la_minutes_2 = upd la_minutes_1 (Int32.toNatClampNeg ((x3 * (9 : Int32)) + x2)) x4 → (∀ v_8 : Int32, v_8 = (f_hutsToldOf ||| (((1 : Int32) <<< (x2 &&& 31)) ||| ((1 : Int32) <<< (x3 &&& 31)))) → (post lf_huts lf_singers lf_villages lf_dams lf_echoes lf_deep lf_slide la_heights la_ladders la_minutes_2 la_echoFrom la_echoTo la_homes la_talls la_known v_8 f_singersToldOf))))))) ∧ (x1 = (6 : Int32) → (vp_in lf_echoes 4 ∧ (∀ la_echoFrom_1 : Nat → Int32, la_echoFrom_1 = upd la_echoFrom (Int32.toNatClampNeg lf_echoes) x2 → (vp_in lf_echoes 4 ∧ (∀ la_echoTo_1 : Nat → Int32, la_echoTo_1 = upd la_echoTo (Int32.toNatClampNeg lf_echoes) x3 → (∀ v_9 : Int32, v_9 = (lf_echoes + (1 : Int32)) → (∀ v_10 : Int32, v_10 = (f_hutsToldOf ||| (((1 : Int32) <<< (x2 &&& 31)) ||| ((1 : Int32) <<< (x3 &&& 31)))) → (post lf_huts lf_singers lf_villages lf_dams v_9 lf_deep lf_slide la_heights la_ladders la_minutes la_echoFrom_1 la_echoTo_1 la_homes la_talls la_known v_10 f_singersToldOf)))))))) ∧ (x1 = (7 : Int32) → (vp_in x2 9 ∧ (∀ la_ladders_1 : Nat → Int32, la_ladders_1 = upd la_ladders (Int32.toNatClampNeg x2) x3 → (∀ v_11 : Int32, v_11 = (f_hutsToldOf ||| ((1 : Int32) <<< (x2 &&& 31))) → (post lf_huts lf_singers lf_villages lf_dams lf_echoes lf_deep lf_slide la_heights la_ladders_1 la_minutes la_echoFrom la_echoTo la_homes la_talls la_known v_11 f_singersToldOf))))) ∧ (x1 = (8 : Int32) → (vp_in lf_singers 6 ∧ (∀ la_homes_1 : Nat → Int32, la_homes_1 = upd la_homes (Int32.toNatClampNeg lf_singers) x2 → (vp_in lf_singers 6 ∧ (∀ la_talls_1 : Nat → Int32, la_talls_1 = upd la_talls (Int32.toNatClampNeg lf_singers) x3 → (∀ v_12 : Int32, v_12 = (lf_singers + (1 : Int32)) → (∀ v_13 : Int32, v_13 = (f_hutsToldOf ||| ((1 : Int32) <<< (x2 &&& 31))) → (post lf_huts v_12 lf_villages lf_dams lf_echoes lf_deep lf_slide la_heights la_ladders la_minutes la_echoFrom la_echoTo la_homes_1 la_talls_1 la_known v_13 f_singersToldOf))))))))
set_option maxRecDepth 20000 in
theorem t_wr_X4_tellOfLand_0 {p : Program} {l : Launch} {e : Env} {s : State} {m : MethodId} {args : Array Value} {below : List Frame} {meth : Method} {c : Code} {E : zE} {qr qt : Nat} {lf_huts : Int32} {lf_singers : Int32} {lf_villages : Int32} {lf_dams : Int32} {lf_echoes : Int32} {lf_deep : Int32} {lf_slide : Int32} {la_heights : Nat → Int32} {la_ladders : Nat → Int32} {la_minutes : Nat → Int32} {la_echoFrom : Nat → Int32} {la_echoTo : Nat → Int32} {la_homes : Nat → Int32} {la_talls : Nat → Int32} {la_known : Nat → Int32} {vf_deeds : Int32} {va_kinds : Nat → Int32} {va_firsts : Nat → Int32} {va_seconds : Nat → Int32} {sf_facts : Int32} {sa_heard : Nat → Int32} {sa_huts : Nat → Int32} {sa_minutes : Nat → Int32} {cf_voices : Int32} {cf_step : Int32} {ca_parts : Nat → Int32} {ca_heights : Nat → Int32} {f_fault : Int32} {f_faultPlace : Int32} {a_numbers : Nat → Int32} {a_tape : Nat → Int32} {f_length : Int32} {f_behind : Int32} {f_kind : Int32} {f_first : Int32} {f_value : Int32} {f_hutsToldOf : Int32} {f_singersToldOf : Int32} {z_from : Nat → Int32} {post : (Int32) → (Int32) → (Int32) → (Int32) → (Int32) → (Int32) → (Int32) → (Nat → Int32) → (Nat → Int32) → (Nat → Int32) → (Nat → Int32) → (Nat → Int32) → (Nat → Int32) → (Nat → Int32) → (Nat → Int32) → (Int32) → (Int32) → Prop} {x1 : Int32} {x2 : Int32} {x3 : Int32} {x4 : Int32} {ls : Array Slot} {H : Heap} {locs : List Loc}
    (zc : zC p s m args meth c cX4_tellOfLand 5 RX4 none)
    (hK : zK E s)
    (hM : wrW E qr qt lf_huts lf_singers lf_villages lf_dams lf_echoes lf_deep lf_slide la_heights la_ladders la_minutes la_echoFrom la_echoTo la_homes la_talls la_known vf_deeds va_kinds va_firsts va_seconds sf_facts sa_heard sa_huts sa_minutes cf_voices cf_step ca_parts ca_heights f_fault f_faultPlace a_numbers a_tape f_length f_behind f_kind f_first f_value f_hutsToldOf f_singersToldOf z_from H)
    (hS : va_S (wrA qr qt) s.heap H locs)
    (hl : lv_has ls 5 [(0, .ref qr), (1, .int x1), (2, .int x2), (3, .int x3), (4, .int x4)])
    (hw : q_wr_X4_tellOfLand_0 lf_huts lf_singers lf_villages lf_dams lf_echoes lf_deep lf_slide la_heights la_ladders la_minutes la_echoFrom la_echoTo la_homes la_talls la_known f_hutsToldOf f_singersToldOf x1 x2 x3 x4 post) :
    W p l e rm_wr_X4_tellOfLand s m args below meth c H locs 0 0 (MQ below (zQv (S := (Int32) × (Int32) × (Int32) × (Int32) × (Int32) × (Int32) × (Int32) × (Nat → Int32) × (Nat → Int32) × (Nat → Int32) × (Nat → Int32) × (Nat → Int32) × (Nat → Int32) × (Nat → Int32) × (Nat → Int32) × (Int32) × (Int32)) (fun u => post u.1 u.2.1 u.2.2.1 u.2.2.2.1 u.2.2.2.2.1 u.2.2.2.2.2.1 u.2.2.2.2.2.2.1 u.2.2.2.2.2.2.2.1 u.2.2.2.2.2.2.2.2.1 u.2.2.2.2.2.2.2.2.2.1 u.2.2.2.2.2.2.2.2.2.2.1 u.2.2.2.2.2.2.2.2.2.2.2.1 u.2.2.2.2.2.2.2.2.2.2.2.2.1 u.2.2.2.2.2.2.2.2.2.2.2.2.2.1 u.2.2.2.2.2.2.2.2.2.2.2.2.2.2.1 u.2.2.2.2.2.2.2.2.2.2.2.2.2.2.2.1 u.2.2.2.2.2.2.2.2.2.2.2.2.2.2.2.2) (fun u H => wrW E qr qt u.1 u.2.1 u.2.2.1 u.2.2.2.1 u.2.2.2.2.1 u.2.2.2.2.2.1 u.2.2.2.2.2.2.1 u.2.2.2.2.2.2.2.1 u.2.2.2.2.2.2.2.2.1 u.2.2.2.2.2.2.2.2.2.1 u.2.2.2.2.2.2.2.2.2.2.1 u.2.2.2.2.2.2.2.2.2.2.2.1 u.2.2.2.2.2.2.2.2.2.2.2.2.1 u.2.2.2.2.2.2.2.2.2.2.2.2.2.1 u.2.2.2.2.2.2.2.2.2.2.2.2.2.2.1 vf_deeds va_kinds va_firsts va_seconds sf_facts sa_heard sa_huts sa_minutes cf_voices cf_step ca_parts ca_heights f_fault f_faultPlace a_numbers a_tape f_length f_behind f_kind f_first f_value u.2.2.2.2.2.2.2.2.2.2.2.2.2.2.2.1 u.2.2.2.2.2.2.2.2.2.2.2.2.2.2.2.2 z_from H) (wrA qr qt)) args s 0 0 (wrA qr qt)) (F0 m 0 ls []) := by
  have hx := zc.1
  have hb := zc.2.1
  refine lv_iload_n hx hb dX4_tellOfLand_0 rfl (lv_at hl 1 rfl) ?_
  by_cases hc : x1.toInt < 0 ∨ 8 < x1.toInt
  · have hw := hw.1 hc
    refine lv_tableOut (tgt := 366) hx hb dX4_tellOfLand_1 hc (by decide) ?_
    refine lv_aload_n hx hb dX4_tellOfLand_366 rfl (lv_at hl 0 rfl) ?_
    refine wrg_4_12_0 zc hK hM dX4_tellOfLand_367 ?_
    refine wrg_4_193_1 zc hK hM dX4_tellOfLand_370 ?_
    refine lv_iload_n hx hb dX4_tellOfLand_373 rfl (lv_at hl 2 rfl) ?_
    refine lv_dup2_11 hx hb dX4_tellOfLand_374 rfl rfl ?_
    refine wrld_9 zc hK hM hw.1 dX4_tellOfLand_375 ?_
    have hw := hw.2
    refine lv_iconst (v := (1 : Int32)) hx hb dX4_tellOfLand_376 (by decide) ?_
    refine lv_iload_n hx hb dX4_tellOfLand_377 rfl (lv_at hl 3 rfl) ?_
    refine lv_ishl hx hb dX4_tellOfLand_378 ?_
    refine lv_ior hx hb dX4_tellOfLand_379 ?_
    refine lv_topi (fun v_1 ev_1 => ?_)
    have hw := hw v_1 ev_1
    refine wrst_9 zc hK hM hS hw.1 dX4_tellOfLand_380 (fun la_known_1 H locs ela_known_1 hM hS => ?_)
    have hw := hw.2 la_known_1 ela_known_1
    refine lv_aload_n hx hb dX4_tellOfLand_381 rfl (lv_at hl 0 rfl) ?_
    refine lv_dup hx hb dX4_tellOfLand_382 rfl ?_
    refine wrg_4_93_0 zc hK hM dX4_tellOfLand_383 ?_
    refine lv_iconst (v := (1 : Int32)) hx hb dX4_tellOfLand_386 (by decide) ?_
    refine lv_iload_n hx hb dX4_tellOfLand_387 rfl (lv_at hl 2 rfl) ?_
    refine lv_ishl hx hb dX4_tellOfLand_388 ?_
    refine lv_ior hx hb dX4_tellOfLand_389 ?_
    refine lv_topi (fun v_2 ev_2 => ?_)
    have hw := hw v_2 ev_2
    refine wrp_4_93_0 zc hK hM hS dX4_tellOfLand_390 (fun H locs hM hS => ?_)
    exact zret_vw ⟨lf_huts, lf_singers, lf_villages, lf_dams, lf_echoes, lf_deep, lf_slide, la_heights, la_ladders, la_minutes, la_echoFrom, la_echoTo, la_homes, la_talls, la_known_1, f_hutsToldOf, v_2⟩ zc hS hw hM dX4_tellOfLand_393
  have hin := zsw hc
  by_cases hc0 : x1 = (0 : Int32)
  · have hw := hw.2.1 hc0
    refine lv_tableIn (tgt := 52) hx hb dX4_tellOfLand_1 (by rw [hc0]; decide) (by rw [hc0]; decide) (by rw [hc0]; rfl) (by decide) ?_
    refine lv_aload_n hx hb dX4_tellOfLand_52 rfl (lv_at hl 0 rfl) ?_
    refine wrg_4_12_0 zc hK hM dX4_tellOfLand_53 ?_
    refine wrg_4_160_1 zc hK hM dX4_tellOfLand_56 ?_
    refine lv_aload_n hx hb dX4_tellOfLand_59 rfl (lv_at hl 0 rfl) ?_
    refine wrg_4_12_0 zc hK hM dX4_tellOfLand_60 ?_
    refine wrg_4_108_1 zc hK hM dX4_tellOfLand_63 ?_
    refine lv_iload_n hx hb dX4_tellOfLand_66 rfl (lv_at hl 2 rfl) ?_
    refine wrst_2 zc hK hM hS hw.1 dX4_tellOfLand_67 (fun la_heights_1 H locs ela_heights_1 hM hS => ?_)
    have hw := hw.2 la_heights_1 ela_heights_1
    refine lv_aload_n hx hb dX4_tellOfLand_68 rfl (lv_at hl 0 rfl) ?_
    refine wrg_4_12_0 zc hK hM dX4_tellOfLand_69 ?_
    refine lv_dup hx hb dX4_tellOfLand_72 rfl ?_
    refine wrg_4_108_1 zc hK hM dX4_tellOfLand_73 ?_
    refine lv_iconst (v := (1 : Int32)) hx hb dX4_tellOfLand_76 (by decide) ?_
    refine lv_iadd hx hb dX4_tellOfLand_77 ?_
    refine lv_topi (fun v_3 ev_3 => ?_)
    have hw := hw v_3 ev_3
    refine wrp_4_108_1 zc hK hM hS dX4_tellOfLand_78 (fun H locs hM hS => ?_)
    refine lv_goto (tgt := 393) hx hb dX4_tellOfLand_81 (by decide) ?_
    exact zret_vw ⟨v_3, lf_singers, lf_villages, lf_dams, lf_echoes, lf_deep, lf_slide, la_heights_1, la_ladders, la_minutes, la_echoFrom, la_echoTo, la_homes, la_talls, la_known, f_hutsToldOf, f_singersToldOf⟩ zc hS hw hM dX4_tellOfLand_393
  by_cases hc1 : x1 = (1 : Int32)
  · have hw := hw.2.2.1 hc1
    refine lv_tableIn (tgt := 84) hx hb dX4_tellOfLand_1 (by rw [hc1]; decide) (by rw [hc1]; decide) (by rw [hc1]; rfl) (by decide) ?_
    refine lv_aload_n hx hb dX4_tellOfLand_84 rfl (lv_at hl 0 rfl) ?_
    refine wrg_4_12_0 zc hK hM dX4_tellOfLand_85 ?_
    refine lv_dup hx hb dX4_tellOfLand_88 rfl ?_
    refine wrg_4_163_1 zc hK hM dX4_tellOfLand_89 ?_
    refine lv_iconst (v := (1 : Int32)) hx hb dX4_tellOfLand_92 (by decide) ?_
    refine lv_iload_n hx hb dX4_tellOfLand_93 rfl (lv_at hl 2 rfl) ?_
    refine lv_ishl hx hb dX4_tellOfLand_94 ?_
    refine lv_ior hx hb dX4_tellOfLand_95 ?_
    refine lv_topi (fun v_4 ev_4 => ?_)
    have hw := hw v_4 ev_4
    refine wrp_4_163_1 zc hK hM hS dX4_tellOfLand_96 (fun H locs hM hS => ?_)
    refine lv_aload_n hx hb dX4_tellOfLand_99 rfl (lv_at hl 0 rfl) ?_
    refine lv_dup hx hb dX4_tellOfLand_100 rfl ?_
    refine wrg_4_90_0 zc hK hM dX4_tellOfLand_101 ?_
    refine lv_iconst (v := (1 : Int32)) hx hb dX4_tellOfLand_104 (by decide) ?_
    refine lv_iload_n hx hb dX4_tellOfLand_105 rfl (lv_at hl 2 rfl) ?_
    refine lv_ishl hx hb dX4_tellOfLand_106 ?_
    refine lv_ior hx hb dX4_tellOfLand_107 ?_
    refine lv_topi (fun v_5 ev_5 => ?_)
    have hw := hw v_5 ev_5
    refine wrp_4_90_0 zc hK hM hS dX4_tellOfLand_108 (fun H locs hM hS => ?_)
    refine lv_goto (tgt := 393) hx hb dX4_tellOfLand_111 (by decide) ?_
    exact zret_vw ⟨lf_huts, lf_singers, v_4, lf_dams, lf_echoes, lf_deep, lf_slide, la_heights, la_ladders, la_minutes, la_echoFrom, la_echoTo, la_homes, la_talls, la_known, v_5, f_singersToldOf⟩ zc hS hw hM dX4_tellOfLand_393
  by_cases hc2 : x1 = (2 : Int32)
  · have hw := hw.2.2.2.1 hc2
    refine lv_tableIn (tgt := 114) hx hb dX4_tellOfLand_1 (by rw [hc2]; decide) (by rw [hc2]; decide) (by rw [hc2]; rfl) (by decide) ?_
    refine lv_aload_n hx hb dX4_tellOfLand_114 rfl (lv_at hl 0 rfl) ?_
    refine wrg_4_12_0 zc hK hM dX4_tellOfLand_115 ?_
    refine lv_dup hx hb dX4_tellOfLand_118 rfl ?_
    refine wrg_4_166_1 zc hK hM dX4_tellOfLand_119 ?_
    refine lv_iconst (v := (1 : Int32)) hx hb dX4_tellOfLand_122 (by decide) ?_
    refine lv_iload_n hx hb dX4_tellOfLand_123 rfl (lv_at hl 2 rfl) ?_
    refine lv_ishl hx hb dX4_tellOfLand_124 ?_
    refine lv_ior hx hb dX4_tellOfLand_125 ?_
    refine lv_topi (fun v_6 ev_6 => ?_)
    have hw := hw v_6 ev_6
    refine wrp_4_166_1 zc hK hM hS dX4_tellOfLand_126 (fun H locs hM hS => ?_)
    refine lv_aload_n hx hb dX4_tellOfLand_129 rfl (lv_at hl 0 rfl) ?_
    refine lv_dup hx hb dX4_tellOfLand_130 rfl ?_
    refine wrg_4_90_0 zc hK hM dX4_tellOfLand_131 ?_
    refine lv_iconst (v := (1 : Int32)) hx hb dX4_tellOfLand_134 (by decide) ?_
    refine lv_iload_n hx hb dX4_tellOfLand_135 rfl (lv_at hl 2 rfl) ?_
    refine lv_ishl hx hb dX4_tellOfLand_136 ?_
    refine lv_ior hx hb dX4_tellOfLand_137 ?_
    refine lv_topi (fun v_7 ev_7 => ?_)
    have hw := hw v_7 ev_7
    refine wrp_4_90_0 zc hK hM hS dX4_tellOfLand_138 (fun H locs hM hS => ?_)
    refine lv_goto (tgt := 393) hx hb dX4_tellOfLand_141 (by decide) ?_
    exact zret_vw ⟨lf_huts, lf_singers, lf_villages, v_6, lf_echoes, lf_deep, lf_slide, la_heights, la_ladders, la_minutes, la_echoFrom, la_echoTo, la_homes, la_talls, la_known, v_7, f_singersToldOf⟩ zc hS hw hM dX4_tellOfLand_393
  by_cases hc3 : x1 = (3 : Int32)
  · have hw := hw.2.2.2.2.1 hc3
    refine lv_tableIn (tgt := 144) hx hb dX4_tellOfLand_1 (by rw [hc3]; decide) (by rw [hc3]; decide) (by rw [hc3]; rfl) (by decide) ?_
    refine lv_aload_n hx hb dX4_tellOfLand_144 rfl (lv_at hl 0 rfl) ?_
    refine wrg_4_12_0 zc hK hM dX4_tellOfLand_145 ?_
    refine lv_iload_n hx hb dX4_tellOfLand_148 rfl (lv_at hl 2 rfl) ?_
    refine wrp_4_169_1 zc hK hM hS dX4_tellOfLand_149 (fun H locs hM hS => ?_)
    refine lv_goto (tgt := 393) hx hb dX4_tellOfLand_152 (by decide) ?_
    exact zret_vw ⟨lf_huts, lf_singers, lf_villages, lf_dams, lf_echoes, x2, lf_slide, la_heights, la_ladders, la_minutes, la_echoFrom, la_echoTo, la_homes, la_talls, la_known, f_hutsToldOf, f_singersToldOf⟩ zc hS hw hM dX4_tellOfLand_393
  by_cases hc4 : x1 = (4 : Int32)
  · have hw := hw.2.2.2.2.2.1 hc4
    refine lv_tableIn (tgt := 155) hx hb dX4_tellOfLand_1 (by rw [hc4]; decide) (by rw [hc4]; decide) (by rw [hc4]; rfl) (by decide) ?_
    refine lv_aload_n hx hb dX4_tellOfLand_155 rfl (lv_at hl 0 rfl) ?_
    refine wrg_4_12_0 zc hK hM dX4_tellOfLand_156 ?_
    refine lv_iload_n hx hb dX4_tellOfLand_159 rfl (lv_at hl 2 rfl) ?_
    refine wrp_4_172_1 zc hK hM hS dX4_tellOfLand_160 (fun H locs hM hS => ?_)
    refine lv_goto (tgt := 393) hx hb dX4_tellOfLand_163 (by decide) ?_
    exact zret_vw ⟨lf_huts, lf_singers, lf_villages, lf_dams, lf_echoes, lf_deep, x2, la_heights, la_ladders, la_minutes, la_echoFrom, la_echoTo, la_homes, la_talls, la_known, f_hutsToldOf, f_singersToldOf⟩ zc hS hw hM dX4_tellOfLand_393
  by_cases hc5 : x1 = (5 : Int32)
  · have hw := hw.2.2.2.2.2.2.1 hc5
    refine lv_tableIn (tgt := 166) hx hb dX4_tellOfLand_1 (by rw [hc5]; decide) (by rw [hc5]; decide) (by rw [hc5]; rfl) (by decide) ?_
    refine lv_aload_n hx hb dX4_tellOfLand_166 rfl (lv_at hl 0 rfl) ?_
    refine wrg_4_12_0 zc hK hM dX4_tellOfLand_167 ?_
    refine wrg_4_175_1 zc hK hM dX4_tellOfLand_170 ?_
    refine lv_iload_n hx hb dX4_tellOfLand_173 rfl (lv_at hl 2 rfl) ?_
    refine lv_bipush (v := (9 : Int32)) hx hb dX4_tellOfLand_174 (by decide) ?_
    refine lv_imul hx hb dX4_tellOfLand_176 ?_
    refine lv_iload_n hx hb dX4_tellOfLand_177 rfl (lv_at hl 3 rfl) ?_
    refine lv_iadd hx hb dX4_tellOfLand_178 ?_
    refine lv_iload hx hb dX4_tellOfLand_179 (lv_at hl 4 rfl) ?_
    refine wrst_4 zc hK hM hS hw.1 dX4_tellOfLand_181 (fun la_minutes_1 H locs ela_minutes_1 hM hS => ?_)
    have hw := hw.2 la_minutes_1 ela_minutes_1
    refine lv_aload_n hx hb dX4_tellOfLand_182 rfl (lv_at hl 0 rfl) ?_
    refine wrg_4_12_0 zc hK hM dX4_tellOfLand_183 ?_
    refine wrg_4_175_1 zc hK hM dX4_tellOfLand_186 ?_
    refine lv_iload_n hx hb dX4_tellOfLand_189 rfl (lv_at hl 3 rfl) ?_
    refine lv_bipush (v := (9 : Int32)) hx hb dX4_tellOfLand_190 (by decide) ?_
    refine lv_imul hx hb dX4_tellOfLand_192 ?_
    refine lv_iload_n hx hb dX4_tellOfLand_193 rfl (lv_at hl 2 rfl) ?_
    refine lv_iadd hx hb dX4_tellOfLand_194 ?_
    refine lv_iload hx hb dX4_tellOfLand_195 (lv_at hl 4 rfl) ?_
    refine wrst_4 zc hK hM hS hw.1 dX4_tellOfLand_197 (fun la_minutes_2 H locs ela_minutes_2 hM hS => ?_)
    have hw := hw.2 la_minutes_2 ela_minutes_2
    refine lv_aload_n hx hb dX4_tellOfLand_198 rfl (lv_at hl 0 rfl) ?_
    refine lv_dup hx hb dX4_tellOfLand_199 rfl ?_
    refine wrg_4_90_0 zc hK hM dX4_tellOfLand_200 ?_
    refine lv_iconst (v := (1 : Int32)) hx hb dX4_tellOfLand_203 (by decide) ?_
    refine lv_iload_n hx hb dX4_tellOfLand_204 rfl (lv_at hl 2 rfl) ?_
    refine lv_ishl hx hb dX4_tellOfLand_205 ?_
    refine lv_iconst (v := (1 : Int32)) hx hb dX4_tellOfLand_206 (by decide) ?_
    refine lv_iload_n hx hb dX4_tellOfLand_207 rfl (lv_at hl 3 rfl) ?_
    refine lv_ishl hx hb dX4_tellOfLand_208 ?_
    refine lv_ior hx hb dX4_tellOfLand_209 ?_
    refine lv_ior hx hb dX4_tellOfLand_210 ?_
    refine lv_topi (fun v_8 ev_8 => ?_)
    have hw := hw v_8 ev_8
    refine wrp_4_90_0 zc hK hM hS dX4_tellOfLand_211 (fun H locs hM hS => ?_)
    refine lv_goto (tgt := 393) hx hb dX4_tellOfLand_214 (by decide) ?_
    exact zret_vw ⟨lf_huts, lf_singers, lf_villages, lf_dams, lf_echoes, lf_deep, lf_slide, la_heights, la_ladders, la_minutes_2, la_echoFrom, la_echoTo, la_homes, la_talls, la_known, v_8, f_singersToldOf⟩ zc hS hw hM dX4_tellOfLand_393
  by_cases hc6 : x1 = (6 : Int32)
  · have hw := hw.2.2.2.2.2.2.2.1 hc6
    refine lv_tableIn (tgt := 217) hx hb dX4_tellOfLand_1 (by rw [hc6]; decide) (by rw [hc6]; decide) (by rw [hc6]; rfl) (by decide) ?_
    refine lv_aload_n hx hb dX4_tellOfLand_217 rfl (lv_at hl 0 rfl) ?_
    refine wrg_4_12_0 zc hK hM dX4_tellOfLand_218 ?_
    refine wrg_4_178_1 zc hK hM dX4_tellOfLand_221 ?_
    refine lv_aload_n hx hb dX4_tellOfLand_224 rfl (lv_at hl 0 rfl) ?_
    refine wrg_4_12_0 zc hK hM dX4_tellOfLand_225 ?_
    refine wrg_4_141_1 zc hK hM dX4_tellOfLand_228 ?_
    refine lv_iload_n hx hb dX4_tellOfLand_231 rfl (lv_at hl 2 rfl) ?_
    refine wrst_5 zc hK hM hS hw.1 dX4_tellOfLand_232 (fun la_echoFrom_1 H locs ela_echoFrom_1 hM hS => ?_)
    have hw := hw.2 la_echoFrom_1 ela_echoFrom_1
    refine lv_aload_n hx hb dX4_tellOfLand_233 rfl (lv_at hl 0 rfl) ?_
    refine wrg_4_12_0 zc hK hM dX4_tellOfLand_234 ?_
    refine wrg_4_181_1 zc hK hM dX4_tellOfLand_237 ?_
    refine lv_aload_n hx hb dX4_tellOfLand_240 rfl (lv_at hl 0 rfl) ?_
    refine wrg_4_12_0 zc hK hM dX4_tellOfLand_241 ?_
    refine wrg_4_141_1 zc hK hM dX4_tellOfLand_244 ?_
    refine lv_iload_n hx hb dX4_tellOfLand_247 rfl (lv_at hl 3 rfl) ?_
    refine wrst_6 zc hK hM hS hw.1 dX4_tellOfLand_248 (fun la_echoTo_1 H locs ela_echoTo_1 hM hS => ?_)
    have hw := hw.2 la_echoTo_1 ela_echoTo_1
    refine lv_aload_n hx hb dX4_tellOfLand_249 rfl (lv_at hl 0 rfl) ?_
    refine wrg_4_12_0 zc hK hM dX4_tellOfLand_250 ?_
    refine lv_dup hx hb dX4_tellOfLand_253 rfl ?_
    refine wrg_4_141_1 zc hK hM dX4_tellOfLand_254 ?_
    refine lv_iconst (v := (1 : Int32)) hx hb dX4_tellOfLand_257 (by decide) ?_
    refine lv_iadd hx hb dX4_tellOfLand_258 ?_
    refine lv_topi (fun v_9 ev_9 => ?_)
    have hw := hw v_9 ev_9
    refine wrp_4_141_1 zc hK hM hS dX4_tellOfLand_259 (fun H locs hM hS => ?_)
    refine lv_aload_n hx hb dX4_tellOfLand_262 rfl (lv_at hl 0 rfl) ?_
    refine lv_dup hx hb dX4_tellOfLand_263 rfl ?_
    refine wrg_4_90_0 zc hK hM dX4_tellOfLand_264 ?_
    refine lv_iconst (v := (1 : Int32)) hx hb dX4_tellOfLand_267 (by decide) ?_
    refine lv_iload_n hx hb dX4_tellOfLand_268 rfl (lv_at hl 2 rfl) ?_
    refine lv_ishl hx hb dX4_tellOfLand_269 ?_
    refine lv_iconst (v := (1 : Int32)) hx hb dX4_tellOfLand_270 (by decide) ?_
    refine lv_iload_n hx hb dX4_tellOfLand_271 rfl (lv_at hl 3 rfl) ?_
    refine lv_ishl hx hb dX4_tellOfLand_272 ?_
    refine lv_ior hx hb dX4_tellOfLand_273 ?_
    refine lv_ior hx hb dX4_tellOfLand_274 ?_
    refine lv_topi (fun v_10 ev_10 => ?_)
    have hw := hw v_10 ev_10
    refine wrp_4_90_0 zc hK hM hS dX4_tellOfLand_275 (fun H locs hM hS => ?_)
    refine lv_goto (tgt := 393) hx hb dX4_tellOfLand_278 (by decide) ?_
    exact zret_vw ⟨lf_huts, lf_singers, lf_villages, lf_dams, v_9, lf_deep, lf_slide, la_heights, la_ladders, la_minutes, la_echoFrom_1, la_echoTo_1, la_homes, la_talls, la_known, v_10, f_singersToldOf⟩ zc hS hw hM dX4_tellOfLand_393
  by_cases hc7 : x1 = (7 : Int32)
  · have hw := hw.2.2.2.2.2.2.2.2.1 hc7
    refine lv_tableIn (tgt := 281) hx hb dX4_tellOfLand_1 (by rw [hc7]; decide) (by rw [hc7]; decide) (by rw [hc7]; rfl) (by decide) ?_
    refine lv_aload_n hx hb dX4_tellOfLand_281 rfl (lv_at hl 0 rfl) ?_
    refine wrg_4_12_0 zc hK hM dX4_tellOfLand_282 ?_
    refine wrg_4_184_1 zc hK hM dX4_tellOfLand_285 ?_
    refine lv_iload_n hx hb dX4_tellOfLand_288 rfl (lv_at hl 2 rfl) ?_
    refine lv_iload_n hx hb dX4_tellOfLand_289 rfl (lv_at hl 3 rfl) ?_
    refine wrst_3 zc hK hM hS hw.1 dX4_tellOfLand_290 (fun la_ladders_1 H locs ela_ladders_1 hM hS => ?_)
    have hw := hw.2 la_ladders_1 ela_ladders_1
    refine lv_aload_n hx hb dX4_tellOfLand_291 rfl (lv_at hl 0 rfl) ?_
    refine lv_dup hx hb dX4_tellOfLand_292 rfl ?_
    refine wrg_4_90_0 zc hK hM dX4_tellOfLand_293 ?_
    refine lv_iconst (v := (1 : Int32)) hx hb dX4_tellOfLand_296 (by decide) ?_
    refine lv_iload_n hx hb dX4_tellOfLand_297 rfl (lv_at hl 2 rfl) ?_
    refine lv_ishl hx hb dX4_tellOfLand_298 ?_
    refine lv_ior hx hb dX4_tellOfLand_299 ?_
    refine lv_topi (fun v_11 ev_11 => ?_)
    have hw := hw v_11 ev_11
    refine wrp_4_90_0 zc hK hM hS dX4_tellOfLand_300 (fun H locs hM hS => ?_)
    refine lv_goto (tgt := 393) hx hb dX4_tellOfLand_303 (by decide) ?_
    exact zret_vw ⟨lf_huts, lf_singers, lf_villages, lf_dams, lf_echoes, lf_deep, lf_slide, la_heights, la_ladders_1, la_minutes, la_echoFrom, la_echoTo, la_homes, la_talls, la_known, v_11, f_singersToldOf⟩ zc hS hw hM dX4_tellOfLand_393
  by_cases hc8 : x1 = (8 : Int32)
  · have hw := hw.2.2.2.2.2.2.2.2.2 hc8
    refine lv_tableIn (tgt := 306) hx hb dX4_tellOfLand_1 (by rw [hc8]; decide) (by rw [hc8]; decide) (by rw [hc8]; rfl) (by decide) ?_
    refine lv_aload_n hx hb dX4_tellOfLand_306 rfl (lv_at hl 0 rfl) ?_
    refine wrg_4_12_0 zc hK hM dX4_tellOfLand_307 ?_
    refine wrg_4_187_1 zc hK hM dX4_tellOfLand_310 ?_
    refine lv_aload_n hx hb dX4_tellOfLand_313 rfl (lv_at hl 0 rfl) ?_
    refine wrg_4_12_0 zc hK hM dX4_tellOfLand_314 ?_
    refine wrg_4_111_1 zc hK hM dX4_tellOfLand_317 ?_
    refine lv_iload_n hx hb dX4_tellOfLand_320 rfl (lv_at hl 2 rfl) ?_
    refine wrst_7 zc hK hM hS hw.1 dX4_tellOfLand_321 (fun la_homes_1 H locs ela_homes_1 hM hS => ?_)
    have hw := hw.2 la_homes_1 ela_homes_1
    refine lv_aload_n hx hb dX4_tellOfLand_322 rfl (lv_at hl 0 rfl) ?_
    refine wrg_4_12_0 zc hK hM dX4_tellOfLand_323 ?_
    refine wrg_4_190_1 zc hK hM dX4_tellOfLand_326 ?_
    refine lv_aload_n hx hb dX4_tellOfLand_329 rfl (lv_at hl 0 rfl) ?_
    refine wrg_4_12_0 zc hK hM dX4_tellOfLand_330 ?_
    refine wrg_4_111_1 zc hK hM dX4_tellOfLand_333 ?_
    refine lv_iload_n hx hb dX4_tellOfLand_336 rfl (lv_at hl 3 rfl) ?_
    refine wrst_8 zc hK hM hS hw.1 dX4_tellOfLand_337 (fun la_talls_1 H locs ela_talls_1 hM hS => ?_)
    have hw := hw.2 la_talls_1 ela_talls_1
    refine lv_aload_n hx hb dX4_tellOfLand_338 rfl (lv_at hl 0 rfl) ?_
    refine wrg_4_12_0 zc hK hM dX4_tellOfLand_339 ?_
    refine lv_dup hx hb dX4_tellOfLand_342 rfl ?_
    refine wrg_4_111_1 zc hK hM dX4_tellOfLand_343 ?_
    refine lv_iconst (v := (1 : Int32)) hx hb dX4_tellOfLand_346 (by decide) ?_
    refine lv_iadd hx hb dX4_tellOfLand_347 ?_
    refine lv_topi (fun v_12 ev_12 => ?_)
    have hw := hw v_12 ev_12
    refine wrp_4_111_1 zc hK hM hS dX4_tellOfLand_348 (fun H locs hM hS => ?_)
    refine lv_aload_n hx hb dX4_tellOfLand_351 rfl (lv_at hl 0 rfl) ?_
    refine lv_dup hx hb dX4_tellOfLand_352 rfl ?_
    refine wrg_4_90_0 zc hK hM dX4_tellOfLand_353 ?_
    refine lv_iconst (v := (1 : Int32)) hx hb dX4_tellOfLand_356 (by decide) ?_
    refine lv_iload_n hx hb dX4_tellOfLand_357 rfl (lv_at hl 2 rfl) ?_
    refine lv_ishl hx hb dX4_tellOfLand_358 ?_
    refine lv_ior hx hb dX4_tellOfLand_359 ?_
    refine lv_topi (fun v_13 ev_13 => ?_)
    have hw := hw v_13 ev_13
    refine wrp_4_90_0 zc hK hM hS dX4_tellOfLand_360 (fun H locs hM hS => ?_)
    refine lv_goto (tgt := 393) hx hb dX4_tellOfLand_363 (by decide) ?_
    exact zret_vw ⟨lf_huts, v_12, lf_villages, lf_dams, lf_echoes, lf_deep, lf_slide, la_heights, la_ladders, la_minutes, la_echoFrom, la_echoTo, la_homes_1, la_talls_1, la_known, v_13, f_singersToldOf⟩ zc hS hw hM dX4_tellOfLand_393
  exact absurd hin (by have h0 := zne hc0; have h1 := zne hc1; have h2 := zne hc2; have h3 := zne hc3; have h4 := zne hc4; have h5 := zne hc5; have h6 := zne hc6; have h7 := zne hc7; have h8 := zne hc8; simp at *; omega)
set_option maxRecDepth 20000 in
theorem c_wr_X4_tellOfLand (l : Launch) {E : zE} {qr qt : Nat} {lf_huts : Int32} {lf_singers : Int32} {lf_villages : Int32} {lf_dams : Int32} {lf_echoes : Int32} {lf_deep : Int32} {lf_slide : Int32} {la_heights : Nat → Int32} {la_ladders : Nat → Int32} {la_minutes : Nat → Int32} {la_echoFrom : Nat → Int32} {la_echoTo : Nat → Int32} {la_homes : Nat → Int32} {la_talls : Nat → Int32} {la_known : Nat → Int32} {vf_deeds : Int32} {va_kinds : Nat → Int32} {va_firsts : Nat → Int32} {va_seconds : Nat → Int32} {sf_facts : Int32} {sa_heard : Nat → Int32} {sa_huts : Nat → Int32} {sa_minutes : Nat → Int32} {cf_voices : Int32} {cf_step : Int32} {ca_parts : Nat → Int32} {ca_heights : Nat → Int32} {f_fault : Int32} {f_faultPlace : Int32} {a_numbers : Nat → Int32} {a_tape : Nat → Int32} {f_length : Int32} {f_behind : Int32} {f_kind : Int32} {f_first : Int32} {f_value : Int32} {f_hutsToldOf : Int32} {f_singersToldOf : Int32} {z_from : Nat → Int32} {x1 : Int32} {x2 : Int32} {x3 : Int32} {x4 : Int32} {post : (Int32) → (Int32) → (Int32) → (Int32) → (Int32) → (Int32) → (Int32) → (Nat → Int32) → (Nat → Int32) → (Nat → Int32) → (Nat → Int32) → (Nat → Int32) → (Nat → Int32) → (Nat → Int32) → (Nat → Int32) → (Int32) → (Int32) → Prop} (hw : q_wr_X4_tellOfLand_0 lf_huts lf_singers lf_villages lf_dams lf_echoes lf_deep lf_slide la_heights la_ladders la_minutes la_echoFrom la_echoTo la_homes la_talls la_known f_hutsToldOf f_singersToldOf x1 x2 x3 x4 post) : Met l yX4_tellOfLand (Cond.code yX4_tellOfLand cX4_tellOfLand 5 none :: zb) rm_wr_X4_tellOfLand (va_Pc [.ref qr, .int x1, .int x2, .int x3, .int x4] (fun U => wrW E qr qt lf_huts lf_singers lf_villages lf_dams lf_echoes lf_deep lf_slide la_heights la_ladders la_minutes la_echoFrom la_echoTo la_homes la_talls la_known vf_deeds va_kinds va_firsts va_seconds sf_facts sa_heard sa_huts sa_minutes cf_voices cf_step ca_parts ca_heights f_fault f_faultPlace a_numbers a_tape f_length f_behind f_kind f_first f_value f_hutsToldOf f_singersToldOf z_from U.heap ∧ zK E U)) (zQv (S := (Int32) × (Int32) × (Int32) × (Int32) × (Int32) × (Int32) × (Int32) × (Nat → Int32) × (Nat → Int32) × (Nat → Int32) × (Nat → Int32) × (Nat → Int32) × (Nat → Int32) × (Nat → Int32) × (Nat → Int32) × (Int32) × (Int32)) (fun u => post u.1 u.2.1 u.2.2.1 u.2.2.2.1 u.2.2.2.2.1 u.2.2.2.2.2.1 u.2.2.2.2.2.2.1 u.2.2.2.2.2.2.2.1 u.2.2.2.2.2.2.2.2.1 u.2.2.2.2.2.2.2.2.2.1 u.2.2.2.2.2.2.2.2.2.2.1 u.2.2.2.2.2.2.2.2.2.2.2.1 u.2.2.2.2.2.2.2.2.2.2.2.2.1 u.2.2.2.2.2.2.2.2.2.2.2.2.2.1 u.2.2.2.2.2.2.2.2.2.2.2.2.2.2.1 u.2.2.2.2.2.2.2.2.2.2.2.2.2.2.2.1 u.2.2.2.2.2.2.2.2.2.2.2.2.2.2.2.2) (fun u H => wrW E qr qt u.1 u.2.1 u.2.2.1 u.2.2.2.1 u.2.2.2.2.1 u.2.2.2.2.2.1 u.2.2.2.2.2.2.1 u.2.2.2.2.2.2.2.1 u.2.2.2.2.2.2.2.2.1 u.2.2.2.2.2.2.2.2.2.1 u.2.2.2.2.2.2.2.2.2.2.1 u.2.2.2.2.2.2.2.2.2.2.2.1 u.2.2.2.2.2.2.2.2.2.2.2.2.1 u.2.2.2.2.2.2.2.2.2.2.2.2.2.1 u.2.2.2.2.2.2.2.2.2.2.2.2.2.2.1 vf_deeds va_kinds va_firsts va_seconds sf_facts sa_heard sa_huts sa_minutes cf_voices cf_step ca_parts ca_heights f_fault f_faultPlace a_numbers a_tape f_length f_behind f_kind f_first f_value u.2.2.2.2.2.2.2.2.2.2.2.2.2.2.2.1 u.2.2.2.2.2.2.2.2.2.2.2.2.2.2.2.2 z_from H) (wrA qr qt)) 0 0 (wrA qr qt) := by
  refine Met.ofW (cc := cX4_tellOfLand) (maxL := 5) (ret := none) (by decide) rfl ?_
  intro p e s m args below meth c s₁ B hml hv
  obtain ⟨rfl, hM, hK⟩ := hv
  have zc := zc_of B hml
  have hl := lv_entry ([.ref qr, .int x1, .int x2, .int x3, .int x4]) (n := 5) (Nat.le_of_ble_eq_true rfl)
  rw [lg_entry_eq]
  generalize (lg_sl ([.ref qr, .int x1, .int x2, .int x3, .int x4]) ++ List.replicate (5 - (lg_sl ([.ref qr, .int x1, .int x2, .int x3, .int x4])).length) Slot.unset).toArray = ls at hl ⊢
  have hl : lv_has ls 5 [(0, .ref qr), (1, .int x1), (2, .int x2), (3, .int x3), (4, .int x4)] := hl
  exact t_wr_X4_tellOfLand_0 zc hK hM va_S.rf (lv_sub hl [0, 1, 2, 3, 4] rfl) hw
-- wr_X4_tell
abbrev rm_wr_X4_tell : Room := { frames := 1, cells := 0, slots := 0, locals := 24 }
def q_wr_X4_tell_71 (lf_huts : Int32) (lf_singers : Int32) (lf_villages : Int32) (lf_dams : Int32) (lf_echoes : Int32) (lf_deep : Int32) (lf_slide : Int32) (la_heights : Nat → Int32) (la_ladders : Nat → Int32) (la_minutes : Nat → Int32) (la_echoFrom : Nat → Int32) (la_echoTo : Nat → Int32) (la_homes : Nat → Int32) (la_talls : Nat → Int32) (la_known : Nat → Int32) (vf_deeds : Int32) (va_kinds : Nat → Int32) (va_firsts : Nat → Int32) (va_seconds : Nat → Int32) (sf_facts : Int32) (sa_heard : Nat → Int32) (sa_huts : Nat → Int32) (sa_minutes : Nat → Int32) (cf_voices : Int32) (cf_step : Int32) (ca_parts : Nat → Int32) (ca_heights : Nat → Int32) (a_numbers : Nat → Int32) (f_hutsToldOf : Int32) (f_singersToldOf : Int32) (y0 : Int32) (y1 : Int32) (y2 : Int32) (post : (Int32) → (Int32) → (Int32) → (Int32) → (Int32) → (Int32) → (Int32) → (Nat → Int32) → (Nat → Int32) → (Nat → Int32) → (Nat → Int32) → (Nat → Int32) → (Nat → Int32) → (Nat → Int32) → (Nat → Int32) → (Int32) → (Nat → Int32) → (Nat → Int32) → (Nat → Int32) → (Int32) → (Nat → Int32) → (Nat → Int32) → (Nat → Int32) → (Int32) → (Int32) → (Nat → Int32) → (Nat → Int32) → (Int32) → (Int32) → Prop) : Prop :=
  q_wr_X1_tell_0 vf_deeds va_kinds va_firsts va_seconds y0 y1 y2 (fun vf_deeds_1 va_kinds_1 va_firsts_1 va_seconds_1 => post lf_huts lf_singers lf_villages lf_dams lf_echoes lf_deep lf_slide la_heights la_ladders la_minutes la_echoFrom la_echoTo la_homes la_talls la_known vf_deeds_1 va_kinds_1 va_firsts_1 va_seconds_1 sf_facts sa_heard sa_huts sa_minutes cf_voices cf_step ca_parts ca_heights f_hutsToldOf f_singersToldOf)
def q_wr_X4_tell_98 (lf_huts : Int32) (lf_singers : Int32) (lf_villages : Int32) (lf_dams : Int32) (lf_echoes : Int32) (lf_deep : Int32) (lf_slide : Int32) (la_heights : Nat → Int32) (la_ladders : Nat → Int32) (la_minutes : Nat → Int32) (la_echoFrom : Nat → Int32) (la_echoTo : Nat → Int32) (la_homes : Nat → Int32) (la_talls : Nat → Int32) (la_known : Nat → Int32) (vf_deeds : Int32) (va_kinds : Nat → Int32) (va_firsts : Nat → Int32) (va_seconds : Nat → Int32) (sf_facts : Int32) (sa_heard : Nat → Int32) (sa_huts : Nat → Int32) (sa_minutes : Nat → Int32) (cf_voices : Int32) (cf_step : Int32) (ca_parts : Nat → Int32) (ca_heights : Nat → Int32) (a_numbers : Nat → Int32) (f_hutsToldOf : Int32) (f_singersToldOf : Int32) (y0 : Int32) (post : (Int32) → (Int32) → (Int32) → (Int32) → (Int32) → (Int32) → (Int32) → (Nat → Int32) → (Nat → Int32) → (Nat → Int32) → (Nat → Int32) → (Nat → Int32) → (Nat → Int32) → (Nat → Int32) → (Nat → Int32) → (Int32) → (Nat → Int32) → (Nat → Int32) → (Nat → Int32) → (Int32) → (Nat → Int32) → (Nat → Int32) → (Nat → Int32) → (Int32) → (Int32) → (Nat → Int32) → (Nat → Int32) → (Int32) → (Int32) → Prop) : Prop :=
  q_wr_X6_tell_0 sf_facts sa_heard sa_huts sa_minutes y0 (a_numbers (Int32.toNatClampNeg (0 : Int32))) (a_numbers (Int32.toNatClampNeg (1 : Int32))) (fun sf_facts_1 sa_heard_1 sa_huts_1 sa_minutes_1 => post lf_huts lf_singers lf_villages lf_dams lf_echoes lf_deep lf_slide la_heights la_ladders la_minutes la_echoFrom la_echoTo la_homes la_talls la_known vf_deeds va_kinds va_firsts va_seconds sf_facts_1 sa_heard_1 sa_huts_1 sa_minutes_1 cf_voices cf_step ca_parts ca_heights f_hutsToldOf f_singersToldOf)
def q_wr_X4_tell_0 (lf_huts : Int32) (lf_singers : Int32) (lf_villages : Int32) (lf_dams : Int32) (lf_echoes : Int32) (lf_deep : Int32) (lf_slide : Int32) (la_heights : Nat → Int32) (la_ladders : Nat → Int32) (la_minutes : Nat → Int32) (la_echoFrom : Nat → Int32) (la_echoTo : Nat → Int32) (la_homes : Nat → Int32) (la_talls : Nat → Int32) (la_known : Nat → Int32) (vf_deeds : Int32) (va_kinds : Nat → Int32) (va_firsts : Nat → Int32) (va_seconds : Nat → Int32) (sf_facts : Int32) (sa_heard : Nat → Int32) (sa_huts : Nat → Int32) (sa_minutes : Nat → Int32) (cf_voices : Int32) (cf_step : Int32) (ca_parts : Nat → Int32) (ca_heights : Nat → Int32) (a_numbers : Nat → Int32) (f_hutsToldOf : Int32) (f_singersToldOf : Int32) (x1 : Int32) (post : (Int32) → (Int32) → (Int32) → (Int32) → (Int32) → (Int32) → (Int32) → (Nat → Int32) → (Nat → Int32) → (Nat → Int32) → (Nat → Int32) → (Nat → Int32) → (Nat → Int32) → (Nat → Int32) → (Nat → Int32) → (Int32) → (Nat → Int32) → (Nat → Int32) → (Nat → Int32) → (Int32) → (Nat → Int32) → (Nat → Int32) → (Nat → Int32) → (Int32) → (Int32) → (Nat → Int32) → (Nat → Int32) → (Int32) → (Int32) → Prop) : Prop :=
  ((10 : Int32) ≤ x1 → (((16 : Int32) ≤ x1 → (((18 : Int32) ≤ x1 → ((¬ x1 = (18 : Int32) → (∀ v_1 : Int32, v_1 = (a_numbers (Int32.toNatClampNeg (0 : Int32))) → (post lf_huts lf_singers lf_villages lf_dams lf_echoes lf_deep lf_slide la_heights la_ladders la_minutes la_echoFrom la_echoTo la_homes la_talls la_known vf_deeds va_kinds va_firsts va_seconds sf_facts sa_heard sa_huts sa_minutes cf_voices v_1 ca_parts ca_heights f_hutsToldOf f_singersToldOf))) ∧ (x1 = (18 : Int32) → (q_wr_X0_tell_0 cf_voices ca_parts ca_heights (a_numbers (Int32.toNatClampNeg (0 : Int32))) (a_numbers (Int32.toNatClampNeg (1 : Int32))) (fun cf_voices_1 ca_parts_1 ca_heights_1 => post lf_huts lf_singers lf_villages lf_dams lf_echoes lf_deep lf_slide la_heights la_ladders la_minutes la_echoFrom la_echoTo la_homes la_talls la_known vf_deeds va_kinds va_firsts va_seconds sf_facts sa_heard sa_huts sa_minutes cf_voices_1 cf_step ca_parts_1 ca_heights_1 f_hutsToldOf f_singersToldOf))))) ∧ (¬ (18 : Int32) ≤ x1 → ((¬ x1 = (16 : Int32) → (q_wr_X4_tell_98 lf_huts lf_singers lf_villages lf_dams lf_echoes lf_deep lf_slide la_heights la_ladders la_minutes la_echoFrom la_echoTo la_homes la_talls la_known vf_deeds va_kinds va_firsts va_seconds sf_facts sa_heard sa_huts sa_minutes cf_voices cf_step ca_parts ca_heights a_numbers f_hutsToldOf f_singersToldOf (0 : Int32) post)) ∧ (x1 = (16 : Int32) → (q_wr_X4_tell_98 lf_huts lf_singers lf_villages lf_dams lf_echoes lf_deep lf_slide la_heights la_ladders la_minutes la_echoFrom la_echoTo la_homes la_talls la_known vf_deeds va_kinds va_firsts va_seconds sf_facts sa_heard sa_huts sa_minutes cf_voices cf_step ca_parts ca_heights a_numbers f_hutsToldOf f_singersToldOf (1 : Int32) post)))))) ∧ (¬ (16 : Int32) ≤ x1 → (vp_in x1 20 ∧ (((tbf_1 (Int32.toNatClampNeg x1)) ≤ (1 : Int32) → (q_wr_X4_tell_71 lf_huts lf_singers lf_villages lf_dams lf_echoes lf_deep lf_slide la_heights la_ladders la_minutes la_echoFrom la_echoTo la_homes la_talls la_known vf_deeds va_kinds va_firsts va_seconds sf_facts sa_heard sa_huts sa_minutes cf_voices cf_step ca_parts ca_heights a_numbers f_hutsToldOf f_singersToldOf (x1 - (10 : Int32)) (a_numbers (Int32.toNatClampNeg (0 : Int32))) (-1 : Int32) post)) ∧ (¬ (tbf_1 (Int32.toNatClampNeg x1)) ≤ (1 : Int32) → (q_wr_X4_tell_71 lf_huts lf_singers lf_villages lf_dams lf_echoes lf_deep lf_slide la_heights la_ladders la_minutes la_echoFrom la_echoTo la_homes la_talls la_known vf_deeds va_kinds va_firsts va_seconds sf_facts sa_heard sa_huts sa_minutes cf_voices cf_step ca_parts ca_heights a_numbers f_hutsToldOf f_singersToldOf (x1 - (10 : Int32)) (a_numbers (Int32.toNatClampNeg (0 : Int32))) (a_numbers (Int32.toNatClampNeg (1 : Int32))) post))))))) ∧ (¬ (10 : Int32) ≤ x1 → (q_wr_X4_tellOfLand_0 lf_huts lf_singers lf_villages lf_dams lf_echoes lf_deep lf_slide la_heights la_ladders la_minutes la_echoFrom la_echoTo la_homes la_talls la_known f_hutsToldOf f_singersToldOf x1 (a_numbers (Int32.toNatClampNeg (0 : Int32))) (a_numbers (Int32.toNatClampNeg (1 : Int32))) (a_numbers (Int32.toNatClampNeg (2 : Int32))) (fun lf_huts_1 lf_singers_1 lf_villages_1 lf_dams_1 lf_echoes_1 lf_deep_1 lf_slide_1 la_heights_1 la_ladders_1 la_minutes_1 la_echoFrom_1 la_echoTo_1 la_homes_1 la_talls_1 la_known_1 f_hutsToldOf_1 f_singersToldOf_1 => post lf_huts_1 lf_singers_1 lf_villages_1 lf_dams_1 lf_echoes_1 lf_deep_1 lf_slide_1 la_heights_1 la_ladders_1 la_minutes_1 la_echoFrom_1 la_echoTo_1 la_homes_1 la_talls_1 la_known_1 vf_deeds va_kinds va_firsts va_seconds sf_facts sa_heard sa_huts sa_minutes cf_voices cf_step ca_parts ca_heights f_hutsToldOf_1 f_singersToldOf_1)))
set_option maxRecDepth 20000 in
theorem t_wr_X4_tell_71 {p : Program} {l : Launch} {e : Env} {s : State} {m : MethodId} {args : Array Value} {below : List Frame} {meth : Method} {c : Code} {G : zG} {E : zE} {qr qt : Nat} {lf_huts : Int32} {lf_singers : Int32} {lf_villages : Int32} {lf_dams : Int32} {lf_echoes : Int32} {lf_deep : Int32} {lf_slide : Int32} {la_heights : Nat → Int32} {la_ladders : Nat → Int32} {la_minutes : Nat → Int32} {la_echoFrom : Nat → Int32} {la_echoTo : Nat → Int32} {la_homes : Nat → Int32} {la_talls : Nat → Int32} {la_known : Nat → Int32} {vf_deeds : Int32} {va_kinds : Nat → Int32} {va_firsts : Nat → Int32} {va_seconds : Nat → Int32} {sf_facts : Int32} {sa_heard : Nat → Int32} {sa_huts : Nat → Int32} {sa_minutes : Nat → Int32} {cf_voices : Int32} {cf_step : Int32} {ca_parts : Nat → Int32} {ca_heights : Nat → Int32} {f_fault : Int32} {f_faultPlace : Int32} {a_numbers : Nat → Int32} {a_tape : Nat → Int32} {f_length : Int32} {f_behind : Int32} {f_kind : Int32} {f_first : Int32} {f_value : Int32} {f_hutsToldOf : Int32} {f_singersToldOf : Int32} {z_from : Nat → Int32} {post : (Int32) → (Int32) → (Int32) → (Int32) → (Int32) → (Int32) → (Int32) → (Nat → Int32) → (Nat → Int32) → (Nat → Int32) → (Nat → Int32) → (Nat → Int32) → (Nat → Int32) → (Nat → Int32) → (Nat → Int32) → (Int32) → (Nat → Int32) → (Nat → Int32) → (Nat → Int32) → (Int32) → (Nat → Int32) → (Nat → Int32) → (Nat → Int32) → (Int32) → (Int32) → (Nat → Int32) → (Nat → Int32) → (Int32) → (Int32) → Prop} {y0 : Int32} {y1 : Int32} {y2 : Int32} {ls : Array Slot} {H : Heap} {locs : List Loc}
    (zc : zC p s m args meth c cX4_tell 2 RX4 none)
    (hK : zK E s)
    (hM : wrW E qr qt lf_huts lf_singers lf_villages lf_dams lf_echoes lf_deep lf_slide la_heights la_ladders la_minutes la_echoFrom la_echoTo la_homes la_talls la_known vf_deeds va_kinds va_firsts va_seconds sf_facts sa_heard sa_huts sa_minutes cf_voices cf_step ca_parts ca_heights f_fault f_faultPlace a_numbers a_tape f_length f_behind f_kind f_first f_value f_hutsToldOf f_singersToldOf z_from H)
    (hZ : zZ G (wrA qr qt) s s.heap)
    (hS : va_S (wrA qr qt) s.heap H locs)
    (hl : lv_has ls 2 [])
    (hw : q_wr_X4_tell_71 lf_huts lf_singers lf_villages lf_dams lf_echoes lf_deep lf_slide la_heights la_ladders la_minutes la_echoFrom la_echoTo la_homes la_talls la_known vf_deeds va_kinds va_firsts va_seconds sf_facts sa_heard sa_huts sa_minutes cf_voices cf_step ca_parts ca_heights a_numbers f_hutsToldOf f_singersToldOf y0 y1 y2 post) :
    W p l e rm_wr_X4_tell s m args below meth c H locs 0 0 (MQ below (zQv (S := (Int32) × (Int32) × (Int32) × (Int32) × (Int32) × (Int32) × (Int32) × (Nat → Int32) × (Nat → Int32) × (Nat → Int32) × (Nat → Int32) × (Nat → Int32) × (Nat → Int32) × (Nat → Int32) × (Nat → Int32) × (Int32) × (Nat → Int32) × (Nat → Int32) × (Nat → Int32) × (Int32) × (Nat → Int32) × (Nat → Int32) × (Nat → Int32) × (Int32) × (Int32) × (Nat → Int32) × (Nat → Int32) × (Int32) × (Int32)) (fun u => post u.1 u.2.1 u.2.2.1 u.2.2.2.1 u.2.2.2.2.1 u.2.2.2.2.2.1 u.2.2.2.2.2.2.1 u.2.2.2.2.2.2.2.1 u.2.2.2.2.2.2.2.2.1 u.2.2.2.2.2.2.2.2.2.1 u.2.2.2.2.2.2.2.2.2.2.1 u.2.2.2.2.2.2.2.2.2.2.2.1 u.2.2.2.2.2.2.2.2.2.2.2.2.1 u.2.2.2.2.2.2.2.2.2.2.2.2.2.1 u.2.2.2.2.2.2.2.2.2.2.2.2.2.2.1 u.2.2.2.2.2.2.2.2.2.2.2.2.2.2.2.1 u.2.2.2.2.2.2.2.2.2.2.2.2.2.2.2.2.1 u.2.2.2.2.2.2.2.2.2.2.2.2.2.2.2.2.2.1 u.2.2.2.2.2.2.2.2.2.2.2.2.2.2.2.2.2.2.1 u.2.2.2.2.2.2.2.2.2.2.2.2.2.2.2.2.2.2.2.1 u.2.2.2.2.2.2.2.2.2.2.2.2.2.2.2.2.2.2.2.2.1 u.2.2.2.2.2.2.2.2.2.2.2.2.2.2.2.2.2.2.2.2.2.1 u.2.2.2.2.2.2.2.2.2.2.2.2.2.2.2.2.2.2.2.2.2.2.1 u.2.2.2.2.2.2.2.2.2.2.2.2.2.2.2.2.2.2.2.2.2.2.2.1 u.2.2.2.2.2.2.2.2.2.2.2.2.2.2.2.2.2.2.2.2.2.2.2.2.1 u.2.2.2.2.2.2.2.2.2.2.2.2.2.2.2.2.2.2.2.2.2.2.2.2.2.1 u.2.2.2.2.2.2.2.2.2.2.2.2.2.2.2.2.2.2.2.2.2.2.2.2.2.2.1 u.2.2.2.2.2.2.2.2.2.2.2.2.2.2.2.2.2.2.2.2.2.2.2.2.2.2.2.1 u.2.2.2.2.2.2.2.2.2.2.2.2.2.2.2.2.2.2.2.2.2.2.2.2.2.2.2.2) (fun u H => wrW E qr qt u.1 u.2.1 u.2.2.1 u.2.2.2.1 u.2.2.2.2.1 u.2.2.2.2.2.1 u.2.2.2.2.2.2.1 u.2.2.2.2.2.2.2.1 u.2.2.2.2.2.2.2.2.1 u.2.2.2.2.2.2.2.2.2.1 u.2.2.2.2.2.2.2.2.2.2.1 u.2.2.2.2.2.2.2.2.2.2.2.1 u.2.2.2.2.2.2.2.2.2.2.2.2.1 u.2.2.2.2.2.2.2.2.2.2.2.2.2.1 u.2.2.2.2.2.2.2.2.2.2.2.2.2.2.1 u.2.2.2.2.2.2.2.2.2.2.2.2.2.2.2.1 u.2.2.2.2.2.2.2.2.2.2.2.2.2.2.2.2.1 u.2.2.2.2.2.2.2.2.2.2.2.2.2.2.2.2.2.1 u.2.2.2.2.2.2.2.2.2.2.2.2.2.2.2.2.2.2.1 u.2.2.2.2.2.2.2.2.2.2.2.2.2.2.2.2.2.2.2.1 u.2.2.2.2.2.2.2.2.2.2.2.2.2.2.2.2.2.2.2.2.1 u.2.2.2.2.2.2.2.2.2.2.2.2.2.2.2.2.2.2.2.2.2.1 u.2.2.2.2.2.2.2.2.2.2.2.2.2.2.2.2.2.2.2.2.2.2.1 u.2.2.2.2.2.2.2.2.2.2.2.2.2.2.2.2.2.2.2.2.2.2.2.1 u.2.2.2.2.2.2.2.2.2.2.2.2.2.2.2.2.2.2.2.2.2.2.2.2.1 u.2.2.2.2.2.2.2.2.2.2.2.2.2.2.2.2.2.2.2.2.2.2.2.2.2.1 u.2.2.2.2.2.2.2.2.2.2.2.2.2.2.2.2.2.2.2.2.2.2.2.2.2.2.1 f_fault f_faultPlace a_numbers a_tape f_length f_behind f_kind f_first f_value u.2.2.2.2.2.2.2.2.2.2.2.2.2.2.2.2.2.2.2.2.2.2.2.2.2.2.2.1 u.2.2.2.2.2.2.2.2.2.2.2.2.2.2.2.2.2.2.2.2.2.2.2.2.2.2.2.2 z_from H) (wrA qr qt)) args s 0 0 (wrA qr qt)) (F0 m 71 ls [.int y2, .int y1, .int y0, .ref (qr + 10)]) := by
  have hx := zc.1
  have hb := zc.2.1
  refine zVw_v [.int y0, .int y1, .int y2] [] zc ky_X1_tell kz_X1_tell km_4_154 (c_wr_X1_tell l hw) (wrPreV10 hK hM) hS rfl rfl hl.1 (Nat.le_of_ble_eq_true rfl) ⟨rfl, rfl⟩ ⟨Nat.le_of_ble_eq_true rfl, Nat.le_of_ble_eq_true rfl⟩ ⟨(Nat.zero_le _), (Nat.zero_le _)⟩ dX4_tell_71 (fun u H locs hw hM hS => ?_)
  obtain ⟨vf_deeds_1, va_kinds_1, va_firsts_1, va_seconds_1⟩ := u
  refine lv_goto (tgt := 157) hx hb dX4_tell_74 (by decide) ?_
  exact zret_vw ⟨lf_huts, lf_singers, lf_villages, lf_dams, lf_echoes, lf_deep, lf_slide, la_heights, la_ladders, la_minutes, la_echoFrom, la_echoTo, la_homes, la_talls, la_known, vf_deeds_1, va_kinds_1, va_firsts_1, va_seconds_1, sf_facts, sa_heard, sa_huts, sa_minutes, cf_voices, cf_step, ca_parts, ca_heights, f_hutsToldOf, f_singersToldOf⟩ zc hS hw hM dX4_tell_157
set_option maxRecDepth 20000 in
theorem t_wr_X4_tell_98 {p : Program} {l : Launch} {e : Env} {s : State} {m : MethodId} {args : Array Value} {below : List Frame} {meth : Method} {c : Code} {G : zG} {E : zE} {qr qt : Nat} {lf_huts : Int32} {lf_singers : Int32} {lf_villages : Int32} {lf_dams : Int32} {lf_echoes : Int32} {lf_deep : Int32} {lf_slide : Int32} {la_heights : Nat → Int32} {la_ladders : Nat → Int32} {la_minutes : Nat → Int32} {la_echoFrom : Nat → Int32} {la_echoTo : Nat → Int32} {la_homes : Nat → Int32} {la_talls : Nat → Int32} {la_known : Nat → Int32} {vf_deeds : Int32} {va_kinds : Nat → Int32} {va_firsts : Nat → Int32} {va_seconds : Nat → Int32} {sf_facts : Int32} {sa_heard : Nat → Int32} {sa_huts : Nat → Int32} {sa_minutes : Nat → Int32} {cf_voices : Int32} {cf_step : Int32} {ca_parts : Nat → Int32} {ca_heights : Nat → Int32} {f_fault : Int32} {f_faultPlace : Int32} {a_numbers : Nat → Int32} {a_tape : Nat → Int32} {f_length : Int32} {f_behind : Int32} {f_kind : Int32} {f_first : Int32} {f_value : Int32} {f_hutsToldOf : Int32} {f_singersToldOf : Int32} {z_from : Nat → Int32} {post : (Int32) → (Int32) → (Int32) → (Int32) → (Int32) → (Int32) → (Int32) → (Nat → Int32) → (Nat → Int32) → (Nat → Int32) → (Nat → Int32) → (Nat → Int32) → (Nat → Int32) → (Nat → Int32) → (Nat → Int32) → (Int32) → (Nat → Int32) → (Nat → Int32) → (Nat → Int32) → (Int32) → (Nat → Int32) → (Nat → Int32) → (Nat → Int32) → (Int32) → (Int32) → (Nat → Int32) → (Nat → Int32) → (Int32) → (Int32) → Prop} {y0 : Int32} {ls : Array Slot} {H : Heap} {locs : List Loc}
    (zc : zC p s m args meth c cX4_tell 2 RX4 none)
    (hK : zK E s)
    (hM : wrW E qr qt lf_huts lf_singers lf_villages lf_dams lf_echoes lf_deep lf_slide la_heights la_ladders la_minutes la_echoFrom la_echoTo la_homes la_talls la_known vf_deeds va_kinds va_firsts va_seconds sf_facts sa_heard sa_huts sa_minutes cf_voices cf_step ca_parts ca_heights f_fault f_faultPlace a_numbers a_tape f_length f_behind f_kind f_first f_value f_hutsToldOf f_singersToldOf z_from H)
    (hZ : zZ G (wrA qr qt) s s.heap)
    (hS : va_S (wrA qr qt) s.heap H locs)
    (hl : lv_has ls 2 [(0, .ref qr)])
    (hw : q_wr_X4_tell_98 lf_huts lf_singers lf_villages lf_dams lf_echoes lf_deep lf_slide la_heights la_ladders la_minutes la_echoFrom la_echoTo la_homes la_talls la_known vf_deeds va_kinds va_firsts va_seconds sf_facts sa_heard sa_huts sa_minutes cf_voices cf_step ca_parts ca_heights a_numbers f_hutsToldOf f_singersToldOf y0 post) :
    W p l e rm_wr_X4_tell s m args below meth c H locs 0 0 (MQ below (zQv (S := (Int32) × (Int32) × (Int32) × (Int32) × (Int32) × (Int32) × (Int32) × (Nat → Int32) × (Nat → Int32) × (Nat → Int32) × (Nat → Int32) × (Nat → Int32) × (Nat → Int32) × (Nat → Int32) × (Nat → Int32) × (Int32) × (Nat → Int32) × (Nat → Int32) × (Nat → Int32) × (Int32) × (Nat → Int32) × (Nat → Int32) × (Nat → Int32) × (Int32) × (Int32) × (Nat → Int32) × (Nat → Int32) × (Int32) × (Int32)) (fun u => post u.1 u.2.1 u.2.2.1 u.2.2.2.1 u.2.2.2.2.1 u.2.2.2.2.2.1 u.2.2.2.2.2.2.1 u.2.2.2.2.2.2.2.1 u.2.2.2.2.2.2.2.2.1 u.2.2.2.2.2.2.2.2.2.1 u.2.2.2.2.2.2.2.2.2.2.1 u.2.2.2.2.2.2.2.2.2.2.2.1 u.2.2.2.2.2.2.2.2.2.2.2.2.1 u.2.2.2.2.2.2.2.2.2.2.2.2.2.1 u.2.2.2.2.2.2.2.2.2.2.2.2.2.2.1 u.2.2.2.2.2.2.2.2.2.2.2.2.2.2.2.1 u.2.2.2.2.2.2.2.2.2.2.2.2.2.2.2.2.1 u.2.2.2.2.2.2.2.2.2.2.2.2.2.2.2.2.2.1 u.2.2.2.2.2.2.2.2.2.2.2.2.2.2.2.2.2.2.1 u.2.2.2.2.2.2.2.2.2.2.2.2.2.2.2.2.2.2.2.1 u.2.2.2.2.2.2.2.2.2.2.2.2.2.2.2.2.2.2.2.2.1 u.2.2.2.2.2.2.2.2.2.2.2.2.2.2.2.2.2.2.2.2.2.1 u.2.2.2.2.2.2.2.2.2.2.2.2.2.2.2.2.2.2.2.2.2.2.1 u.2.2.2.2.2.2.2.2.2.2.2.2.2.2.2.2.2.2.2.2.2.2.2.1 u.2.2.2.2.2.2.2.2.2.2.2.2.2.2.2.2.2.2.2.2.2.2.2.2.1 u.2.2.2.2.2.2.2.2.2.2.2.2.2.2.2.2.2.2.2.2.2.2.2.2.2.1 u.2.2.2.2.2.2.2.2.2.2.2.2.2.2.2.2.2.2.2.2.2.2.2.2.2.2.1 u.2.2.2.2.2.2.2.2.2.2.2.2.2.2.2.2.2.2.2.2.2.2.2.2.2.2.2.1 u.2.2.2.2.2.2.2.2.2.2.2.2.2.2.2.2.2.2.2.2.2.2.2.2.2.2.2.2) (fun u H => wrW E qr qt u.1 u.2.1 u.2.2.1 u.2.2.2.1 u.2.2.2.2.1 u.2.2.2.2.2.1 u.2.2.2.2.2.2.1 u.2.2.2.2.2.2.2.1 u.2.2.2.2.2.2.2.2.1 u.2.2.2.2.2.2.2.2.2.1 u.2.2.2.2.2.2.2.2.2.2.1 u.2.2.2.2.2.2.2.2.2.2.2.1 u.2.2.2.2.2.2.2.2.2.2.2.2.1 u.2.2.2.2.2.2.2.2.2.2.2.2.2.1 u.2.2.2.2.2.2.2.2.2.2.2.2.2.2.1 u.2.2.2.2.2.2.2.2.2.2.2.2.2.2.2.1 u.2.2.2.2.2.2.2.2.2.2.2.2.2.2.2.2.1 u.2.2.2.2.2.2.2.2.2.2.2.2.2.2.2.2.2.1 u.2.2.2.2.2.2.2.2.2.2.2.2.2.2.2.2.2.2.1 u.2.2.2.2.2.2.2.2.2.2.2.2.2.2.2.2.2.2.2.1 u.2.2.2.2.2.2.2.2.2.2.2.2.2.2.2.2.2.2.2.2.1 u.2.2.2.2.2.2.2.2.2.2.2.2.2.2.2.2.2.2.2.2.2.1 u.2.2.2.2.2.2.2.2.2.2.2.2.2.2.2.2.2.2.2.2.2.2.1 u.2.2.2.2.2.2.2.2.2.2.2.2.2.2.2.2.2.2.2.2.2.2.2.1 u.2.2.2.2.2.2.2.2.2.2.2.2.2.2.2.2.2.2.2.2.2.2.2.2.1 u.2.2.2.2.2.2.2.2.2.2.2.2.2.2.2.2.2.2.2.2.2.2.2.2.2.1 u.2.2.2.2.2.2.2.2.2.2.2.2.2.2.2.2.2.2.2.2.2.2.2.2.2.2.1 f_fault f_faultPlace a_numbers a_tape f_length f_behind f_kind f_first f_value u.2.2.2.2.2.2.2.2.2.2.2.2.2.2.2.2.2.2.2.2.2.2.2.2.2.2.2.1 u.2.2.2.2.2.2.2.2.2.2.2.2.2.2.2.2.2.2.2.2.2.2.2.2.2.2.2.2 z_from H) (wrA qr qt)) args s 0 0 (wrA qr qt)) (F0 m 98 ls [.int y0, .ref (qr + 14)]) := by
  have hx := zc.1
  have hb := zc.2.1
  refine lv_aload_n hx hb dX4_tell_98 rfl (lv_at hl 0 rfl) ?_
  refine wrg_4_43_0 zc hK hM dX4_tell_99 ?_
  refine lv_iconst (v := (0 : Int32)) hx hb dX4_tell_102 (by decide) ?_
  refine wrld_21 zc hK hM (by unfold vp_in; decide) dX4_tell_103 ?_
  refine lv_aload_n hx hb dX4_tell_104 rfl (lv_at hl 0 rfl) ?_
  refine wrg_4_43_0 zc hK hM dX4_tell_105 ?_
  refine lv_iconst (v := (1 : Int32)) hx hb dX4_tell_108 (by decide) ?_
  refine wrld_21 zc hK hM (by unfold vp_in; decide) dX4_tell_109 ?_
  refine zVw_v [.int y0, .int (a_numbers (Int32.toNatClampNeg (0 : Int32))), .int (a_numbers (Int32.toNatClampNeg (1 : Int32)))] [] zc ky_X6_tell kz_X6_tell km_4_157 (c_wr_X6_tell l hw) (wrPreV14 hK hM) hS rfl rfl hl.1 (Nat.le_of_ble_eq_true rfl) ⟨rfl, rfl⟩ ⟨Nat.le_of_ble_eq_true rfl, Nat.le_of_ble_eq_true rfl⟩ ⟨(Nat.zero_le _), (Nat.zero_le _)⟩ dX4_tell_110 (fun u H locs hw hM hS => ?_)
  obtain ⟨sf_facts_1, sa_heard_1, sa_huts_1, sa_minutes_1⟩ := u
  refine lv_goto (tgt := 157) hx hb dX4_tell_113 (by decide) ?_
  exact zret_vw ⟨lf_huts, lf_singers, lf_villages, lf_dams, lf_echoes, lf_deep, lf_slide, la_heights, la_ladders, la_minutes, la_echoFrom, la_echoTo, la_homes, la_talls, la_known, vf_deeds, va_kinds, va_firsts, va_seconds, sf_facts_1, sa_heard_1, sa_huts_1, sa_minutes_1, cf_voices, cf_step, ca_parts, ca_heights, f_hutsToldOf, f_singersToldOf⟩ zc hS hw hM dX4_tell_157
set_option maxRecDepth 20000 in
theorem t_wr_X4_tell_0 {p : Program} {l : Launch} {e : Env} {s : State} {m : MethodId} {args : Array Value} {below : List Frame} {meth : Method} {c : Code} {G : zG} {E : zE} {qr qt : Nat} {lf_huts : Int32} {lf_singers : Int32} {lf_villages : Int32} {lf_dams : Int32} {lf_echoes : Int32} {lf_deep : Int32} {lf_slide : Int32} {la_heights : Nat → Int32} {la_ladders : Nat → Int32} {la_minutes : Nat → Int32} {la_echoFrom : Nat → Int32} {la_echoTo : Nat → Int32} {la_homes : Nat → Int32} {la_talls : Nat → Int32} {la_known : Nat → Int32} {vf_deeds : Int32} {va_kinds : Nat → Int32} {va_firsts : Nat → Int32} {va_seconds : Nat → Int32} {sf_facts : Int32} {sa_heard : Nat → Int32} {sa_huts : Nat → Int32} {sa_minutes : Nat → Int32} {cf_voices : Int32} {cf_step : Int32} {ca_parts : Nat → Int32} {ca_heights : Nat → Int32} {f_fault : Int32} {f_faultPlace : Int32} {a_numbers : Nat → Int32} {a_tape : Nat → Int32} {f_length : Int32} {f_behind : Int32} {f_kind : Int32} {f_first : Int32} {f_value : Int32} {f_hutsToldOf : Int32} {f_singersToldOf : Int32} {z_from : Nat → Int32} {post : (Int32) → (Int32) → (Int32) → (Int32) → (Int32) → (Int32) → (Int32) → (Nat → Int32) → (Nat → Int32) → (Nat → Int32) → (Nat → Int32) → (Nat → Int32) → (Nat → Int32) → (Nat → Int32) → (Nat → Int32) → (Int32) → (Nat → Int32) → (Nat → Int32) → (Nat → Int32) → (Int32) → (Nat → Int32) → (Nat → Int32) → (Nat → Int32) → (Int32) → (Int32) → (Nat → Int32) → (Nat → Int32) → (Int32) → (Int32) → Prop} {x1 : Int32} {ls : Array Slot} {H : Heap} {locs : List Loc}
    (zc : zC p s m args meth c cX4_tell 2 RX4 none)
    (hK : zK E s)
    (hM : wrW E qr qt lf_huts lf_singers lf_villages lf_dams lf_echoes lf_deep lf_slide la_heights la_ladders la_minutes la_echoFrom la_echoTo la_homes la_talls la_known vf_deeds va_kinds va_firsts va_seconds sf_facts sa_heard sa_huts sa_minutes cf_voices cf_step ca_parts ca_heights f_fault f_faultPlace a_numbers a_tape f_length f_behind f_kind f_first f_value f_hutsToldOf f_singersToldOf z_from H)
    (hZ : zZ G (wrA qr qt) s s.heap)
    (hS : va_S (wrA qr qt) s.heap H locs)
    (hl : lv_has ls 2 [(0, .ref qr), (1, .int x1)])
    (hw : q_wr_X4_tell_0 lf_huts lf_singers lf_villages lf_dams lf_echoes lf_deep lf_slide la_heights la_ladders la_minutes la_echoFrom la_echoTo la_homes la_talls la_known vf_deeds va_kinds va_firsts va_seconds sf_facts sa_heard sa_huts sa_minutes cf_voices cf_step ca_parts ca_heights a_numbers f_hutsToldOf f_singersToldOf x1 post) :
    W p l e rm_wr_X4_tell s m args below meth c H locs 0 0 (MQ below (zQv (S := (Int32) × (Int32) × (Int32) × (Int32) × (Int32) × (Int32) × (Int32) × (Nat → Int32) × (Nat → Int32) × (Nat → Int32) × (Nat → Int32) × (Nat → Int32) × (Nat → Int32) × (Nat → Int32) × (Nat → Int32) × (Int32) × (Nat → Int32) × (Nat → Int32) × (Nat → Int32) × (Int32) × (Nat → Int32) × (Nat → Int32) × (Nat → Int32) × (Int32) × (Int32) × (Nat → Int32) × (Nat → Int32) × (Int32) × (Int32)) (fun u => post u.1 u.2.1 u.2.2.1 u.2.2.2.1 u.2.2.2.2.1 u.2.2.2.2.2.1 u.2.2.2.2.2.2.1 u.2.2.2.2.2.2.2.1 u.2.2.2.2.2.2.2.2.1 u.2.2.2.2.2.2.2.2.2.1 u.2.2.2.2.2.2.2.2.2.2.1 u.2.2.2.2.2.2.2.2.2.2.2.1 u.2.2.2.2.2.2.2.2.2.2.2.2.1 u.2.2.2.2.2.2.2.2.2.2.2.2.2.1 u.2.2.2.2.2.2.2.2.2.2.2.2.2.2.1 u.2.2.2.2.2.2.2.2.2.2.2.2.2.2.2.1 u.2.2.2.2.2.2.2.2.2.2.2.2.2.2.2.2.1 u.2.2.2.2.2.2.2.2.2.2.2.2.2.2.2.2.2.1 u.2.2.2.2.2.2.2.2.2.2.2.2.2.2.2.2.2.2.1 u.2.2.2.2.2.2.2.2.2.2.2.2.2.2.2.2.2.2.2.1 u.2.2.2.2.2.2.2.2.2.2.2.2.2.2.2.2.2.2.2.2.1 u.2.2.2.2.2.2.2.2.2.2.2.2.2.2.2.2.2.2.2.2.2.1 u.2.2.2.2.2.2.2.2.2.2.2.2.2.2.2.2.2.2.2.2.2.2.1 u.2.2.2.2.2.2.2.2.2.2.2.2.2.2.2.2.2.2.2.2.2.2.2.1 u.2.2.2.2.2.2.2.2.2.2.2.2.2.2.2.2.2.2.2.2.2.2.2.2.1 u.2.2.2.2.2.2.2.2.2.2.2.2.2.2.2.2.2.2.2.2.2.2.2.2.2.1 u.2.2.2.2.2.2.2.2.2.2.2.2.2.2.2.2.2.2.2.2.2.2.2.2.2.2.1 u.2.2.2.2.2.2.2.2.2.2.2.2.2.2.2.2.2.2.2.2.2.2.2.2.2.2.2.1 u.2.2.2.2.2.2.2.2.2.2.2.2.2.2.2.2.2.2.2.2.2.2.2.2.2.2.2.2) (fun u H => wrW E qr qt u.1 u.2.1 u.2.2.1 u.2.2.2.1 u.2.2.2.2.1 u.2.2.2.2.2.1 u.2.2.2.2.2.2.1 u.2.2.2.2.2.2.2.1 u.2.2.2.2.2.2.2.2.1 u.2.2.2.2.2.2.2.2.2.1 u.2.2.2.2.2.2.2.2.2.2.1 u.2.2.2.2.2.2.2.2.2.2.2.1 u.2.2.2.2.2.2.2.2.2.2.2.2.1 u.2.2.2.2.2.2.2.2.2.2.2.2.2.1 u.2.2.2.2.2.2.2.2.2.2.2.2.2.2.1 u.2.2.2.2.2.2.2.2.2.2.2.2.2.2.2.1 u.2.2.2.2.2.2.2.2.2.2.2.2.2.2.2.2.1 u.2.2.2.2.2.2.2.2.2.2.2.2.2.2.2.2.2.1 u.2.2.2.2.2.2.2.2.2.2.2.2.2.2.2.2.2.2.1 u.2.2.2.2.2.2.2.2.2.2.2.2.2.2.2.2.2.2.2.1 u.2.2.2.2.2.2.2.2.2.2.2.2.2.2.2.2.2.2.2.2.1 u.2.2.2.2.2.2.2.2.2.2.2.2.2.2.2.2.2.2.2.2.2.1 u.2.2.2.2.2.2.2.2.2.2.2.2.2.2.2.2.2.2.2.2.2.2.1 u.2.2.2.2.2.2.2.2.2.2.2.2.2.2.2.2.2.2.2.2.2.2.2.1 u.2.2.2.2.2.2.2.2.2.2.2.2.2.2.2.2.2.2.2.2.2.2.2.2.1 u.2.2.2.2.2.2.2.2.2.2.2.2.2.2.2.2.2.2.2.2.2.2.2.2.2.1 u.2.2.2.2.2.2.2.2.2.2.2.2.2.2.2.2.2.2.2.2.2.2.2.2.2.2.1 f_fault f_faultPlace a_numbers a_tape f_length f_behind f_kind f_first f_value u.2.2.2.2.2.2.2.2.2.2.2.2.2.2.2.2.2.2.2.2.2.2.2.2.2.2.2.1 u.2.2.2.2.2.2.2.2.2.2.2.2.2.2.2.2.2.2.2.2.2.2.2.2.2.2.2.2 z_from H) (wrA qr qt)) args s 0 0 (wrA qr qt)) (F0 m 0 ls []) := by
  have hx := zc.1
  have hb := zc.2.1
  refine lv_iload_n hx hb dX4_tell_0 rfl (lv_at hl 1 rfl) ?_
  refine lv_bipush (v := (10 : Int32)) hx hb dX4_tell_1 (by decide) ?_
  refine lv_icmp_ge (tgt := 32) hx hb dX4_tell_3 (by decide) (fun hc => ?_) (fun hc => ?_)
  · have hw := hw.1 hc
    refine lv_iload_n hx hb dX4_tell_32 rfl (lv_at hl 1 rfl) ?_
    refine lv_bipush (v := (16 : Int32)) hx hb dX4_tell_33 (by decide) ?_
    refine lv_icmp_ge (tgt := 77) hx hb dX4_tell_35 (by decide) (fun hc => ?_) (fun hc => ?_)
    · have hw := hw.1 hc
      refine lv_iload_n hx hb dX4_tell_77 rfl (lv_at hl 1 rfl) ?_
      refine lv_bipush (v := (18 : Int32)) hx hb dX4_tell_78 (by decide) ?_
      refine lv_icmp_ge (tgt := 116) hx hb dX4_tell_80 (by decide) (fun hc => ?_) (fun hc => ?_)
      · have hw := hw.1 hc
        refine lv_iload_n hx hb dX4_tell_116 rfl (lv_at hl 1 rfl) ?_
        refine lv_bipush (v := (18 : Int32)) hx hb dX4_tell_117 (by decide) ?_
        refine lv_icmp_ne (tgt := 144) hx hb dX4_tell_119 (by decide) (fun hc => ?_) (fun hc => ?_)
        · have hw := hw.1 hc
          refine lv_aload_n hx hb dX4_tell_144 rfl (lv_at hl 0 rfl) ?_
          refine wrg_4_35_0 zc hK hM dX4_tell_145 ?_
          refine lv_aload_n hx hb dX4_tell_148 rfl (lv_at hl 0 rfl) ?_
          refine wrg_4_43_0 zc hK hM dX4_tell_149 ?_
          refine lv_iconst (v := (0 : Int32)) hx hb dX4_tell_152 (by decide) ?_
          refine wrld_21 zc hK hM (by unfold vp_in; decide) dX4_tell_153 ?_
          refine lv_topi (fun v_1 ev_1 => ?_)
          have hw := hw v_1 ev_1
          refine wrp_4_105_18 zc hK hM hS dX4_tell_154 (fun H locs hM hS => ?_)
          exact zret_vw ⟨lf_huts, lf_singers, lf_villages, lf_dams, lf_echoes, lf_deep, lf_slide, la_heights, la_ladders, la_minutes, la_echoFrom, la_echoTo, la_homes, la_talls, la_known, vf_deeds, va_kinds, va_firsts, va_seconds, sf_facts, sa_heard, sa_huts, sa_minutes, cf_voices, v_1, ca_parts, ca_heights, f_hutsToldOf, f_singersToldOf⟩ zc hS hw hM dX4_tell_157
        · have hw := hw.2 hc
          refine lv_aload_n hx hb dX4_tell_122 rfl (lv_at hl 0 rfl) ?_
          refine wrg_4_35_0 zc hK hM dX4_tell_123 ?_
          refine lv_aload_n hx hb dX4_tell_126 rfl (lv_at hl 0 rfl) ?_
          refine wrg_4_43_0 zc hK hM dX4_tell_127 ?_
          refine lv_iconst (v := (0 : Int32)) hx hb dX4_tell_130 (by decide) ?_
          refine wrld_21 zc hK hM (by unfold vp_in; decide) dX4_tell_131 ?_
          refine lv_aload_n hx hb dX4_tell_132 rfl (lv_at hl 0 rfl) ?_
          refine wrg_4_43_0 zc hK hM dX4_tell_133 ?_
          refine lv_iconst (v := (1 : Int32)) hx hb dX4_tell_136 (by decide) ?_
          refine wrld_21 zc hK hM (by unfold vp_in; decide) dX4_tell_137 ?_
          refine zVw_v [.int (a_numbers (Int32.toNatClampNeg (0 : Int32))), .int (a_numbers (Int32.toNatClampNeg (1 : Int32)))] [] zc ky_X0_tell kz_X0_tell km_4_158 (c_wr_X0_tell l hw) (wrPreV18 hK hM) hS rfl rfl hl.1 (Nat.le_of_ble_eq_true rfl) ⟨rfl, rfl⟩ ⟨Nat.le_of_ble_eq_true rfl, Nat.le_of_ble_eq_true rfl⟩ ⟨(Nat.zero_le _), (Nat.zero_le _)⟩ dX4_tell_138 (fun u H locs hw hM hS => ?_)
          obtain ⟨cf_voices_1, ca_parts_1, ca_heights_1⟩ := u
          refine lv_goto (tgt := 157) hx hb dX4_tell_141 (by decide) ?_
          exact zret_vw ⟨lf_huts, lf_singers, lf_villages, lf_dams, lf_echoes, lf_deep, lf_slide, la_heights, la_ladders, la_minutes, la_echoFrom, la_echoTo, la_homes, la_talls, la_known, vf_deeds, va_kinds, va_firsts, va_seconds, sf_facts, sa_heard, sa_huts, sa_minutes, cf_voices_1, cf_step, ca_parts_1, ca_heights_1, f_hutsToldOf, f_singersToldOf⟩ zc hS hw hM dX4_tell_157
      · have hw := hw.2 hc
        refine lv_aload_n hx hb dX4_tell_83 rfl (lv_at hl 0 rfl) ?_
        refine wrg_4_28_0 zc hK hM dX4_tell_84 ?_
        refine lv_iload_n hx hb dX4_tell_87 rfl (lv_at hl 1 rfl) ?_
        refine lv_bipush (v := (16 : Int32)) hx hb dX4_tell_88 (by decide) ?_
        refine lv_icmp_ne (tgt := 97) hx hb dX4_tell_90 (by decide) (fun hc => ?_) (fun hc => ?_)
        · have hw := hw.1 hc
          refine lv_iconst (v := (0 : Int32)) hx hb dX4_tell_97 (by decide) ?_
          exact t_wr_X4_tell_98 zc hK hM hZ hS  (lv_sub hl [0] rfl) hw
        · have hw := hw.2 hc
          refine lv_iconst (v := (1 : Int32)) hx hb dX4_tell_93 (by decide) ?_
          refine lv_goto (tgt := 98) hx hb dX4_tell_94 (by decide) ?_
          exact t_wr_X4_tell_98 zc hK hM hZ hS  (lv_sub hl [0] rfl) hw
    · have hw := hw.2 hc
      refine lv_aload_n hx hb dX4_tell_38 rfl (lv_at hl 0 rfl) ?_
      refine wrg_4_21_0 zc hK hM dX4_tell_39 ?_
      refine lv_iload_n hx hb dX4_tell_42 rfl (lv_at hl 1 rfl) ?_
      refine lv_bipush (v := (10 : Int32)) hx hb dX4_tell_43 (by decide) ?_
      refine lv_isub hx hb dX4_tell_45 ?_
      refine lv_aload_n hx hb dX4_tell_46 rfl (lv_at hl 0 rfl) ?_
      refine wrg_4_43_0 zc hK hM dX4_tell_47 ?_
      refine lv_iconst (v := (0 : Int32)) hx hb dX4_tell_50 (by decide) ?_
      refine wrld_21 zc hK hM (by unfold vp_in; decide) dX4_tell_51 ?_
      refine va_gets hx hb hZ.1.2.1 hS zc.2.2.2.1 (zc.2.2.2.2.1 _ kf_4_128) (fun _ h => h) dX4_tell_52 ?_
      refine lv_iload_n hx hb dX4_tell_55 rfl (lv_at hl 1 rfl) ?_
      refine va_ti hx hb hZ.2.1.2.1 hS hw.1 rfl dX4_tell_56 ?_
      have hw := hw.2
      refine lv_iconst (v := (1 : Int32)) hx hb dX4_tell_57 (by decide) ?_
      refine lv_icmp_le (tgt := 70) hx hb dX4_tell_58 (by decide) (fun hc => ?_) (fun hc => ?_)
      · have hw := hw.1 hc
        refine lv_iconst (v := (-1 : Int32)) hx hb dX4_tell_70 (by decide) ?_
        exact t_wr_X4_tell_71 zc hK hM hZ hS  (lv_sub hl [] rfl) hw
      · have hw := hw.2 hc
        refine lv_aload_n hx hb dX4_tell_61 rfl (lv_at hl 0 rfl) ?_
        refine wrg_4_43_0 zc hK hM dX4_tell_62 ?_
        refine lv_iconst (v := (1 : Int32)) hx hb dX4_tell_65 (by decide) ?_
        refine wrld_21 zc hK hM (by unfold vp_in; decide) dX4_tell_66 ?_
        refine lv_goto (tgt := 71) hx hb dX4_tell_67 (by decide) ?_
        exact t_wr_X4_tell_71 zc hK hM hZ hS  (lv_sub hl [] rfl) hw
  · have hw := hw.2 hc
    refine lv_aload_n hx hb dX4_tell_6 rfl (lv_at hl 0 rfl) ?_
    refine lv_iload_n hx hb dX4_tell_7 rfl (lv_at hl 1 rfl) ?_
    refine lv_aload_n hx hb dX4_tell_8 rfl (lv_at hl 0 rfl) ?_
    refine wrg_4_43_0 zc hK hM dX4_tell_9 ?_
    refine lv_iconst (v := (0 : Int32)) hx hb dX4_tell_12 (by decide) ?_
    refine wrld_21 zc hK hM (by unfold vp_in; decide) dX4_tell_13 ?_
    refine lv_aload_n hx hb dX4_tell_14 rfl (lv_at hl 0 rfl) ?_
    refine wrg_4_43_0 zc hK hM dX4_tell_15 ?_
    refine lv_iconst (v := (1 : Int32)) hx hb dX4_tell_18 (by decide) ?_
    refine wrld_21 zc hK hM (by unfold vp_in; decide) dX4_tell_19 ?_
    refine lv_aload_n hx hb dX4_tell_20 rfl (lv_at hl 0 rfl) ?_
    refine wrg_4_43_0 zc hK hM dX4_tell_21 ?_
    refine lv_iconst (v := (2 : Int32)) hx hb dX4_tell_24 (by decide) ?_
    refine wrld_21 zc hK hM (by unfold vp_in; decide) dX4_tell_25 ?_
    refine zVw_v [.int x1, .int (a_numbers (Int32.toNatClampNeg (0 : Int32))), .int (a_numbers (Int32.toNatClampNeg (1 : Int32))), .int (a_numbers (Int32.toNatClampNeg (2 : Int32)))] [] zc ky_X4_tellOfLand kz_X4_tellOfLand km_4_150 (c_wr_X4_tellOfLand l hw) (wrPreV0 hK hM) hS rfl rfl hl.1 (Nat.le_of_ble_eq_true rfl) ⟨rfl, rfl⟩ ⟨Nat.le_of_ble_eq_true rfl, Nat.le_of_ble_eq_true rfl⟩ ⟨(Nat.zero_le _), (Nat.zero_le _)⟩ dX4_tell_26 (fun u H locs hw hM hS => ?_)
    obtain ⟨lf_huts_1, lf_singers_1, lf_villages_1, lf_dams_1, lf_echoes_1, lf_deep_1, lf_slide_1, la_heights_1, la_ladders_1, la_minutes_1, la_echoFrom_1, la_echoTo_1, la_homes_1, la_talls_1, la_known_1, f_hutsToldOf_1, f_singersToldOf_1⟩ := u
    refine lv_goto (tgt := 157) hx hb dX4_tell_29 (by decide) ?_
    exact zret_vw ⟨lf_huts_1, lf_singers_1, lf_villages_1, lf_dams_1, lf_echoes_1, lf_deep_1, lf_slide_1, la_heights_1, la_ladders_1, la_minutes_1, la_echoFrom_1, la_echoTo_1, la_homes_1, la_talls_1, la_known_1, vf_deeds, va_kinds, va_firsts, va_seconds, sf_facts, sa_heard, sa_huts, sa_minutes, cf_voices, cf_step, ca_parts, ca_heights, f_hutsToldOf_1, f_singersToldOf_1⟩ zc hS hw hM dX4_tell_157
set_option maxRecDepth 20000 in
theorem c_wr_X4_tell (l : Launch) {G : zG} {E : zE} {qr qt : Nat} {lf_huts : Int32} {lf_singers : Int32} {lf_villages : Int32} {lf_dams : Int32} {lf_echoes : Int32} {lf_deep : Int32} {lf_slide : Int32} {la_heights : Nat → Int32} {la_ladders : Nat → Int32} {la_minutes : Nat → Int32} {la_echoFrom : Nat → Int32} {la_echoTo : Nat → Int32} {la_homes : Nat → Int32} {la_talls : Nat → Int32} {la_known : Nat → Int32} {vf_deeds : Int32} {va_kinds : Nat → Int32} {va_firsts : Nat → Int32} {va_seconds : Nat → Int32} {sf_facts : Int32} {sa_heard : Nat → Int32} {sa_huts : Nat → Int32} {sa_minutes : Nat → Int32} {cf_voices : Int32} {cf_step : Int32} {ca_parts : Nat → Int32} {ca_heights : Nat → Int32} {f_fault : Int32} {f_faultPlace : Int32} {a_numbers : Nat → Int32} {a_tape : Nat → Int32} {f_length : Int32} {f_behind : Int32} {f_kind : Int32} {f_first : Int32} {f_value : Int32} {f_hutsToldOf : Int32} {f_singersToldOf : Int32} {z_from : Nat → Int32} {x1 : Int32} {post : (Int32) → (Int32) → (Int32) → (Int32) → (Int32) → (Int32) → (Int32) → (Nat → Int32) → (Nat → Int32) → (Nat → Int32) → (Nat → Int32) → (Nat → Int32) → (Nat → Int32) → (Nat → Int32) → (Nat → Int32) → (Int32) → (Nat → Int32) → (Nat → Int32) → (Nat → Int32) → (Int32) → (Nat → Int32) → (Nat → Int32) → (Nat → Int32) → (Int32) → (Int32) → (Nat → Int32) → (Nat → Int32) → (Int32) → (Int32) → Prop} (hw : q_wr_X4_tell_0 lf_huts lf_singers lf_villages lf_dams lf_echoes lf_deep lf_slide la_heights la_ladders la_minutes la_echoFrom la_echoTo la_homes la_talls la_known vf_deeds va_kinds va_firsts va_seconds sf_facts sa_heard sa_huts sa_minutes cf_voices cf_step ca_parts ca_heights a_numbers f_hutsToldOf f_singersToldOf x1 post) : Met l yX4_tell (Cond.code yX4_tell cX4_tell 2 none :: zb) rm_wr_X4_tell (va_Pc [.ref qr, .int x1] (fun U => (wrW E qr qt lf_huts lf_singers lf_villages lf_dams lf_echoes lf_deep lf_slide la_heights la_ladders la_minutes la_echoFrom la_echoTo la_homes la_talls la_known vf_deeds va_kinds va_firsts va_seconds sf_facts sa_heard sa_huts sa_minutes cf_voices cf_step ca_parts ca_heights f_fault f_faultPlace a_numbers a_tape f_length f_behind f_kind f_first f_value f_hutsToldOf f_singersToldOf z_from U.heap ∧ zK E U) ∧ zZ G (wrA qr qt) U U.heap)) (zQv (S := (Int32) × (Int32) × (Int32) × (Int32) × (Int32) × (Int32) × (Int32) × (Nat → Int32) × (Nat → Int32) × (Nat → Int32) × (Nat → Int32) × (Nat → Int32) × (Nat → Int32) × (Nat → Int32) × (Nat → Int32) × (Int32) × (Nat → Int32) × (Nat → Int32) × (Nat → Int32) × (Int32) × (Nat → Int32) × (Nat → Int32) × (Nat → Int32) × (Int32) × (Int32) × (Nat → Int32) × (Nat → Int32) × (Int32) × (Int32)) (fun u => post u.1 u.2.1 u.2.2.1 u.2.2.2.1 u.2.2.2.2.1 u.2.2.2.2.2.1 u.2.2.2.2.2.2.1 u.2.2.2.2.2.2.2.1 u.2.2.2.2.2.2.2.2.1 u.2.2.2.2.2.2.2.2.2.1 u.2.2.2.2.2.2.2.2.2.2.1 u.2.2.2.2.2.2.2.2.2.2.2.1 u.2.2.2.2.2.2.2.2.2.2.2.2.1 u.2.2.2.2.2.2.2.2.2.2.2.2.2.1 u.2.2.2.2.2.2.2.2.2.2.2.2.2.2.1 u.2.2.2.2.2.2.2.2.2.2.2.2.2.2.2.1 u.2.2.2.2.2.2.2.2.2.2.2.2.2.2.2.2.1 u.2.2.2.2.2.2.2.2.2.2.2.2.2.2.2.2.2.1 u.2.2.2.2.2.2.2.2.2.2.2.2.2.2.2.2.2.2.1 u.2.2.2.2.2.2.2.2.2.2.2.2.2.2.2.2.2.2.2.1 u.2.2.2.2.2.2.2.2.2.2.2.2.2.2.2.2.2.2.2.2.1 u.2.2.2.2.2.2.2.2.2.2.2.2.2.2.2.2.2.2.2.2.2.1 u.2.2.2.2.2.2.2.2.2.2.2.2.2.2.2.2.2.2.2.2.2.2.1 u.2.2.2.2.2.2.2.2.2.2.2.2.2.2.2.2.2.2.2.2.2.2.2.1 u.2.2.2.2.2.2.2.2.2.2.2.2.2.2.2.2.2.2.2.2.2.2.2.2.1 u.2.2.2.2.2.2.2.2.2.2.2.2.2.2.2.2.2.2.2.2.2.2.2.2.2.1 u.2.2.2.2.2.2.2.2.2.2.2.2.2.2.2.2.2.2.2.2.2.2.2.2.2.2.1 u.2.2.2.2.2.2.2.2.2.2.2.2.2.2.2.2.2.2.2.2.2.2.2.2.2.2.2.1 u.2.2.2.2.2.2.2.2.2.2.2.2.2.2.2.2.2.2.2.2.2.2.2.2.2.2.2.2) (fun u H => wrW E qr qt u.1 u.2.1 u.2.2.1 u.2.2.2.1 u.2.2.2.2.1 u.2.2.2.2.2.1 u.2.2.2.2.2.2.1 u.2.2.2.2.2.2.2.1 u.2.2.2.2.2.2.2.2.1 u.2.2.2.2.2.2.2.2.2.1 u.2.2.2.2.2.2.2.2.2.2.1 u.2.2.2.2.2.2.2.2.2.2.2.1 u.2.2.2.2.2.2.2.2.2.2.2.2.1 u.2.2.2.2.2.2.2.2.2.2.2.2.2.1 u.2.2.2.2.2.2.2.2.2.2.2.2.2.2.1 u.2.2.2.2.2.2.2.2.2.2.2.2.2.2.2.1 u.2.2.2.2.2.2.2.2.2.2.2.2.2.2.2.2.1 u.2.2.2.2.2.2.2.2.2.2.2.2.2.2.2.2.2.1 u.2.2.2.2.2.2.2.2.2.2.2.2.2.2.2.2.2.2.1 u.2.2.2.2.2.2.2.2.2.2.2.2.2.2.2.2.2.2.2.1 u.2.2.2.2.2.2.2.2.2.2.2.2.2.2.2.2.2.2.2.2.1 u.2.2.2.2.2.2.2.2.2.2.2.2.2.2.2.2.2.2.2.2.2.1 u.2.2.2.2.2.2.2.2.2.2.2.2.2.2.2.2.2.2.2.2.2.2.1 u.2.2.2.2.2.2.2.2.2.2.2.2.2.2.2.2.2.2.2.2.2.2.2.1 u.2.2.2.2.2.2.2.2.2.2.2.2.2.2.2.2.2.2.2.2.2.2.2.2.1 u.2.2.2.2.2.2.2.2.2.2.2.2.2.2.2.2.2.2.2.2.2.2.2.2.2.1 u.2.2.2.2.2.2.2.2.2.2.2.2.2.2.2.2.2.2.2.2.2.2.2.2.2.2.1 f_fault f_faultPlace a_numbers a_tape f_length f_behind f_kind f_first f_value u.2.2.2.2.2.2.2.2.2.2.2.2.2.2.2.2.2.2.2.2.2.2.2.2.2.2.2.1 u.2.2.2.2.2.2.2.2.2.2.2.2.2.2.2.2.2.2.2.2.2.2.2.2.2.2.2.2 z_from H) (wrA qr qt)) 0 0 (wrA qr qt) := by
  refine Met.ofW (cc := cX4_tell) (maxL := 2) (ret := none) (by decide) rfl ?_
  intro p e s m args below meth c s₁ B hml hv
  obtain ⟨rfl, ⟨hM, hK⟩, hZ⟩ := hv
  have zc := zc_of B hml
  have hl := lv_entry ([.ref qr, .int x1]) (n := 2) (Nat.le_of_ble_eq_true rfl)
  rw [lg_entry_eq]
  generalize (lg_sl ([.ref qr, .int x1]) ++ List.replicate (2 - (lg_sl ([.ref qr, .int x1])).length) Slot.unset).toArray = ls at hl ⊢
  have hl : lv_has ls 2 [(0, .ref qr), (1, .int x1)] := hl
  exact t_wr_X4_tell_0 zc hK hM hZ va_S.rf (lv_sub hl [0, 1] rfl) hw
