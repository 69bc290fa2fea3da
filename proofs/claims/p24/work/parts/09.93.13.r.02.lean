section
-- wr_X4_refuse
abbrev rm_wr_X4_refuse : Room := { frames := 0, cells := 0, slots := 0, locals := 0 }
def q_wr_X4_refuse_0 (f_fault : Int32) (f_faultPlace : Int32) (f_first : Int32) (post : (Int32) → (Int32) → Prop) : Prop :=
  post (1 : Int32) f_first
set_option maxRecDepth 20000 in
theorem t_wr_X4_refuse_0 {p : Program} {l : Launch} {e : Env} {s : State} {m : MethodId} {args : Array Value} {below : List Frame} {meth : Method} {c : Code} {E : zE} {qr qt : Nat} {lf_huts : Int32} {lf_singers : Int32} {lf_villages : Int32} {lf_dams : Int32} {lf_echoes : Int32} {lf_deep : Int32} {lf_slide : Int32} {la_heights : Nat → Int32} {la_ladders : Nat → Int32} {la_minutes : Nat → Int32} {la_echoFrom : Nat → Int32} {la_echoTo : Nat → Int32} {la_homes : Nat → Int32} {la_talls : Nat → Int32} {la_known : Nat → Int32} {vf_deeds : Int32} {va_kinds : Nat → Int32} {va_firsts : Nat → Int32} {va_seconds : Nat → Int32} {sf_facts : Int32} {sa_heard : Nat → Int32} {sa_huts : Nat → Int32} {sa_minutes : Nat → Int32} {cf_voices : Int32} {cf_step : Int32} {ca_parts : Nat → Int32} {ca_heights : Nat → Int32} {f_fault : Int32} {f_faultPlace : Int32} {a_numbers : Nat → Int32} {a_tape : Nat → Int32} {f_length : Int32} {f_behind : Int32} {f_kind : Int32} {f_first : Int32} {f_value : Int32} {f_hutsToldOf : Int32} {f_singersToldOf : Int32} {z_from : Nat → Int32} {post : (Int32) → (Int32) → Prop} {ls : Array Slot} {H : Heap} {locs : List Loc}
    (zc : zC p s m args meth c cX4_refuse 1 RX4 none)
    (hK : zK E s)
    (hM : wrW E qr qt lf_huts lf_singers lf_villages lf_dams lf_echoes lf_deep lf_slide la_heights la_ladders la_minutes la_echoFrom la_echoTo la_homes la_talls la_known vf_deeds va_kinds va_firsts va_seconds sf_facts sa_heard sa_huts sa_minutes cf_voices cf_step ca_parts ca_heights f_fault f_faultPlace a_numbers a_tape f_length f_behind f_kind f_first f_value f_hutsToldOf f_singersToldOf z_from H)
    (hS : va_S (wrA qr qt) s.heap H locs)
    (hl : lv_has ls 1 [(0, .ref qr)])
    (hw : q_wr_X4_refuse_0 f_fault f_faultPlace f_first post) :
    W p l e rm_wr_X4_refuse s m args below meth c H locs 0 0 (MQ below (zQv (S := (Int32) × (Int32)) (fun u => post u.1 u.2) (fun u H => wrW E qr qt lf_huts lf_singers lf_villages lf_dams lf_echoes lf_deep lf_slide la_heights la_ladders la_minutes la_echoFrom la_echoTo la_homes la_talls la_known vf_deeds va_kinds va_firsts va_seconds sf_facts sa_heard sa_huts sa_minutes cf_voices cf_step ca_parts ca_heights u.1 u.2 a_numbers a_tape f_length f_behind f_kind f_first f_value f_hutsToldOf f_singersToldOf z_from H) (wrA qr qt)) args s 0 0 (wrA qr qt)) (F0 m 0 ls []) := by
  have hx := zc.1
  have hb := zc.2.1
  refine lv_aload_n hx hb dX4_refuse_0 rfl (lv_at hl 0 rfl) ?_
  refine lv_iconst (v := (1 : Int32)) hx hb dX4_refuse_1 (by decide) ?_
  refine wrp_4_63_0 zc hK hM hS dX4_refuse_2 (fun H locs hM hS => ?_)
  refine lv_aload_n hx hb dX4_refuse_5 rfl (lv_at hl 0 rfl) ?_
  refine lv_aload_n hx hb dX4_refuse_6 rfl (lv_at hl 0 rfl) ?_
  refine wrg_4_125_0 zc hK hM dX4_refuse_7 ?_
  refine wrp_4_39_0 zc hK hM hS dX4_refuse_10 (fun H locs hM hS => ?_)
  exact zret_vw ⟨(1 : Int32), f_first⟩ zc hS hw hM dX4_refuse_13
set_option maxRecDepth 20000 in
theorem c_wr_X4_refuse (l : Launch) {E : zE} {qr qt : Nat} {lf_huts : Int32} {lf_singers : Int32} {lf_villages : Int32} {lf_dams : Int32} {lf_echoes : Int32} {lf_deep : Int32} {lf_slide : Int32} {la_heights : Nat → Int32} {la_ladders : Nat → Int32} {la_minutes : Nat → Int32} {la_echoFrom : Nat → Int32} {la_echoTo : Nat → Int32} {la_homes : Nat → Int32} {la_talls : Nat → Int32} {la_known : Nat → Int32} {vf_deeds : Int32} {va_kinds : Nat → Int32} {va_firsts : Nat → Int32} {va_seconds : Nat → Int32} {sf_facts : Int32} {sa_heard : Nat → Int32} {sa_huts : Nat → Int32} {sa_minutes : Nat → Int32} {cf_voices : Int32} {cf_step : Int32} {ca_parts : Nat → Int32} {ca_heights : Nat → Int32} {f_fault : Int32} {f_faultPlace : Int32} {a_numbers : Nat → Int32} {a_tape : Nat → Int32} {f_length : Int32} {f_behind : Int32} {f_kind : Int32} {f_first : Int32} {f_value : Int32} {f_hutsToldOf : Int32} {f_singersToldOf : Int32} {z_from : Nat → Int32} {post : (Int32) → (Int32) → Prop} (hw : q_wr_X4_refuse_0 f_fault f_faultPlace f_first post) : Met l yX4_refuse (Cond.code yX4_refuse cX4_refuse 1 none :: zb) rm_wr_X4_refuse (va_Pc [.ref qr] (fun U => wrW E qr qt lf_huts lf_singers lf_villages lf_dams lf_echoes lf_deep lf_slide la_heights la_ladders la_minutes la_echoFrom la_echoTo la_homes la_talls la_known vf_deeds va_kinds va_firsts va_seconds sf_facts sa_heard sa_huts sa_minutes cf_voices cf_step ca_parts ca_heights f_fault f_faultPlace a_numbers a_tape f_length f_behind f_kind f_first f_value f_hutsToldOf f_singersToldOf z_from U.heap ∧ zK E U)) (zQv (S := (Int32) × (Int32)) (fun u => post u.1 u.2) (fun u H => wrW E qr qt lf_huts lf_singers lf_villages lf_dams lf_echoes lf_deep lf_slide la_heights la_ladders la_minutes la_echoFrom la_echoTo la_homes la_talls la_known vf_deeds va_kinds va_firsts va_seconds sf_facts sa_heard sa_huts sa_minutes cf_voices cf_step ca_parts ca_heights u.1 u.2 a_numbers a_tape f_length f_behind f_kind f_first f_value f_hutsToldOf f_singersToldOf z_from H) (wrA qr qt)) 0 0 (wrA qr qt) := by
  refine Met.ofW (cc := cX4_refuse) (maxL := 1) (ret := none) (by decide) rfl ?_
  intro p e s m args below meth c s₁ B hml hv
  obtain ⟨rfl, hM, hK⟩ := hv
  have zc := zc_of B hml
  have hl := lv_entry ([.ref qr]) (n := 1) (Nat.le_of_ble_eq_true rfl)
  rw [lg_entry_eq]
  generalize (lg_sl ([.ref qr]) ++ List.replicate (1 - (lg_sl ([.ref qr])).length) Slot.unset).toArray = ls at hl ⊢
  have hl : lv_has ls 1 [(0, .ref qr)] := hl
  exact t_wr_X4_refuse_0 zc hK hM va_S.rf (lv_sub hl [0] rfl) hw
-- wr_X4_canBe
abbrev rm_wr_X4_canBe : Room := { frames := 0, cells := 0, slots := 0, locals := 0 }
def q_wr_X4_canBe_67 (a_numbers : Nat → Int32) (post : Int32 → Prop) : Prop :=
  post (1 : Int32)
def q_wr_X4_canBe_52 (a_numbers : Nat → Int32) (post : Int32 → Prop) : Prop :=
  ((a_numbers (Int32.toNatClampNeg (1 : Int32))) = (a_numbers (Int32.toNatClampNeg (0 : Int32))) → (post (0 : Int32))) ∧ (¬ (a_numbers (Int32.toNatClampNeg (1 : Int32))) = (a_numbers (Int32.toNatClampNeg (0 : Int32))) → (q_wr_X4_canBe_67 a_numbers post))
def q_wr_X4_canBe_0 (a_numbers : Nat → Int32) (x1 : Int32) (x2 : Int32) (post : Int32 → Prop) : Prop :=
  ∀ v_1 : Int32, v_1 = ((x1 * (3 : Int32)) + x2) → (vp_in x2 3 ∧ (vp_in v_1 60 ∧ (((a_numbers (Int32.toNatClampNeg x2)) < (tbf_2 (Int32.toNatClampNeg v_1)) → (post (0 : Int32))) ∧ (¬ (a_numbers (Int32.toNatClampNeg x2)) < (tbf_2 (Int32.toNatClampNeg v_1)) → (vp_in x2 3 ∧ (vp_in v_1 60 ∧ (((a_numbers (Int32.toNatClampNeg x2)) ≤ (tbf_3 (Int32.toNatClampNeg v_1)) → ((¬ x2 = (1 : Int32) → (q_wr_X4_canBe_67 a_numbers post)) ∧ (x2 = (1 : Int32) → ((x1 = (5 : Int32) → (q_wr_X4_canBe_52 a_numbers post)) ∧ (¬ x1 = (5 : Int32) → ((¬ x1 = (6 : Int32) → (q_wr_X4_canBe_67 a_numbers post)) ∧ (x1 = (6 : Int32) → (q_wr_X4_canBe_52 a_numbers post)))))))) ∧ (¬ (a_numbers (Int32.toNatClampNeg x2)) ≤ (tbf_3 (Int32.toNatClampNeg v_1)) → (post (0 : Int32))))))))))
set_option maxRecDepth 20000 in
theorem t_wr_X4_canBe_67 {p : Program} {l : Launch} {e : Env} {s : State} {m : MethodId} {args : Array Value} {below : List Frame} {meth : Method} {c : Code} {G : zG} {E : zE} {qr qt : Nat} {lf_huts : Int32} {lf_singers : Int32} {lf_villages : Int32} {lf_dams : Int32} {lf_echoes : Int32} {lf_deep : Int32} {lf_slide : Int32} {la_heights : Nat → Int32} {la_ladders : Nat → Int32} {la_minutes : Nat → Int32} {la_echoFrom : Nat → Int32} {la_echoTo : Nat → Int32} {la_homes : Nat → Int32} {la_talls : Nat → Int32} {la_known : Nat → Int32} {vf_deeds : Int32} {va_kinds : Nat → Int32} {va_firsts : Nat → Int32} {va_seconds : Nat → Int32} {sf_facts : Int32} {sa_heard : Nat → Int32} {sa_huts : Nat → Int32} {sa_minutes : Nat → Int32} {cf_voices : Int32} {cf_step : Int32} {ca_parts : Nat → Int32} {ca_heights : Nat → Int32} {f_fault : Int32} {f_faultPlace : Int32} {a_numbers : Nat → Int32} {a_tape : Nat → Int32} {f_length : Int32} {f_behind : Int32} {f_kind : Int32} {f_first : Int32} {f_value : Int32} {f_hutsToldOf : Int32} {f_singersToldOf : Int32} {z_from : Nat → Int32} {post : Int32 → Prop} {ls : Array Slot}
    (zc : zC p s m args meth c cX4_canBe 4 RX4 (some .boolean))
    (hK : zK E s)
    (hM : wrW E qr qt lf_huts lf_singers lf_villages lf_dams lf_echoes lf_deep lf_slide la_heights la_ladders la_minutes la_echoFrom la_echoTo la_homes la_talls la_known vf_deeds va_kinds va_firsts va_seconds sf_facts sa_heard sa_huts sa_minutes cf_voices cf_step ca_parts ca_heights f_fault f_faultPlace a_numbers a_tape f_length f_behind f_kind f_first f_value f_hutsToldOf f_singersToldOf z_from s.heap)
    (hZ : zZ G (wrA qr qt) s s.heap)
    (hl : lv_has ls 4 [])
    (hw : q_wr_X4_canBe_67 a_numbers post) :
    W p l e rm_wr_X4_canBe s m args below meth c s.heap [] 0 0 (MQ below (vp_Si post) args s 0 0 (fun _ => False)) (F0 m 67 ls []) := by
  have hx := zc.1
  have hb := zc.2.1
  refine lv_iconst (v := (1 : Int32)) hx hb dX4_canBe_67 (by decide) ?_
  refine lv_goto (tgt := 72) hx hb dX4_canBe_68 (by decide) ?_
  exact zret_z zc rfl hw dX4_canBe_72
set_option maxRecDepth 20000 in
theorem t_wr_X4_canBe_52 {p : Program} {l : Launch} {e : Env} {s : State} {m : MethodId} {args : Array Value} {below : List Frame} {meth : Method} {c : Code} {G : zG} {E : zE} {qr qt : Nat} {lf_huts : Int32} {lf_singers : Int32} {lf_villages : Int32} {lf_dams : Int32} {lf_echoes : Int32} {lf_deep : Int32} {lf_slide : Int32} {la_heights : Nat → Int32} {la_ladders : Nat → Int32} {la_minutes : Nat → Int32} {la_echoFrom : Nat → Int32} {la_echoTo : Nat → Int32} {la_homes : Nat → Int32} {la_talls : Nat → Int32} {la_known : Nat → Int32} {vf_deeds : Int32} {va_kinds : Nat → Int32} {va_firsts : Nat → Int32} {va_seconds : Nat → Int32} {sf_facts : Int32} {sa_heard : Nat → Int32} {sa_huts : Nat → Int32} {sa_minutes : Nat → Int32} {cf_voices : Int32} {cf_step : Int32} {ca_parts : Nat → Int32} {ca_heights : Nat → Int32} {f_fault : Int32} {f_faultPlace : Int32} {a_numbers : Nat → Int32} {a_tape : Nat → Int32} {f_length : Int32} {f_behind : Int32} {f_kind : Int32} {f_first : Int32} {f_value : Int32} {f_hutsToldOf : Int32} {f_singersToldOf : Int32} {z_from : Nat → Int32} {post : Int32 → Prop} {ls : Array Slot}
    (zc : zC p s m args meth c cX4_canBe 4 RX4 (some .boolean))
    (hK : zK E s)
    (hM : wrW E qr qt lf_huts lf_singers lf_villages lf_dams lf_echoes lf_deep lf_slide la_heights la_ladders la_minutes la_echoFrom la_echoTo la_homes la_talls la_known vf_deeds va_kinds va_firsts va_seconds sf_facts sa_heard sa_huts sa_minutes cf_voices cf_step ca_parts ca_heights f_fault f_faultPlace a_numbers a_tape f_length f_behind f_kind f_first f_value f_hutsToldOf f_singersToldOf z_from s.heap)
    (hZ : zZ G (wrA qr qt) s s.heap)
    (hl : lv_has ls 4 [(0, .ref qr)])
    (hw : q_wr_X4_canBe_52 a_numbers post) :
    W p l e rm_wr_X4_canBe s m args below meth c s.heap [] 0 0 (MQ below (vp_Si post) args s 0 0 (fun _ => False)) (F0 m 52 ls []) := by
  have hx := zc.1
  have hb := zc.2.1
  refine lv_aload_n hx hb dX4_canBe_52 rfl (lv_at hl 0 rfl) ?_
  refine wrg_4_43_0 zc hK hM dX4_canBe_53 ?_
  refine lv_iconst (v := (1 : Int32)) hx hb dX4_canBe_56 (by decide) ?_
  refine wrld_21 zc hK hM (by unfold vp_in; decide) dX4_canBe_57 ?_
  refine lv_aload_n hx hb dX4_canBe_58 rfl (lv_at hl 0 rfl) ?_
  refine wrg_4_43_0 zc hK hM dX4_canBe_59 ?_
  refine lv_iconst (v := (0 : Int32)) hx hb dX4_canBe_62 (by decide) ?_
  refine wrld_21 zc hK hM (by unfold vp_in; decide) dX4_canBe_63 ?_
  refine lv_icmp_eq (tgt := 71) hx hb dX4_canBe_64 (by decide) (fun hc => ?_) (fun hc => ?_)
  · have hw := hw.1 hc
    refine lv_iconst (v := (0 : Int32)) hx hb dX4_canBe_71 (by decide) ?_
    exact zret_z zc rfl hw dX4_canBe_72
  · have hw := hw.2 hc
    exact t_wr_X4_canBe_67 zc hK hM hZ  (lv_sub hl [] rfl) hw
set_option maxRecDepth 20000 in
theorem t_wr_X4_canBe_0 {p : Program} {l : Launch} {e : Env} {s : State} {m : MethodId} {args : Array Value} {below : List Frame} {meth : Method} {c : Code} {G : zG} {E : zE} {qr qt : Nat} {lf_huts : Int32} {lf_singers : Int32} {lf_villages : Int32} {lf_dams : Int32} {lf_echoes : Int32} {lf_deep : Int32} {lf_slide : Int32} {la_heights : Nat → Int32} {la_ladders : Nat → Int32} {la_minutes : Nat → Int32} {la_echoFrom : Nat → Int32} {la_echoTo : Nat → Int32} {la_homes : Nat → Int32} {la_talls : Nat → Int32} {la_known : Nat → Int32} {vf_deeds : Int32} {va_kinds : Nat → Int32} {va_firsts : Nat → Int32} {va_seconds : Nat → Int32} {sf_facts : Int32} {sa_heard : Nat → Int32} {sa_huts : Nat → Int32} {sa_minutes : Nat → Int32} {cf_voices : Int32} {cf_step : Int32} {ca_parts : Nat → Int32} {ca_heights : Nat → Int32} {f_fault : Int32} {f_faultPlace : Int32} {a_numbers : Nat → Int32} {a_tape : Nat → Int32} {f_length : Int32} {f_behind : Int32} {f_kind : Int32} {f_first : Int32} {f_value : Int32} {f_hutsToldOf : Int32} {f_singersToldOf : Int32} {z_from : Nat → Int32} {post : Int32 → Prop} {x1 : Int32} {x2 : Int32} {ls : Array Slot}
    (zc : zC p s m args meth c cX4_canBe 4 RX4 (some .boolean))
    (hK : zK E s)
    (hM : wrW E qr qt lf_huts lf_singers lf_villages lf_dams lf_echoes lf_deep lf_slide la_heights la_ladders la_minutes la_echoFrom la_echoTo la_homes la_talls la_known vf_deeds va_kinds va_firsts va_seconds sf_facts sa_heard sa_huts sa_minutes cf_voices cf_step ca_parts ca_heights f_fault f_faultPlace a_numbers a_tape f_length f_behind f_kind f_first f_value f_hutsToldOf f_singersToldOf z_from s.heap)
    (hZ : zZ G (wrA qr qt) s s.heap)
    (hl : lv_has ls 4 [(0, .ref qr), (1, .int x1), (2, .int x2)])
    (hw : q_wr_X4_canBe_0 a_numbers x1 x2 post) :
    W p l e rm_wr_X4_canBe s m args below meth c s.heap [] 0 0 (MQ below (vp_Si post) args s 0 0 (fun _ => False)) (F0 m 0 ls []) := by
  have hx := zc.1
  have hb := zc.2.1
  refine lv_iload_n hx hb dX4_canBe_0 rfl (lv_at hl 1 rfl) ?_
  refine lv_iconst (v := (3 : Int32)) hx hb dX4_canBe_1 (by decide) ?_
  refine lv_imul hx hb dX4_canBe_2 ?_
  refine lv_iload_n hx hb dX4_canBe_3 rfl (lv_at hl 2 rfl) ?_
  refine lv_iadd hx hb dX4_canBe_4 ?_
  refine lv_topi (fun v_1 ev_1 => ?_)
  have hw := hw v_1 ev_1
  refine lv_istore_n (lv' := [(3, .int v_1), (0, .ref qr), (1, .int x1), (2, .int x2)]) hx hb dX4_canBe_5 rfl hl (by decide) rfl (fun ls hl => ?_)
  refine lv_aload_n hx hb dX4_canBe_6 rfl (lv_at hl 1 rfl) ?_
  refine wrg_4_43_0 zc hK hM dX4_canBe_7 ?_
  refine lv_iload_n hx hb dX4_canBe_10 rfl (lv_at hl 3 rfl) ?_
  refine wrld_21 zc hK hM hw.1 dX4_canBe_11 ?_
  have hw := hw.2
  refine va_gets hx hb hZ.1.2.2.1 va_S.rf zc.2.2.2.1 (zc.2.2.2.2.1 _ kf_4_144) (fun _ h => h) dX4_canBe_12 ?_
  refine lv_iload_n hx hb dX4_canBe_15 rfl (lv_at hl 0 rfl) ?_
  refine va_ti hx hb hZ.2.1.2.2.1 va_S.rf hw.1 rfl dX4_canBe_16 ?_
  have hw := hw.2
  refine lv_icmp_lt (tgt := 34) hx hb dX4_canBe_17 (by decide) (fun hc => ?_) (fun hc => ?_)
  · have hw := hw.1 hc
    refine lv_iconst (v := (0 : Int32)) hx hb dX4_canBe_34 (by decide) ?_
    exact zret_z zc rfl hw dX4_canBe_35
  · have hw := hw.2 hc
    refine lv_aload_n hx hb dX4_canBe_20 rfl (lv_at hl 1 rfl) ?_
    refine wrg_4_43_0 zc hK hM dX4_canBe_21 ?_
    refine lv_iload_n hx hb dX4_canBe_24 rfl (lv_at hl 3 rfl) ?_
    refine wrld_21 zc hK hM hw.1 dX4_canBe_25 ?_
    have hw := hw.2
    refine va_gets hx hb hZ.1.2.2.2 va_S.rf zc.2.2.2.1 (zc.2.2.2.2.1 _ kf_4_147) (fun _ h => h) dX4_canBe_26 ?_
    refine lv_iload_n hx hb dX4_canBe_29 rfl (lv_at hl 0 rfl) ?_
    refine va_ti hx hb hZ.2.1.2.2.2 va_S.rf hw.1 rfl dX4_canBe_30 ?_
    have hw := hw.2
    refine lv_icmp_le (tgt := 36) hx hb dX4_canBe_31 (by decide) (fun hc => ?_) (fun hc => ?_)
    · have hw := hw.1 hc
      refine lv_iload_n hx hb dX4_canBe_36 rfl (lv_at hl 3 rfl) ?_
      refine lv_iconst (v := (1 : Int32)) hx hb dX4_canBe_37 (by decide) ?_
      refine lv_icmp_ne (tgt := 67) hx hb dX4_canBe_38 (by decide) (fun hc => ?_) (fun hc => ?_)
      · have hw := hw.1 hc
        exact t_wr_X4_canBe_67 zc hK hM hZ  (lv_sub hl [] rfl) hw
      · have hw := hw.2 hc
        refine lv_iload_n hx hb dX4_canBe_41 rfl (lv_at hl 2 rfl) ?_
        refine lv_iconst (v := (5 : Int32)) hx hb dX4_canBe_42 (by decide) ?_
        refine lv_icmp_eq (tgt := 52) hx hb dX4_canBe_43 (by decide) (fun hc => ?_) (fun hc => ?_)
        · have hw := hw.1 hc
          exact t_wr_X4_canBe_52 zc hK hM hZ  (lv_sub hl [1] rfl) hw
        · have hw := hw.2 hc
          refine lv_iload_n hx hb dX4_canBe_46 rfl (lv_at hl 2 rfl) ?_
          refine lv_bipush (v := (6 : Int32)) hx hb dX4_canBe_47 (by decide) ?_
          refine lv_icmp_ne (tgt := 67) hx hb dX4_canBe_49 (by decide) (fun hc => ?_) (fun hc => ?_)
          · have hw := hw.1 hc
            exact t_wr_X4_canBe_67 zc hK hM hZ  (lv_sub hl [] rfl) hw
          · have hw := hw.2 hc
            exact t_wr_X4_canBe_52 zc hK hM hZ  (lv_sub hl [1] rfl) hw
    · have hw := hw.2 hc
      refine lv_iconst (v := (0 : Int32)) hx hb dX4_canBe_34 (by decide) ?_
      exact zret_z zc rfl hw dX4_canBe_35
set_option maxRecDepth 20000 in
theorem c_wr_X4_canBe (l : Launch) {G : zG} {E : zE} {qr qt : Nat} {lf_huts : Int32} {lf_singers : Int32} {lf_villages : Int32} {lf_dams : Int32} {lf_echoes : Int32} {lf_deep : Int32} {lf_slide : Int32} {la_heights : Nat → Int32} {la_ladders : Nat → Int32} {la_minutes : Nat → Int32} {la_echoFrom : Nat → Int32} {la_echoTo : Nat → Int32} {la_homes : Nat → Int32} {la_talls : Nat → Int32} {la_known : Nat → Int32} {vf_deeds : Int32} {va_kinds : Nat → Int32} {va_firsts : Nat → Int32} {va_seconds : Nat → Int32} {sf_facts : Int32} {sa_heard : Nat → Int32} {sa_huts : Nat → Int32} {sa_minutes : Nat → Int32} {cf_voices : Int32} {cf_step : Int32} {ca_parts : Nat → Int32} {ca_heights : Nat → Int32} {f_fault : Int32} {f_faultPlace : Int32} {a_numbers : Nat → Int32} {a_tape : Nat → Int32} {f_length : Int32} {f_behind : Int32} {f_kind : Int32} {f_first : Int32} {f_value : Int32} {f_hutsToldOf : Int32} {f_singersToldOf : Int32} {z_from : Nat → Int32} {x1 : Int32} {x2 : Int32} {post : Int32 → Prop} (hw : q_wr_X4_canBe_0 a_numbers x1 x2 post) : Met l yX4_canBe (Cond.code yX4_canBe cX4_canBe 4 (some .boolean) :: zb) rm_wr_X4_canBe (va_Pc [.ref qr, .int x1, .int x2] (fun U => (wrW E qr qt lf_huts lf_singers lf_villages lf_dams lf_echoes lf_deep lf_slide la_heights la_ladders la_minutes la_echoFrom la_echoTo la_homes la_talls la_known vf_deeds va_kinds va_firsts va_seconds sf_facts sa_heard sa_huts sa_minutes cf_voices cf_step ca_parts ca_heights f_fault f_faultPlace a_numbers a_tape f_length f_behind f_kind f_first f_value f_hutsToldOf f_singersToldOf z_from U.heap ∧ zK E U) ∧ zZ G (wrA qr qt) U U.heap)) (vp_Si post) 0 0 (fun _ => False) := by
  refine Met.ofW (cc := cX4_canBe) (maxL := 4) (ret := (some .boolean)) (by decide) rfl ?_
  intro p e s m args below meth c s₁ B hml hv
  obtain ⟨rfl, ⟨hM, hK⟩, hZ⟩ := hv
  have zc := zc_of B hml
  have hl := lv_entry ([.ref qr, .int x1, .int x2]) (n := 4) (Nat.le_of_ble_eq_true rfl)
  rw [lg_entry_eq]
  generalize (lg_sl ([.ref qr, .int x1, .int x2]) ++ List.replicate (4 - (lg_sl ([.ref qr, .int x1, .int x2])).length) Slot.unset).toArray = ls at hl ⊢
  have hl : lv_has ls 4 [(0, .ref qr), (1, .int x1), (2, .int x2)] := hl
  exact t_wr_X4_canBe_0 zc hK hM hZ (lv_sub hl [0, 1, 2] rfl) hw
-- wr_X4_readLine
abbrev rm_wr_X4_readLine : Room := { frames := 6, cells := 0, slots := 0, locals := 173 }
def q_wr_X4_readLine_124 (lf_huts : Int32) (lf_singers : Int32) (lf_villages : Int32) (lf_dams : Int32) (lf_echoes : Int32) (lf_deep : Int32) (lf_slide : Int32) (la_heights : Nat → Int32) (la_ladders : Nat → Int32) (la_minutes : Nat → Int32) (la_echoFrom : Nat → Int32) (la_echoTo : Nat → Int32) (la_homes : Nat → Int32) (la_talls : Nat → Int32) (la_known : Nat → Int32) (vf_deeds : Int32) (va_kinds : Nat → Int32) (va_firsts : Nat → Int32) (va_seconds : Nat → Int32) (sf_facts : Int32) (sa_heard : Nat → Int32) (sa_huts : Nat → Int32) (sa_minutes : Nat → Int32) (cf_voices : Int32) (cf_step : Int32) (ca_parts : Nat → Int32) (ca_heights : Nat → Int32) (f_fault : Int32) (f_faultPlace : Int32) (a_numbers : Nat → Int32) (a_tape : Nat → Int32) (f_length : Int32) (f_behind : Int32) (f_kind : Int32) (f_first : Int32) (f_value : Int32) (f_hutsToldOf : Int32) (f_singersToldOf : Int32) (post : (Int32) → (Int32) → (Int32) → (Int32) → (Int32) → (Int32) → (Int32) → (Nat → Int32) → (Nat → Int32) → (Nat → Int32) → (Nat → Int32) → (Nat → Int32) → (Nat → Int32) → (Nat → Int32) → (Nat → Int32) → (Int32) → (Nat → Int32) → (Nat → Int32) → (Nat → Int32) → (Int32) → (Nat → Int32) → (Nat → Int32) → (Nat → Int32) → (Int32) → (Int32) → (Nat → Int32) → (Nat → Int32) → (Int32) → (Int32) → (Nat → Int32) → (Int32) → (Int32) → (Int32) → (Int32) → (Int32) → (Int32) → Prop) : Prop :=
  q_wr_X4_advance_0 a_tape f_length f_behind f_kind f_first f_value (fun f_behind_1 f_kind_1 f_first_1 f_value_1 => post lf_huts lf_singers lf_villages lf_dams lf_echoes lf_deep lf_slide la_heights la_ladders la_minutes la_echoFrom la_echoTo la_homes la_talls la_known vf_deeds va_kinds va_firsts va_seconds sf_facts sa_heard sa_huts sa_minutes cf_voices cf_step ca_parts ca_heights f_fault f_faultPlace a_numbers f_behind_1 f_kind_1 f_first_1 f_value_1 f_hutsToldOf f_singersToldOf)
def q_wr_X4_readLine_89 (P39 : Int32 → (Int32) → (Int32) → (Nat → Int32) → (Int32) → (Int32) → (Int32) → (Int32) → Prop) (lf_huts : Int32) (lf_singers : Int32) (lf_villages : Int32) (lf_dams : Int32) (lf_echoes : Int32) (lf_deep : Int32) (lf_slide : Int32) (la_heights : Nat → Int32) (la_ladders : Nat → Int32) (la_minutes : Nat → Int32) (la_echoFrom : Nat → Int32) (la_echoTo : Nat → Int32) (la_homes : Nat → Int32) (la_talls : Nat → Int32) (la_known : Nat → Int32) (vf_deeds : Int32) (va_kinds : Nat → Int32) (va_firsts : Nat → Int32) (va_seconds : Nat → Int32) (sf_facts : Int32) (sa_heard : Nat → Int32) (sa_huts : Nat → Int32) (sa_minutes : Nat → Int32) (cf_voices : Int32) (cf_step : Int32) (ca_parts : Nat → Int32) (ca_heights : Nat → Int32) (f_fault : Int32) (f_faultPlace : Int32) (a_numbers : Nat → Int32) (a_tape : Nat → Int32) (f_length : Int32) (f_behind : Int32) (f_kind : Int32) (f_first : Int32) (f_value : Int32) (f_hutsToldOf : Int32) (f_singersToldOf : Int32) (x2 : Int32) (x3 : Int32) (post : (Int32) → (Int32) → (Int32) → (Int32) → (Int32) → (Int32) → (Int32) → (Nat → Int32) → (Nat → Int32) → (Nat → Int32) → (Nat → Int32) → (Nat → Int32) → (Nat → Int32) → (Nat → Int32) → (Nat → Int32) → (Int32) → (Nat → Int32) → (Nat → Int32) → (Nat → Int32) → (Int32) → (Nat → Int32) → (Nat → Int32) → (Nat → Int32) → (Int32) → (Int32) → (Nat → Int32) → (Nat → Int32) → (Int32) → (Int32) → (Nat → Int32) → (Int32) → (Int32) → (Int32) → (Int32) → (Int32) → (Int32) → Prop) : Prop :=
  q_wr_X4_advance_0 a_tape f_length f_behind f_kind f_first f_value (fun f_behind_1 f_kind_1 f_first_1 f_value_1 => ∀ v_1 : Int32, v_1 = x3 + (1 : Int32) → (P39 v_1 f_fault f_faultPlace a_numbers f_behind_1 f_kind_1 f_first_1 f_value_1))
def q_wr_X4_readLine_39 (lf_huts : Int32) (lf_singers : Int32) (lf_villages : Int32) (lf_dams : Int32) (lf_echoes : Int32) (lf_deep : Int32) (lf_slide : Int32) (la_heights : Nat → Int32) (la_ladders : Nat → Int32) (la_minutes : Nat → Int32) (la_echoFrom : Nat → Int32) (la_echoTo : Nat → Int32) (la_homes : Nat → Int32) (la_talls : Nat → Int32) (la_known : Nat → Int32) (vf_deeds : Int32) (va_kinds : Nat → Int32) (va_firsts : Nat → Int32) (va_seconds : Nat → Int32) (sf_facts : Int32) (sa_heard : Nat → Int32) (sa_huts : Nat → Int32) (sa_minutes : Nat → Int32) (cf_voices : Int32) (cf_step : Int32) (ca_parts : Nat → Int32) (ca_heights : Nat → Int32) (f_fault : Int32) (f_faultPlace : Int32) (a_numbers : Nat → Int32) (a_tape : Nat → Int32) (f_length : Int32) (f_behind : Int32) (f_kind : Int32) (f_first : Int32) (f_value : Int32) (f_hutsToldOf : Int32) (f_singersToldOf : Int32) (x2 : Int32) (x3 : Int32) (post : (Int32) → (Int32) → (Int32) → (Int32) → (Int32) → (Int32) → (Int32) → (Nat → Int32) → (Nat → Int32) → (Nat → Int32) → (Nat → Int32) → (Nat → Int32) → (Nat → Int32) → (Nat → Int32) → (Nat → Int32) → (Int32) → (Nat → Int32) → (Nat → Int32) → (Nat → Int32) → (Int32) → (Nat → Int32) → (Nat → Int32) → (Nat → Int32) → (Int32) → (Int32) → (Nat → Int32) → (Nat → Int32) → (Int32) → (Int32) → (Nat → Int32) → (Int32) → (Int32) → (Int32) → (Int32) → (Int32) → (Int32) → Prop) : Prop :=
  ∀ P39 : Int32 → (Int32) → (Int32) → (Nat → Int32) → (Int32) → (Int32) → (Int32) → (Int32) → Prop, (∀ (x3 : Int32) (f_fault : Int32) (f_faultPlace : Int32) (a_numbers : Nat → Int32) (f_behind : Int32) (f_kind : Int32) (f_first : Int32) (f_value : Int32), (vp_in x2 20 ∧ (((tbf_1 (Int32.toNatClampNeg x2)) ≤ x3 → ((f_kind = (3 : Int32) → ((¬ f_fault = 0 → (q_wr_X4_readLine_124 lf_huts lf_singers lf_villages lf_dams lf_echoes lf_deep lf_slide la_heights la_ladders la_minutes la_echoFrom la_echoTo la_homes la_talls la_known vf_deeds va_kinds va_firsts va_seconds sf_facts sa_heard sa_huts sa_minutes cf_voices cf_step ca_parts ca_heights f_fault f_faultPlace a_numbers a_tape f_length f_behind f_kind f_first f_value f_hutsToldOf f_singersToldOf post)) ∧ (f_fault = 0 → (q_wr_X4_tell_0 lf_huts lf_singers lf_villages lf_dams lf_echoes lf_deep lf_slide la_heights la_ladders la_minutes la_echoFrom la_echoTo la_homes la_talls la_known vf_deeds va_kinds va_firsts va_seconds sf_facts sa_heard sa_huts sa_minutes cf_voices cf_step ca_parts ca_heights a_numbers f_hutsToldOf f_singersToldOf x2 (fun lf_huts_1 lf_singers_1 lf_villages_1 lf_dams_1 lf_echoes_1 lf_deep_1 lf_slide_1 la_heights_1 la_ladders_1 la_minutes_1 la_echoFrom_1 la_echoTo_1 la_homes_1 la_talls_1 la_known_1 vf_deeds_1 va_kinds_1 va_firsts_1 va_seconds_1 sf_facts_1 sa_heard_1 sa_huts_1 sa_minutes_1 cf_voices_1 cf_step_1 ca_parts_1 ca_heights_1 f_hutsToldOf_1 f_singersToldOf_1 => q_wr_X4_readLine_124 lf_huts_1 lf_singers_1 lf_villages_1 lf_dams_1 lf_echoes_1 lf_deep_1 lf_slide_1 la_heights_1 la_ladders_1 la_minutes_1 la_echoFrom_1 la_echoTo_1 la_homes_1 la_talls_1 la_known_1 vf_deeds_1 va_kinds_1 va_firsts_1 va_seconds_1 sf_facts_1 sa_heard_1 sa_huts_1 sa_minutes_1 cf_voices_1 cf_step_1 ca_parts_1 ca_heights_1 f_fault f_faultPlace a_numbers a_tape f_length f_behind f_kind f_first f_value f_hutsToldOf_1 f_singersToldOf_1 post))))) ∧ (¬ f_kind = (3 : Int32) → (q_wr_X4_refuse_0 f_fault f_faultPlace f_first (fun f_fault_1 f_faultPlace_1 => post lf_huts lf_singers lf_villages lf_dams lf_echoes lf_deep lf_slide la_heights la_ladders la_minutes la_echoFrom la_echoTo la_homes la_talls la_known vf_deeds va_kinds va_firsts va_seconds sf_facts sa_heard sa_huts sa_minutes cf_voices cf_step ca_parts ca_heights f_fault_1 f_faultPlace_1 a_numbers f_behind f_kind f_first f_value f_hutsToldOf f_singersToldOf))))) ∧ (¬ (tbf_1 (Int32.toNatClampNeg x2)) ≤ x3 → ((f_kind = (2 : Int32) → (vp_in x3 3 ∧ (∀ a_numbers_1 : Nat → Int32, a_numbers_1 = upd a_numbers (Int32.toNatClampNeg x3) f_value → (q_wr_X4_canBe_0 a_numbers_1 x2 x3 (fun r_1 => (¬ r_1 = 0 → (q_wr_X4_readLine_89 P39 lf_huts lf_singers lf_villages lf_dams lf_echoes lf_deep lf_slide la_heights la_ladders la_minutes la_echoFrom la_echoTo la_homes la_talls la_known vf_deeds va_kinds va_firsts va_seconds sf_facts sa_heard sa_huts sa_minutes cf_voices cf_step ca_parts ca_heights f_fault f_faultPlace a_numbers_1 a_tape f_length f_behind f_kind f_first f_value f_hutsToldOf f_singersToldOf x2 x3 post)) ∧ (r_1 = 0 → (q_wr_X4_mark_0 f_fault f_faultPlace (2 : Int32) f_first (fun f_fault_2 f_faultPlace_2 => q_wr_X4_readLine_89 P39 lf_huts lf_singers lf_villages lf_dams lf_echoes lf_deep lf_slide la_heights la_ladders la_minutes la_echoFrom la_echoTo la_homes la_talls la_known vf_deeds va_kinds va_firsts va_seconds sf_facts sa_heard sa_huts sa_minutes cf_voices cf_step ca_parts ca_heights f_fault_2 f_faultPlace_2 a_numbers_1 a_tape f_length f_behind f_kind f_first f_value f_hutsToldOf f_singersToldOf x2 x3 post)))))))) ∧ (¬ f_kind = (2 : Int32) → (q_wr_X4_refuse_0 f_fault f_faultPlace f_first (fun f_fault_3 f_faultPlace_3 => post lf_huts lf_singers lf_villages lf_dams lf_echoes lf_deep lf_slide la_heights la_ladders la_minutes la_echoFrom la_echoTo la_homes la_talls la_known vf_deeds va_kinds va_firsts va_seconds sf_facts sa_heard sa_huts sa_minutes cf_voices cf_step ca_parts ca_heights f_fault_3 f_faultPlace_3 a_numbers f_behind f_kind f_first f_value f_hutsToldOf f_singersToldOf))))))) → P39 x3 f_fault f_faultPlace a_numbers f_behind f_kind f_first f_value) → P39 x3 f_fault f_faultPlace a_numbers f_behind f_kind f_first f_value
def q_wr_X4_readLine_33 (lf_huts : Int32) (lf_singers : Int32) (lf_villages : Int32) (lf_dams : Int32) (lf_echoes : Int32) (lf_deep : Int32) (lf_slide : Int32) (la_heights : Nat → Int32) (la_ladders : Nat → Int32) (la_minutes : Nat → Int32) (la_echoFrom : Nat → Int32) (la_echoTo : Nat → Int32) (la_homes : Nat → Int32) (la_talls : Nat → Int32) (la_known : Nat → Int32) (vf_deeds : Int32) (va_kinds : Nat → Int32) (va_firsts : Nat → Int32) (va_seconds : Nat → Int32) (sf_facts : Int32) (sa_heard : Nat → Int32) (sa_huts : Nat → Int32) (sa_minutes : Nat → Int32) (cf_voices : Int32) (cf_step : Int32) (ca_parts : Nat → Int32) (ca_heights : Nat → Int32) (f_fault : Int32) (f_faultPlace : Int32) (a_numbers : Nat → Int32) (a_tape : Nat → Int32) (f_length : Int32) (f_behind : Int32) (f_kind : Int32) (f_first : Int32) (f_value : Int32) (f_hutsToldOf : Int32) (f_singersToldOf : Int32) (x2 : Int32) (post : (Int32) → (Int32) → (Int32) → (Int32) → (Int32) → (Int32) → (Int32) → (Nat → Int32) → (Nat → Int32) → (Nat → Int32) → (Nat → Int32) → (Nat → Int32) → (Nat → Int32) → (Nat → Int32) → (Nat → Int32) → (Int32) → (Nat → Int32) → (Nat → Int32) → (Nat → Int32) → (Int32) → (Nat → Int32) → (Nat → Int32) → (Nat → Int32) → (Int32) → (Int32) → (Nat → Int32) → (Nat → Int32) → (Int32) → (Int32) → (Nat → Int32) → (Int32) → (Int32) → (Int32) → (Int32) → (Int32) → (Int32) → Prop) : Prop :=
  q_wr_X4_advance_0 a_tape f_length f_behind f_kind f_first f_value (fun f_behind_1 f_kind_1 f_first_1 f_value_1 => q_wr_X4_readLine_39 lf_huts lf_singers lf_villages lf_dams lf_echoes lf_deep lf_slide la_heights la_ladders la_minutes la_echoFrom la_echoTo la_homes la_talls la_known vf_deeds va_kinds va_firsts va_seconds sf_facts sa_heard sa_huts sa_minutes cf_voices cf_step ca_parts ca_heights f_fault f_faultPlace a_numbers a_tape f_length f_behind_1 f_kind_1 f_first_1 f_value_1 f_hutsToldOf f_singersToldOf x2 (0 : Int32) post)
def q_wr_X4_readLine_0 (lf_huts : Int32) (lf_singers : Int32) (lf_villages : Int32) (lf_dams : Int32) (lf_echoes : Int32) (lf_deep : Int32) (lf_slide : Int32) (la_heights : Nat → Int32) (la_ladders : Nat → Int32) (la_minutes : Nat → Int32) (la_echoFrom : Nat → Int32) (la_echoTo : Nat → Int32) (la_homes : Nat → Int32) (la_talls : Nat → Int32) (la_known : Nat → Int32) (vf_deeds : Int32) (va_kinds : Nat → Int32) (va_firsts : Nat → Int32) (va_seconds : Nat → Int32) (sf_facts : Int32) (sa_heard : Nat → Int32) (sa_huts : Nat → Int32) (sa_minutes : Nat → Int32) (cf_voices : Int32) (cf_step : Int32) (ca_parts : Nat → Int32) (ca_heights : Nat → Int32) (f_fault : Int32) (f_faultPlace : Int32) (a_numbers : Nat → Int32) (a_tape : Nat → Int32) (f_length : Int32) (f_behind : Int32) (f_kind : Int32) (f_first : Int32) (f_value : Int32) (f_hutsToldOf : Int32) (f_singersToldOf : Int32) (x1 : Int32) (post : (Int32) → (Int32) → (Int32) → (Int32) → (Int32) → (Int32) → (Int32) → (Nat → Int32) → (Nat → Int32) → (Nat → Int32) → (Nat → Int32) → (Nat → Int32) → (Nat → Int32) → (Nat → Int32) → (Nat → Int32) → (Int32) → (Nat → Int32) → (Nat → Int32) → (Nat → Int32) → (Int32) → (Nat → Int32) → (Nat → Int32) → (Nat → Int32) → (Int32) → (Int32) → (Nat → Int32) → (Nat → Int32) → (Int32) → (Int32) → (Nat → Int32) → (Int32) → (Int32) → (Int32) → (Int32) → (Int32) → (Int32) → Prop) : Prop :=
  q_wr_X4_wordOf_0 a_tape f_behind f_kind f_first x1 (fun r_1 => (¬ r_1 = (-1 : Int32) → (q_wr_X4_isFull_0 lf_huts lf_singers lf_echoes vf_deeds sf_facts cf_voices r_1 (fun r_2 => (r_2 = 0 → (q_wr_X4_readLine_33 lf_huts lf_singers lf_villages lf_dams lf_echoes lf_deep lf_slide la_heights la_ladders la_minutes la_echoFrom la_echoTo la_homes la_talls la_known vf_deeds va_kinds va_firsts va_seconds sf_facts sa_heard sa_huts sa_minutes cf_voices cf_step ca_parts ca_heights f_fault f_faultPlace a_numbers a_tape f_length f_behind f_kind f_first f_value f_hutsToldOf f_singersToldOf r_1 post)) ∧ (¬ r_2 = 0 → (q_wr_X4_mark_0 f_fault f_faultPlace (3 : Int32) f_first (fun f_fault_1 f_faultPlace_1 => q_wr_X4_readLine_33 lf_huts lf_singers lf_villages lf_dams lf_echoes lf_deep lf_slide la_heights la_ladders la_minutes la_echoFrom la_echoTo la_homes la_talls la_known vf_deeds va_kinds va_firsts va_seconds sf_facts sa_heard sa_huts sa_minutes cf_voices cf_step ca_parts ca_heights f_fault_1 f_faultPlace_1 a_numbers a_tape f_length f_behind f_kind f_first f_value f_hutsToldOf f_singersToldOf r_1 post)))))) ∧ (r_1 = (-1 : Int32) → (q_wr_X4_refuse_0 f_fault f_faultPlace f_first (fun f_fault_2 f_faultPlace_2 => post lf_huts lf_singers lf_villages lf_dams lf_echoes lf_deep lf_slide la_heights la_ladders la_minutes la_echoFrom la_echoTo la_homes la_talls la_known vf_deeds va_kinds va_firsts va_seconds sf_facts sa_heard sa_huts sa_minutes cf_voices cf_step ca_parts ca_heights f_fault_2 f_faultPlace_2 a_numbers f_behind f_kind f_first f_value f_hutsToldOf f_singersToldOf))))
set_option maxRecDepth 20000 in
theorem t_wr_X4_readLine_124 {p : Program} {l : Launch} {e : Env} {s : State} {m : MethodId} {args : Array Value} {below : List Frame} {meth : Method} {c : Code} {G : zG} {E : zE} {qr qt : Nat} {lf_huts : Int32} {lf_singers : Int32} {lf_villages : Int32} {lf_dams : Int32} {lf_echoes : Int32} {lf_deep : Int32} {lf_slide : Int32} {la_heights : Nat → Int32} {la_ladders : Nat → Int32} {la_minutes : Nat → Int32} {la_echoFrom : Nat → Int32} {la_echoTo : Nat → Int32} {la_homes : Nat → Int32} {la_talls : Nat → Int32} {la_known : Nat → Int32} {vf_deeds : Int32} {va_kinds : Nat → Int32} {va_firsts : Nat → Int32} {va_seconds : Nat → Int32} {sf_facts : Int32} {sa_heard : Nat → Int32} {sa_huts : Nat → Int32} {sa_minutes : Nat → Int32} {cf_voices : Int32} {cf_step : Int32} {ca_parts : Nat → Int32} {ca_heights : Nat → Int32} {f_fault : Int32} {f_faultPlace : Int32} {a_numbers : Nat → Int32} {a_tape : Nat → Int32} {f_length : Int32} {f_behind : Int32} {f_kind : Int32} {f_first : Int32} {f_value : Int32} {f_hutsToldOf : Int32} {f_singersToldOf : Int32} {z_from : Nat → Int32} {post : (Int32) → (Int32) → (Int32) → (Int32) → (Int32) → (Int32) → (Int32) → (Nat → Int32) → (Nat → Int32) → (Nat → Int32) → (Nat → Int32) → (Nat → Int32) → (Nat → Int32) → (Nat → Int32) → (Nat → Int32) → (Int32) → (Nat → Int32) → (Nat → Int32) → (Nat → Int32) → (Int32) → (Nat → Int32) → (Nat → Int32) → (Nat → Int32) → (Int32) → (Int32) → (Nat → Int32) → (Nat → Int32) → (Int32) → (Int32) → (Nat → Int32) → (Int32) → (Int32) → (Int32) → (Int32) → (Int32) → (Int32) → Prop} {ls : Array Slot} {H : Heap} {locs : List Loc}
    (zc : zC p s m args meth c cX4_readLine 4 RX4 none)
    (hK : zK E s)
    (hM : wrW E qr qt lf_huts lf_singers lf_villages lf_dams lf_echoes lf_deep lf_slide la_heights la_ladders la_minutes la_echoFrom la_echoTo la_homes la_talls la_known vf_deeds va_kinds va_firsts va_seconds sf_facts sa_heard sa_huts sa_minutes cf_voices cf_step ca_parts ca_heights f_fault f_faultPlace a_numbers a_tape f_length f_behind f_kind f_first f_value f_hutsToldOf f_singersToldOf z_from H)
    (hZ : zZ G (wrA qr qt) s s.heap)
    (hS : va_S (wrA qr qt) s.heap H locs)
    (hl : lv_has ls 4 [(0, .ref qr)])
    (hw : q_wr_X4_readLine_124 lf_huts lf_singers lf_villages lf_dams lf_echoes lf_deep lf_slide la_heights la_ladders la_minutes la_echoFrom la_echoTo la_homes la_talls la_known vf_deeds va_kinds va_firsts va_seconds sf_facts sa_heard sa_huts sa_minutes cf_voices cf_step ca_parts ca_heights f_fault f_faultPlace a_numbers a_tape f_length f_behind f_kind f_first f_value f_hutsToldOf f_singersToldOf post) :
    W p l e rm_wr_X4_readLine s m args below meth c H locs 0 0 (MQ below (zQv (S := (Int32) × (Int32) × (Int32) × (Int32) × (Int32) × (Int32) × (Int32) × (Nat → Int32) × (Nat → Int32) × (Nat → Int32) × (Nat → Int32) × (Nat → Int32) × (Nat → Int32) × (Nat → Int32) × (Nat → Int32) × (Int32) × (Nat → Int32) × (Nat → Int32) × (Nat → Int32) × (Int32) × (Nat → Int32) × (Nat → Int32) × (Nat → Int32) × (Int32) × (Int32) × (Nat → Int32) × (Nat → Int32) × (Int32) × (Int32) × (Nat → Int32) × (Int32) × (Int32) × (Int32) × (Int32) × (Int32) × (Int32)) (fun u => post u.1 u.2.1 u.2.2.1 u.2.2.2.1 u.2.2.2.2.1 u.2.2.2.2.2.1 u.2.2.2.2.2.2.1 u.2.2.2.2.2.2.2.1 u.2.2.2.2.2.2.2.2.1 u.2.2.2.2.2.2.2.2.2.1 u.2.2.2.2.2.2.2.2.2.2.1 u.2.2.2.2.2.2.2.2.2.2.2.1 u.2.2.2.2.2.2.2.2.2.2.2.2.1 u.2.2.2.2.2.2.2.2.2.2.2.2.2.1 u.2.2.2.2.2.2.2.2.2.2.2.2.2.2.1 u.2.2.2.2.2.2.2.2.2.2.2.2.2.2.2.1 u.2.2.2.2.2.2.2.2.2.2.2.2.2.2.2.2.1 u.2.2.2.2.2.2.2.2.2.2.2.2.2.2.2.2.2.1 u.2.2.2.2.2.2.2.2.2.2.2.2.2.2.2.2.2.2.1 u.2.2.2.2.2.2.2.2.2.2.2.2.2.2.2.2.2.2.2.1 u.2.2.2.2.2.2.2.2.2.2.2.2.2.2.2.2.2.2.2.2.1 u.2.2.2.2.2.2.2.2.2.2.2.2.2.2.2.2.2.2.2.2.2.1 u.2.2.2.2.2.2.2.2.2.2.2.2.2.2.2.2.2.2.2.2.2.2.1 u.2.2.2.2.2.2.2.2.2.2.2.2.2.2.2.2.2.2.2.2.2.2.2.1 u.2.2.2.2.2.2.2.2.2.2.2.2.2.2.2.2.2.2.2.2.2.2.2.2.1 u.2.2.2.2.2.2.2.2.2.2.2.2.2.2.2.2.2.2.2.2.2.2.2.2.2.1 u.2.2.2.2.2.2.2.2.2.2.2.2.2.2.2.2.2.2.2.2.2.2.2.2.2.2.1 u.2.2.2.2.2.2.2.2.2.2.2.2.2.2.2.2.2.2.2.2.2.2.2.2.2.2.2.1 u.2.2.2.2.2.2.2.2.2.2.2.2.2.2.2.2.2.2.2.2.2.2.2.2.2.2.2.2.1 u.2.2.2.2.2.2.2.2.2.2.2.2.2.2.2.2.2.2.2.2.2.2.2.2.2.2.2.2.2.1 u.2.2.2.2.2.2.2.2.2.2.2.2.2.2.2.2.2.2.2.2.2.2.2.2.2.2.2.2.2.2.1 u.2.2.2.2.2.2.2.2.2.2.2.2.2.2.2.2.2.2.2.2.2.2.2.2.2.2.2.2.2.2.2.1 u.2.2.2.2.2.2.2.2.2.2.2.2.2.2.2.2.2.2.2.2.2.2.2.2.2.2.2.2.2.2.2.2.1 u.2.2.2.2.2.2.2.2.2.2.2.2.2.2.2.2.2.2.2.2.2.2.2.2.2.2.2.2.2.2.2.2.2.1 u.2.2.2.2.2.2.2.2.2.2.2.2.2.2.2.2.2.2.2.2.2.2.2.2.2.2.2.2.2.2.2.2.2.2.1 u.2.2.2.2.2.2.2.2.2.2.2.2.2.2.2.2.2.2.2.2.2.2.2.2.2.2.2.2.2.2.2.2.2.2.2) (fun u H => wrW E qr qt u.1 u.2.1 u.2.2.1 u.2.2.2.1 u.2.2.2.2.1 u.2.2.2.2.2.1 u.2.2.2.2.2.2.1 u.2.2.2.2.2.2.2.1 u.2.2.2.2.2.2.2.2.1 u.2.2.2.2.2.2.2.2.2.1 u.2.2.2.2.2.2.2.2.2.2.1 u.2.2.2.2.2.2.2.2.2.2.2.1 u.2.2.2.2.2.2.2.2.2.2.2.2.1 u.2.2.2.2.2.2.2.2.2.2.2.2.2.1 u.2.2.2.2.2.2.2.2.2.2.2.2.2.2.1 u.2.2.2.2.2.2.2.2.2.2.2.2.2.2.2.1 u.2.2.2.2.2.2.2.2.2.2.2.2.2.2.2.2.1 u.2.2.2.2.2.2.2.2.2.2.2.2.2.2.2.2.2.1 u.2.2.2.2.2.2.2.2.2.2.2.2.2.2.2.2.2.2.1 u.2.2.2.2.2.2.2.2.2.2.2.2.2.2.2.2.2.2.2.1 u.2.2.2.2.2.2.2.2.2.2.2.2.2.2.2.2.2.2.2.2.1 u.2.2.2.2.2.2.2.2.2.2.2.2.2.2.2.2.2.2.2.2.2.1 u.2.2.2.2.2.2.2.2.2.2.2.2.2.2.2.2.2.2.2.2.2.2.1 u.2.2.2.2.2.2.2.2.2.2.2.2.2.2.2.2.2.2.2.2.2.2.2.1 u.2.2.2.2.2.2.2.2.2.2.2.2.2.2.2.2.2.2.2.2.2.2.2.2.1 u.2.2.2.2.2.2.2.2.2.2.2.2.2.2.2.2.2.2.2.2.2.2.2.2.2.1 u.2.2.2.2.2.2.2.2.2.2.2.2.2.2.2.2.2.2.2.2.2.2.2.2.2.2.1 u.2.2.2.2.2.2.2.2.2.2.2.2.2.2.2.2.2.2.2.2.2.2.2.2.2.2.2.1 u.2.2.2.2.2.2.2.2.2.2.2.2.2.2.2.2.2.2.2.2.2.2.2.2.2.2.2.2.1 u.2.2.2.2.2.2.2.2.2.2.2.2.2.2.2.2.2.2.2.2.2.2.2.2.2.2.2.2.2.1 a_tape f_length u.2.2.2.2.2.2.2.2.2.2.2.2.2.2.2.2.2.2.2.2.2.2.2.2.2.2.2.2.2.2.1 u.2.2.2.2.2.2.2.2.2.2.2.2.2.2.2.2.2.2.2.2.2.2.2.2.2.2.2.2.2.2.2.1 u.2.2.2.2.2.2.2.2.2.2.2.2.2.2.2.2.2.2.2.2.2.2.2.2.2.2.2.2.2.2.2.2.1 u.2.2.2.2.2.2.2.2.2.2.2.2.2.2.2.2.2.2.2.2.2.2.2.2.2.2.2.2.2.2.2.2.2.1 u.2.2.2.2.2.2.2.2.2.2.2.2.2.2.2.2.2.2.2.2.2.2.2.2.2.2.2.2.2.2.2.2.2.2.1 u.2.2.2.2.2.2.2.2.2.2.2.2.2.2.2.2.2.2.2.2.2.2.2.2.2.2.2.2.2.2.2.2.2.2.2 z_from H) (wrA qr qt)) args s 0 0 (wrA qr qt)) (F0 m 124 ls []) := by
  have hx := zc.1
  have hb := zc.2.1
  refine lv_aload_n hx hb dX4_readLine_124 rfl (lv_at hl 0 rfl) ?_
  refine zVw_v [] [] zc ky_X4_advance kz_X4_advance km_4_70 (c_wr_X4_advance l hw) (wrPreV0 hK hM) hS rfl rfl hl.1 (Nat.le_of_ble_eq_true rfl) ⟨rfl, rfl⟩ ⟨Nat.le_of_ble_eq_true rfl, Nat.le_of_ble_eq_true rfl⟩ ⟨(Nat.zero_le _), (Nat.zero_le _)⟩ dX4_readLine_125 (fun u H locs hw hM hS => ?_)
  obtain ⟨f_behind_1, f_kind_1, f_first_1, f_value_1⟩ := u
  exact zret_vw ⟨lf_huts, lf_singers, lf_villages, lf_dams, lf_echoes, lf_deep, lf_slide, la_heights, la_ladders, la_minutes, la_echoFrom, la_echoTo, la_homes, la_talls, la_known, vf_deeds, va_kinds, va_firsts, va_seconds, sf_facts, sa_heard, sa_huts, sa_minutes, cf_voices, cf_step, ca_parts, ca_heights, f_fault, f_faultPlace, a_numbers, f_behind_1, f_kind_1, f_first_1, f_value_1, f_hutsToldOf, f_singersToldOf⟩ zc hS hw hM dX4_readLine_128
set_option maxRecDepth 20000 in
theorem t_wr_X4_readLine_89 {p : Program} {l : Launch} {e : Env} {s : State} {m : MethodId} {args : Array Value} {below : List Frame} {meth : Method} {c : Code} {G : zG} {E : zE} {qr qt : Nat} {lf_huts : Int32} {lf_singers : Int32} {lf_villages : Int32} {lf_dams : Int32} {lf_echoes : Int32} {lf_deep : Int32} {lf_slide : Int32} {la_heights : Nat → Int32} {la_ladders : Nat → Int32} {la_minutes : Nat → Int32} {la_echoFrom : Nat → Int32} {la_echoTo : Nat → Int32} {la_homes : Nat → Int32} {la_talls : Nat → Int32} {la_known : Nat → Int32} {vf_deeds : Int32} {va_kinds : Nat → Int32} {va_firsts : Nat → Int32} {va_seconds : Nat → Int32} {sf_facts : Int32} {sa_heard : Nat → Int32} {sa_huts : Nat → Int32} {sa_minutes : Nat → Int32} {cf_voices : Int32} {cf_step : Int32} {ca_parts : Nat → Int32} {ca_heights : Nat → Int32} {f_fault : Int32} {f_faultPlace : Int32} {a_numbers : Nat → Int32} {a_tape : Nat → Int32} {f_length : Int32} {f_behind : Int32} {f_kind : Int32} {f_first : Int32} {f_value : Int32} {f_hutsToldOf : Int32} {f_singersToldOf : Int32} {z_from : Nat → Int32} {P39 : Int32 → (Int32) → (Int32) → (Nat → Int32) → (Int32) → (Int32) → (Int32) → (Int32) → Prop} {post : (Int32) → (Int32) → (Int32) → (Int32) → (Int32) → (Int32) → (Int32) → (Nat → Int32) → (Nat → Int32) → (Nat → Int32) → (Nat → Int32) → (Nat → Int32) → (Nat → Int32) → (Nat → Int32) → (Nat → Int32) → (Int32) → (Nat → Int32) → (Nat → Int32) → (Nat → Int32) → (Int32) → (Nat → Int32) → (Nat → Int32) → (Nat → Int32) → (Int32) → (Int32) → (Nat → Int32) → (Nat → Int32) → (Int32) → (Int32) → (Nat → Int32) → (Int32) → (Int32) → (Int32) → (Int32) → (Int32) → (Int32) → Prop} {x2 : Int32} {x3 : Int32} {ls : Array Slot} {H : Heap} {locs : List Loc}
    (zc : zC p s m args meth c cX4_readLine 4 RX4 none)
    (hK : zK E s)
    (hM : wrW E qr qt lf_huts lf_singers lf_villages lf_dams lf_echoes lf_deep lf_slide la_heights la_ladders la_minutes la_echoFrom la_echoTo la_homes la_talls la_known vf_deeds va_kinds va_firsts va_seconds sf_facts sa_heard sa_huts sa_minutes cf_voices cf_step ca_parts ca_heights f_fault f_faultPlace a_numbers a_tape f_length f_behind f_kind f_first f_value f_hutsToldOf f_singersToldOf z_from H)
    (hZ : zZ G (wrA qr qt) s s.heap)
    (hS : va_S (wrA qr qt) s.heap H locs)
    (hP39 : ∀ (x3 : Int32) (f_fault : Int32) (f_faultPlace : Int32) (a_numbers : Nat → Int32) (f_behind : Int32) (f_kind : Int32) (f_first : Int32) (f_value : Int32) (H : Heap) (locs : List Loc) (ls : Array Slot), P39 x3 f_fault f_faultPlace a_numbers f_behind f_kind f_first f_value → lv_has ls 4 [(0, .ref qr), (2, .int x2), (3, .int x3)] → wrW E qr qt lf_huts lf_singers lf_villages lf_dams lf_echoes lf_deep lf_slide la_heights la_ladders la_minutes la_echoFrom la_echoTo la_homes la_talls la_known vf_deeds va_kinds va_firsts va_seconds sf_facts sa_heard sa_huts sa_minutes cf_voices cf_step ca_parts ca_heights f_fault f_faultPlace a_numbers a_tape f_length f_behind f_kind f_first f_value f_hutsToldOf f_singersToldOf z_from H → va_S (wrA qr qt) s.heap H locs → W p l e rm_wr_X4_readLine s m args below meth c H locs 0 0 (MQ below (zQv (S := (Int32) × (Int32) × (Int32) × (Int32) × (Int32) × (Int32) × (Int32) × (Nat → Int32) × (Nat → Int32) × (Nat → Int32) × (Nat → Int32) × (Nat → Int32) × (Nat → Int32) × (Nat → Int32) × (Nat → Int32) × (Int32) × (Nat → Int32) × (Nat → Int32) × (Nat → Int32) × (Int32) × (Nat → Int32) × (Nat → Int32) × (Nat → Int32) × (Int32) × (Int32) × (Nat → Int32) × (Nat → Int32) × (Int32) × (Int32) × (Nat → Int32) × (Int32) × (Int32) × (Int32) × (Int32) × (Int32) × (Int32)) (fun u => post u.1 u.2.1 u.2.2.1 u.2.2.2.1 u.2.2.2.2.1 u.2.2.2.2.2.1 u.2.2.2.2.2.2.1 u.2.2.2.2.2.2.2.1 u.2.2.2.2.2.2.2.2.1 u.2.2.2.2.2.2.2.2.2.1 u.2.2.2.2.2.2.2.2.2.2.1 u.2.2.2.2.2.2.2.2.2.2.2.1 u.2.2.2.2.2.2.2.2.2.2.2.2.1 u.2.2.2.2.2.2.2.2.2.2.2.2.2.1 u.2.2.2.2.2.2.2.2.2.2.2.2.2.2.1 u.2.2.2.2.2.2.2.2.2.2.2.2.2.2.2.1 u.2.2.2.2.2.2.2.2.2.2.2.2.2.2.2.2.1 u.2.2.2.2.2.2.2.2.2.2.2.2.2.2.2.2.2.1 u.2.2.2.2.2.2.2.2.2.2.2.2.2.2.2.2.2.2.1 u.2.2.2.2.2.2.2.2.2.2.2.2.2.2.2.2.2.2.2.1 u.2.2.2.2.2.2.2.2.2.2.2.2.2.2.2.2.2.2.2.2.1 u.2.2.2.2.2.2.2.2.2.2.2.2.2.2.2.2.2.2.2.2.2.1 u.2.2.2.2.2.2.2.2.2.2.2.2.2.2.2.2.2.2.2.2.2.2.1 u.2.2.2.2.2.2.2.2.2.2.2.2.2.2.2.2.2.2.2.2.2.2.2.1 u.2.2.2.2.2.2.2.2.2.2.2.2.2.2.2.2.2.2.2.2.2.2.2.2.1 u.2.2.2.2.2.2.2.2.2.2.2.2.2.2.2.2.2.2.2.2.2.2.2.2.2.1 u.2.2.2.2.2.2.2.2.2.2.2.2.2.2.2.2.2.2.2.2.2.2.2.2.2.2.1 u.2.2.2.2.2.2.2.2.2.2.2.2.2.2.2.2.2.2.2.2.2.2.2.2.2.2.2.1 u.2.2.2.2.2.2.2.2.2.2.2.2.2.2.2.2.2.2.2.2.2.2.2.2.2.2.2.2.1 u.2.2.2.2.2.2.2.2.2.2.2.2.2.2.2.2.2.2.2.2.2.2.2.2.2.2.2.2.2.1 u.2.2.2.2.2.2.2.2.2.2.2.2.2.2.2.2.2.2.2.2.2.2.2.2.2.2.2.2.2.2.1 u.2.2.2.2.2.2.2.2.2.2.2.2.2.2.2.2.2.2.2.2.2.2.2.2.2.2.2.2.2.2.2.1 u.2.2.2.2.2.2.2.2.2.2.2.2.2.2.2.2.2.2.2.2.2.2.2.2.2.2.2.2.2.2.2.2.1 u.2.2.2.2.2.2.2.2.2.2.2.2.2.2.2.2.2.2.2.2.2.2.2.2.2.2.2.2.2.2.2.2.2.1 u.2.2.2.2.2.2.2.2.2.2.2.2.2.2.2.2.2.2.2.2.2.2.2.2.2.2.2.2.2.2.2.2.2.2.1 u.2.2.2.2.2.2.2.2.2.2.2.2.2.2.2.2.2.2.2.2.2.2.2.2.2.2.2.2.2.2.2.2.2.2.2) (fun u H => wrW E qr qt u.1 u.2.1 u.2.2.1 u.2.2.2.1 u.2.2.2.2.1 u.2.2.2.2.2.1 u.2.2.2.2.2.2.1 u.2.2.2.2.2.2.2.1 u.2.2.2.2.2.2.2.2.1 u.2.2.2.2.2.2.2.2.2.1 u.2.2.2.2.2.2.2.2.2.2.1 u.2.2.2.2.2.2.2.2.2.2.2.1 u.2.2.2.2.2.2.2.2.2.2.2.2.1 u.2.2.2.2.2.2.2.2.2.2.2.2.2.1 u.2.2.2.2.2.2.2.2.2.2.2.2.2.2.1 u.2.2.2.2.2.2.2.2.2.2.2.2.2.2.2.1 u.2.2.2.2.2.2.2.2.2.2.2.2.2.2.2.2.1 u.2.2.2.2.2.2.2.2.2.2.2.2.2.2.2.2.2.1 u.2.2.2.2.2.2.2.2.2.2.2.2.2.2.2.2.2.2.1 u.2.2.2.2.2.2.2.2.2.2.2.2.2.2.2.2.2.2.2.1 u.2.2.2.2.2.2.2.2.2.2.2.2.2.2.2.2.2.2.2.2.1 u.2.2.2.2.2.2.2.2.2.2.2.2.2.2.2.2.2.2.2.2.2.1 u.2.2.2.2.2.2.2.2.2.2.2.2.2.2.2.2.2.2.2.2.2.2.1 u.2.2.2.2.2.2.2.2.2.2.2.2.2.2.2.2.2.2.2.2.2.2.2.1 u.2.2.2.2.2.2.2.2.2.2.2.2.2.2.2.2.2.2.2.2.2.2.2.2.1 u.2.2.2.2.2.2.2.2.2.2.2.2.2.2.2.2.2.2.2.2.2.2.2.2.2.1 u.2.2.2.2.2.2.2.2.2.2.2.2.2.2.2.2.2.2.2.2.2.2.2.2.2.2.1 u.2.2.2.2.2.2.2.2.2.2.2.2.2.2.2.2.2.2.2.2.2.2.2.2.2.2.2.1 u.2.2.2.2.2.2.2.2.2.2.2.2.2.2.2.2.2.2.2.2.2.2.2.2.2.2.2.2.1 u.2.2.2.2.2.2.2.2.2.2.2.2.2.2.2.2.2.2.2.2.2.2.2.2.2.2.2.2.2.1 a_tape f_length u.2.2.2.2.2.2.2.2.2.2.2.2.2.2.2.2.2.2.2.2.2.2.2.2.2.2.2.2.2.2.1 u.2.2.2.2.2.2.2.2.2.2.2.2.2.2.2.2.2.2.2.2.2.2.2.2.2.2.2.2.2.2.2.1 u.2.2.2.2.2.2.2.2.2.2.2.2.2.2.2.2.2.2.2.2.2.2.2.2.2.2.2.2.2.2.2.2.1 u.2.2.2.2.2.2.2.2.2.2.2.2.2.2.2.2.2.2.2.2.2.2.2.2.2.2.2.2.2.2.2.2.2.1 u.2.2.2.2.2.2.2.2.2.2.2.2.2.2.2.2.2.2.2.2.2.2.2.2.2.2.2.2.2.2.2.2.2.2.1 u.2.2.2.2.2.2.2.2.2.2.2.2.2.2.2.2.2.2.2.2.2.2.2.2.2.2.2.2.2.2.2.2.2.2.2 z_from H) (wrA qr qt)) args s 0 0 (wrA qr qt)) (F0 m 39 ls []))
    (hl : lv_has ls 4 [(0, .ref qr), (2, .int x2), (3, .int x3)])
    (hw : q_wr_X4_readLine_89 P39 lf_huts lf_singers lf_villages lf_dams lf_echoes lf_deep lf_slide la_heights la_ladders la_minutes la_echoFrom la_echoTo la_homes la_talls la_known vf_deeds va_kinds va_firsts va_seconds sf_facts sa_heard sa_huts sa_minutes cf_voices cf_step ca_parts ca_heights f_fault f_faultPlace a_numbers a_tape f_length f_behind f_kind f_first f_value f_hutsToldOf f_singersToldOf x2 x3 post) :
    W p l e rm_wr_X4_readLine s m args below meth c H locs 0 0 (MQ below (zQv (S := (Int32) × (Int32) × (Int32) × (Int32) × (Int32) × (Int32) × (Int32) × (Nat → Int32) × (Nat → Int32) × (Nat → Int32) × (Nat → Int32) × (Nat → Int32) × (Nat → Int32) × (Nat → Int32) × (Nat → Int32) × (Int32) × (Nat → Int32) × (Nat → Int32) × (Nat → Int32) × (Int32) × (Nat → Int32) × (Nat → Int32) × (Nat → Int32) × (Int32) × (Int32) × (Nat → Int32) × (Nat → Int32) × (Int32) × (Int32) × (Nat → Int32) × (Int32) × (Int32) × (Int32) × (Int32) × (Int32) × (Int32)) (fun u => post u.1 u.2.1 u.2.2.1 u.2.2.2.1 u.2.2.2.2.1 u.2.2.2.2.2.1 u.2.2.2.2.2.2.1 u.2.2.2.2.2.2.2.1 u.2.2.2.2.2.2.2.2.1 u.2.2.2.2.2.2.2.2.2.1 u.2.2.2.2.2.2.2.2.2.2.1 u.2.2.2.2.2.2.2.2.2.2.2.1 u.2.2.2.2.2.2.2.2.2.2.2.2.1 u.2.2.2.2.2.2.2.2.2.2.2.2.2.1 u.2.2.2.2.2.2.2.2.2.2.2.2.2.2.1 u.2.2.2.2.2.2.2.2.2.2.2.2.2.2.2.1 u.2.2.2.2.2.2.2.2.2.2.2.2.2.2.2.2.1 u.2.2.2.2.2.2.2.2.2.2.2.2.2.2.2.2.2.1 u.2.2.2.2.2.2.2.2.2.2.2.2.2.2.2.2.2.2.1 u.2.2.2.2.2.2.2.2.2.2.2.2.2.2.2.2.2.2.2.1 u.2.2.2.2.2.2.2.2.2.2.2.2.2.2.2.2.2.2.2.2.1 u.2.2.2.2.2.2.2.2.2.2.2.2.2.2.2.2.2.2.2.2.2.1 u.2.2.2.2.2.2.2.2.2.2.2.2.2.2.2.2.2.2.2.2.2.2.1 u.2.2.2.2.2.2.2.2.2.2.2.2.2.2.2.2.2.2.2.2.2.2.2.1 u.2.2.2.2.2.2.2.2.2.2.2.2.2.2.2.2.2.2.2.2.2.2.2.2.1 u.2.2.2.2.2.2.2.2.2.2.2.2.2.2.2.2.2.2.2.2.2.2.2.2.2.1 u.2.2.2.2.2.2.2.2.2.2.2.2.2.2.2.2.2.2.2.2.2.2.2.2.2.2.1 u.2.2.2.2.2.2.2.2.2.2.2.2.2.2.2.2.2.2.2.2.2.2.2.2.2.2.2.1 u.2.2.2.2.2.2.2.2.2.2.2.2.2.2.2.2.2.2.2.2.2.2.2.2.2.2.2.2.1 u.2.2.2.2.2.2.2.2.2.2.2.2.2.2.2.2.2.2.2.2.2.2.2.2.2.2.2.2.2.1 u.2.2.2.2.2.2.2.2.2.2.2.2.2.2.2.2.2.2.2.2.2.2.2.2.2.2.2.2.2.2.1 u.2.2.2.2.2.2.2.2.2.2.2.2.2.2.2.2.2.2.2.2.2.2.2.2.2.2.2.2.2.2.2.1 u.2.2.2.2.2.2.2.2.2.2.2.2.2.2.2.2.2.2.2.2.2.2.2.2.2.2.2.2.2.2.2.2.1 u.2.2.2.2.2.2.2.2.2.2.2.2.2.2.2.2.2.2.2.2.2.2.2.2.2.2.2.2.2.2.2.2.2.1 u.2.2.2.2.2.2.2.2.2.2.2.2.2.2.2.2.2.2.2.2.2.2.2.2.2.2.2.2.2.2.2.2.2.2.1 u.2.2.2.2.2.2.2.2.2.2.2.2.2.2.2.2.2.2.2.2.2.2.2.2.2.2.2.2.2.2.2.2.2.2.2) (fun u H => wrW E qr qt u.1 u.2.1 u.2.2.1 u.2.2.2.1 u.2.2.2.2.1 u.2.2.2.2.2.1 u.2.2.2.2.2.2.1 u.2.2.2.2.2.2.2.1 u.2.2.2.2.2.2.2.2.1 u.2.2.2.2.2.2.2.2.2.1 u.2.2.2.2.2.2.2.2.2.2.1 u.2.2.2.2.2.2.2.2.2.2.2.1 u.2.2.2.2.2.2.2.2.2.2.2.2.1 u.2.2.2.2.2.2.2.2.2.2.2.2.2.1 u.2.2.2.2.2.2.2.2.2.2.2.2.2.2.1 u.2.2.2.2.2.2.2.2.2.2.2.2.2.2.2.1 u.2.2.2.2.2.2.2.2.2.2.2.2.2.2.2.2.1 u.2.2.2.2.2.2.2.2.2.2.2.2.2.2.2.2.2.1 u.2.2.2.2.2.2.2.2.2.2.2.2.2.2.2.2.2.2.1 u.2.2.2.2.2.2.2.2.2.2.2.2.2.2.2.2.2.2.2.1 u.2.2.2.2.2.2.2.2.2.2.2.2.2.2.2.2.2.2.2.2.1 u.2.2.2.2.2.2.2.2.2.2.2.2.2.2.2.2.2.2.2.2.2.1 u.2.2.2.2.2.2.2.2.2.2.2.2.2.2.2.2.2.2.2.2.2.2.1 u.2.2.2.2.2.2.2.2.2.2.2.2.2.2.2.2.2.2.2.2.2.2.2.1 u.2.2.2.2.2.2.2.2.2.2.2.2.2.2.2.2.2.2.2.2.2.2.2.2.1 u.2.2.2.2.2.2.2.2.2.2.2.2.2.2.2.2.2.2.2.2.2.2.2.2.2.1 u.2.2.2.2.2.2.2.2.2.2.2.2.2.2.2.2.2.2.2.2.2.2.2.2.2.2.1 u.2.2.2.2.2.2.2.2.2.2.2.2.2.2.2.2.2.2.2.2.2.2.2.2.2.2.2.1 u.2.2.2.2.2.2.2.2.2.2.2.2.2.2.2.2.2.2.2.2.2.2.2.2.2.2.2.2.1 u.2.2.2.2.2.2.2.2.2.2.2.2.2.2.2.2.2.2.2.2.2.2.2.2.2.2.2.2.2.1 a_tape f_length u.2.2.2.2.2.2.2.2.2.2.2.2.2.2.2.2.2.2.2.2.2.2.2.2.2.2.2.2.2.2.1 u.2.2.2.2.2.2.2.2.2.2.2.2.2.2.2.2.2.2.2.2.2.2.2.2.2.2.2.2.2.2.2.1 u.2.2.2.2.2.2.2.2.2.2.2.2.2.2.2.2.2.2.2.2.2.2.2.2.2.2.2.2.2.2.2.2.1 u.2.2.2.2.2.2.2.2.2.2.2.2.2.2.2.2.2.2.2.2.2.2.2.2.2.2.2.2.2.2.2.2.2.1 u.2.2.2.2.2.2.2.2.2.2.2.2.2.2.2.2.2.2.2.2.2.2.2.2.2.2.2.2.2.2.2.2.2.2.1 u.2.2.2.2.2.2.2.2.2.2.2.2.2.2.2.2.2.2.2.2.2.2.2.2.2.2.2.2.2.2.2.2.2.2.2 z_from H) (wrA qr qt)) args s 0 0 (wrA qr qt)) (F0 m 89 ls []) := by
  have hx := zc.1
  have hb := zc.2.1
  refine lv_aload_n hx hb dX4_readLine_89 rfl (lv_at hl 0 rfl) ?_
  refine zVw_v [] [] zc ky_X4_advance kz_X4_advance km_4_70 (c_wr_X4_advance l hw) (wrPreV0 hK hM) hS rfl rfl hl.1 (Nat.le_of_ble_eq_true rfl) ⟨rfl, rfl⟩ ⟨Nat.le_of_ble_eq_true rfl, Nat.le_of_ble_eq_true rfl⟩ ⟨(Nat.zero_le _), (Nat.zero_le _)⟩ dX4_readLine_90 (fun u H locs hw hM hS => ?_)
  obtain ⟨f_behind_1, f_kind_1, f_first_1, f_value_1⟩ := u
  obtain ⟨v_1, ev_1⟩ : ∃ y : Int32, y = x3 + (1 : Int32) := ⟨_, rfl⟩
  have hw := hw v_1 ev_1
  refine lv_iinc (v := v_1) (k := 2) (lv' := [(3, .int v_1), (0, .ref qr), (2, .int x2)]) hx hb dX4_readLine_93 hl rfl (by rw [ev_1]; rfl) (by decide) rfl (fun ls hl => ?_)
  refine lv_goto (tgt := 39) hx hb dX4_readLine_96 (by decide) ?_
  exact hP39 _ _ _ _ _ _ _ _ _ _ _ hw (lv_sub hl [1, 2, 0] rfl) hM hS
set_option maxRecDepth 20000 in
theorem t_wr_X4_readLine_39 {p : Program} {l : Launch} {e : Env} {s : State} {m : MethodId} {args : Array Value} {below : List Frame} {meth : Method} {c : Code} {G : zG} {E : zE} {qr qt : Nat} {lf_huts : Int32} {lf_singers : Int32} {lf_villages : Int32} {lf_dams : Int32} {lf_echoes : Int32} {lf_deep : Int32} {lf_slide : Int32} {la_heights : Nat → Int32} {la_ladders : Nat → Int32} {la_minutes : Nat → Int32} {la_echoFrom : Nat → Int32} {la_echoTo : Nat → Int32} {la_homes : Nat → Int32} {la_talls : Nat → Int32} {la_known : Nat → Int32} {vf_deeds : Int32} {va_kinds : Nat → Int32} {va_firsts : Nat → Int32} {va_seconds : Nat → Int32} {sf_facts : Int32} {sa_heard : Nat → Int32} {sa_huts : Nat → Int32} {sa_minutes : Nat → Int32} {cf_voices : Int32} {cf_step : Int32} {ca_parts : Nat → Int32} {ca_heights : Nat → Int32} {f_fault : Int32} {f_faultPlace : Int32} {a_numbers : Nat → Int32} {a_tape : Nat → Int32} {f_length : Int32} {f_behind : Int32} {f_kind : Int32} {f_first : Int32} {f_value : Int32} {f_hutsToldOf : Int32} {f_singersToldOf : Int32} {z_from : Nat → Int32} {post : (Int32) → (Int32) → (Int32) → (Int32) → (Int32) → (Int32) → (Int32) → (Nat → Int32) → (Nat → Int32) → (Nat → Int32) → (Nat → Int32) → (Nat → Int32) → (Nat → Int32) → (Nat → Int32) → (Nat → Int32) → (Int32) → (Nat → Int32) → (Nat → Int32) → (Nat → Int32) → (Int32) → (Nat → Int32) → (Nat → Int32) → (Nat → Int32) → (Int32) → (Int32) → (Nat → Int32) → (Nat → Int32) → (Int32) → (Int32) → (Nat → Int32) → (Int32) → (Int32) → (Int32) → (Int32) → (Int32) → (Int32) → Prop} {x2 : Int32} {x3 : Int32} {ls : Array Slot} {H : Heap} {locs : List Loc}
    (zc : zC p s m args meth c cX4_readLine 4 RX4 none)
    (hK : zK E s)
    (hM : wrW E qr qt lf_huts lf_singers lf_villages lf_dams lf_echoes lf_deep lf_slide la_heights la_ladders la_minutes la_echoFrom la_echoTo la_homes la_talls la_known vf_deeds va_kinds va_firsts va_seconds sf_facts sa_heard sa_huts sa_minutes cf_voices cf_step ca_parts ca_heights f_fault f_faultPlace a_numbers a_tape f_length f_behind f_kind f_first f_value f_hutsToldOf f_singersToldOf z_from H)
    (hZ : zZ G (wrA qr qt) s s.heap)
    (hS : va_S (wrA qr qt) s.heap H locs)
    (hl : lv_has ls 4 [(0, .ref qr), (2, .int x2), (3, .int x3)])
    (hw : q_wr_X4_readLine_39 lf_huts lf_singers lf_villages lf_dams lf_echoes lf_deep lf_slide la_heights la_ladders la_minutes la_echoFrom la_echoTo la_homes la_talls la_known vf_deeds va_kinds va_firsts va_seconds sf_facts sa_heard sa_huts sa_minutes cf_voices cf_step ca_parts ca_heights f_fault f_faultPlace a_numbers a_tape f_length f_behind f_kind f_first f_value f_hutsToldOf f_singersToldOf x2 x3 post) :
    W p l e rm_wr_X4_readLine s m args below meth c H locs 0 0 (MQ below (zQv (S := (Int32) × (Int32) × (Int32) × (Int32) × (Int32) × (Int32) × (Int32) × (Nat → Int32) × (Nat → Int32) × (Nat → Int32) × (Nat → Int32) × (Nat → Int32) × (Nat → Int32) × (Nat → Int32) × (Nat → Int32) × (Int32) × (Nat → Int32) × (Nat → Int32) × (Nat → Int32) × (Int32) × (Nat → Int32) × (Nat → Int32) × (Nat → Int32) × (Int32) × (Int32) × (Nat → Int32) × (Nat → Int32) × (Int32) × (Int32) × (Nat → Int32) × (Int32) × (Int32) × (Int32) × (Int32) × (Int32) × (Int32)) (fun u => post u.1 u.2.1 u.2.2.1 u.2.2.2.1 u.2.2.2.2.1 u.2.2.2.2.2.1 u.2.2.2.2.2.2.1 u.2.2.2.2.2.2.2.1 u.2.2.2.2.2.2.2.2.1 u.2.2.2.2.2.2.2.2.2.1 u.2.2.2.2.2.2.2.2.2.2.1 u.2.2.2.2.2.2.2.2.2.2.2.1 u.2.2.2.2.2.2.2.2.2.2.2.2.1 u.2.2.2.2.2.2.2.2.2.2.2.2.2.1 u.2.2.2.2.2.2.2.2.2.2.2.2.2.2.1 u.2.2.2.2.2.2.2.2.2.2.2.2.2.2.2.1 u.2.2.2.2.2.2.2.2.2.2.2.2.2.2.2.2.1 u.2.2.2.2.2.2.2.2.2.2.2.2.2.2.2.2.2.1 u.2.2.2.2.2.2.2.2.2.2.2.2.2.2.2.2.2.2.1 u.2.2.2.2.2.2.2.2.2.2.2.2.2.2.2.2.2.2.2.1 u.2.2.2.2.2.2.2.2.2.2.2.2.2.2.2.2.2.2.2.2.1 u.2.2.2.2.2.2.2.2.2.2.2.2.2.2.2.2.2.2.2.2.2.1 u.2.2.2.2.2.2.2.2.2.2.2.2.2.2.2.2.2.2.2.2.2.2.1 u.2.2.2.2.2.2.2.2.2.2.2.2.2.2.2.2.2.2.2.2.2.2.2.1 u.2.2.2.2.2.2.2.2.2.2.2.2.2.2.2.2.2.2.2.2.2.2.2.2.1 u.2.2.2.2.2.2.2.2.2.2.2.2.2.2.2.2.2.2.2.2.2.2.2.2.2.1 u.2.2.2.2.2.2.2.2.2.2.2.2.2.2.2.2.2.2.2.2.2.2.2.2.2.2.1 u.2.2.2.2.2.2.2.2.2.2.2.2.2.2.2.2.2.2.2.2.2.2.2.2.2.2.2.1 u.2.2.2.2.2.2.2.2.2.2.2.2.2.2.2.2.2.2.2.2.2.2.2.2.2.2.2.2.1 u.2.2.2.2.2.2.2.2.2.2.2.2.2.2.2.2.2.2.2.2.2.2.2.2.2.2.2.2.2.1 u.2.2.2.2.2.2.2.2.2.2.2.2.2.2.2.2.2.2.2.2.2.2.2.2.2.2.2.2.2.2.1 u.2.2.2.2.2.2.2.2.2.2.2.2.2.2.2.2.2.2.2.2.2.2.2.2.2.2.2.2.2.2.2.1 u.2.2.2.2.2.2.2.2.2.2.2.2.2.2.2.2.2.2.2.2.2.2.2.2.2.2.2.2.2.2.2.2.1 u.2.2.2.2.2.2.2.2.2.2.2.2.2.2.2.2.2.2.2.2.2.2.2.2.2.2.2.2.2.2.2.2.2.1 u.2.2.2.2.2.2.2.2.2.2.2.2.2.2.2.2.2.2.2.2.2.2.2.2.2.2.2.2.2.2.2.2.2.2.1 u.2.2.2.2.2.2.2.2.2.2.2.2.2.2.2.2.2.2.2.2.2.2.2.2.2.2.2.2.2.2.2.2.2.2.2) (fun u H => wrW E qr qt u.1 u.2.1 u.2.2.1 u.2.2.2.1 u.2.2.2.2.1 u.2.2.2.2.2.1 u.2.2.2.2.2.2.1 u.2.2.2.2.2.2.2.1 u.2.2.2.2.2.2.2.2.1 u.2.2.2.2.2.2.2.2.2.1 u.2.2.2.2.2.2.2.2.2.2.1 u.2.2.2.2.2.2.2.2.2.2.2.1 u.2.2.2.2.2.2.2.2.2.2.2.2.1 u.2.2.2.2.2.2.2.2.2.2.2.2.2.1 u.2.2.2.2.2.2.2.2.2.2.2.2.2.2.1 u.2.2.2.2.2.2.2.2.2.2.2.2.2.2.2.1 u.2.2.2.2.2.2.2.2.2.2.2.2.2.2.2.2.1 u.2.2.2.2.2.2.2.2.2.2.2.2.2.2.2.2.2.1 u.2.2.2.2.2.2.2.2.2.2.2.2.2.2.2.2.2.2.1 u.2.2.2.2.2.2.2.2.2.2.2.2.2.2.2.2.2.2.2.1 u.2.2.2.2.2.2.2.2.2.2.2.2.2.2.2.2.2.2.2.2.1 u.2.2.2.2.2.2.2.2.2.2.2.2.2.2.2.2.2.2.2.2.2.1 u.2.2.2.2.2.2.2.2.2.2.2.2.2.2.2.2.2.2.2.2.2.2.1 u.2.2.2.2.2.2.2.2.2.2.2.2.2.2.2.2.2.2.2.2.2.2.2.1 u.2.2.2.2.2.2.2.2.2.2.2.2.2.2.2.2.2.2.2.2.2.2.2.2.1 u.2.2.2.2.2.2.2.2.2.2.2.2.2.2.2.2.2.2.2.2.2.2.2.2.2.1 u.2.2.2.2.2.2.2.2.2.2.2.2.2.2.2.2.2.2.2.2.2.2.2.2.2.2.1 u.2.2.2.2.2.2.2.2.2.2.2.2.2.2.2.2.2.2.2.2.2.2.2.2.2.2.2.1 u.2.2.2.2.2.2.2.2.2.2.2.2.2.2.2.2.2.2.2.2.2.2.2.2.2.2.2.2.1 u.2.2.2.2.2.2.2.2.2.2.2.2.2.2.2.2.2.2.2.2.2.2.2.2.2.2.2.2.2.1 a_tape f_length u.2.2.2.2.2.2.2.2.2.2.2.2.2.2.2.2.2.2.2.2.2.2.2.2.2.2.2.2.2.2.1 u.2.2.2.2.2.2.2.2.2.2.2.2.2.2.2.2.2.2.2.2.2.2.2.2.2.2.2.2.2.2.2.1 u.2.2.2.2.2.2.2.2.2.2.2.2.2.2.2.2.2.2.2.2.2.2.2.2.2.2.2.2.2.2.2.2.1 u.2.2.2.2.2.2.2.2.2.2.2.2.2.2.2.2.2.2.2.2.2.2.2.2.2.2.2.2.2.2.2.2.2.1 u.2.2.2.2.2.2.2.2.2.2.2.2.2.2.2.2.2.2.2.2.2.2.2.2.2.2.2.2.2.2.2.2.2.2.1 u.2.2.2.2.2.2.2.2.2.2.2.2.2.2.2.2.2.2.2.2.2.2.2.2.2.2.2.2.2.2.2.2.2.2.2 z_from H) (wrA qr qt)) args s 0 0 (wrA qr qt)) (F0 m 39 ls []) := by
  have hx := zc.1
  have hb := zc.2.1
  refine hw (fun x3 f_fault f_faultPlace a_numbers f_behind f_kind f_first f_value => ∀ (H : Heap) (locs : List Loc) (ls : Array Slot), lv_has ls 4 [(0, .ref qr), (2, .int x2), (3, .int x3)] → wrW E qr qt lf_huts lf_singers lf_villages lf_dams lf_echoes lf_deep lf_slide la_heights la_ladders la_minutes la_echoFrom la_echoTo la_homes la_talls la_known vf_deeds va_kinds va_firsts va_seconds sf_facts sa_heard sa_huts sa_minutes cf_voices cf_step ca_parts ca_heights f_fault f_faultPlace a_numbers a_tape f_length f_behind f_kind f_first f_value f_hutsToldOf f_singersToldOf z_from H → va_S (wrA qr qt) s.heap H locs → W p l e rm_wr_X4_readLine s m args below meth c H locs 0 0 (MQ below (zQv (S := (Int32) × (Int32) × (Int32) × (Int32) × (Int32) × (Int32) × (Int32) × (Nat → Int32) × (Nat → Int32) × (Nat → Int32) × (Nat → Int32) × (Nat → Int32) × (Nat → Int32) × (Nat → Int32) × (Nat → Int32) × (Int32) × (Nat → Int32) × (Nat → Int32) × (Nat → Int32) × (Int32) × (Nat → Int32) × (Nat → Int32) × (Nat → Int32) × (Int32) × (Int32) × (Nat → Int32) × (Nat → Int32) × (Int32) × (Int32) × (Nat → Int32) × (Int32) × (Int32) × (Int32) × (Int32) × (Int32) × (Int32)) (fun u => post u.1 u.2.1 u.2.2.1 u.2.2.2.1 u.2.2.2.2.1 u.2.2.2.2.2.1 u.2.2.2.2.2.2.1 u.2.2.2.2.2.2.2.1 u.2.2.2.2.2.2.2.2.1 u.2.2.2.2.2.2.2.2.2.1 u.2.2.2.2.2.2.2.2.2.2.1 u.2.2.2.2.2.2.2.2.2.2.2.1 u.2.2.2.2.2.2.2.2.2.2.2.2.1 u.2.2.2.2.2.2.2.2.2.2.2.2.2.1 u.2.2.2.2.2.2.2.2.2.2.2.2.2.2.1 u.2.2.2.2.2.2.2.2.2.2.2.2.2.2.2.1 u.2.2.2.2.2.2.2.2.2.2.2.2.2.2.2.2.1 u.2.2.2.2.2.2.2.2.2.2.2.2.2.2.2.2.2.1 u.2.2.2.2.2.2.2.2.2.2.2.2.2.2.2.2.2.2.1 u.2.2.2.2.2.2.2.2.2.2.2.2.2.2.2.2.2.2.2.1 u.2.2.2.2.2.2.2.2.2.2.2.2.2.2.2.2.2.2.2.2.1 u.2.2.2.2.2.2.2.2.2.2.2.2.2.2.2.2.2.2.2.2.2.1 u.2.2.2.2.2.2.2.2.2.2.2.2.2.2.2.2.2.2.2.2.2.2.1 u.2.2.2.2.2.2.2.2.2.2.2.2.2.2.2.2.2.2.2.2.2.2.2.1 u.2.2.2.2.2.2.2.2.2.2.2.2.2.2.2.2.2.2.2.2.2.2.2.2.1 u.2.2.2.2.2.2.2.2.2.2.2.2.2.2.2.2.2.2.2.2.2.2.2.2.2.1 u.2.2.2.2.2.2.2.2.2.2.2.2.2.2.2.2.2.2.2.2.2.2.2.2.2.2.1 u.2.2.2.2.2.2.2.2.2.2.2.2.2.2.2.2.2.2.2.2.2.2.2.2.2.2.2.1 u.2.2.2.2.2.2.2.2.2.2.2.2.2.2.2.2.2.2.2.2.2.2.2.2.2.2.2.2.1 u.2.2.2.2.2.2.2.2.2.2.2.2.2.2.2.2.2.2.2.2.2.2.2.2.2.2.2.2.2.1 u.2.2.2.2.2.2.2.2.2.2.2.2.2.2.2.2.2.2.2.2.2.2.2.2.2.2.2.2.2.2.1 u.2.2.2.2.2.2.2.2.2.2.2.2.2.2.2.2.2.2.2.2.2.2.2.2.2.2.2.2.2.2.2.1 u.2.2.2.2.2.2.2.2.2.2.2.2.2.2.2.2.2.2.2.2.2.2.2.2.2.2.2.2.2.2.2.2.1 u.2.2.2.2.2.2.2.2.2.2.2.2.2.2.2.2.2.2.2.2.2.2.2.2.2.2.2.2.2.2.2.2.2.1 u.2.2.2.2.2.2.2.2.2.2.2.2.2.2.2.2.2.2.2.2.2.2.2.2.2.2.2.2.2.2.2.2.2.2.1 u.2.2.2.2.2.2.2.2.2.2.2.2.2.2.2.2.2.2.2.2.2.2.2.2.2.2.2.2.2.2.2.2.2.2.2) (fun u H => wrW E qr qt u.1 u.2.1 u.2.2.1 u.2.2.2.1 u.2.2.2.2.1 u.2.2.2.2.2.1 u.2.2.2.2.2.2.1 u.2.2.2.2.2.2.2.1 u.2.2.2.2.2.2.2.2.1 u.2.2.2.2.2.2.2.2.2.1 u.2.2.2.2.2.2.2.2.2.2.1 u.2.2.2.2.2.2.2.2.2.2.2.1 u.2.2.2.2.2.2.2.2.2.2.2.2.1 u.2.2.2.2.2.2.2.2.2.2.2.2.2.1 u.2.2.2.2.2.2.2.2.2.2.2.2.2.2.1 u.2.2.2.2.2.2.2.2.2.2.2.2.2.2.2.1 u.2.2.2.2.2.2.2.2.2.2.2.2.2.2.2.2.1 u.2.2.2.2.2.2.2.2.2.2.2.2.2.2.2.2.2.1 u.2.2.2.2.2.2.2.2.2.2.2.2.2.2.2.2.2.2.1 u.2.2.2.2.2.2.2.2.2.2.2.2.2.2.2.2.2.2.2.1 u.2.2.2.2.2.2.2.2.2.2.2.2.2.2.2.2.2.2.2.2.1 u.2.2.2.2.2.2.2.2.2.2.2.2.2.2.2.2.2.2.2.2.2.1 u.2.2.2.2.2.2.2.2.2.2.2.2.2.2.2.2.2.2.2.2.2.2.1 u.2.2.2.2.2.2.2.2.2.2.2.2.2.2.2.2.2.2.2.2.2.2.2.1 u.2.2.2.2.2.2.2.2.2.2.2.2.2.2.2.2.2.2.2.2.2.2.2.2.1 u.2.2.2.2.2.2.2.2.2.2.2.2.2.2.2.2.2.2.2.2.2.2.2.2.2.1 u.2.2.2.2.2.2.2.2.2.2.2.2.2.2.2.2.2.2.2.2.2.2.2.2.2.2.1 u.2.2.2.2.2.2.2.2.2.2.2.2.2.2.2.2.2.2.2.2.2.2.2.2.2.2.2.1 u.2.2.2.2.2.2.2.2.2.2.2.2.2.2.2.2.2.2.2.2.2.2.2.2.2.2.2.2.1 u.2.2.2.2.2.2.2.2.2.2.2.2.2.2.2.2.2.2.2.2.2.2.2.2.2.2.2.2.2.1 a_tape f_length u.2.2.2.2.2.2.2.2.2.2.2.2.2.2.2.2.2.2.2.2.2.2.2.2.2.2.2.2.2.2.1 u.2.2.2.2.2.2.2.2.2.2.2.2.2.2.2.2.2.2.2.2.2.2.2.2.2.2.2.2.2.2.2.1 u.2.2.2.2.2.2.2.2.2.2.2.2.2.2.2.2.2.2.2.2.2.2.2.2.2.2.2.2.2.2.2.2.1 u.2.2.2.2.2.2.2.2.2.2.2.2.2.2.2.2.2.2.2.2.2.2.2.2.2.2.2.2.2.2.2.2.2.1 u.2.2.2.2.2.2.2.2.2.2.2.2.2.2.2.2.2.2.2.2.2.2.2.2.2.2.2.2.2.2.2.2.2.2.1 u.2.2.2.2.2.2.2.2.2.2.2.2.2.2.2.2.2.2.2.2.2.2.2.2.2.2.2.2.2.2.2.2.2.2.2 z_from H) (wrA qr qt)) args s 0 0 (wrA qr qt)) (F0 m 39 ls [])) ?_ _ _ _ hl hM hS
  intro x3 f_fault f_faultPlace a_numbers f_behind f_kind f_first f_value hw H locs ls hl hM hS
  refine lv_iload_n hx hb dX4_readLine_39 rfl (lv_at hl 2 rfl) ?_
  refine va_gets hx hb hZ.1.2.1 hS zc.2.2.2.1 (zc.2.2.2.2.1 _ kf_4_128) (fun _ h => h) dX4_readLine_40 ?_
  refine lv_iload_n hx hb dX4_readLine_43 rfl (lv_at hl 1 rfl) ?_
  refine va_ti hx hb hZ.2.1.2.1 hS hw.1 rfl dX4_readLine_44 ?_
  have hw := hw.2
  refine lv_icmp_ge (tgt := 99) hx hb dX4_readLine_45 (by decide) (fun hc => ?_) (fun hc => ?_)
  · have hw := hw.1 hc
    refine lv_aload_n hx hb dX4_readLine_99 rfl (lv_at hl 0 rfl) ?_
    refine wrg_4_73_0 zc hK hM dX4_readLine_100 ?_
    refine lv_iconst (v := (3 : Int32)) hx hb dX4_readLine_103 (by decide) ?_
    refine lv_icmp_eq (tgt := 112) hx hb dX4_readLine_104 (by decide) (fun hc => ?_) (fun hc => ?_)
    · have hw := hw.1 hc
      refine lv_aload_n hx hb dX4_readLine_112 rfl (lv_at hl 0 rfl) ?_
      refine wrg_4_63_0 zc hK hM dX4_readLine_113 ?_
      refine lv_if_ne (tgt := 124) hx hb dX4_readLine_116 (by decide) (fun hc => ?_) (fun hc => ?_)
      · have hw := hw.1 hc
        exact t_wr_X4_readLine_124 zc hK hM hZ hS  (lv_sub hl [0] rfl) hw
      · have hw := hw.2 hc
        refine lv_aload_n hx hb dX4_readLine_119 rfl (lv_at hl 0 rfl) ?_
        refine lv_iload_n hx hb dX4_readLine_120 rfl (lv_at hl 1 rfl) ?_
        refine zVw_v [.int x2] [] zc ky_X4_tell kz_X4_tell km_4_138 (c_wr_X4_tell l hw) (wrPreVZ0 hK hM hZ hS (fun _ h => h)) hS rfl rfl hl.1 (Nat.le_of_ble_eq_true rfl) ⟨rfl, rfl⟩ ⟨Nat.le_of_ble_eq_true rfl, Nat.le_of_ble_eq_true rfl⟩ ⟨(Nat.zero_le _), (Nat.zero_le _)⟩ dX4_readLine_121 (fun u H locs hw hM hS => ?_)
        obtain ⟨lf_huts_1, lf_singers_1, lf_villages_1, lf_dams_1, lf_echoes_1, lf_deep_1, lf_slide_1, la_heights_1, la_ladders_1, la_minutes_1, la_echoFrom_1, la_echoTo_1, la_homes_1, la_talls_1, la_known_1, vf_deeds_1, va_kinds_1, va_firsts_1, va_seconds_1, sf_facts_1, sa_heard_1, sa_huts_1, sa_minutes_1, cf_voices_1, cf_step_1, ca_parts_1, ca_heights_1, f_hutsToldOf_1, f_singersToldOf_1⟩ := u
        exact t_wr_X4_readLine_124 zc hK hM hZ hS  (lv_sub hl [0] rfl) hw
    · have hw := hw.2 hc
      refine lv_aload_n hx hb dX4_readLine_107 rfl (lv_at hl 0 rfl) ?_
      refine zVw_v [] [] zc ky_X4_refuse kz_X4_refuse km_4_118 (c_wr_X4_refuse l hw) (wrPreV0 hK hM) hS rfl rfl hl.1 (Nat.le_of_ble_eq_true rfl) ⟨rfl, rfl⟩ ⟨Nat.le_of_ble_eq_true rfl, Nat.le_of_ble_eq_true rfl⟩ ⟨(Nat.zero_le _), (Nat.zero_le _)⟩ dX4_readLine_108 (fun u H locs hw hM hS => ?_)
      obtain ⟨f_fault_1, f_faultPlace_1⟩ := u
      exact zret_vw ⟨lf_huts, lf_singers, lf_villages, lf_dams, lf_echoes, lf_deep, lf_slide, la_heights, la_ladders, la_minutes, la_echoFrom, la_echoTo, la_homes, la_talls, la_known, vf_deeds, va_kinds, va_firsts, va_seconds, sf_facts, sa_heard, sa_huts, sa_minutes, cf_voices, cf_step, ca_parts, ca_heights, f_fault_1, f_faultPlace_1, a_numbers, f_behind, f_kind, f_first, f_value, f_hutsToldOf, f_singersToldOf⟩ zc hS hw hM dX4_readLine_111
  · have hw := hw.2 hc
    refine lv_aload_n hx hb dX4_readLine_48 rfl (lv_at hl 0 rfl) ?_
    refine wrg_4_73_0 zc hK hM dX4_readLine_49 ?_
    refine lv_iconst (v := (2 : Int32)) hx hb dX4_readLine_52 (by decide) ?_
    refine lv_icmp_eq (tgt := 61) hx hb dX4_readLine_53 (by decide) (fun hc => ?_) (fun hc => ?_)
    · have hw := hw.1 hc
      refine lv_aload_n hx hb dX4_readLine_61 rfl (lv_at hl 0 rfl) ?_
      refine wrg_4_43_0 zc hK hM dX4_readLine_62 ?_
      refine lv_iload_n hx hb dX4_readLine_65 rfl (lv_at hl 2 rfl) ?_
      refine lv_aload_n hx hb dX4_readLine_66 rfl (lv_at hl 0 rfl) ?_
      refine wrg_4_131_0 zc hK hM dX4_readLine_67 ?_
      refine wrst_21 zc hK hM hS hw.1 dX4_readLine_70 (fun a_numbers_1 H locs ea_numbers_1 hM hS => ?_)
      have hw := hw.2 a_numbers_1 ea_numbers_1
      refine lv_aload_n hx hb dX4_readLine_71 rfl (lv_at hl 0 rfl) ?_
      refine lv_iload_n hx hb dX4_readLine_72 rfl (lv_at hl 1 rfl) ?_
      refine lv_iload_n hx hb dX4_readLine_73 rfl (lv_at hl 2 rfl) ?_
      refine zV_i [.int x2, .int x3] [] zc ky_X4_canBe kz_X4_canBe km_4_134 (c_wr_X4_canBe l hw) (wrPreVZ0 hK hM hZ hS (fun _ h => h)) rfl rfl hl.1 (Nat.le_of_ble_eq_true rfl) ⟨rfl, rfl⟩ ⟨Nat.le_of_ble_eq_true rfl, Nat.le_of_ble_eq_true rfl⟩ ⟨(Nat.zero_le _), (Nat.zero_le _)⟩ dX4_readLine_74 (fun r_1 hw => ?_)
      refine lv_if_ne (tgt := 89) hx hb dX4_readLine_77 (by decide) (fun hc => ?_) (fun hc => ?_)
      · have hw := hw.1 hc
        exact t_wr_X4_readLine_89 zc hK hM hZ hS (fun _ _ _ _ _ _ _ _ H locs ls h hl hM hS => h H locs ls hl hM hS) (lv_sub hl [0, 1, 2] rfl) hw
      · have hw := hw.2 hc
        refine lv_aload_n hx hb dX4_readLine_80 rfl (lv_at hl 0 rfl) ?_
        refine lv_iconst (v := (2 : Int32)) hx hb dX4_readLine_81 (by decide) ?_
        refine lv_aload_n hx hb dX4_readLine_82 rfl (lv_at hl 0 rfl) ?_
        refine wrg_4_125_0 zc hK hM dX4_readLine_83 ?_
        refine zVw_v [.int (2 : Int32), .int f_first] [] zc ky_X4_mark kz_X4_mark km_4_83 (c_wr_X4_mark l hw) (wrPreV0 hK hM) hS rfl rfl hl.1 (Nat.le_of_ble_eq_true rfl) ⟨rfl, rfl⟩ ⟨Nat.le_of_ble_eq_true rfl, Nat.le_of_ble_eq_true rfl⟩ ⟨(Nat.zero_le _), (Nat.zero_le _)⟩ dX4_readLine_86 (fun u H locs hw hM hS => ?_)
        obtain ⟨f_fault_2, f_faultPlace_2⟩ := u
        exact t_wr_X4_readLine_89 zc hK hM hZ hS (fun _ _ _ _ _ _ _ _ H locs ls h hl hM hS => h H locs ls hl hM hS) (lv_sub hl [0, 1, 2] rfl) hw
    · have hw := hw.2 hc
      refine lv_aload_n hx hb dX4_readLine_56 rfl (lv_at hl 0 rfl) ?_
      refine zVw_v [] [] zc ky_X4_refuse kz_X4_refuse km_4_118 (c_wr_X4_refuse l hw) (wrPreV0 hK hM) hS rfl rfl hl.1 (Nat.le_of_ble_eq_true rfl) ⟨rfl, rfl⟩ ⟨Nat.le_of_ble_eq_true rfl, Nat.le_of_ble_eq_true rfl⟩ ⟨(Nat.zero_le _), (Nat.zero_le _)⟩ dX4_readLine_57 (fun u H locs hw hM hS => ?_)
      obtain ⟨f_fault_3, f_faultPlace_3⟩ := u
      exact zret_vw ⟨lf_huts, lf_singers, lf_villages, lf_dams, lf_echoes, lf_deep, lf_slide, la_heights, la_ladders, la_minutes, la_echoFrom, la_echoTo, la_homes, la_talls, la_known, vf_deeds, va_kinds, va_firsts, va_seconds, sf_facts, sa_heard, sa_huts, sa_minutes, cf_voices, cf_step, ca_parts, ca_heights, f_fault_3, f_faultPlace_3, a_numbers, f_behind, f_kind, f_first, f_value, f_hutsToldOf, f_singersToldOf⟩ zc hS hw hM dX4_readLine_60
set_option maxRecDepth 20000 in
theorem t_wr_X4_readLine_33 {p : Program} {l : Launch} {e : Env} {s : State} {m : MethodId} {args : Array Value} {below : List Frame} {meth : Method} {c : Code} {G : zG} {E : zE} {qr qt : Nat} {lf_huts : Int32} {lf_singers : Int32} {lf_villages : Int32} {lf_dams : Int32} {lf_echoes : Int32} {lf_deep : Int32} {lf_slide : Int32} {la_heights : Nat → Int32} {la_ladders : Nat → Int32} {la_minutes : Nat → Int32} {la_echoFrom : Nat → Int32} {la_echoTo : Nat → Int32} {la_homes : Nat → Int32} {la_talls : Nat → Int32} {la_known : Nat → Int32} {vf_deeds : Int32} {va_kinds : Nat → Int32} {va_firsts : Nat → Int32} {va_seconds : Nat → Int32} {sf_facts : Int32} {sa_heard : Nat → Int32} {sa_huts : Nat → Int32} {sa_minutes : Nat → Int32} {cf_voices : Int32} {cf_step : Int32} {ca_parts : Nat → Int32} {ca_heights : Nat → Int32} {f_fault : Int32} {f_faultPlace : Int32} {a_numbers : Nat → Int32} {a_tape : Nat → Int32} {f_length : Int32} {f_behind : Int32} {f_kind : Int32} {f_first : Int32} {f_value : Int32} {f_hutsToldOf : Int32} {f_singersToldOf : Int32} {z_from : Nat → Int32} {post : (Int32) → (Int32) → (Int32) → (Int32) → (Int32) → (Int32) → (Int32) → (Nat → Int32) → (Nat → Int32) → (Nat → Int32) → (Nat → Int32) → (Nat → Int32) → (Nat → Int32) → (Nat → Int32) → (Nat → Int32) → (Int32) → (Nat → Int32) → (Nat → Int32) → (Nat → Int32) → (Int32) → (Nat → Int32) → (Nat → Int32) → (Nat → Int32) → (Int32) → (Int32) → (Nat → Int32) → (Nat → Int32) → (Int32) → (Int32) → (Nat → Int32) → (Int32) → (Int32) → (Int32) → (Int32) → (Int32) → (Int32) → Prop} {x2 : Int32} {ls : Array Slot} {H : Heap} {locs : List Loc}
    (zc : zC p s m args meth c cX4_readLine 4 RX4 none)
    (hK : zK E s)
    (hM : wrW E qr qt lf_huts lf_singers lf_villages lf_dams lf_echoes lf_deep lf_slide la_heights la_ladders la_minutes la_echoFrom la_echoTo la_homes la_talls la_known vf_deeds va_kinds va_firsts va_seconds sf_facts sa_heard sa_huts sa_minutes cf_voices cf_step ca_parts ca_heights f_fault f_faultPlace a_numbers a_tape f_length f_behind f_kind f_first f_value f_hutsToldOf f_singersToldOf z_from H)
    (hZ : zZ G (wrA qr qt) s s.heap)
    (hS : va_S (wrA qr qt) s.heap H locs)
    (hl : lv_has ls 4 [(0, .ref qr), (2, .int x2)])
    (hw : q_wr_X4_readLine_33 lf_huts lf_singers lf_villages lf_dams lf_echoes lf_deep lf_slide la_heights la_ladders la_minutes la_echoFrom la_echoTo la_homes la_talls la_known vf_deeds va_kinds va_firsts va_seconds sf_facts sa_heard sa_huts sa_minutes cf_voices cf_step ca_parts ca_heights f_fault f_faultPlace a_numbers a_tape f_length f_behind f_kind f_first f_value f_hutsToldOf f_singersToldOf x2 post) :
    W p l e rm_wr_X4_readLine s m args below meth c H locs 0 0 (MQ below (zQv (S := (Int32) × (Int32) × (Int32) × (Int32) × (Int32) × (Int32) × (Int32) × (Nat → Int32) × (Nat → Int32) × (Nat → Int32) × (Nat → Int32) × (Nat → Int32) × (Nat → Int32) × (Nat → Int32) × (Nat → Int32) × (Int32) × (Nat → Int32) × (Nat → Int32) × (Nat → Int32) × (Int32) × (Nat → Int32) × (Nat → Int32) × (Nat → Int32) × (Int32) × (Int32) × (Nat → Int32) × (Nat → Int32) × (Int32) × (Int32) × (Nat → Int32) × (Int32) × (Int32) × (Int32) × (Int32) × (Int32) × (Int32)) (fun u => post u.1 u.2.1 u.2.2.1 u.2.2.2.1 u.2.2.2.2.1 u.2.2.2.2.2.1 u.2.2.2.2.2.2.1 u.2.2.2.2.2.2.2.1 u.2.2.2.2.2.2.2.2.1 u.2.2.2.2.2.2.2.2.2.1 u.2.2.2.2.2.2.2.2.2.2.1 u.2.2.2.2.2.2.2.2.2.2.2.1 u.2.2.2.2.2.2.2.2.2.2.2.2.1 u.2.2.2.2.2.2.2.2.2.2.2.2.2.1 u.2.2.2.2.2.2.2.2.2.2.2.2.2.2.1 u.2.2.2.2.2.2.2.2.2.2.2.2.2.2.2.1 u.2.2.2.2.2.2.2.2.2.2.2.2.2.2.2.2.1 u.2.2.2.2.2.2.2.2.2.2.2.2.2.2.2.2.2.1 u.2.2.2.2.2.2.2.2.2.2.2.2.2.2.2.2.2.2.1 u.2.2.2.2.2.2.2.2.2.2.2.2.2.2.2.2.2.2.2.1 u.2.2.2.2.2.2.2.2.2.2.2.2.2.2.2.2.2.2.2.2.1 u.2.2.2.2.2.2.2.2.2.2.2.2.2.2.2.2.2.2.2.2.2.1 u.2.2.2.2.2.2.2.2.2.2.2.2.2.2.2.2.2.2.2.2.2.2.1 u.2.2.2.2.2.2.2.2.2.2.2.2.2.2.2.2.2.2.2.2.2.2.2.1 u.2.2.2.2.2.2.2.2.2.2.2.2.2.2.2.2.2.2.2.2.2.2.2.2.1 u.2.2.2.2.2.2.2.2.2.2.2.2.2.2.2.2.2.2.2.2.2.2.2.2.2.1 u.2.2.2.2.2.2.2.2.2.2.2.2.2.2.2.2.2.2.2.2.2.2.2.2.2.2.1 u.2.2.2.2.2.2.2.2.2.2.2.2.2.2.2.2.2.2.2.2.2.2.2.2.2.2.2.1 u.2.2.2.2.2.2.2.2.2.2.2.2.2.2.2.2.2.2.2.2.2.2.2.2.2.2.2.2.1 u.2.2.2.2.2.2.2.2.2.2.2.2.2.2.2.2.2.2.2.2.2.2.2.2.2.2.2.2.2.1 u.2.2.2.2.2.2.2.2.2.2.2.2.2.2.2.2.2.2.2.2.2.2.2.2.2.2.2.2.2.2.1 u.2.2.2.2.2.2.2.2.2.2.2.2.2.2.2.2.2.2.2.2.2.2.2.2.2.2.2.2.2.2.2.1 u.2.2.2.2.2.2.2.2.2.2.2.2.2.2.2.2.2.2.2.2.2.2.2.2.2.2.2.2.2.2.2.2.1 u.2.2.2.2.2.2.2.2.2.2.2.2.2.2.2.2.2.2.2.2.2.2.2.2.2.2.2.2.2.2.2.2.2.1 u.2.2.2.2.2.2.2.2.2.2.2.2.2.2.2.2.2.2.2.2.2.2.2.2.2.2.2.2.2.2.2.2.2.2.1 u.2.2.2.2.2.2.2.2.2.2.2.2.2.2.2.2.2.2.2.2.2.2.2.2.2.2.2.2.2.2.2.2.2.2.2) (fun u H => wrW E qr qt u.1 u.2.1 u.2.2.1 u.2.2.2.1 u.2.2.2.2.1 u.2.2.2.2.2.1 u.2.2.2.2.2.2.1 u.2.2.2.2.2.2.2.1 u.2.2.2.2.2.2.2.2.1 u.2.2.2.2.2.2.2.2.2.1 u.2.2.2.2.2.2.2.2.2.2.1 u.2.2.2.2.2.2.2.2.2.2.2.1 u.2.2.2.2.2.2.2.2.2.2.2.2.1 u.2.2.2.2.2.2.2.2.2.2.2.2.2.1 u.2.2.2.2.2.2.2.2.2.2.2.2.2.2.1 u.2.2.2.2.2.2.2.2.2.2.2.2.2.2.2.1 u.2.2.2.2.2.2.2.2.2.2.2.2.2.2.2.2.1 u.2.2.2.2.2.2.2.2.2.2.2.2.2.2.2.2.2.1 u.2.2.2.2.2.2.2.2.2.2.2.2.2.2.2.2.2.2.1 u.2.2.2.2.2.2.2.2.2.2.2.2.2.2.2.2.2.2.2.1 u.2.2.2.2.2.2.2.2.2.2.2.2.2.2.2.2.2.2.2.2.1 u.2.2.2.2.2.2.2.2.2.2.2.2.2.2.2.2.2.2.2.2.2.1 u.2.2.2.2.2.2.2.2.2.2.2.2.2.2.2.2.2.2.2.2.2.2.1 u.2.2.2.2.2.2.2.2.2.2.2.2.2.2.2.2.2.2.2.2.2.2.2.1 u.2.2.2.2.2.2.2.2.2.2.2.2.2.2.2.2.2.2.2.2.2.2.2.2.1 u.2.2.2.2.2.2.2.2.2.2.2.2.2.2.2.2.2.2.2.2.2.2.2.2.2.1 u.2.2.2.2.2.2.2.2.2.2.2.2.2.2.2.2.2.2.2.2.2.2.2.2.2.2.1 u.2.2.2.2.2.2.2.2.2.2.2.2.2.2.2.2.2.2.2.2.2.2.2.2.2.2.2.1 u.2.2.2.2.2.2.2.2.2.2.2.2.2.2.2.2.2.2.2.2.2.2.2.2.2.2.2.2.1 u.2.2.2.2.2.2.2.2.2.2.2.2.2.2.2.2.2.2.2.2.2.2.2.2.2.2.2.2.2.1 a_tape f_length u.2.2.2.2.2.2.2.2.2.2.2.2.2.2.2.2.2.2.2.2.2.2.2.2.2.2.2.2.2.2.1 u.2.2.2.2.2.2.2.2.2.2.2.2.2.2.2.2.2.2.2.2.2.2.2.2.2.2.2.2.2.2.2.1 u.2.2.2.2.2.2.2.2.2.2.2.2.2.2.2.2.2.2.2.2.2.2.2.2.2.2.2.2.2.2.2.2.1 u.2.2.2.2.2.2.2.2.2.2.2.2.2.2.2.2.2.2.2.2.2.2.2.2.2.2.2.2.2.2.2.2.2.1 u.2.2.2.2.2.2.2.2.2.2.2.2.2.2.2.2.2.2.2.2.2.2.2.2.2.2.2.2.2.2.2.2.2.2.1 u.2.2.2.2.2.2.2.2.2.2.2.2.2.2.2.2.2.2.2.2.2.2.2.2.2.2.2.2.2.2.2.2.2.2.2 z_from H) (wrA qr qt)) args s 0 0 (wrA qr qt)) (F0 m 33 ls []) := by
  have hx := zc.1
  have hb := zc.2.1
  refine lv_aload_n hx hb dX4_readLine_33 rfl (lv_at hl 0 rfl) ?_
  refine zVw_v [] [] zc ky_X4_advance kz_X4_advance km_4_70 (c_wr_X4_advance l hw) (wrPreV0 hK hM) hS rfl rfl hl.1 (Nat.le_of_ble_eq_true rfl) ⟨rfl, rfl⟩ ⟨Nat.le_of_ble_eq_true rfl, Nat.le_of_ble_eq_true rfl⟩ ⟨(Nat.zero_le _), (Nat.zero_le _)⟩ dX4_readLine_34 (fun u H locs hw hM hS => ?_)
  obtain ⟨f_behind_1, f_kind_1, f_first_1, f_value_1⟩ := u
  refine lv_iconst (v := (0 : Int32)) hx hb dX4_readLine_37 (by decide) ?_
  refine lv_istore_n (lv' := [(3, .int (0 : Int32)), (0, .ref qr), (2, .int x2)]) hx hb dX4_readLine_38 rfl hl (by decide) rfl (fun ls hl => ?_)
  exact t_wr_X4_readLine_39 zc hK hM hZ hS  (lv_sub hl [1, 2, 0] rfl) hw
set_option maxRecDepth 20000 in
theorem t_wr_X4_readLine_0 {p : Program} {l : Launch} {e : Env} {s : State} {m : MethodId} {args : Array Value} {below : List Frame} {meth : Method} {c : Code} {G : zG} {E : zE} {qr qt : Nat} {lf_huts : Int32} {lf_singers : Int32} {lf_villages : Int32} {lf_dams : Int32} {lf_echoes : Int32} {lf_deep : Int32} {lf_slide : Int32} {la_heights : Nat → Int32} {la_ladders : Nat → Int32} {la_minutes : Nat → Int32} {la_echoFrom : Nat → Int32} {la_echoTo : Nat → Int32} {la_homes : Nat → Int32} {la_talls : Nat → Int32} {la_known : Nat → Int32} {vf_deeds : Int32} {va_kinds : Nat → Int32} {va_firsts : Nat → Int32} {va_seconds : Nat → Int32} {sf_facts : Int32} {sa_heard : Nat → Int32} {sa_huts : Nat → Int32} {sa_minutes : Nat → Int32} {cf_voices : Int32} {cf_step : Int32} {ca_parts : Nat → Int32} {ca_heights : Nat → Int32} {f_fault : Int32} {f_faultPlace : Int32} {a_numbers : Nat → Int32} {a_tape : Nat → Int32} {f_length : Int32} {f_behind : Int32} {f_kind : Int32} {f_first : Int32} {f_value : Int32} {f_hutsToldOf : Int32} {f_singersToldOf : Int32} {z_from : Nat → Int32} {post : (Int32) → (Int32) → (Int32) → (Int32) → (Int32) → (Int32) → (Int32) → (Nat → Int32) → (Nat → Int32) → (Nat → Int32) → (Nat → Int32) → (Nat → Int32) → (Nat → Int32) → (Nat → Int32) → (Nat → Int32) → (Int32) → (Nat → Int32) → (Nat → Int32) → (Nat → Int32) → (Int32) → (Nat → Int32) → (Nat → Int32) → (Nat → Int32) → (Int32) → (Int32) → (Nat → Int32) → (Nat → Int32) → (Int32) → (Int32) → (Nat → Int32) → (Int32) → (Int32) → (Int32) → (Int32) → (Int32) → (Int32) → Prop} {x1 : Int32} {ls : Array Slot} {H : Heap} {locs : List Loc}
    (zc : zC p s m args meth c cX4_readLine 4 RX4 none)
    (hK : zK E s)
    (hM : wrW E qr qt lf_huts lf_singers lf_villages lf_dams lf_echoes lf_deep lf_slide la_heights la_ladders la_minutes la_echoFrom la_echoTo la_homes la_talls la_known vf_deeds va_kinds va_firsts va_seconds sf_facts sa_heard sa_huts sa_minutes cf_voices cf_step ca_parts ca_heights f_fault f_faultPlace a_numbers a_tape f_length f_behind f_kind f_first f_value f_hutsToldOf f_singersToldOf z_from H)
    (hZ : zZ G (wrA qr qt) s s.heap)
    (hS : va_S (wrA qr qt) s.heap H locs)
    (hl : lv_has ls 4 [(0, .ref qr), (1, .int x1)])
    (hw : q_wr_X4_readLine_0 lf_huts lf_singers lf_villages lf_dams lf_echoes lf_deep lf_slide la_heights la_ladders la_minutes la_echoFrom la_echoTo la_homes la_talls la_known vf_deeds va_kinds va_firsts va_seconds sf_facts sa_heard sa_huts sa_minutes cf_voices cf_step ca_parts ca_heights f_fault f_faultPlace a_numbers a_tape f_length f_behind f_kind f_first f_value f_hutsToldOf f_singersToldOf x1 post) :
    W p l e rm_wr_X4_readLine s m args below meth c H locs 0 0 (MQ below (zQv (S := (Int32) × (Int32) × (Int32) × (Int32) × (Int32) × (Int32) × (Int32) × (Nat → Int32) × (Nat → Int32) × (Nat → Int32) × (Nat → Int32) × (Nat → Int32) × (Nat → Int32) × (Nat → Int32) × (Nat → Int32) × (Int32) × (Nat → Int32) × (Nat → Int32) × (Nat → Int32) × (Int32) × (Nat → Int32) × (Nat → Int32) × (Nat → Int32) × (Int32) × (Int32) × (Nat → Int32) × (Nat → Int32) × (Int32) × (Int32) × (Nat → Int32) × (Int32) × (Int32) × (Int32) × (Int32) × (Int32) × (Int32)) (fun u => post u.1 u.2.1 u.2.2.1 u.2.2.2.1 u.2.2.2.2.1 u.2.2.2.2.2.1 u.2.2.2.2.2.2.1 u.2.2.2.2.2.2.2.1 u.2.2.2.2.2.2.2.2.1 u.2.2.2.2.2.2.2.2.2.1 u.2.2.2.2.2.2.2.2.2.2.1 u.2.2.2.2.2.2.2.2.2.2.2.1 u.2.2.2.2.2.2.2.2.2.2.2.2.1 u.2.2.2.2.2.2.2.2.2.2.2.2.2.1 u.2.2.2.2.2.2.2.2.2.2.2.2.2.2.1 u.2.2.2.2.2.2.2.2.2.2.2.2.2.2.2.1 u.2.2.2.2.2.2.2.2.2.2.2.2.2.2.2.2.1 u.2.2.2.2.2.2.2.2.2.2.2.2.2.2.2.2.2.1 u.2.2.2.2.2.2.2.2.2.2.2.2.2.2.2.2.2.2.1 u.2.2.2.2.2.2.2.2.2.2.2.2.2.2.2.2.2.2.2.1 u.2.2.2.2.2.2.2.2.2.2.2.2.2.2.2.2.2.2.2.2.1 u.2.2.2.2.2.2.2.2.2.2.2.2.2.2.2.2.2.2.2.2.2.1 u.2.2.2.2.2.2.2.2.2.2.2.2.2.2.2.2.2.2.2.2.2.2.1 u.2.2.2.2.2.2.2.2.2.2.2.2.2.2.2.2.2.2.2.2.2.2.2.1 u.2.2.2.2.2.2.2.2.2.2.2.2.2.2.2.2.2.2.2.2.2.2.2.2.1 u.2.2.2.2.2.2.2.2.2.2.2.2.2.2.2.2.2.2.2.2.2.2.2.2.2.1 u.2.2.2.2.2.2.2.2.2.2.2.2.2.2.2.2.2.2.2.2.2.2.2.2.2.2.1 u.2.2.2.2.2.2.2.2.2.2.2.2.2.2.2.2.2.2.2.2.2.2.2.2.2.2.2.1 u.2.2.2.2.2.2.2.2.2.2.2.2.2.2.2.2.2.2.2.2.2.2.2.2.2.2.2.2.1 u.2.2.2.2.2.2.2.2.2.2.2.2.2.2.2.2.2.2.2.2.2.2.2.2.2.2.2.2.2.1 u.2.2.2.2.2.2.2.2.2.2.2.2.2.2.2.2.2.2.2.2.2.2.2.2.2.2.2.2.2.2.1 u.2.2.2.2.2.2.2.2.2.2.2.2.2.2.2.2.2.2.2.2.2.2.2.2.2.2.2.2.2.2.2.1 u.2.2.2.2.2.2.2.2.2.2.2.2.2.2.2.2.2.2.2.2.2.2.2.2.2.2.2.2.2.2.2.2.1 u.2.2.2.2.2.2.2.2.2.2.2.2.2.2.2.2.2.2.2.2.2.2.2.2.2.2.2.2.2.2.2.2.2.1 u.2.2.2.2.2.2.2.2.2.2.2.2.2.2.2.2.2.2.2.2.2.2.2.2.2.2.2.2.2.2.2.2.2.2.1 u.2.2.2.2.2.2.2.2.2.2.2.2.2.2.2.2.2.2.2.2.2.2.2.2.2.2.2.2.2.2.2.2.2.2.2) (fun u H => wrW E qr qt u.1 u.2.1 u.2.2.1 u.2.2.2.1 u.2.2.2.2.1 u.2.2.2.2.2.1 u.2.2.2.2.2.2.1 u.2.2.2.2.2.2.2.1 u.2.2.2.2.2.2.2.2.1 u.2.2.2.2.2.2.2.2.2.1 u.2.2.2.2.2.2.2.2.2.2.1 u.2.2.2.2.2.2.2.2.2.2.2.1 u.2.2.2.2.2.2.2.2.2.2.2.2.1 u.2.2.2.2.2.2.2.2.2.2.2.2.2.1 u.2.2.2.2.2.2.2.2.2.2.2.2.2.2.1 u.2.2.2.2.2.2.2.2.2.2.2.2.2.2.2.1 u.2.2.2.2.2.2.2.2.2.2.2.2.2.2.2.2.1 u.2.2.2.2.2.2.2.2.2.2.2.2.2.2.2.2.2.1 u.2.2.2.2.2.2.2.2.2.2.2.2.2.2.2.2.2.2.1 u.2.2.2.2.2.2.2.2.2.2.2.2.2.2.2.2.2.2.2.1 u.2.2.2.2.2.2.2.2.2.2.2.2.2.2.2.2.2.2.2.2.1 u.2.2.2.2.2.2.2.2.2.2.2.2.2.2.2.2.2.2.2.2.2.1 u.2.2.2.2.2.2.2.2.2.2.2.2.2.2.2.2.2.2.2.2.2.2.1 u.2.2.2.2.2.2.2.2.2.2.2.2.2.2.2.2.2.2.2.2.2.2.2.1 u.2.2.2.2.2.2.2.2.2.2.2.2.2.2.2.2.2.2.2.2.2.2.2.2.1 u.2.2.2.2.2.2.2.2.2.2.2.2.2.2.2.2.2.2.2.2.2.2.2.2.2.1 u.2.2.2.2.2.2.2.2.2.2.2.2.2.2.2.2.2.2.2.2.2.2.2.2.2.2.1 u.2.2.2.2.2.2.2.2.2.2.2.2.2.2.2.2.2.2.2.2.2.2.2.2.2.2.2.1 u.2.2.2.2.2.2.2.2.2.2.2.2.2.2.2.2.2.2.2.2.2.2.2.2.2.2.2.2.1 u.2.2.2.2.2.2.2.2.2.2.2.2.2.2.2.2.2.2.2.2.2.2.2.2.2.2.2.2.2.1 a_tape f_length u.2.2.2.2.2.2.2.2.2.2.2.2.2.2.2.2.2.2.2.2.2.2.2.2.2.2.2.2.2.2.1 u.2.2.2.2.2.2.2.2.2.2.2.2.2.2.2.2.2.2.2.2.2.2.2.2.2.2.2.2.2.2.2.1 u.2.2.2.2.2.2.2.2.2.2.2.2.2.2.2.2.2.2.2.2.2.2.2.2.2.2.2.2.2.2.2.2.1 u.2.2.2.2.2.2.2.2.2.2.2.2.2.2.2.2.2.2.2.2.2.2.2.2.2.2.2.2.2.2.2.2.2.1 u.2.2.2.2.2.2.2.2.2.2.2.2.2.2.2.2.2.2.2.2.2.2.2.2.2.2.2.2.2.2.2.2.2.2.1 u.2.2.2.2.2.2.2.2.2.2.2.2.2.2.2.2.2.2.2.2.2.2.2.2.2.2.2.2.2.2.2.2.2.2.2 z_from H) (wrA qr qt)) args s 0 0 (wrA qr qt)) (F0 m 0 ls []) := by
  have hx := zc.1
  have hb := zc.2.1
  refine lv_aload_n hx hb dX4_readLine_0 rfl (lv_at hl 0 rfl) ?_
  refine lv_iload_n hx hb dX4_readLine_1 rfl (lv_at hl 1 rfl) ?_
  refine zV_i [.int x1] [] zc ky_X4_wordOf kz_X4_wordOf km_4_114 (c_wr_X4_wordOf l hw) (wrPreVZ0 hK hM hZ hS (fun _ h => h)) rfl rfl hl.1 (Nat.le_of_ble_eq_true rfl) ⟨rfl, rfl⟩ ⟨Nat.le_of_ble_eq_true rfl, Nat.le_of_ble_eq_true rfl⟩ ⟨(Nat.zero_le _), (Nat.zero_le _)⟩ dX4_readLine_2 (fun r_1 hw => ?_)
  refine lv_istore_n (lv' := [(2, .int r_1), (0, .ref qr), (1, .int x1)]) hx hb dX4_readLine_5 rfl hl (by decide) rfl (fun ls hl => ?_)
  refine lv_iload_n hx hb dX4_readLine_6 rfl (lv_at hl 0 rfl) ?_
  refine lv_iconst (v := (-1 : Int32)) hx hb dX4_readLine_7 (by decide) ?_
  refine lv_icmp_ne (tgt := 16) hx hb dX4_readLine_8 (by decide) (fun hc => ?_) (fun hc => ?_)
  · have hw := hw.1 hc
    refine lv_aload_n hx hb dX4_readLine_16 rfl (lv_at hl 1 rfl) ?_
    refine lv_iload_n hx hb dX4_readLine_17 rfl (lv_at hl 0 rfl) ?_
    refine zV_i [.int r_1] [] zc ky_X4_isFull kz_X4_isFull km_4_121 (c_wr_X4_isFull l hw) (wrPreV0 hK hM) rfl rfl hl.1 (Nat.le_of_ble_eq_true rfl) ⟨rfl, rfl⟩ ⟨Nat.le_of_ble_eq_true rfl, Nat.le_of_ble_eq_true rfl⟩ ⟨(Nat.zero_le _), (Nat.zero_le _)⟩ dX4_readLine_18 (fun r_2 hw => ?_)
    refine lv_if_eq (tgt := 33) hx hb dX4_readLine_21 (by decide) (fun hc => ?_) (fun hc => ?_)
    · have hw := hw.1 hc
      exact t_wr_X4_readLine_33 zc hK hM hZ hS  (lv_sub hl [1, 0] rfl) hw
    · have hw := hw.2 hc
      refine lv_aload_n hx hb dX4_readLine_24 rfl (lv_at hl 1 rfl) ?_
      refine lv_iconst (v := (3 : Int32)) hx hb dX4_readLine_25 (by decide) ?_
      refine lv_aload_n hx hb dX4_readLine_26 rfl (lv_at hl 1 rfl) ?_
      refine wrg_4_125_0 zc hK hM dX4_readLine_27 ?_
      refine zVw_v [.int (3 : Int32), .int f_first] [] zc ky_X4_mark kz_X4_mark km_4_83 (c_wr_X4_mark l hw) (wrPreV0 hK hM) hS rfl rfl hl.1 (Nat.le_of_ble_eq_true rfl) ⟨rfl, rfl⟩ ⟨Nat.le_of_ble_eq_true rfl, Nat.le_of_ble_eq_true rfl⟩ ⟨(Nat.zero_le _), (Nat.zero_le _)⟩ dX4_readLine_30 (fun u H locs hw hM hS => ?_)
      obtain ⟨f_fault_1, f_faultPlace_1⟩ := u
      exact t_wr_X4_readLine_33 zc hK hM hZ hS  (lv_sub hl [1, 0] rfl) hw
  · have hw := hw.2 hc
    refine lv_aload_n hx hb dX4_readLine_11 rfl (lv_at hl 1 rfl) ?_
    refine zVw_v [] [] zc ky_X4_refuse kz_X4_refuse km_4_118 (c_wr_X4_refuse l hw) (wrPreV0 hK hM) hS rfl rfl hl.1 (Nat.le_of_ble_eq_true rfl) ⟨rfl, rfl⟩ ⟨Nat.le_of_ble_eq_true rfl, Nat.le_of_ble_eq_true rfl⟩ ⟨(Nat.zero_le _), (Nat.zero_le _)⟩ dX4_readLine_12 (fun u H locs hw hM hS => ?_)
    obtain ⟨f_fault_2, f_faultPlace_2⟩ := u
    exact zret_vw ⟨lf_huts, lf_singers, lf_villages, lf_dams, lf_echoes, lf_deep, lf_slide, la_heights, la_ladders, la_minutes, la_echoFrom, la_echoTo, la_homes, la_talls, la_known, vf_deeds, va_kinds, va_firsts, va_seconds, sf_facts, sa_heard, sa_huts, sa_minutes, cf_voices, cf_step, ca_parts, ca_heights, f_fault_2, f_faultPlace_2, a_numbers, f_behind, f_kind, f_first, f_value, f_hutsToldOf, f_singersToldOf⟩ zc hS hw hM dX4_readLine_15
set_option maxRecDepth 20000 in
theorem c_wr_X4_readLine (l : Launch) {G : zG} {E : zE} {qr qt : Nat} {lf_huts : Int32} {lf_singers : Int32} {lf_villages : Int32} {lf_dams : Int32} {lf_echoes : Int32} {lf_deep : Int32} {lf_slide : Int32} {la_heights : Nat → Int32} {la_ladders : Nat → Int32} {la_minutes : Nat → Int32} {la_echoFrom : Nat → Int32} {la_echoTo : Nat → Int32} {la_homes : Nat → Int32} {la_talls : Nat → Int32} {la_known : Nat → Int32} {vf_deeds : Int32} {va_kinds : Nat → Int32} {va_firsts : Nat → Int32} {va_seconds : Nat → Int32} {sf_facts : Int32} {sa_heard : Nat → Int32} {sa_huts : Nat → Int32} {sa_minutes : Nat → Int32} {cf_voices : Int32} {cf_step : Int32} {ca_parts : Nat → Int32} {ca_heights : Nat → Int32} {f_fault : Int32} {f_faultPlace : Int32} {a_numbers : Nat → Int32} {a_tape : Nat → Int32} {f_length : Int32} {f_behind : Int32} {f_kind : Int32} {f_first : Int32} {f_value : Int32} {f_hutsToldOf : Int32} {f_singersToldOf : Int32} {z_from : Nat → Int32} {x1 : Int32} {post : (Int32) → (Int32) → (Int32) → (Int32) → (Int32) → (Int32) → (Int32) → (Nat → Int32) → (Nat → Int32) → (Nat → Int32) → (Nat → Int32) → (Nat → Int32) → (Nat → Int32) → (Nat → Int32) → (Nat → Int32) → (Int32) → (Nat → Int32) → (Nat → Int32) → (Nat → Int32) → (Int32) → (Nat → Int32) → (Nat → Int32) → (Nat → Int32) → (Int32) → (Int32) → (Nat → Int32) → (Nat → Int32) → (Int32) → (Int32) → (Nat → Int32) → (Int32) → (Int32) → (Int32) → (Int32) → (Int32) → (Int32) → Prop} (hw : q_wr_X4_readLine_0 lf_huts lf_singers lf_villages lf_dams lf_echoes lf_deep lf_slide la_heights la_ladders la_minutes la_echoFrom la_echoTo la_homes la_talls la_known vf_deeds va_kinds va_firsts va_seconds sf_facts sa_heard sa_huts sa_minutes cf_voices cf_step ca_parts ca_heights f_fault f_faultPlace a_numbers a_tape f_length f_behind f_kind f_first f_value f_hutsToldOf f_singersToldOf x1 post) : Met l yX4_readLine (Cond.code yX4_readLine cX4_readLine 4 none :: zb) rm_wr_X4_readLine (va_Pc [.ref qr, .int x1] (fun U => (wrW E qr qt lf_huts lf_singers lf_villages lf_dams lf_echoes lf_deep lf_slide la_heights la_ladders la_minutes la_echoFrom la_echoTo la_homes la_talls la_known vf_deeds va_kinds va_firsts va_seconds sf_facts sa_heard sa_huts sa_minutes cf_voices cf_step ca_parts ca_heights f_fault f_faultPlace a_numbers a_tape f_length f_behind f_kind f_first f_value f_hutsToldOf f_singersToldOf z_from U.heap ∧ zK E U) ∧ zZ G (wrA qr qt) U U.heap)) (zQv (S := (Int32) × (Int32) × (Int32) × (Int32) × (Int32) × (Int32) × (Int32) × (Nat → Int32) × (Nat → Int32) × (Nat → Int32) × (Nat → Int32) × (Nat → Int32) × (Nat → Int32) × (Nat → Int32) × (Nat → Int32) × (Int32) × (Nat → Int32) × (Nat → Int32) × (Nat → Int32) × (Int32) × (Nat → Int32) × (Nat → Int32) × (Nat → Int32) × (Int32) × (Int32) × (Nat → Int32) × (Nat → Int32) × (Int32) × (Int32) × (Nat → Int32) × (Int32) × (Int32) × (Int32) × (Int32) × (Int32) × (Int32)) (fun u => post u.1 u.2.1 u.2.2.1 u.2.2.2.1 u.2.2.2.2.1 u.2.2.2.2.2.1 u.2.2.2.2.2.2.1 u.2.2.2.2.2.2.2.1 u.2.2.2.2.2.2.2.2.1 u.2.2.2.2.2.2.2.2.2.1 u.2.2.2.2.2.2.2.2.2.2.1 u.2.2.2.2.2.2.2.2.2.2.2.1 u.2.2.2.2.2.2.2.2.2.2.2.2.1 u.2.2.2.2.2.2.2.2.2.2.2.2.2.1 u.2.2.2.2.2.2.2.2.2.2.2.2.2.2.1 u.2.2.2.2.2.2.2.2.2.2.2.2.2.2.2.1 u.2.2.2.2.2.2.2.2.2.2.2.2.2.2.2.2.1 u.2.2.2.2.2.2.2.2.2.2.2.2.2.2.2.2.2.1 u.2.2.2.2.2.2.2.2.2.2.2.2.2.2.2.2.2.2.1 u.2.2.2.2.2.2.2.2.2.2.2.2.2.2.2.2.2.2.2.1 u.2.2.2.2.2.2.2.2.2.2.2.2.2.2.2.2.2.2.2.2.1 u.2.2.2.2.2.2.2.2.2.2.2.2.2.2.2.2.2.2.2.2.2.1 u.2.2.2.2.2.2.2.2.2.2.2.2.2.2.2.2.2.2.2.2.2.2.1 u.2.2.2.2.2.2.2.2.2.2.2.2.2.2.2.2.2.2.2.2.2.2.2.1 u.2.2.2.2.2.2.2.2.2.2.2.2.2.2.2.2.2.2.2.2.2.2.2.2.1 u.2.2.2.2.2.2.2.2.2.2.2.2.2.2.2.2.2.2.2.2.2.2.2.2.2.1 u.2.2.2.2.2.2.2.2.2.2.2.2.2.2.2.2.2.2.2.2.2.2.2.2.2.2.1 u.2.2.2.2.2.2.2.2.2.2.2.2.2.2.2.2.2.2.2.2.2.2.2.2.2.2.2.1 u.2.2.2.2.2.2.2.2.2.2.2.2.2.2.2.2.2.2.2.2.2.2.2.2.2.2.2.2.1 u.2.2.2.2.2.2.2.2.2.2.2.2.2.2.2.2.2.2.2.2.2.2.2.2.2.2.2.2.2.1 u.2.2.2.2.2.2.2.2.2.2.2.2.2.2.2.2.2.2.2.2.2.2.2.2.2.2.2.2.2.2.1 u.2.2.2.2.2.2.2.2.2.2.2.2.2.2.2.2.2.2.2.2.2.2.2.2.2.2.2.2.2.2.2.1 u.2.2.2.2.2.2.2.2.2.2.2.2.2.2.2.2.2.2.2.2.2.2.2.2.2.2.2.2.2.2.2.2.1 u.2.2.2.2.2.2.2.2.2.2.2.2.2.2.2.2.2.2.2.2.2.2.2.2.2.2.2.2.2.2.2.2.2.1 u.2.2.2.2.2.2.2.2.2.2.2.2.2.2.2.2.2.2.2.2.2.2.2.2.2.2.2.2.2.2.2.2.2.2.1 u.2.2.2.2.2.2.2.2.2.2.2.2.2.2.2.2.2.2.2.2.2.2.2.2.2.2.2.2.2.2.2.2.2.2.2) (fun u H => wrW E qr qt u.1 u.2.1 u.2.2.1 u.2.2.2.1 u.2.2.2.2.1 u.2.2.2.2.2.1 u.2.2.2.2.2.2.1 u.2.2.2.2.2.2.2.1 u.2.2.2.2.2.2.2.2.1 u.2.2.2.2.2.2.2.2.2.1 u.2.2.2.2.2.2.2.2.2.2.1 u.2.2.2.2.2.2.2.2.2.2.2.1 u.2.2.2.2.2.2.2.2.2.2.2.2.1 u.2.2.2.2.2.2.2.2.2.2.2.2.2.1 u.2.2.2.2.2.2.2.2.2.2.2.2.2.2.1 u.2.2.2.2.2.2.2.2.2.2.2.2.2.2.2.1 u.2.2.2.2.2.2.2.2.2.2.2.2.2.2.2.2.1 u.2.2.2.2.2.2.2.2.2.2.2.2.2.2.2.2.2.1 u.2.2.2.2.2.2.2.2.2.2.2.2.2.2.2.2.2.2.1 u.2.2.2.2.2.2.2.2.2.2.2.2.2.2.2.2.2.2.2.1 u.2.2.2.2.2.2.2.2.2.2.2.2.2.2.2.2.2.2.2.2.1 u.2.2.2.2.2.2.2.2.2.2.2.2.2.2.2.2.2.2.2.2.2.1 u.2.2.2.2.2.2.2.2.2.2.2.2.2.2.2.2.2.2.2.2.2.2.1 u.2.2.2.2.2.2.2.2.2.2.2.2.2.2.2.2.2.2.2.2.2.2.2.1 u.2.2.2.2.2.2.2.2.2.2.2.2.2.2.2.2.2.2.2.2.2.2.2.2.1 u.2.2.2.2.2.2.2.2.2.2.2.2.2.2.2.2.2.2.2.2.2.2.2.2.2.1 u.2.2.2.2.2.2.2.2.2.2.2.2.2.2.2.2.2.2.2.2.2.2.2.2.2.2.1 u.2.2.2.2.2.2.2.2.2.2.2.2.2.2.2.2.2.2.2.2.2.2.2.2.2.2.2.1 u.2.2.2.2.2.2.2.2.2.2.2.2.2.2.2.2.2.2.2.2.2.2.2.2.2.2.2.2.1 u.2.2.2.2.2.2.2.2.2.2.2.2.2.2.2.2.2.2.2.2.2.2.2.2.2.2.2.2.2.1 a_tape f_length u.2.2.2.2.2.2.2.2.2.2.2.2.2.2.2.2.2.2.2.2.2.2.2.2.2.2.2.2.2.2.1 u.2.2.2.2.2.2.2.2.2.2.2.2.2.2.2.2.2.2.2.2.2.2.2.2.2.2.2.2.2.2.2.1 u.2.2.2.2.2.2.2.2.2.2.2.2.2.2.2.2.2.2.2.2.2.2.2.2.2.2.2.2.2.2.2.2.1 u.2.2.2.2.2.2.2.2.2.2.2.2.2.2.2.2.2.2.2.2.2.2.2.2.2.2.2.2.2.2.2.2.2.1 u.2.2.2.2.2.2.2.2.2.2.2.2.2.2.2.2.2.2.2.2.2.2.2.2.2.2.2.2.2.2.2.2.2.2.1 u.2.2.2.2.2.2.2.2.2.2.2.2.2.2.2.2.2.2.2.2.2.2.2.2.2.2.2.2.2.2.2.2.2.2.2 z_from H) (wrA qr qt)) 0 0 (wrA qr qt) := by
  refine Met.ofW (cc := cX4_readLine) (maxL := 4) (ret := none) (by decide) rfl ?_
  intro p e s m args below meth c s₁ B hml hv
  obtain ⟨rfl, ⟨hM, hK⟩, hZ⟩ := hv
  have zc := zc_of B hml
  have hl := lv_entry ([.ref qr, .int x1]) (n := 4) (Nat.le_of_ble_eq_true rfl)
  rw [lg_entry_eq]
  generalize (lg_sl ([.ref qr, .int x1]) ++ List.replicate (4 - (lg_sl ([.ref qr, .int x1])).length) Slot.unset).toArray = ls at hl ⊢
  have hl : lv_has ls 4 [(0, .ref qr), (1, .int x1)] := hl
  exact t_wr_X4_readLine_0 zc hK hM hZ va_S.rf (lv_sub hl [0, 1] rfl) hw
-- wr_X4_read_23
abbrev rm_wr_X4_read_23 : Room := { frames := 7, cells := 0, slots := 0, locals := 196 }
def q_wr_X4_read_23_78 (lf_huts : Int32) (lf_singers : Int32) (lf_villages : Int32) (lf_dams : Int32) (lf_echoes : Int32) (lf_deep : Int32) (lf_slide : Int32) (la_heights : Nat → Int32) (la_ladders : Nat → Int32) (la_minutes : Nat → Int32) (la_echoFrom : Nat → Int32) (la_echoTo : Nat → Int32) (la_homes : Nat → Int32) (la_talls : Nat → Int32) (la_known : Nat → Int32) (vf_deeds : Int32) (va_kinds : Nat → Int32) (va_firsts : Nat → Int32) (va_seconds : Nat → Int32) (sf_facts : Int32) (sa_heard : Nat → Int32) (sa_huts : Nat → Int32) (sa_minutes : Nat → Int32) (cf_voices : Int32) (cf_step : Int32) (ca_parts : Nat → Int32) (ca_heights : Nat → Int32) (f_fault : Int32) (f_faultPlace : Int32) (a_numbers : Nat → Int32) (a_tape : Nat → Int32) (f_length : Int32) (f_behind : Int32) (f_kind : Int32) (f_first : Int32) (f_value : Int32) (f_hutsToldOf : Int32) (f_singersToldOf : Int32) (z_from : Nat → Int32) (x3 : Int32) (post : (Int32) → (Int32) → (Int32) → (Int32) → (Int32) → (Int32) → (Int32) → (Nat → Int32) → (Nat → Int32) → (Nat → Int32) → (Nat → Int32) → (Nat → Int32) → (Nat → Int32) → (Nat → Int32) → (Nat → Int32) → (Int32) → (Nat → Int32) → (Nat → Int32) → (Nat → Int32) → (Int32) → (Nat → Int32) → (Nat → Int32) → (Nat → Int32) → (Int32) → (Int32) → (Nat → Int32) → (Nat → Int32) → (Int32) → (Int32) → (Nat → Int32) → (Nat → Int32) → (Int32) → (Int32) → (Int32) → (Int32) → (Int32) → (Int32) → (Int32) → Prop) : Prop :=
  (¬ f_fault = 0 → (post lf_huts lf_singers lf_villages lf_dams lf_echoes lf_deep lf_slide la_heights la_ladders la_minutes la_echoFrom la_echoTo la_homes la_talls la_known vf_deeds va_kinds va_firsts va_seconds sf_facts sa_heard sa_huts sa_minutes cf_voices cf_step ca_parts ca_heights f_fault f_faultPlace a_numbers a_tape f_length f_behind f_kind f_first f_value f_hutsToldOf f_singersToldOf)) ∧ (f_fault = 0 → ((¬ x3 = 0 → (post lf_huts lf_singers lf_villages lf_dams lf_echoes lf_deep lf_slide la_heights la_ladders la_minutes la_echoFrom la_echoTo la_homes la_talls la_known vf_deeds va_kinds va_firsts va_seconds sf_facts sa_heard sa_huts sa_minutes cf_voices cf_step ca_parts ca_heights f_fault f_faultPlace a_numbers a_tape f_length f_behind f_kind f_first f_value f_hutsToldOf f_singersToldOf)) ∧ (x3 = 0 → (q_wr_X4_tellsOfMissing_0 lf_huts lf_singers f_hutsToldOf f_singersToldOf (fun r_1 => (r_1 = 0 → (post lf_huts lf_singers lf_villages lf_dams lf_echoes lf_deep lf_slide la_heights la_ladders la_minutes la_echoFrom la_echoTo la_homes la_talls la_known vf_deeds va_kinds va_firsts va_seconds sf_facts sa_heard sa_huts sa_minutes cf_voices cf_step ca_parts ca_heights f_fault f_faultPlace a_numbers a_tape f_length f_behind f_kind f_first f_value f_hutsToldOf f_singersToldOf)) ∧ (¬ r_1 = 0 → (q_wr_X4_mark_0 f_fault f_faultPlace (4 : Int32) f_length (fun f_fault_1 f_faultPlace_1 => post lf_huts lf_singers lf_villages lf_dams lf_echoes lf_deep lf_slide la_heights la_ladders la_minutes la_echoFrom la_echoTo la_homes la_talls la_known vf_deeds va_kinds va_firsts va_seconds sf_facts sa_heard sa_huts sa_minutes cf_voices cf_step ca_parts ca_heights f_fault_1 f_faultPlace_1 a_numbers a_tape f_length f_behind f_kind f_first f_value f_hutsToldOf f_singersToldOf))))))))
def q_wr_X4_read_23_43 (lf_huts : Int32) (lf_singers : Int32) (lf_villages : Int32) (lf_dams : Int32) (lf_echoes : Int32) (lf_deep : Int32) (lf_slide : Int32) (la_heights : Nat → Int32) (la_ladders : Nat → Int32) (la_minutes : Nat → Int32) (la_echoFrom : Nat → Int32) (la_echoTo : Nat → Int32) (la_homes : Nat → Int32) (la_talls : Nat → Int32) (la_known : Nat → Int32) (vf_deeds : Int32) (va_kinds : Nat → Int32) (va_firsts : Nat → Int32) (va_seconds : Nat → Int32) (sf_facts : Int32) (sa_heard : Nat → Int32) (sa_huts : Nat → Int32) (sa_minutes : Nat → Int32) (cf_voices : Int32) (cf_step : Int32) (ca_parts : Nat → Int32) (ca_heights : Nat → Int32) (f_fault : Int32) (f_faultPlace : Int32) (a_numbers : Nat → Int32) (a_tape : Nat → Int32) (f_length : Int32) (f_behind : Int32) (f_kind : Int32) (f_first : Int32) (f_value : Int32) (f_hutsToldOf : Int32) (f_singersToldOf : Int32) (z_from : Nat → Int32) (x3 : Int32) (x4 : Int32) (post : (Int32) → (Int32) → (Int32) → (Int32) → (Int32) → (Int32) → (Int32) → (Nat → Int32) → (Nat → Int32) → (Nat → Int32) → (Nat → Int32) → (Nat → Int32) → (Nat → Int32) → (Nat → Int32) → (Nat → Int32) → (Int32) → (Nat → Int32) → (Nat → Int32) → (Nat → Int32) → (Int32) → (Nat → Int32) → (Nat → Int32) → (Nat → Int32) → (Int32) → (Int32) → (Nat → Int32) → (Nat → Int32) → (Int32) → (Int32) → (Nat → Int32) → (Nat → Int32) → (Int32) → (Int32) → (Int32) → (Int32) → (Int32) → (Int32) → (Int32) → Prop) : Prop :=
  ∀ P43 : Int32 → (Int32) → (Int32) → (Int32) → (Int32) → (Int32) → (Int32) → (Int32) → (Nat → Int32) → (Nat → Int32) → (Nat → Int32) → (Nat → Int32) → (Nat → Int32) → (Nat → Int32) → (Nat → Int32) → (Nat → Int32) → (Int32) → (Nat → Int32) → (Nat → Int32) → (Nat → Int32) → (Int32) → (Nat → Int32) → (Nat → Int32) → (Nat → Int32) → (Int32) → (Int32) → (Nat → Int32) → (Nat → Int32) → (Int32) → (Int32) → (Nat → Int32) → (Int32) → (Int32) → (Int32) → (Int32) → (Int32) → (Int32) → Prop, (∀ (x4 : Int32) (lf_huts : Int32) (lf_singers : Int32) (lf_villages : Int32) (lf_dams : Int32) (lf_echoes : Int32) (lf_deep : Int32) (lf_slide : Int32) (la_heights : Nat → Int32) (la_ladders : Nat → Int32) (la_minutes : Nat → Int32) (la_echoFrom : Nat → Int32) (la_echoTo : Nat → Int32) (la_homes : Nat → Int32) (la_talls : Nat → Int32) (la_known : Nat → Int32) (vf_deeds : Int32) (va_kinds : Nat → Int32) (va_firsts : Nat → Int32) (va_seconds : Nat → Int32) (sf_facts : Int32) (sa_heard : Nat → Int32) (sa_huts : Nat → Int32) (sa_minutes : Nat → Int32) (cf_voices : Int32) (cf_step : Int32) (ca_parts : Nat → Int32) (ca_heights : Nat → Int32) (f_fault : Int32) (f_faultPlace : Int32) (a_numbers : Nat → Int32) (f_behind : Int32) (f_kind : Int32) (f_first : Int32) (f_value : Int32) (f_hutsToldOf : Int32) (f_singersToldOf : Int32), ((f_length ≤ x4 → (q_wr_X4_read_23_78 lf_huts lf_singers lf_villages lf_dams lf_echoes lf_deep lf_slide la_heights la_ladders la_minutes la_echoFrom la_echoTo la_homes la_talls la_known vf_deeds va_kinds va_firsts va_seconds sf_facts sa_heard sa_huts sa_minutes cf_voices cf_step ca_parts ca_heights f_fault f_faultPlace a_numbers a_tape f_length f_behind f_kind f_first f_value f_hutsToldOf f_singersToldOf z_from x3 post)) ∧ (¬ f_length ≤ x4 → ((f_kind = 0 → (q_wr_X4_read_23_78 lf_huts lf_singers lf_villages lf_dams lf_echoes lf_deep lf_slide la_heights la_ladders la_minutes la_echoFrom la_echoTo la_homes la_talls la_known vf_deeds va_kinds va_firsts va_seconds sf_facts sa_heard sa_huts sa_minutes cf_voices cf_step ca_parts ca_heights f_fault f_faultPlace a_numbers a_tape f_length f_behind f_kind f_first f_value f_hutsToldOf f_singersToldOf z_from x3 post)) ∧ (¬ f_kind = 0 → ((f_fault = (1 : Int32) → (q_wr_X4_read_23_78 lf_huts lf_singers lf_villages lf_dams lf_echoes lf_deep lf_slide la_heights la_ladders la_minutes la_echoFrom la_echoTo la_homes la_talls la_known vf_deeds va_kinds va_firsts va_seconds sf_facts sa_heard sa_huts sa_minutes cf_voices cf_step ca_parts ca_heights f_fault f_faultPlace a_numbers a_tape f_length f_behind f_kind f_first f_value f_hutsToldOf f_singersToldOf z_from x3 post)) ∧ (¬ f_fault = (1 : Int32) → (q_wr_X4_readLine_0 lf_huts lf_singers lf_villages lf_dams lf_echoes lf_deep lf_slide la_heights la_ladders la_minutes la_echoFrom la_echoTo la_homes la_talls la_known vf_deeds va_kinds va_firsts va_seconds sf_facts sa_heard sa_huts sa_minutes cf_voices cf_step ca_parts ca_heights f_fault f_faultPlace a_numbers a_tape f_length f_behind f_kind f_first f_value f_hutsToldOf f_singersToldOf x3 (fun lf_huts_1 lf_singers_1 lf_villages_1 lf_dams_1 lf_echoes_1 lf_deep_1 lf_slide_1 la_heights_1 la_ladders_1 la_minutes_1 la_echoFrom_1 la_echoTo_1 la_homes_1 la_talls_1 la_known_1 vf_deeds_1 va_kinds_1 va_firsts_1 va_seconds_1 sf_facts_1 sa_heard_1 sa_huts_1 sa_minutes_1 cf_voices_1 cf_step_1 ca_parts_1 ca_heights_1 f_fault_1 f_faultPlace_1 a_numbers_1 f_behind_1 f_kind_1 f_first_1 f_value_1 f_hutsToldOf_1 f_singersToldOf_1 => ∀ v_1 : Int32, v_1 = x4 + (1 : Int32) → (P43 v_1 lf_huts_1 lf_singers_1 lf_villages_1 lf_dams_1 lf_echoes_1 lf_deep_1 lf_slide_1 la_heights_1 la_ladders_1 la_minutes_1 la_echoFrom_1 la_echoTo_1 la_homes_1 la_talls_1 la_known_1 vf_deeds_1 va_kinds_1 va_firsts_1 va_seconds_1 sf_facts_1 sa_heard_1 sa_huts_1 sa_minutes_1 cf_voices_1 cf_step_1 ca_parts_1 ca_heights_1 f_fault_1 f_faultPlace_1 a_numbers_1 f_behind_1 f_kind_1 f_first_1 f_value_1 f_hutsToldOf_1 f_singersToldOf_1))))))))) → P43 x4 lf_huts lf_singers lf_villages lf_dams lf_echoes lf_deep lf_slide la_heights la_ladders la_minutes la_echoFrom la_echoTo la_homes la_talls la_known vf_deeds va_kinds va_firsts va_seconds sf_facts sa_heard sa_huts sa_minutes cf_voices cf_step ca_parts ca_heights f_fault f_faultPlace a_numbers f_behind f_kind f_first f_value f_hutsToldOf f_singersToldOf) → P43 x4 lf_huts lf_singers lf_villages lf_dams lf_echoes lf_deep lf_slide la_heights la_ladders la_minutes la_echoFrom la_echoTo la_homes la_talls la_known vf_deeds va_kinds va_firsts va_seconds sf_facts sa_heard sa_huts sa_minutes cf_voices cf_step ca_parts ca_heights f_fault f_faultPlace a_numbers f_behind f_kind f_first f_value f_hutsToldOf f_singersToldOf
def q_wr_X4_read_23_0 (lf_huts : Int32) (lf_singers : Int32) (lf_villages : Int32) (lf_dams : Int32) (lf_echoes : Int32) (lf_deep : Int32) (lf_slide : Int32) (la_heights : Nat → Int32) (la_ladders : Nat → Int32) (la_minutes : Nat → Int32) (la_echoFrom : Nat → Int32) (la_echoTo : Nat → Int32) (la_homes : Nat → Int32) (la_talls : Nat → Int32) (la_known : Nat → Int32) (vf_deeds : Int32) (va_kinds : Nat → Int32) (va_firsts : Nat → Int32) (va_seconds : Nat → Int32) (sf_facts : Int32) (sa_heard : Nat → Int32) (sa_huts : Nat → Int32) (sa_minutes : Nat → Int32) (cf_voices : Int32) (cf_step : Int32) (ca_parts : Nat → Int32) (ca_heights : Nat → Int32) (f_fault : Int32) (f_faultPlace : Int32) (a_numbers : Nat → Int32) (a_tape : Nat → Int32) (f_length : Int32) (f_behind : Int32) (f_kind : Int32) (f_first : Int32) (f_value : Int32) (f_hutsToldOf : Int32) (f_singersToldOf : Int32) (z_from : Nat → Int32) (x2 : Int32) (x3 : Int32) (post : (Int32) → (Int32) → (Int32) → (Int32) → (Int32) → (Int32) → (Int32) → (Nat → Int32) → (Nat → Int32) → (Nat → Int32) → (Nat → Int32) → (Nat → Int32) → (Nat → Int32) → (Nat → Int32) → (Nat → Int32) → (Int32) → (Nat → Int32) → (Nat → Int32) → (Nat → Int32) → (Int32) → (Nat → Int32) → (Nat → Int32) → (Nat → Int32) → (Int32) → (Int32) → (Nat → Int32) → (Nat → Int32) → (Int32) → (Int32) → (Nat → Int32) → (Nat → Int32) → (Int32) → (Int32) → (Int32) → (Int32) → (Int32) → (Int32) → (Int32) → Prop) : Prop :=
  (¬ x2 < 0) ∧ ((Int32.toNatClampNeg (0 : Int32) + Int32.toNatClampNeg x2 ≤ 600) ∧ ((Int32.toNatClampNeg (0 : Int32) + Int32.toNatClampNeg x2 ≤ 600) ∧ ((∀ i, i < Int32.toNatClampNeg x2 → fits .byte (.int (z_from (Int32.toNatClampNeg (0 : Int32) + i))) = true) ∧ (∀ a_tape_1 : Nat → Int32, a_tape_1 = va_cpy z_from a_tape (Int32.toNatClampNeg (0 : Int32)) (Int32.toNatClampNeg (0 : Int32)) (Int32.toNatClampNeg x2) → (q_wr_X4_clearDraft_0 lf_huts lf_singers lf_villages lf_dams lf_echoes lf_deep lf_slide la_ladders la_minutes la_known vf_deeds sf_facts cf_voices cf_step f_hutsToldOf f_singersToldOf x3 (fun lf_huts_1 lf_singers_1 lf_villages_1 lf_dams_1 lf_echoes_1 lf_deep_1 lf_slide_1 la_ladders_1 la_minutes_1 la_known_1 vf_deeds_1 sf_facts_1 cf_voices_1 cf_step_1 f_hutsToldOf_1 f_singersToldOf_1 => q_wr_X4_advance_0 a_tape_1 x2 (0 : Int32) f_kind f_first f_value (fun f_behind_1 f_kind_1 f_first_1 f_value_1 => q_wr_X4_read_23_43 lf_huts_1 lf_singers_1 lf_villages_1 lf_dams_1 lf_echoes_1 lf_deep_1 lf_slide_1 la_heights la_ladders_1 la_minutes_1 la_echoFrom la_echoTo la_homes la_talls la_known_1 vf_deeds_1 va_kinds va_firsts va_seconds sf_facts_1 sa_heard sa_huts sa_minutes cf_voices_1 cf_step_1 ca_parts ca_heights (0 : Int32) (-1 : Int32) a_numbers a_tape_1 x2 f_behind_1 f_kind_1 f_first_1 f_value_1 f_hutsToldOf_1 f_singersToldOf_1 z_from x3 (0 : Int32) post)))))))
set_option maxRecDepth 20000 in
theorem t_wr_X4_read_23_78 {p : Program} {l : Launch} {e : Env} {s : State} {m : MethodId} {args : Array Value} {below : List Frame} {meth : Method} {c : Code} {G : zG} {E : zE} {qr qt : Nat} {lf_huts : Int32} {lf_singers : Int32} {lf_villages : Int32} {lf_dams : Int32} {lf_echoes : Int32} {lf_deep : Int32} {lf_slide : Int32} {la_heights : Nat → Int32} {la_ladders : Nat → Int32} {la_minutes : Nat → Int32} {la_echoFrom : Nat → Int32} {la_echoTo : Nat → Int32} {la_homes : Nat → Int32} {la_talls : Nat → Int32} {la_known : Nat → Int32} {vf_deeds : Int32} {va_kinds : Nat → Int32} {va_firsts : Nat → Int32} {va_seconds : Nat → Int32} {sf_facts : Int32} {sa_heard : Nat → Int32} {sa_huts : Nat → Int32} {sa_minutes : Nat → Int32} {cf_voices : Int32} {cf_step : Int32} {ca_parts : Nat → Int32} {ca_heights : Nat → Int32} {f_fault : Int32} {f_faultPlace : Int32} {a_numbers : Nat → Int32} {a_tape : Nat → Int32} {f_length : Int32} {f_behind : Int32} {f_kind : Int32} {f_first : Int32} {f_value : Int32} {f_hutsToldOf : Int32} {f_singersToldOf : Int32} {z_from : Nat → Int32} {post : (Int32) → (Int32) → (Int32) → (Int32) → (Int32) → (Int32) → (Int32) → (Nat → Int32) → (Nat → Int32) → (Nat → Int32) → (Nat → Int32) → (Nat → Int32) → (Nat → Int32) → (Nat → Int32) → (Nat → Int32) → (Int32) → (Nat → Int32) → (Nat → Int32) → (Nat → Int32) → (Int32) → (Nat → Int32) → (Nat → Int32) → (Nat → Int32) → (Int32) → (Int32) → (Nat → Int32) → (Nat → Int32) → (Int32) → (Int32) → (Nat → Int32) → (Nat → Int32) → (Int32) → (Int32) → (Int32) → (Int32) → (Int32) → (Int32) → (Int32) → Prop} {x3 : Int32} {ls : Array Slot} {H : Heap} {locs : List Loc}
    (zc : zC p s m args meth c cX4_read 5 RX4 none)
    (hK : zK E s)
    (hM : wrW E qr qt lf_huts lf_singers lf_villages lf_dams lf_echoes lf_deep lf_slide la_heights la_ladders la_minutes la_echoFrom la_echoTo la_homes la_talls la_known vf_deeds va_kinds va_firsts va_seconds sf_facts sa_heard sa_huts sa_minutes cf_voices cf_step ca_parts ca_heights f_fault f_faultPlace a_numbers a_tape f_length f_behind f_kind f_first f_value f_hutsToldOf f_singersToldOf z_from H)
    (hZ : zZ G (wrA qr qt) s s.heap)
    (hS : va_S (wrA qr qt) s.heap H locs)
    (hl : lv_has ls 5 [(0, .ref qr), (3, .int x3)])
    (hw : q_wr_X4_read_23_78 lf_huts lf_singers lf_villages lf_dams lf_echoes lf_deep lf_slide la_heights la_ladders la_minutes la_echoFrom la_echoTo la_homes la_talls la_known vf_deeds va_kinds va_firsts va_seconds sf_facts sa_heard sa_huts sa_minutes cf_voices cf_step ca_parts ca_heights f_fault f_faultPlace a_numbers a_tape f_length f_behind f_kind f_first f_value f_hutsToldOf f_singersToldOf z_from x3 post) :
    W p l e rm_wr_X4_read_23 s m args below meth c H locs 0 0 (MQ below (zQv (S := (Int32) × (Int32) × (Int32) × (Int32) × (Int32) × (Int32) × (Int32) × (Nat → Int32) × (Nat → Int32) × (Nat → Int32) × (Nat → Int32) × (Nat → Int32) × (Nat → Int32) × (Nat → Int32) × (Nat → Int32) × (Int32) × (Nat → Int32) × (Nat → Int32) × (Nat → Int32) × (Int32) × (Nat → Int32) × (Nat → Int32) × (Nat → Int32) × (Int32) × (Int32) × (Nat → Int32) × (Nat → Int32) × (Int32) × (Int32) × (Nat → Int32) × (Nat → Int32) × (Int32) × (Int32) × (Int32) × (Int32) × (Int32) × (Int32) × (Int32)) (fun u => post u.1 u.2.1 u.2.2.1 u.2.2.2.1 u.2.2.2.2.1 u.2.2.2.2.2.1 u.2.2.2.2.2.2.1 u.2.2.2.2.2.2.2.1 u.2.2.2.2.2.2.2.2.1 u.2.2.2.2.2.2.2.2.2.1 u.2.2.2.2.2.2.2.2.2.2.1 u.2.2.2.2.2.2.2.2.2.2.2.1 u.2.2.2.2.2.2.2.2.2.2.2.2.1 u.2.2.2.2.2.2.2.2.2.2.2.2.2.1 u.2.2.2.2.2.2.2.2.2.2.2.2.2.2.1 u.2.2.2.2.2.2.2.2.2.2.2.2.2.2.2.1 u.2.2.2.2.2.2.2.2.2.2.2.2.2.2.2.2.1 u.2.2.2.2.2.2.2.2.2.2.2.2.2.2.2.2.2.1 u.2.2.2.2.2.2.2.2.2.2.2.2.2.2.2.2.2.2.1 u.2.2.2.2.2.2.2.2.2.2.2.2.2.2.2.2.2.2.2.1 u.2.2.2.2.2.2.2.2.2.2.2.2.2.2.2.2.2.2.2.2.1 u.2.2.2.2.2.2.2.2.2.2.2.2.2.2.2.2.2.2.2.2.2.1 u.2.2.2.2.2.2.2.2.2.2.2.2.2.2.2.2.2.2.2.2.2.2.1 u.2.2.2.2.2.2.2.2.2.2.2.2.2.2.2.2.2.2.2.2.2.2.2.1 u.2.2.2.2.2.2.2.2.2.2.2.2.2.2.2.2.2.2.2.2.2.2.2.2.1 u.2.2.2.2.2.2.2.2.2.2.2.2.2.2.2.2.2.2.2.2.2.2.2.2.2.1 u.2.2.2.2.2.2.2.2.2.2.2.2.2.2.2.2.2.2.2.2.2.2.2.2.2.2.1 u.2.2.2.2.2.2.2.2.2.2.2.2.2.2.2.2.2.2.2.2.2.2.2.2.2.2.2.1 u.2.2.2.2.2.2.2.2.2.2.2.2.2.2.2.2.2.2.2.2.2.2.2.2.2.2.2.2.1 u.2.2.2.2.2.2.2.2.2.2.2.2.2.2.2.2.2.2.2.2.2.2.2.2.2.2.2.2.2.1 u.2.2.2.2.2.2.2.2.2.2.2.2.2.2.2.2.2.2.2.2.2.2.2.2.2.2.2.2.2.2.1 u.2.2.2.2.2.2.2.2.2.2.2.2.2.2.2.2.2.2.2.2.2.2.2.2.2.2.2.2.2.2.2.1 u.2.2.2.2.2.2.2.2.2.2.2.2.2.2.2.2.2.2.2.2.2.2.2.2.2.2.2.2.2.2.2.2.1 u.2.2.2.2.2.2.2.2.2.2.2.2.2.2.2.2.2.2.2.2.2.2.2.2.2.2.2.2.2.2.2.2.2.1 u.2.2.2.2.2.2.2.2.2.2.2.2.2.2.2.2.2.2.2.2.2.2.2.2.2.2.2.2.2.2.2.2.2.2.1 u.2.2.2.2.2.2.2.2.2.2.2.2.2.2.2.2.2.2.2.2.2.2.2.2.2.2.2.2.2.2.2.2.2.2.2.1 u.2.2.2.2.2.2.2.2.2.2.2.2.2.2.2.2.2.2.2.2.2.2.2.2.2.2.2.2.2.2.2.2.2.2.2.2.1 u.2.2.2.2.2.2.2.2.2.2.2.2.2.2.2.2.2.2.2.2.2.2.2.2.2.2.2.2.2.2.2.2.2.2.2.2.2) (fun u H => wrW E qr qt u.1 u.2.1 u.2.2.1 u.2.2.2.1 u.2.2.2.2.1 u.2.2.2.2.2.1 u.2.2.2.2.2.2.1 u.2.2.2.2.2.2.2.1 u.2.2.2.2.2.2.2.2.1 u.2.2.2.2.2.2.2.2.2.1 u.2.2.2.2.2.2.2.2.2.2.1 u.2.2.2.2.2.2.2.2.2.2.2.1 u.2.2.2.2.2.2.2.2.2.2.2.2.1 u.2.2.2.2.2.2.2.2.2.2.2.2.2.1 u.2.2.2.2.2.2.2.2.2.2.2.2.2.2.1 u.2.2.2.2.2.2.2.2.2.2.2.2.2.2.2.1 u.2.2.2.2.2.2.2.2.2.2.2.2.2.2.2.2.1 u.2.2.2.2.2.2.2.2.2.2.2.2.2.2.2.2.2.1 u.2.2.2.2.2.2.2.2.2.2.2.2.2.2.2.2.2.2.1 u.2.2.2.2.2.2.2.2.2.2.2.2.2.2.2.2.2.2.2.1 u.2.2.2.2.2.2.2.2.2.2.2.2.2.2.2.2.2.2.2.2.1 u.2.2.2.2.2.2.2.2.2.2.2.2.2.2.2.2.2.2.2.2.2.1 u.2.2.2.2.2.2.2.2.2.2.2.2.2.2.2.2.2.2.2.2.2.2.1 u.2.2.2.2.2.2.2.2.2.2.2.2.2.2.2.2.2.2.2.2.2.2.2.1 u.2.2.2.2.2.2.2.2.2.2.2.2.2.2.2.2.2.2.2.2.2.2.2.2.1 u.2.2.2.2.2.2.2.2.2.2.2.2.2.2.2.2.2.2.2.2.2.2.2.2.2.1 u.2.2.2.2.2.2.2.2.2.2.2.2.2.2.2.2.2.2.2.2.2.2.2.2.2.2.1 u.2.2.2.2.2.2.2.2.2.2.2.2.2.2.2.2.2.2.2.2.2.2.2.2.2.2.2.1 u.2.2.2.2.2.2.2.2.2.2.2.2.2.2.2.2.2.2.2.2.2.2.2.2.2.2.2.2.1 u.2.2.2.2.2.2.2.2.2.2.2.2.2.2.2.2.2.2.2.2.2.2.2.2.2.2.2.2.2.1 u.2.2.2.2.2.2.2.2.2.2.2.2.2.2.2.2.2.2.2.2.2.2.2.2.2.2.2.2.2.2.1 u.2.2.2.2.2.2.2.2.2.2.2.2.2.2.2.2.2.2.2.2.2.2.2.2.2.2.2.2.2.2.2.1 u.2.2.2.2.2.2.2.2.2.2.2.2.2.2.2.2.2.2.2.2.2.2.2.2.2.2.2.2.2.2.2.2.1 u.2.2.2.2.2.2.2.2.2.2.2.2.2.2.2.2.2.2.2.2.2.2.2.2.2.2.2.2.2.2.2.2.2.1 u.2.2.2.2.2.2.2.2.2.2.2.2.2.2.2.2.2.2.2.2.2.2.2.2.2.2.2.2.2.2.2.2.2.2.1 u.2.2.2.2.2.2.2.2.2.2.2.2.2.2.2.2.2.2.2.2.2.2.2.2.2.2.2.2.2.2.2.2.2.2.2.1 u.2.2.2.2.2.2.2.2.2.2.2.2.2.2.2.2.2.2.2.2.2.2.2.2.2.2.2.2.2.2.2.2.2.2.2.2.1 u.2.2.2.2.2.2.2.2.2.2.2.2.2.2.2.2.2.2.2.2.2.2.2.2.2.2.2.2.2.2.2.2.2.2.2.2.2 z_from H) (wrA qr qt)) args s 0 0 (wrA qr qt)) (F0 m 78 ls []) := by
  have hx := zc.1
  have hb := zc.2.1
  refine lv_aload_n hx hb dX4_read_78 rfl (lv_at hl 0 rfl) ?_
  refine wrg_4_63_0 zc hK hM dX4_read_79 ?_
  refine lv_if_ne (tgt := 105) hx hb dX4_read_82 (by decide) (fun hc => ?_) (fun hc => ?_)
  · have hw := hw.1 hc
    exact zret_vw ⟨lf_huts, lf_singers, lf_villages, lf_dams, lf_echoes, lf_deep, lf_slide, la_heights, la_ladders, la_minutes, la_echoFrom, la_echoTo, la_homes, la_talls, la_known, vf_deeds, va_kinds, va_firsts, va_seconds, sf_facts, sa_heard, sa_huts, sa_minutes, cf_voices, cf_step, ca_parts, ca_heights, f_fault, f_faultPlace, a_numbers, a_tape, f_length, f_behind, f_kind, f_first, f_value, f_hutsToldOf, f_singersToldOf⟩ zc hS hw hM dX4_read_105
  · have hw := hw.2 hc
    refine lv_iload_n hx hb dX4_read_85 rfl (lv_at hl 1 rfl) ?_
    refine lv_if_ne (tgt := 105) hx hb dX4_read_86 (by decide) (fun hc => ?_) (fun hc => ?_)
    · have hw := hw.1 hc
      exact zret_vw ⟨lf_huts, lf_singers, lf_villages, lf_dams, lf_echoes, lf_deep, lf_slide, la_heights, la_ladders, la_minutes, la_echoFrom, la_echoTo, la_homes, la_talls, la_known, vf_deeds, va_kinds, va_firsts, va_seconds, sf_facts, sa_heard, sa_huts, sa_minutes, cf_voices, cf_step, ca_parts, ca_heights, f_fault, f_faultPlace, a_numbers, a_tape, f_length, f_behind, f_kind, f_first, f_value, f_hutsToldOf, f_singersToldOf⟩ zc hS hw hM dX4_read_105
    · have hw := hw.2 hc
      refine lv_aload_n hx hb dX4_read_89 rfl (lv_at hl 0 rfl) ?_
      refine zV_i [] [] zc ky_X4_tellsOfMissing kz_X4_tellsOfMissing km_4_79 (c_wr_X4_tellsOfMissing l hw) (wrPreV0 hK hM) rfl rfl hl.1 (Nat.le_of_ble_eq_true rfl) ⟨rfl, rfl⟩ ⟨Nat.le_of_ble_eq_true rfl, Nat.le_of_ble_eq_true rfl⟩ ⟨(Nat.zero_le _), (Nat.zero_le _)⟩ dX4_read_90 (fun r_1 hw => ?_)
      refine lv_if_eq (tgt := 105) hx hb dX4_read_93 (by decide) (fun hc => ?_) (fun hc => ?_)
      · have hw := hw.1 hc
        exact zret_vw ⟨lf_huts, lf_singers, lf_villages, lf_dams, lf_echoes, lf_deep, lf_slide, la_heights, la_ladders, la_minutes, la_echoFrom, la_echoTo, la_homes, la_talls, la_known, vf_deeds, va_kinds, va_firsts, va_seconds, sf_facts, sa_heard, sa_huts, sa_minutes, cf_voices, cf_step, ca_parts, ca_heights, f_fault, f_faultPlace, a_numbers, a_tape, f_length, f_behind, f_kind, f_first, f_value, f_hutsToldOf, f_singersToldOf⟩ zc hS hw hM dX4_read_105
      · have hw := hw.2 hc
        refine lv_aload_n hx hb dX4_read_96 rfl (lv_at hl 0 rfl) ?_
        refine lv_iconst (v := (4 : Int32)) hx hb dX4_read_97 (by decide) ?_
        refine lv_aload_n hx hb dX4_read_98 rfl (lv_at hl 0 rfl) ?_
        refine wrg_4_57_0 zc hK hM dX4_read_99 ?_
        refine zVw_v [.int (4 : Int32), .int f_length] [] zc ky_X4_mark kz_X4_mark km_4_83 (c_wr_X4_mark l hw) (wrPreV0 hK hM) hS rfl rfl hl.1 (Nat.le_of_ble_eq_true rfl) ⟨rfl, rfl⟩ ⟨Nat.le_of_ble_eq_true rfl, Nat.le_of_ble_eq_true rfl⟩ ⟨(Nat.zero_le _), (Nat.zero_le _)⟩ dX4_read_102 (fun u H locs hw hM hS => ?_)
        obtain ⟨f_fault_1, f_faultPlace_1⟩ := u
        exact zret_vw ⟨lf_huts, lf_singers, lf_villages, lf_dams, lf_echoes, lf_deep, lf_slide, la_heights, la_ladders, la_minutes, la_echoFrom, la_echoTo, la_homes, la_talls, la_known, vf_deeds, va_kinds, va_firsts, va_seconds, sf_facts, sa_heard, sa_huts, sa_minutes, cf_voices, cf_step, ca_parts, ca_heights, f_fault_1, f_faultPlace_1, a_numbers, a_tape, f_length, f_behind, f_kind, f_first, f_value, f_hutsToldOf, f_singersToldOf⟩ zc hS hw hM dX4_read_105
set_option maxRecDepth 20000 in
theorem t_wr_X4_read_23_43 {p : Program} {l : Launch} {e : Env} {s : State} {m : MethodId} {args : Array Value} {below : List Frame} {meth : Method} {c : Code} {G : zG} {E : zE} {qr qt : Nat} {lf_huts : Int32} {lf_singers : Int32} {lf_villages : Int32} {lf_dams : Int32} {lf_echoes : Int32} {lf_deep : Int32} {lf_slide : Int32} {la_heights : Nat → Int32} {la_ladders : Nat → Int32} {la_minutes : Nat → Int32} {la_echoFrom : Nat → Int32} {la_echoTo : Nat → Int32} {la_homes : Nat → Int32} {la_talls : Nat → Int32} {la_known : Nat → Int32} {vf_deeds : Int32} {va_kinds : Nat → Int32} {va_firsts : Nat → Int32} {va_seconds : Nat → Int32} {sf_facts : Int32} {sa_heard : Nat → Int32} {sa_huts : Nat → Int32} {sa_minutes : Nat → Int32} {cf_voices : Int32} {cf_step : Int32} {ca_parts : Nat → Int32} {ca_heights : Nat → Int32} {f_fault : Int32} {f_faultPlace : Int32} {a_numbers : Nat → Int32} {a_tape : Nat → Int32} {f_length : Int32} {f_behind : Int32} {f_kind : Int32} {f_first : Int32} {f_value : Int32} {f_hutsToldOf : Int32} {f_singersToldOf : Int32} {z_from : Nat → Int32} {post : (Int32) → (Int32) → (Int32) → (Int32) → (Int32) → (Int32) → (Int32) → (Nat → Int32) → (Nat → Int32) → (Nat → Int32) → (Nat → Int32) → (Nat → Int32) → (Nat → Int32) → (Nat → Int32) → (Nat → Int32) → (Int32) → (Nat → Int32) → (Nat → Int32) → (Nat → Int32) → (Int32) → (Nat → Int32) → (Nat → Int32) → (Nat → Int32) → (Int32) → (Int32) → (Nat → Int32) → (Nat → Int32) → (Int32) → (Int32) → (Nat → Int32) → (Nat → Int32) → (Int32) → (Int32) → (Int32) → (Int32) → (Int32) → (Int32) → (Int32) → Prop} {x3 : Int32} {x4 : Int32} {ls : Array Slot} {H : Heap} {locs : List Loc}
    (zc : zC p s m args meth c cX4_read 5 RX4 none)
    (hK : zK E s)
    (hM : wrW E qr qt lf_huts lf_singers lf_villages lf_dams lf_echoes lf_deep lf_slide la_heights la_ladders la_minutes la_echoFrom la_echoTo la_homes la_talls la_known vf_deeds va_kinds va_firsts va_seconds sf_facts sa_heard sa_huts sa_minutes cf_voices cf_step ca_parts ca_heights f_fault f_faultPlace a_numbers a_tape f_length f_behind f_kind f_first f_value f_hutsToldOf f_singersToldOf z_from H)
    (hZ : zZ G (wrA qr qt) s s.heap)
    (hS : va_S (wrA qr qt) s.heap H locs)
    (hl : lv_has ls 5 [(0, .ref qr), (3, .int x3), (4, .int x4)])
    (hw : q_wr_X4_read_23_43 lf_huts lf_singers lf_villages lf_dams lf_echoes lf_deep lf_slide la_heights la_ladders la_minutes la_echoFrom la_echoTo la_homes la_talls la_known vf_deeds va_kinds va_firsts va_seconds sf_facts sa_heard sa_huts sa_minutes cf_voices cf_step ca_parts ca_heights f_fault f_faultPlace a_numbers a_tape f_length f_behind f_kind f_first f_value f_hutsToldOf f_singersToldOf z_from x3 x4 post) :
    W p l e rm_wr_X4_read_23 s m args below meth c H locs 0 0 (MQ below (zQv (S := (Int32) × (Int32) × (Int32) × (Int32) × (Int32) × (Int32) × (Int32) × (Nat → Int32) × (Nat → Int32) × (Nat → Int32) × (Nat → Int32) × (Nat → Int32) × (Nat → Int32) × (Nat → Int32) × (Nat → Int32) × (Int32) × (Nat → Int32) × (Nat → Int32) × (Nat → Int32) × (Int32) × (Nat → Int32) × (Nat → Int32) × (Nat → Int32) × (Int32) × (Int32) × (Nat → Int32) × (Nat → Int32) × (Int32) × (Int32) × (Nat → Int32) × (Nat → Int32) × (Int32) × (Int32) × (Int32) × (Int32) × (Int32) × (Int32) × (Int32)) (fun u => post u.1 u.2.1 u.2.2.1 u.2.2.2.1 u.2.2.2.2.1 u.2.2.2.2.2.1 u.2.2.2.2.2.2.1 u.2.2.2.2.2.2.2.1 u.2.2.2.2.2.2.2.2.1 u.2.2.2.2.2.2.2.2.2.1 u.2.2.2.2.2.2.2.2.2.2.1 u.2.2.2.2.2.2.2.2.2.2.2.1 u.2.2.2.2.2.2.2.2.2.2.2.2.1 u.2.2.2.2.2.2.2.2.2.2.2.2.2.1 u.2.2.2.2.2.2.2.2.2.2.2.2.2.2.1 u.2.2.2.2.2.2.2.2.2.2.2.2.2.2.2.1 u.2.2.2.2.2.2.2.2.2.2.2.2.2.2.2.2.1 u.2.2.2.2.2.2.2.2.2.2.2.2.2.2.2.2.2.1 u.2.2.2.2.2.2.2.2.2.2.2.2.2.2.2.2.2.2.1 u.2.2.2.2.2.2.2.2.2.2.2.2.2.2.2.2.2.2.2.1 u.2.2.2.2.2.2.2.2.2.2.2.2.2.2.2.2.2.2.2.2.1 u.2.2.2.2.2.2.2.2.2.2.2.2.2.2.2.2.2.2.2.2.2.1 u.2.2.2.2.2.2.2.2.2.2.2.2.2.2.2.2.2.2.2.2.2.2.1 u.2.2.2.2.2.2.2.2.2.2.2.2.2.2.2.2.2.2.2.2.2.2.2.1 u.2.2.2.2.2.2.2.2.2.2.2.2.2.2.2.2.2.2.2.2.2.2.2.2.1 u.2.2.2.2.2.2.2.2.2.2.2.2.2.2.2.2.2.2.2.2.2.2.2.2.2.1 u.2.2.2.2.2.2.2.2.2.2.2.2.2.2.2.2.2.2.2.2.2.2.2.2.2.2.1 u.2.2.2.2.2.2.2.2.2.2.2.2.2.2.2.2.2.2.2.2.2.2.2.2.2.2.2.1 u.2.2.2.2.2.2.2.2.2.2.2.2.2.2.2.2.2.2.2.2.2.2.2.2.2.2.2.2.1 u.2.2.2.2.2.2.2.2.2.2.2.2.2.2.2.2.2.2.2.2.2.2.2.2.2.2.2.2.2.1 u.2.2.2.2.2.2.2.2.2.2.2.2.2.2.2.2.2.2.2.2.2.2.2.2.2.2.2.2.2.2.1 u.2.2.2.2.2.2.2.2.2.2.2.2.2.2.2.2.2.2.2.2.2.2.2.2.2.2.2.2.2.2.2.1 u.2.2.2.2.2.2.2.2.2.2.2.2.2.2.2.2.2.2.2.2.2.2.2.2.2.2.2.2.2.2.2.2.1 u.2.2.2.2.2.2.2.2.2.2.2.2.2.2.2.2.2.2.2.2.2.2.2.2.2.2.2.2.2.2.2.2.2.1 u.2.2.2.2.2.2.2.2.2.2.2.2.2.2.2.2.2.2.2.2.2.2.2.2.2.2.2.2.2.2.2.2.2.2.1 u.2.2.2.2.2.2.2.2.2.2.2.2.2.2.2.2.2.2.2.2.2.2.2.2.2.2.2.2.2.2.2.2.2.2.2.1 u.2.2.2.2.2.2.2.2.2.2.2.2.2.2.2.2.2.2.2.2.2.2.2.2.2.2.2.2.2.2.2.2.2.2.2.2.1 u.2.2.2.2.2.2.2.2.2.2.2.2.2.2.2.2.2.2.2.2.2.2.2.2.2.2.2.2.2.2.2.2.2.2.2.2.2) (fun u H => wrW E qr qt u.1 u.2.1 u.2.2.1 u.2.2.2.1 u.2.2.2.2.1 u.2.2.2.2.2.1 u.2.2.2.2.2.2.1 u.2.2.2.2.2.2.2.1 u.2.2.2.2.2.2.2.2.1 u.2.2.2.2.2.2.2.2.2.1 u.2.2.2.2.2.2.2.2.2.2.1 u.2.2.2.2.2.2.2.2.2.2.2.1 u.2.2.2.2.2.2.2.2.2.2.2.2.1 u.2.2.2.2.2.2.2.2.2.2.2.2.2.1 u.2.2.2.2.2.2.2.2.2.2.2.2.2.2.1 u.2.2.2.2.2.2.2.2.2.2.2.2.2.2.2.1 u.2.2.2.2.2.2.2.2.2.2.2.2.2.2.2.2.1 u.2.2.2.2.2.2.2.2.2.2.2.2.2.2.2.2.2.1 u.2.2.2.2.2.2.2.2.2.2.2.2.2.2.2.2.2.2.1 u.2.2.2.2.2.2.2.2.2.2.2.2.2.2.2.2.2.2.2.1 u.2.2.2.2.2.2.2.2.2.2.2.2.2.2.2.2.2.2.2.2.1 u.2.2.2.2.2.2.2.2.2.2.2.2.2.2.2.2.2.2.2.2.2.1 u.2.2.2.2.2.2.2.2.2.2.2.2.2.2.2.2.2.2.2.2.2.2.1 u.2.2.2.2.2.2.2.2.2.2.2.2.2.2.2.2.2.2.2.2.2.2.2.1 u.2.2.2.2.2.2.2.2.2.2.2.2.2.2.2.2.2.2.2.2.2.2.2.2.1 u.2.2.2.2.2.2.2.2.2.2.2.2.2.2.2.2.2.2.2.2.2.2.2.2.2.1 u.2.2.2.2.2.2.2.2.2.2.2.2.2.2.2.2.2.2.2.2.2.2.2.2.2.2.1 u.2.2.2.2.2.2.2.2.2.2.2.2.2.2.2.2.2.2.2.2.2.2.2.2.2.2.2.1 u.2.2.2.2.2.2.2.2.2.2.2.2.2.2.2.2.2.2.2.2.2.2.2.2.2.2.2.2.1 u.2.2.2.2.2.2.2.2.2.2.2.2.2.2.2.2.2.2.2.2.2.2.2.2.2.2.2.2.2.1 u.2.2.2.2.2.2.2.2.2.2.2.2.2.2.2.2.2.2.2.2.2.2.2.2.2.2.2.2.2.2.1 u.2.2.2.2.2.2.2.2.2.2.2.2.2.2.2.2.2.2.2.2.2.2.2.2.2.2.2.2.2.2.2.1 u.2.2.2.2.2.2.2.2.2.2.2.2.2.2.2.2.2.2.2.2.2.2.2.2.2.2.2.2.2.2.2.2.1 u.2.2.2.2.2.2.2.2.2.2.2.2.2.2.2.2.2.2.2.2.2.2.2.2.2.2.2.2.2.2.2.2.2.1 u.2.2.2.2.2.2.2.2.2.2.2.2.2.2.2.2.2.2.2.2.2.2.2.2.2.2.2.2.2.2.2.2.2.2.1 u.2.2.2.2.2.2.2.2.2.2.2.2.2.2.2.2.2.2.2.2.2.2.2.2.2.2.2.2.2.2.2.2.2.2.2.1 u.2.2.2.2.2.2.2.2.2.2.2.2.2.2.2.2.2.2.2.2.2.2.2.2.2.2.2.2.2.2.2.2.2.2.2.2.1 u.2.2.2.2.2.2.2.2.2.2.2.2.2.2.2.2.2.2.2.2.2.2.2.2.2.2.2.2.2.2.2.2.2.2.2.2.2 z_from H) (wrA qr qt)) args s 0 0 (wrA qr qt)) (F0 m 43 ls []) := by
  have hx := zc.1
  have hb := zc.2.1
  refine hw (fun x4 lf_huts lf_singers lf_villages lf_dams lf_echoes lf_deep lf_slide la_heights la_ladders la_minutes la_echoFrom la_echoTo la_homes la_talls la_known vf_deeds va_kinds va_firsts va_seconds sf_facts sa_heard sa_huts sa_minutes cf_voices cf_step ca_parts ca_heights f_fault f_faultPlace a_numbers f_behind f_kind f_first f_value f_hutsToldOf f_singersToldOf => ∀ (H : Heap) (locs : List Loc) (ls : Array Slot), lv_has ls 5 [(0, .ref qr), (3, .int x3), (4, .int x4)] → wrW E qr qt lf_huts lf_singers lf_villages lf_dams lf_echoes lf_deep lf_slide la_heights la_ladders la_minutes la_echoFrom la_echoTo la_homes la_talls la_known vf_deeds va_kinds va_firsts va_seconds sf_facts sa_heard sa_huts sa_minutes cf_voices cf_step ca_parts ca_heights f_fault f_faultPlace a_numbers a_tape f_length f_behind f_kind f_first f_value f_hutsToldOf f_singersToldOf z_from H → va_S (wrA qr qt) s.heap H locs → W p l e rm_wr_X4_read_23 s m args below meth c H locs 0 0 (MQ below (zQv (S := (Int32) × (Int32) × (Int32) × (Int32) × (Int32) × (Int32) × (Int32) × (Nat → Int32) × (Nat → Int32) × (Nat → Int32) × (Nat → Int32) × (Nat → Int32) × (Nat → Int32) × (Nat → Int32) × (Nat → Int32) × (Int32) × (Nat → Int32) × (Nat → Int32) × (Nat → Int32) × (Int32) × (Nat → Int32) × (Nat → Int32) × (Nat → Int32) × (Int32) × (Int32) × (Nat → Int32) × (Nat → Int32) × (Int32) × (Int32) × (Nat → Int32) × (Nat → Int32) × (Int32) × (Int32) × (Int32) × (Int32) × (Int32) × (Int32) × (Int32)) (fun u => post u.1 u.2.1 u.2.2.1 u.2.2.2.1 u.2.2.2.2.1 u.2.2.2.2.2.1 u.2.2.2.2.2.2.1 u.2.2.2.2.2.2.2.1 u.2.2.2.2.2.2.2.2.1 u.2.2.2.2.2.2.2.2.2.1 u.2.2.2.2.2.2.2.2.2.2.1 u.2.2.2.2.2.2.2.2.2.2.2.1 u.2.2.2.2.2.2.2.2.2.2.2.2.1 u.2.2.2.2.2.2.2.2.2.2.2.2.2.1 u.2.2.2.2.2.2.2.2.2.2.2.2.2.2.1 u.2.2.2.2.2.2.2.2.2.2.2.2.2.2.2.1 u.2.2.2.2.2.2.2.2.2.2.2.2.2.2.2.2.1 u.2.2.2.2.2.2.2.2.2.2.2.2.2.2.2.2.2.1 u.2.2.2.2.2.2.2.2.2.2.2.2.2.2.2.2.2.2.1 u.2.2.2.2.2.2.2.2.2.2.2.2.2.2.2.2.2.2.2.1 u.2.2.2.2.2.2.2.2.2.2.2.2.2.2.2.2.2.2.2.2.1 u.2.2.2.2.2.2.2.2.2.2.2.2.2.2.2.2.2.2.2.2.2.1 u.2.2.2.2.2.2.2.2.2.2.2.2.2.2.2.2.2.2.2.2.2.2.1 u.2.2.2.2.2.2.2.2.2.2.2.2.2.2.2.2.2.2.2.2.2.2.2.1 u.2.2.2.2.2.2.2.2.2.2.2.2.2.2.2.2.2.2.2.2.2.2.2.2.1 u.2.2.2.2.2.2.2.2.2.2.2.2.2.2.2.2.2.2.2.2.2.2.2.2.2.1 u.2.2.2.2.2.2.2.2.2.2.2.2.2.2.2.2.2.2.2.2.2.2.2.2.2.2.1 u.2.2.2.2.2.2.2.2.2.2.2.2.2.2.2.2.2.2.2.2.2.2.2.2.2.2.2.1 u.2.2.2.2.2.2.2.2.2.2.2.2.2.2.2.2.2.2.2.2.2.2.2.2.2.2.2.2.1 u.2.2.2.2.2.2.2.2.2.2.2.2.2.2.2.2.2.2.2.2.2.2.2.2.2.2.2.2.2.1 u.2.2.2.2.2.2.2.2.2.2.2.2.2.2.2.2.2.2.2.2.2.2.2.2.2.2.2.2.2.2.1 u.2.2.2.2.2.2.2.2.2.2.2.2.2.2.2.2.2.2.2.2.2.2.2.2.2.2.2.2.2.2.2.1 u.2.2.2.2.2.2.2.2.2.2.2.2.2.2.2.2.2.2.2.2.2.2.2.2.2.2.2.2.2.2.2.2.1 u.2.2.2.2.2.2.2.2.2.2.2.2.2.2.2.2.2.2.2.2.2.2.2.2.2.2.2.2.2.2.2.2.2.1 u.2.2.2.2.2.2.2.2.2.2.2.2.2.2.2.2.2.2.2.2.2.2.2.2.2.2.2.2.2.2.2.2.2.2.1 u.2.2.2.2.2.2.2.2.2.2.2.2.2.2.2.2.2.2.2.2.2.2.2.2.2.2.2.2.2.2.2.2.2.2.2.1 u.2.2.2.2.2.2.2.2.2.2.2.2.2.2.2.2.2.2.2.2.2.2.2.2.2.2.2.2.2.2.2.2.2.2.2.2.1 u.2.2.2.2.2.2.2.2.2.2.2.2.2.2.2.2.2.2.2.2.2.2.2.2.2.2.2.2.2.2.2.2.2.2.2.2.2) (fun u H => wrW E qr qt u.1 u.2.1 u.2.2.1 u.2.2.2.1 u.2.2.2.2.1 u.2.2.2.2.2.1 u.2.2.2.2.2.2.1 u.2.2.2.2.2.2.2.1 u.2.2.2.2.2.2.2.2.1 u.2.2.2.2.2.2.2.2.2.1 u.2.2.2.2.2.2.2.2.2.2.1 u.2.2.2.2.2.2.2.2.2.2.2.1 u.2.2.2.2.2.2.2.2.2.2.2.2.1 u.2.2.2.2.2.2.2.2.2.2.2.2.2.1 u.2.2.2.2.2.2.2.2.2.2.2.2.2.2.1 u.2.2.2.2.2.2.2.2.2.2.2.2.2.2.2.1 u.2.2.2.2.2.2.2.2.2.2.2.2.2.2.2.2.1 u.2.2.2.2.2.2.2.2.2.2.2.2.2.2.2.2.2.1 u.2.2.2.2.2.2.2.2.2.2.2.2.2.2.2.2.2.2.1 u.2.2.2.2.2.2.2.2.2.2.2.2.2.2.2.2.2.2.2.1 u.2.2.2.2.2.2.2.2.2.2.2.2.2.2.2.2.2.2.2.2.1 u.2.2.2.2.2.2.2.2.2.2.2.2.2.2.2.2.2.2.2.2.2.1 u.2.2.2.2.2.2.2.2.2.2.2.2.2.2.2.2.2.2.2.2.2.2.1 u.2.2.2.2.2.2.2.2.2.2.2.2.2.2.2.2.2.2.2.2.2.2.2.1 u.2.2.2.2.2.2.2.2.2.2.2.2.2.2.2.2.2.2.2.2.2.2.2.2.1 u.2.2.2.2.2.2.2.2.2.2.2.2.2.2.2.2.2.2.2.2.2.2.2.2.2.1 u.2.2.2.2.2.2.2.2.2.2.2.2.2.2.2.2.2.2.2.2.2.2.2.2.2.2.1 u.2.2.2.2.2.2.2.2.2.2.2.2.2.2.2.2.2.2.2.2.2.2.2.2.2.2.2.1 u.2.2.2.2.2.2.2.2.2.2.2.2.2.2.2.2.2.2.2.2.2.2.2.2.2.2.2.2.1 u.2.2.2.2.2.2.2.2.2.2.2.2.2.2.2.2.2.2.2.2.2.2.2.2.2.2.2.2.2.1 u.2.2.2.2.2.2.2.2.2.2.2.2.2.2.2.2.2.2.2.2.2.2.2.2.2.2.2.2.2.2.1 u.2.2.2.2.2.2.2.2.2.2.2.2.2.2.2.2.2.2.2.2.2.2.2.2.2.2.2.2.2.2.2.1 u.2.2.2.2.2.2.2.2.2.2.2.2.2.2.2.2.2.2.2.2.2.2.2.2.2.2.2.2.2.2.2.2.1 u.2.2.2.2.2.2.2.2.2.2.2.2.2.2.2.2.2.2.2.2.2.2.2.2.2.2.2.2.2.2.2.2.2.1 u.2.2.2.2.2.2.2.2.2.2.2.2.2.2.2.2.2.2.2.2.2.2.2.2.2.2.2.2.2.2.2.2.2.2.1 u.2.2.2.2.2.2.2.2.2.2.2.2.2.2.2.2.2.2.2.2.2.2.2.2.2.2.2.2.2.2.2.2.2.2.2.1 u.2.2.2.2.2.2.2.2.2.2.2.2.2.2.2.2.2.2.2.2.2.2.2.2.2.2.2.2.2.2.2.2.2.2.2.2.1 u.2.2.2.2.2.2.2.2.2.2.2.2.2.2.2.2.2.2.2.2.2.2.2.2.2.2.2.2.2.2.2.2.2.2.2.2.2 z_from H) (wrA qr qt)) args s 0 0 (wrA qr qt)) (F0 m 43 ls [])) ?_ _ _ _ hl hM hS
  intro x4 lf_huts lf_singers lf_villages lf_dams lf_echoes lf_deep lf_slide la_heights la_ladders la_minutes la_echoFrom la_echoTo la_homes la_talls la_known vf_deeds va_kinds va_firsts va_seconds sf_facts sa_heard sa_huts sa_minutes cf_voices cf_step ca_parts ca_heights f_fault f_faultPlace a_numbers f_behind f_kind f_first f_value f_hutsToldOf f_singersToldOf hw H locs ls hl hM hS
  refine lv_iload hx hb dX4_read_43 (lv_at hl 2 rfl) ?_
  refine lv_aload_n hx hb dX4_read_45 rfl (lv_at hl 0 rfl) ?_
  refine wrg_4_57_0 zc hK hM dX4_read_46 ?_
  refine lv_icmp_ge (tgt := 78) hx hb dX4_read_49 (by decide) (fun hc => ?_) (fun hc => ?_)
  · have hw := hw.1 hc
    exact t_wr_X4_read_23_78 zc hK hM hZ hS  (lv_sub hl [0, 1] rfl) hw
  · have hw := hw.2 hc
    refine lv_aload_n hx hb dX4_read_52 rfl (lv_at hl 0 rfl) ?_
    refine wrg_4_73_0 zc hK hM dX4_read_53 ?_
    refine lv_if_eq (tgt := 78) hx hb dX4_read_56 (by decide) (fun hc => ?_) (fun hc => ?_)
    · have hw := hw.1 hc
      exact t_wr_X4_read_23_78 zc hK hM hZ hS  (lv_sub hl [0, 1] rfl) hw
    · have hw := hw.2 hc
      refine lv_aload_n hx hb dX4_read_59 rfl (lv_at hl 0 rfl) ?_
      refine wrg_4_63_0 zc hK hM dX4_read_60 ?_
      refine lv_iconst (v := (1 : Int32)) hx hb dX4_read_63 (by decide) ?_
      refine lv_icmp_eq (tgt := 78) hx hb dX4_read_64 (by decide) (fun hc => ?_) (fun hc => ?_)
      · have hw := hw.1 hc
        exact t_wr_X4_read_23_78 zc hK hM hZ hS  (lv_sub hl [0, 1] rfl) hw
      · have hw := hw.2 hc
        refine lv_aload_n hx hb dX4_read_67 rfl (lv_at hl 0 rfl) ?_
        refine lv_iload_n hx hb dX4_read_68 rfl (lv_at hl 1 rfl) ?_
        refine zVw_v [.int x3] [] zc ky_X4_readLine kz_X4_readLine km_4_76 (c_wr_X4_readLine l hw) (wrPreVZ0 hK hM hZ hS (fun _ h => h)) hS rfl rfl hl.1 (Nat.le_of_ble_eq_true rfl) ⟨rfl, rfl⟩ ⟨Nat.le_of_ble_eq_true rfl, Nat.le_of_ble_eq_true rfl⟩ ⟨(Nat.zero_le _), (Nat.zero_le _)⟩ dX4_read_69 (fun u H locs hw hM hS => ?_)
        obtain ⟨lf_huts_1, lf_singers_1, lf_villages_1, lf_dams_1, lf_echoes_1, lf_deep_1, lf_slide_1, la_heights_1, la_ladders_1, la_minutes_1, la_echoFrom_1, la_echoTo_1, la_homes_1, la_talls_1, la_known_1, vf_deeds_1, va_kinds_1, va_firsts_1, va_seconds_1, sf_facts_1, sa_heard_1, sa_huts_1, sa_minutes_1, cf_voices_1, cf_step_1, ca_parts_1, ca_heights_1, f_fault_1, f_faultPlace_1, a_numbers_1, f_behind_1, f_kind_1, f_first_1, f_value_1, f_hutsToldOf_1, f_singersToldOf_1⟩ := u
        obtain ⟨v_1, ev_1⟩ : ∃ y : Int32, y = x4 + (1 : Int32) := ⟨_, rfl⟩
        have hw := hw v_1 ev_1
        refine lv_iinc (v := v_1) (k := 2) (lv' := [(4, .int v_1), (0, .ref qr), (3, .int x3)]) hx hb dX4_read_72 hl rfl (by rw [ev_1]; rfl) (by decide) rfl (fun ls hl => ?_)
        refine lv_goto (tgt := 43) hx hb dX4_read_75 (by decide) ?_
        exact hw _ _ _ (lv_sub hl [1, 2, 0] rfl) hM hS
set_option maxRecDepth 20000 in
theorem t_wr_X4_read_23_0 {p : Program} {l : Launch} {e : Env} {s : State} {m : MethodId} {args : Array Value} {below : List Frame} {meth : Method} {c : Code} {G : zG} {E : zE} {qr qt : Nat} {lf_huts : Int32} {lf_singers : Int32} {lf_villages : Int32} {lf_dams : Int32} {lf_echoes : Int32} {lf_deep : Int32} {lf_slide : Int32} {la_heights : Nat → Int32} {la_ladders : Nat → Int32} {la_minutes : Nat → Int32} {la_echoFrom : Nat → Int32} {la_echoTo : Nat → Int32} {la_homes : Nat → Int32} {la_talls : Nat → Int32} {la_known : Nat → Int32} {vf_deeds : Int32} {va_kinds : Nat → Int32} {va_firsts : Nat → Int32} {va_seconds : Nat → Int32} {sf_facts : Int32} {sa_heard : Nat → Int32} {sa_huts : Nat → Int32} {sa_minutes : Nat → Int32} {cf_voices : Int32} {cf_step : Int32} {ca_parts : Nat → Int32} {ca_heights : Nat → Int32} {f_fault : Int32} {f_faultPlace : Int32} {a_numbers : Nat → Int32} {a_tape : Nat → Int32} {f_length : Int32} {f_behind : Int32} {f_kind : Int32} {f_first : Int32} {f_value : Int32} {f_hutsToldOf : Int32} {f_singersToldOf : Int32} {z_from : Nat → Int32} {post : (Int32) → (Int32) → (Int32) → (Int32) → (Int32) → (Int32) → (Int32) → (Nat → Int32) → (Nat → Int32) → (Nat → Int32) → (Nat → Int32) → (Nat → Int32) → (Nat → Int32) → (Nat → Int32) → (Nat → Int32) → (Int32) → (Nat → Int32) → (Nat → Int32) → (Nat → Int32) → (Int32) → (Nat → Int32) → (Nat → Int32) → (Nat → Int32) → (Int32) → (Int32) → (Nat → Int32) → (Nat → Int32) → (Int32) → (Int32) → (Nat → Int32) → (Nat → Int32) → (Int32) → (Int32) → (Int32) → (Int32) → (Int32) → (Int32) → (Int32) → Prop} {x2 : Int32} {x3 : Int32} {ls : Array Slot} {H : Heap} {locs : List Loc}
    (zc : zC p s m args meth c cX4_read 5 RX4 none)
    (hK : zK E s)
    (hM : wrW E qr qt lf_huts lf_singers lf_villages lf_dams lf_echoes lf_deep lf_slide la_heights la_ladders la_minutes la_echoFrom la_echoTo la_homes la_talls la_known vf_deeds va_kinds va_firsts va_seconds sf_facts sa_heard sa_huts sa_minutes cf_voices cf_step ca_parts ca_heights f_fault f_faultPlace a_numbers a_tape f_length f_behind f_kind f_first f_value f_hutsToldOf f_singersToldOf z_from H)
    (hZ : zZ G (wrA qr qt) s s.heap)
    (hS : va_S (wrA qr qt) s.heap H locs)
    (hl : lv_has ls 5 [(0, .ref qr), (1, .ref qt), (2, .int x2), (3, .int x3)])
    (hw : q_wr_X4_read_23_0 lf_huts lf_singers lf_villages lf_dams lf_echoes lf_deep lf_slide la_heights la_ladders la_minutes la_echoFrom la_echoTo la_homes la_talls la_known vf_deeds va_kinds va_firsts va_seconds sf_facts sa_heard sa_huts sa_minutes cf_voices cf_step ca_parts ca_heights f_fault f_faultPlace a_numbers a_tape f_length f_behind f_kind f_first f_value f_hutsToldOf f_singersToldOf z_from x2 x3 post) :
    W p l e rm_wr_X4_read_23 s m args below meth c H locs 0 0 (MQ below (zQv (S := (Int32) × (Int32) × (Int32) × (Int32) × (Int32) × (Int32) × (Int32) × (Nat → Int32) × (Nat → Int32) × (Nat → Int32) × (Nat → Int32) × (Nat → Int32) × (Nat → Int32) × (Nat → Int32) × (Nat → Int32) × (Int32) × (Nat → Int32) × (Nat → Int32) × (Nat → Int32) × (Int32) × (Nat → Int32) × (Nat → Int32) × (Nat → Int32) × (Int32) × (Int32) × (Nat → Int32) × (Nat → Int32) × (Int32) × (Int32) × (Nat → Int32) × (Nat → Int32) × (Int32) × (Int32) × (Int32) × (Int32) × (Int32) × (Int32) × (Int32)) (fun u => post u.1 u.2.1 u.2.2.1 u.2.2.2.1 u.2.2.2.2.1 u.2.2.2.2.2.1 u.2.2.2.2.2.2.1 u.2.2.2.2.2.2.2.1 u.2.2.2.2.2.2.2.2.1 u.2.2.2.2.2.2.2.2.2.1 u.2.2.2.2.2.2.2.2.2.2.1 u.2.2.2.2.2.2.2.2.2.2.2.1 u.2.2.2.2.2.2.2.2.2.2.2.2.1 u.2.2.2.2.2.2.2.2.2.2.2.2.2.1 u.2.2.2.2.2.2.2.2.2.2.2.2.2.2.1 u.2.2.2.2.2.2.2.2.2.2.2.2.2.2.2.1 u.2.2.2.2.2.2.2.2.2.2.2.2.2.2.2.2.1 u.2.2.2.2.2.2.2.2.2.2.2.2.2.2.2.2.2.1 u.2.2.2.2.2.2.2.2.2.2.2.2.2.2.2.2.2.2.1 u.2.2.2.2.2.2.2.2.2.2.2.2.2.2.2.2.2.2.2.1 u.2.2.2.2.2.2.2.2.2.2.2.2.2.2.2.2.2.2.2.2.1 u.2.2.2.2.2.2.2.2.2.2.2.2.2.2.2.2.2.2.2.2.2.1 u.2.2.2.2.2.2.2.2.2.2.2.2.2.2.2.2.2.2.2.2.2.2.1 u.2.2.2.2.2.2.2.2.2.2.2.2.2.2.2.2.2.2.2.2.2.2.2.1 u.2.2.2.2.2.2.2.2.2.2.2.2.2.2.2.2.2.2.2.2.2.2.2.2.1 u.2.2.2.2.2.2.2.2.2.2.2.2.2.2.2.2.2.2.2.2.2.2.2.2.2.1 u.2.2.2.2.2.2.2.2.2.2.2.2.2.2.2.2.2.2.2.2.2.2.2.2.2.2.1 u.2.2.2.2.2.2.2.2.2.2.2.2.2.2.2.2.2.2.2.2.2.2.2.2.2.2.2.1 u.2.2.2.2.2.2.2.2.2.2.2.2.2.2.2.2.2.2.2.2.2.2.2.2.2.2.2.2.1 u.2.2.2.2.2.2.2.2.2.2.2.2.2.2.2.2.2.2.2.2.2.2.2.2.2.2.2.2.2.1 u.2.2.2.2.2.2.2.2.2.2.2.2.2.2.2.2.2.2.2.2.2.2.2.2.2.2.2.2.2.2.1 u.2.2.2.2.2.2.2.2.2.2.2.2.2.2.2.2.2.2.2.2.2.2.2.2.2.2.2.2.2.2.2.1 u.2.2.2.2.2.2.2.2.2.2.2.2.2.2.2.2.2.2.2.2.2.2.2.2.2.2.2.2.2.2.2.2.1 u.2.2.2.2.2.2.2.2.2.2.2.2.2.2.2.2.2.2.2.2.2.2.2.2.2.2.2.2.2.2.2.2.2.1 u.2.2.2.2.2.2.2.2.2.2.2.2.2.2.2.2.2.2.2.2.2.2.2.2.2.2.2.2.2.2.2.2.2.2.1 u.2.2.2.2.2.2.2.2.2.2.2.2.2.2.2.2.2.2.2.2.2.2.2.2.2.2.2.2.2.2.2.2.2.2.2.1 u.2.2.2.2.2.2.2.2.2.2.2.2.2.2.2.2.2.2.2.2.2.2.2.2.2.2.2.2.2.2.2.2.2.2.2.2.1 u.2.2.2.2.2.2.2.2.2.2.2.2.2.2.2.2.2.2.2.2.2.2.2.2.2.2.2.2.2.2.2.2.2.2.2.2.2) (fun u H => wrW E qr qt u.1 u.2.1 u.2.2.1 u.2.2.2.1 u.2.2.2.2.1 u.2.2.2.2.2.1 u.2.2.2.2.2.2.1 u.2.2.2.2.2.2.2.1 u.2.2.2.2.2.2.2.2.1 u.2.2.2.2.2.2.2.2.2.1 u.2.2.2.2.2.2.2.2.2.2.1 u.2.2.2.2.2.2.2.2.2.2.2.1 u.2.2.2.2.2.2.2.2.2.2.2.2.1 u.2.2.2.2.2.2.2.2.2.2.2.2.2.1 u.2.2.2.2.2.2.2.2.2.2.2.2.2.2.1 u.2.2.2.2.2.2.2.2.2.2.2.2.2.2.2.1 u.2.2.2.2.2.2.2.2.2.2.2.2.2.2.2.2.1 u.2.2.2.2.2.2.2.2.2.2.2.2.2.2.2.2.2.1 u.2.2.2.2.2.2.2.2.2.2.2.2.2.2.2.2.2.2.1 u.2.2.2.2.2.2.2.2.2.2.2.2.2.2.2.2.2.2.2.1 u.2.2.2.2.2.2.2.2.2.2.2.2.2.2.2.2.2.2.2.2.1 u.2.2.2.2.2.2.2.2.2.2.2.2.2.2.2.2.2.2.2.2.2.1 u.2.2.2.2.2.2.2.2.2.2.2.2.2.2.2.2.2.2.2.2.2.2.1 u.2.2.2.2.2.2.2.2.2.2.2.2.2.2.2.2.2.2.2.2.2.2.2.1 u.2.2.2.2.2.2.2.2.2.2.2.2.2.2.2.2.2.2.2.2.2.2.2.2.1 u.2.2.2.2.2.2.2.2.2.2.2.2.2.2.2.2.2.2.2.2.2.2.2.2.2.1 u.2.2.2.2.2.2.2.2.2.2.2.2.2.2.2.2.2.2.2.2.2.2.2.2.2.2.1 u.2.2.2.2.2.2.2.2.2.2.2.2.2.2.2.2.2.2.2.2.2.2.2.2.2.2.2.1 u.2.2.2.2.2.2.2.2.2.2.2.2.2.2.2.2.2.2.2.2.2.2.2.2.2.2.2.2.1 u.2.2.2.2.2.2.2.2.2.2.2.2.2.2.2.2.2.2.2.2.2.2.2.2.2.2.2.2.2.1 u.2.2.2.2.2.2.2.2.2.2.2.2.2.2.2.2.2.2.2.2.2.2.2.2.2.2.2.2.2.2.1 u.2.2.2.2.2.2.2.2.2.2.2.2.2.2.2.2.2.2.2.2.2.2.2.2.2.2.2.2.2.2.2.1 u.2.2.2.2.2.2.2.2.2.2.2.2.2.2.2.2.2.2.2.2.2.2.2.2.2.2.2.2.2.2.2.2.1 u.2.2.2.2.2.2.2.2.2.2.2.2.2.2.2.2.2.2.2.2.2.2.2.2.2.2.2.2.2.2.2.2.2.1 u.2.2.2.2.2.2.2.2.2.2.2.2.2.2.2.2.2.2.2.2.2.2.2.2.2.2.2.2.2.2.2.2.2.2.1 u.2.2.2.2.2.2.2.2.2.2.2.2.2.2.2.2.2.2.2.2.2.2.2.2.2.2.2.2.2.2.2.2.2.2.2.1 u.2.2.2.2.2.2.2.2.2.2.2.2.2.2.2.2.2.2.2.2.2.2.2.2.2.2.2.2.2.2.2.2.2.2.2.2.1 u.2.2.2.2.2.2.2.2.2.2.2.2.2.2.2.2.2.2.2.2.2.2.2.2.2.2.2.2.2.2.2.2.2.2.2.2.2 z_from H) (wrA qr qt)) args s 0 0 (wrA qr qt)) (F0 m 0 ls []) := by
  have hx := zc.1
  have hb := zc.2.1
  refine lv_aload_n hx hb dX4_read_0 rfl (lv_at hl 1 rfl) ?_
  refine lv_iconst (v := (0 : Int32)) hx hb dX4_read_1 (by decide) ?_
  refine lv_aload_n hx hb dX4_read_2 rfl (lv_at hl 0 rfl) ?_
  refine wrg_4_47_0 zc hK hM dX4_read_3 ?_
  refine lv_iconst (v := (0 : Int32)) hx hb dX4_read_6 (by decide) ?_
  refine lv_iload_n hx hb dX4_read_7 rfl (lv_at hl 2 rfl) ?_
  have hs5 := hw.1
  have hw := hw.2
  have hs6 := hw.1
  have hw := hw.2
  have hs7 := hw.1
  have hw := hw.2
  have hs8 := hw.1
  have hw := hw.2
  refine wrcp_23_22 zc hK hM hS hl.1 (zc.2.2.2.2.1 _ km_4_51) (by decide) (by decide) hs5 hs6 hs7 hs8 (by decide) (by decide) dX4_read_8 (fun a_tape_1 H locs ea_tape_1 hM hS => ?_)
  have hw := hw a_tape_1 ea_tape_1
  refine lv_aload_n hx hb dX4_read_11 rfl (lv_at hl 0 rfl) ?_
  refine lv_iload_n hx hb dX4_read_12 rfl (lv_at hl 2 rfl) ?_
  refine wrp_4_57_0 zc hK hM hS dX4_read_13 (fun H locs hM hS => ?_)
  refine lv_aload_n hx hb dX4_read_16 rfl (lv_at hl 0 rfl) ?_
  refine lv_iconst (v := (0 : Int32)) hx hb dX4_read_17 (by decide) ?_
  refine wrp_4_60_0 zc hK hM hS dX4_read_18 (fun H locs hM hS => ?_)
  refine lv_aload_n hx hb dX4_read_21 rfl (lv_at hl 0 rfl) ?_
  refine lv_iconst (v := (0 : Int32)) hx hb dX4_read_22 (by decide) ?_
  refine wrp_4_63_0 zc hK hM hS dX4_read_23 (fun H locs hM hS => ?_)
  refine lv_aload_n hx hb dX4_read_26 rfl (lv_at hl 0 rfl) ?_
  refine lv_iconst (v := (-1 : Int32)) hx hb dX4_read_27 (by decide) ?_
  refine wrp_4_39_0 zc hK hM hS dX4_read_28 (fun H locs hM hS => ?_)
  refine lv_aload_n hx hb dX4_read_31 rfl (lv_at hl 0 rfl) ?_
  refine lv_iload_n hx hb dX4_read_32 rfl (lv_at hl 3 rfl) ?_
  refine zVw_v [.int x3] [] zc ky_X4_clearDraft kz_X4_clearDraft km_4_66 (c_wr_X4_clearDraft l hw) (wrPreV0 hK hM) hS rfl rfl hl.1 (Nat.le_of_ble_eq_true rfl) ⟨rfl, rfl⟩ ⟨Nat.le_of_ble_eq_true rfl, Nat.le_of_ble_eq_true rfl⟩ ⟨(Nat.zero_le _), (Nat.zero_le _)⟩ dX4_read_33 (fun u H locs hw hM hS => ?_)
  obtain ⟨lf_huts_1, lf_singers_1, lf_villages_1, lf_dams_1, lf_echoes_1, lf_deep_1, lf_slide_1, la_ladders_1, la_minutes_1, la_known_1, vf_deeds_1, sf_facts_1, cf_voices_1, cf_step_1, f_hutsToldOf_1, f_singersToldOf_1⟩ := u
  refine lv_aload_n hx hb dX4_read_36 rfl (lv_at hl 0 rfl) ?_
  refine zVw_v [] [] zc ky_X4_advance kz_X4_advance km_4_70 (c_wr_X4_advance l hw) (wrPreV0 hK hM) hS rfl rfl hl.1 (Nat.le_of_ble_eq_true rfl) ⟨rfl, rfl⟩ ⟨Nat.le_of_ble_eq_true rfl, Nat.le_of_ble_eq_true rfl⟩ ⟨(Nat.zero_le _), (Nat.zero_le _)⟩ dX4_read_37 (fun u H locs hw hM hS => ?_)
  obtain ⟨f_behind_1, f_kind_1, f_first_1, f_value_1⟩ := u
  refine lv_iconst (v := (0 : Int32)) hx hb dX4_read_40 (by decide) ?_
  refine lv_istore (lv' := [(4, .int (0 : Int32)), (0, .ref qr), (1, .ref qt), (2, .int x2), (3, .int x3)]) hx hb dX4_read_41 hl (by decide) rfl (fun ls hl => ?_)
  exact t_wr_X4_read_23_43 zc hK hM hZ hS  (lv_sub hl [1, 4, 0] rfl) hw
set_option maxRecDepth 20000 in
theorem c_wr_X4_read_23 (l : Launch) {G : zG} {E : zE} {qr qt : Nat} {lf_huts : Int32} {lf_singers : Int32} {lf_villages : Int32} {lf_dams : Int32} {lf_echoes : Int32} {lf_deep : Int32} {lf_slide : Int32} {la_heights : Nat → Int32} {la_ladders : Nat → Int32} {la_minutes : Nat → Int32} {la_echoFrom : Nat → Int32} {la_echoTo : Nat → Int32} {la_homes : Nat → Int32} {la_talls : Nat → Int32} {la_known : Nat → Int32} {vf_deeds : Int32} {va_kinds : Nat → Int32} {va_firsts : Nat → Int32} {va_seconds : Nat → Int32} {sf_facts : Int32} {sa_heard : Nat → Int32} {sa_huts : Nat → Int32} {sa_minutes : Nat → Int32} {cf_voices : Int32} {cf_step : Int32} {ca_parts : Nat → Int32} {ca_heights : Nat → Int32} {f_fault : Int32} {f_faultPlace : Int32} {a_numbers : Nat → Int32} {a_tape : Nat → Int32} {f_length : Int32} {f_behind : Int32} {f_kind : Int32} {f_first : Int32} {f_value : Int32} {f_hutsToldOf : Int32} {f_singersToldOf : Int32} {z_from : Nat → Int32} {x2 : Int32} {x3 : Int32} {post : (Int32) → (Int32) → (Int32) → (Int32) → (Int32) → (Int32) → (Int32) → (Nat → Int32) → (Nat → Int32) → (Nat → Int32) → (Nat → Int32) → (Nat → Int32) → (Nat → Int32) → (Nat → Int32) → (Nat → Int32) → (Int32) → (Nat → Int32) → (Nat → Int32) → (Nat → Int32) → (Int32) → (Nat → Int32) → (Nat → Int32) → (Nat → Int32) → (Int32) → (Int32) → (Nat → Int32) → (Nat → Int32) → (Int32) → (Int32) → (Nat → Int32) → (Nat → Int32) → (Int32) → (Int32) → (Int32) → (Int32) → (Int32) → (Int32) → (Int32) → Prop} (hw : q_wr_X4_read_23_0 lf_huts lf_singers lf_villages lf_dams lf_echoes lf_deep lf_slide la_heights la_ladders la_minutes la_echoFrom la_echoTo la_homes la_talls la_known vf_deeds va_kinds va_firsts va_seconds sf_facts sa_heard sa_huts sa_minutes cf_voices cf_step ca_parts ca_heights f_fault f_faultPlace a_numbers a_tape f_length f_behind f_kind f_first f_value f_hutsToldOf f_singersToldOf z_from x2 x3 post) : Met l yX4_read (Cond.code yX4_read cX4_read 5 none :: zb) rm_wr_X4_read_23 (va_Pc [.ref qr, .ref qt, .int x2, .int x3] (fun U => (wrW E qr qt lf_huts lf_singers lf_villages lf_dams lf_echoes lf_deep lf_slide la_heights la_ladders la_minutes la_echoFrom la_echoTo la_homes la_talls la_known vf_deeds va_kinds va_firsts va_seconds sf_facts sa_heard sa_huts sa_minutes cf_voices cf_step ca_parts ca_heights f_fault f_faultPlace a_numbers a_tape f_length f_behind f_kind f_first f_value f_hutsToldOf f_singersToldOf z_from U.heap ∧ zK E U) ∧ zZ G (wrA qr qt) U U.heap)) (zQv (S := (Int32) × (Int32) × (Int32) × (Int32) × (Int32) × (Int32) × (Int32) × (Nat → Int32) × (Nat → Int32) × (Nat → Int32) × (Nat → Int32) × (Nat → Int32) × (Nat → Int32) × (Nat → Int32) × (Nat → Int32) × (Int32) × (Nat → Int32) × (Nat → Int32) × (Nat → Int32) × (Int32) × (Nat → Int32) × (Nat → Int32) × (Nat → Int32) × (Int32) × (Int32) × (Nat → Int32) × (Nat → Int32) × (Int32) × (Int32) × (Nat → Int32) × (Nat → Int32) × (Int32) × (Int32) × (Int32) × (Int32) × (Int32) × (Int32) × (Int32)) (fun u => post u.1 u.2.1 u.2.2.1 u.2.2.2.1 u.2.2.2.2.1 u.2.2.2.2.2.1 u.2.2.2.2.2.2.1 u.2.2.2.2.2.2.2.1 u.2.2.2.2.2.2.2.2.1 u.2.2.2.2.2.2.2.2.2.1 u.2.2.2.2.2.2.2.2.2.2.1 u.2.2.2.2.2.2.2.2.2.2.2.1 u.2.2.2.2.2.2.2.2.2.2.2.2.1 u.2.2.2.2.2.2.2.2.2.2.2.2.2.1 u.2.2.2.2.2.2.2.2.2.2.2.2.2.2.1 u.2.2.2.2.2.2.2.2.2.2.2.2.2.2.2.1 u.2.2.2.2.2.2.2.2.2.2.2.2.2.2.2.2.1 u.2.2.2.2.2.2.2.2.2.2.2.2.2.2.2.2.2.1 u.2.2.2.2.2.2.2.2.2.2.2.2.2.2.2.2.2.2.1 u.2.2.2.2.2.2.2.2.2.2.2.2.2.2.2.2.2.2.2.1 u.2.2.2.2.2.2.2.2.2.2.2.2.2.2.2.2.2.2.2.2.1 u.2.2.2.2.2.2.2.2.2.2.2.2.2.2.2.2.2.2.2.2.2.1 u.2.2.2.2.2.2.2.2.2.2.2.2.2.2.2.2.2.2.2.2.2.2.1 u.2.2.2.2.2.2.2.2.2.2.2.2.2.2.2.2.2.2.2.2.2.2.2.1 u.2.2.2.2.2.2.2.2.2.2.2.2.2.2.2.2.2.2.2.2.2.2.2.2.1 u.2.2.2.2.2.2.2.2.2.2.2.2.2.2.2.2.2.2.2.2.2.2.2.2.2.1 u.2.2.2.2.2.2.2.2.2.2.2.2.2.2.2.2.2.2.2.2.2.2.2.2.2.2.1 u.2.2.2.2.2.2.2.2.2.2.2.2.2.2.2.2.2.2.2.2.2.2.2.2.2.2.2.1 u.2.2.2.2.2.2.2.2.2.2.2.2.2.2.2.2.2.2.2.2.2.2.2.2.2.2.2.2.1 u.2.2.2.2.2.2.2.2.2.2.2.2.2.2.2.2.2.2.2.2.2.2.2.2.2.2.2.2.2.1 u.2.2.2.2.2.2.2.2.2.2.2.2.2.2.2.2.2.2.2.2.2.2.2.2.2.2.2.2.2.2.1 u.2.2.2.2.2.2.2.2.2.2.2.2.2.2.2.2.2.2.2.2.2.2.2.2.2.2.2.2.2.2.2.1 u.2.2.2.2.2.2.2.2.2.2.2.2.2.2.2.2.2.2.2.2.2.2.2.2.2.2.2.2.2.2.2.2.1 u.2.2.2.2.2.2.2.2.2.2.2.2.2.2.2.2.2.2.2.2.2.2.2.2.2.2.2.2.2.2.2.2.2.1 u.2.2.2.2.2.2.2.2.2.2.2.2.2.2.2.2.2.2.2.2.2.2.2.2.2.2.2.2.2.2.2.2.2.2.1 u.2.2.2.2.2.2.2.2.2.2.2.2.2.2.2.2.2.2.2.2.2.2.2.2.2.2.2.2.2.2.2.2.2.2.2.1 u.2.2.2.2.2.2.2.2.2.2.2.2.2.2.2.2.2.2.2.2.2.2.2.2.2.2.2.2.2.2.2.2.2.2.2.2.1 u.2.2.2.2.2.2.2.2.2.2.2.2.2.2.2.2.2.2.2.2.2.2.2.2.2.2.2.2.2.2.2.2.2.2.2.2.2) (fun u H => wrW E qr qt u.1 u.2.1 u.2.2.1 u.2.2.2.1 u.2.2.2.2.1 u.2.2.2.2.2.1 u.2.2.2.2.2.2.1 u.2.2.2.2.2.2.2.1 u.2.2.2.2.2.2.2.2.1 u.2.2.2.2.2.2.2.2.2.1 u.2.2.2.2.2.2.2.2.2.2.1 u.2.2.2.2.2.2.2.2.2.2.2.1 u.2.2.2.2.2.2.2.2.2.2.2.2.1 u.2.2.2.2.2.2.2.2.2.2.2.2.2.1 u.2.2.2.2.2.2.2.2.2.2.2.2.2.2.1 u.2.2.2.2.2.2.2.2.2.2.2.2.2.2.2.1 u.2.2.2.2.2.2.2.2.2.2.2.2.2.2.2.2.1 u.2.2.2.2.2.2.2.2.2.2.2.2.2.2.2.2.2.1 u.2.2.2.2.2.2.2.2.2.2.2.2.2.2.2.2.2.2.1 u.2.2.2.2.2.2.2.2.2.2.2.2.2.2.2.2.2.2.2.1 u.2.2.2.2.2.2.2.2.2.2.2.2.2.2.2.2.2.2.2.2.1 u.2.2.2.2.2.2.2.2.2.2.2.2.2.2.2.2.2.2.2.2.2.1 u.2.2.2.2.2.2.2.2.2.2.2.2.2.2.2.2.2.2.2.2.2.2.1 u.2.2.2.2.2.2.2.2.2.2.2.2.2.2.2.2.2.2.2.2.2.2.2.1 u.2.2.2.2.2.2.2.2.2.2.2.2.2.2.2.2.2.2.2.2.2.2.2.2.1 u.2.2.2.2.2.2.2.2.2.2.2.2.2.2.2.2.2.2.2.2.2.2.2.2.2.1 u.2.2.2.2.2.2.2.2.2.2.2.2.2.2.2.2.2.2.2.2.2.2.2.2.2.2.1 u.2.2.2.2.2.2.2.2.2.2.2.2.2.2.2.2.2.2.2.2.2.2.2.2.2.2.2.1 u.2.2.2.2.2.2.2.2.2.2.2.2.2.2.2.2.2.2.2.2.2.2.2.2.2.2.2.2.1 u.2.2.2.2.2.2.2.2.2.2.2.2.2.2.2.2.2.2.2.2.2.2.2.2.2.2.2.2.2.1 u.2.2.2.2.2.2.2.2.2.2.2.2.2.2.2.2.2.2.2.2.2.2.2.2.2.2.2.2.2.2.1 u.2.2.2.2.2.2.2.2.2.2.2.2.2.2.2.2.2.2.2.2.2.2.2.2.2.2.2.2.2.2.2.1 u.2.2.2.2.2.2.2.2.2.2.2.2.2.2.2.2.2.2.2.2.2.2.2.2.2.2.2.2.2.2.2.2.1 u.2.2.2.2.2.2.2.2.2.2.2.2.2.2.2.2.2.2.2.2.2.2.2.2.2.2.2.2.2.2.2.2.2.1 u.2.2.2.2.2.2.2.2.2.2.2.2.2.2.2.2.2.2.2.2.2.2.2.2.2.2.2.2.2.2.2.2.2.2.1 u.2.2.2.2.2.2.2.2.2.2.2.2.2.2.2.2.2.2.2.2.2.2.2.2.2.2.2.2.2.2.2.2.2.2.2.1 u.2.2.2.2.2.2.2.2.2.2.2.2.2.2.2.2.2.2.2.2.2.2.2.2.2.2.2.2.2.2.2.2.2.2.2.2.1 u.2.2.2.2.2.2.2.2.2.2.2.2.2.2.2.2.2.2.2.2.2.2.2.2.2.2.2.2.2.2.2.2.2.2.2.2.2 z_from H) (wrA qr qt)) 0 0 (wrA qr qt) := by
  refine Met.ofW (cc := cX4_read) (maxL := 5) (ret := none) (by decide) rfl ?_
  intro p e s m args below meth c s₁ B hml hv
  obtain ⟨rfl, ⟨hM, hK⟩, hZ⟩ := hv
  have zc := zc_of B hml
  have hl := lv_entry ([.ref qr, .ref qt, .int x2, .int x3]) (n := 5) (Nat.le_of_ble_eq_true rfl)
  rw [lg_entry_eq]
  generalize (lg_sl ([.ref qr, .ref qt, .int x2, .int x3]) ++ List.replicate (5 - (lg_sl ([.ref qr, .ref qt, .int x2, .int x3])).length) Slot.unset).toArray = ls at hl ⊢
  have hl : lv_has ls 5 [(0, .ref qr), (1, .ref qt), (2, .int x2), (3, .int x3)] := hl
  exact t_wr_X4_read_23_0 zc hK hM hZ va_S.rf (lv_sub hl [0, 1, 2, 3] rfl) hw
end
section
-- wk0_X5_measure_3
abbrev rm_wk0_X5_measure_3 : Room := { frames := 2, cells := 0, slots := 0, locals := 62 }
def q_wk0_X5_measure_3_69 (P2 : Int32 → (Nat → Int32) → (Nat → Int32) → Prop) (P19 : Int32 → (Nat → Int32) → (Nat → Int32) → Prop) (a_gaps : Nat → Int32) (a_behind : Nat → Int32) (cf_voices : Int32) (cf_step : Int32) (ca_parts : Nat → Int32) (ca_heights : Nat → Int32) (x2 : Int32) (x3 : Int32) (post : (Nat → Int32) → (Nat → Int32) → Prop) : Prop :=
  ∀ v_1 : Int32, v_1 = x3 + (1 : Int32) → (P19 v_1 a_gaps a_behind)
def q_wk0_X5_measure_3_19 (P2 : Int32 → (Nat → Int32) → (Nat → Int32) → Prop) (a_gaps : Nat → Int32) (a_behind : Nat → Int32) (cf_voices : Int32) (cf_step : Int32) (ca_parts : Nat → Int32) (ca_heights : Nat → Int32) (x2 : Int32) (x3 : Int32) (post : (Nat → Int32) → (Nat → Int32) → Prop) : Prop :=
  ∀ P19 : Int32 → (Nat → Int32) → (Nat → Int32) → Prop, (∀ (x3 : Int32) (a_gaps : Nat → Int32) (a_behind : Nat → Int32), ((cf_voices ≤ x3 → (∀ v_1 : Int32, v_1 = x2 + (1 : Int32) → (P2 v_1 a_gaps a_behind))) ∧ (¬ cf_voices ≤ x3 → (q_wc_X0_stepBetween_0 ca_parts ca_heights x2 x3 (fun r_1 => vp_in ((x2 * (9 : Int32)) + x3) 81 ∧ (∀ a_gaps_1 : Nat → Int32, a_gaps_1 = upd a_gaps (Int32.toNatClampNeg ((x2 * (9 : Int32)) + x3)) r_1 → ((cf_step < r_1 → (q_wk0_X5_measure_3_69 P2 P19 a_gaps_1 a_behind cf_voices cf_step ca_parts ca_heights x2 x3 post)) ∧ (¬ cf_step < r_1 → (vp_in x2 9 ∧ (∀ v_2 : Int32, v_2 = ((a_behind (Int32.toNatClampNeg x2)) ||| ((1 : Int32) <<< (x3 &&& 31))) → (vp_in x2 9 ∧ (∀ a_behind_1 : Nat → Int32, a_behind_1 = upd a_behind (Int32.toNatClampNeg x2) v_2 → (q_wk0_X5_measure_3_69 P2 P19 a_gaps_1 a_behind_1 cf_voices cf_step ca_parts ca_heights x2 x3 post)))))))))))) → P19 x3 a_gaps a_behind) → P19 x3 a_gaps a_behind
def q_wk0_X5_measure_3_2 (a_gaps : Nat → Int32) (a_behind : Nat → Int32) (cf_voices : Int32) (cf_step : Int32) (ca_parts : Nat → Int32) (ca_heights : Nat → Int32) (x2 : Int32) (post : (Nat → Int32) → (Nat → Int32) → Prop) : Prop :=
  ∀ P2 : Int32 → (Nat → Int32) → (Nat → Int32) → Prop, (∀ (x2 : Int32) (a_gaps : Nat → Int32) (a_behind : Nat → Int32), ((cf_voices ≤ x2 → (post a_gaps a_behind)) ∧ (¬ cf_voices ≤ x2 → (vp_in x2 9 ∧ (∀ a_behind_1 : Nat → Int32, a_behind_1 = upd a_behind (Int32.toNatClampNeg x2) (0 : Int32) → (q_wk0_X5_measure_3_19 P2 a_gaps a_behind_1 cf_voices cf_step ca_parts ca_heights x2 (0 : Int32) post))))) → P2 x2 a_gaps a_behind) → P2 x2 a_gaps a_behind
def q_wk0_X5_measure_3_0 (a_gaps : Nat → Int32) (a_behind : Nat → Int32) (cf_voices : Int32) (cf_step : Int32) (ca_parts : Nat → Int32) (ca_heights : Nat → Int32) (post : (Nat → Int32) → (Nat → Int32) → Prop) : Prop :=
  q_wk0_X5_measure_3_2 a_gaps a_behind cf_voices cf_step ca_parts ca_heights (0 : Int32) post
set_option maxRecDepth 20000 in
theorem t_wk0_X5_measure_3_69 {p : Program} {l : Launch} {e : Env} {s : State} {m : MethodId} {args : Array Value} {below : List Frame} {meth : Method} {c : Code} {E : zE} {qk qc : Nat} {o_stands : Option Nat} {a_gaps : Nat → Int32} {a_behind : Nat → Int32} {cf_voices : Int32} {cf_step : Int32} {ca_parts : Nat → Int32} {ca_heights : Nat → Int32} {P2 : Int32 → (Nat → Int32) → (Nat → Int32) → Prop} {P19 : Int32 → (Nat → Int32) → (Nat → Int32) → Prop} {post : (Nat → Int32) → (Nat → Int32) → Prop} {x2 : Int32} {x3 : Int32} {ls : Array Slot} {H : Heap} {locs : List Loc}
    (zc : zC p s m args meth c cX5_measure 5 RX5 none)
    (hK : zK E s)
    (hM : wk0W E qk qc o_stands a_gaps a_behind cf_voices cf_step ca_parts ca_heights H)
    (hS : va_S (wk0A qk qc) s.heap H locs)
    (hP2 : ∀ (x2 : Int32) (a_gaps : Nat → Int32) (a_behind : Nat → Int32) (H : Heap) (locs : List Loc) (ls : Array Slot), P2 x2 a_gaps a_behind → lv_has ls 5 [(0, .ref qk), (1, .ref qc), (2, .int x2)] → wk0W E qk qc o_stands a_gaps a_behind cf_voices cf_step ca_parts ca_heights H → va_S (wk0A qk qc) s.heap H locs → W p l e rm_wk0_X5_measure_3 s m args below meth c H locs 0 0 (MQ below (zQv (S := (Nat → Int32) × (Nat → Int32)) (fun u => post u.1 u.2) (fun u H => wk0W E qk qc o_stands u.1 u.2 cf_voices cf_step ca_parts ca_heights H) (wk0A qk qc)) args s 0 0 (wk0A qk qc)) (F0 m 2 ls []))
    (hP19 : ∀ (x3 : Int32) (a_gaps : Nat → Int32) (a_behind : Nat → Int32) (H : Heap) (locs : List Loc) (ls : Array Slot), P19 x3 a_gaps a_behind → lv_has ls 5 [(0, .ref qk), (1, .ref qc), (2, .int x2), (3, .int x3)] → wk0W E qk qc o_stands a_gaps a_behind cf_voices cf_step ca_parts ca_heights H → va_S (wk0A qk qc) s.heap H locs → W p l e rm_wk0_X5_measure_3 s m args below meth c H locs 0 0 (MQ below (zQv (S := (Nat → Int32) × (Nat → Int32)) (fun u => post u.1 u.2) (fun u H => wk0W E qk qc o_stands u.1 u.2 cf_voices cf_step ca_parts ca_heights H) (wk0A qk qc)) args s 0 0 (wk0A qk qc)) (F0 m 19 ls []))
    (hl : lv_has ls 5 [(0, .ref qk), (1, .ref qc), (2, .int x2), (3, .int x3)])
    (hw : q_wk0_X5_measure_3_69 P2 P19 a_gaps a_behind cf_voices cf_step ca_parts ca_heights x2 x3 post) :
    W p l e rm_wk0_X5_measure_3 s m args below meth c H locs 0 0 (MQ below (zQv (S := (Nat → Int32) × (Nat → Int32)) (fun u => post u.1 u.2) (fun u H => wk0W E qk qc o_stands u.1 u.2 cf_voices cf_step ca_parts ca_heights H) (wk0A qk qc)) args s 0 0 (wk0A qk qc)) (F0 m 69 ls []) := by
  have hx := zc.1
  have hb := zc.2.1
  obtain ⟨v_1, ev_1⟩ : ∃ y : Int32, y = x3 + (1 : Int32) := ⟨_, rfl⟩
  have hw := hw v_1 ev_1
  refine lv_iinc (v := v_1) (k := 3) (lv' := [(3, .int v_1), (0, .ref qk), (1, .ref qc), (2, .int x2)]) hx hb dX5_measure_69 hl rfl (by rw [ev_1]; rfl) (by decide) rfl (fun ls hl => ?_)
  refine lv_goto (tgt := 19) hx hb dX5_measure_72 (by decide) ?_
  exact hP19 _ _ _ _ _ _ hw (lv_sub hl [1, 2, 3, 0] rfl) hM hS
set_option maxRecDepth 20000 in
theorem t_wk0_X5_measure_3_19 {p : Program} {l : Launch} {e : Env} {s : State} {m : MethodId} {args : Array Value} {below : List Frame} {meth : Method} {c : Code} {E : zE} {qk qc : Nat} {o_stands : Option Nat} {a_gaps : Nat → Int32} {a_behind : Nat → Int32} {cf_voices : Int32} {cf_step : Int32} {ca_parts : Nat → Int32} {ca_heights : Nat → Int32} {P2 : Int32 → (Nat → Int32) → (Nat → Int32) → Prop} {post : (Nat → Int32) → (Nat → Int32) → Prop} {x2 : Int32} {x3 : Int32} {ls : Array Slot} {H : Heap} {locs : List Loc}
    (zc : zC p s m args meth c cX5_measure 5 RX5 none)
    (hK : zK E s)
    (hM : wk0W E qk qc o_stands a_gaps a_behind cf_voices cf_step ca_parts ca_heights H)
    (hS : va_S (wk0A qk qc) s.heap H locs)
    (hP2 : ∀ (x2 : Int32) (a_gaps : Nat → Int32) (a_behind : Nat → Int32) (H : Heap) (locs : List Loc) (ls : Array Slot), P2 x2 a_gaps a_behind → lv_has ls 5 [(0, .ref qk), (1, .ref qc), (2, .int x2)] → wk0W E qk qc o_stands a_gaps a_behind cf_voices cf_step ca_parts ca_heights H → va_S (wk0A qk qc) s.heap H locs → W p l e rm_wk0_X5_measure_3 s m args below meth c H locs 0 0 (MQ below (zQv (S := (Nat → Int32) × (Nat → Int32)) (fun u => post u.1 u.2) (fun u H => wk0W E qk qc o_stands u.1 u.2 cf_voices cf_step ca_parts ca_heights H) (wk0A qk qc)) args s 0 0 (wk0A qk qc)) (F0 m 2 ls []))
    (hl : lv_has ls 5 [(0, .ref qk), (1, .ref qc), (2, .int x2), (3, .int x3)])
    (hw : q_wk0_X5_measure_3_19 P2 a_gaps a_behind cf_voices cf_step ca_parts ca_heights x2 x3 post) :
    W p l e rm_wk0_X5_measure_3 s m args below meth c H locs 0 0 (MQ below (zQv (S := (Nat → Int32) × (Nat → Int32)) (fun u => post u.1 u.2) (fun u H => wk0W E qk qc o_stands u.1 u.2 cf_voices cf_step ca_parts ca_heights H) (wk0A qk qc)) args s 0 0 (wk0A qk qc)) (F0 m 19 ls []) := by
  have hx := zc.1
  have hb := zc.2.1
  refine hw (fun x3 a_gaps a_behind => ∀ (H : Heap) (locs : List Loc) (ls : Array Slot), lv_has ls 5 [(0, .ref qk), (1, .ref qc), (2, .int x2), (3, .int x3)] → wk0W E qk qc o_stands a_gaps a_behind cf_voices cf_step ca_parts ca_heights H → va_S (wk0A qk qc) s.heap H locs → W p l e rm_wk0_X5_measure_3 s m args below meth c H locs 0 0 (MQ below (zQv (S := (Nat → Int32) × (Nat → Int32)) (fun u => post u.1 u.2) (fun u H => wk0W E qk qc o_stands u.1 u.2 cf_voices cf_step ca_parts ca_heights H) (wk0A qk qc)) args s 0 0 (wk0A qk qc)) (F0 m 19 ls [])) ?_ _ _ _ hl hM hS
  intro x3 a_gaps a_behind hw H locs ls hl hM hS
  refine lv_iload_n hx hb dX5_measure_19 rfl (lv_at hl 3 rfl) ?_
  refine lv_aload_n hx hb dX5_measure_20 rfl (lv_at hl 1 rfl) ?_
  refine wk0g_5_26_3 zc hK hM dX5_measure_21 ?_
  refine lv_icmp_ge (tgt := 75) hx hb dX5_measure_24 (by decide) (fun hc => ?_) (fun hc => ?_)
  · have hw := hw.1 hc
    obtain ⟨v_1, ev_1⟩ : ∃ y : Int32, y = x2 + (1 : Int32) := ⟨_, rfl⟩
    have hw := hw v_1 ev_1
    refine lv_iinc (v := v_1) (k := 2) (lv' := [(2, .int v_1), (0, .ref qk), (1, .ref qc), (3, .int x3)]) hx hb dX5_measure_75 hl rfl (by rw [ev_1]; rfl) (by decide) rfl (fun ls hl => ?_)
    refine lv_goto (tgt := 2) hx hb dX5_measure_78 (by decide) ?_
    exact hP2 _ _ _ _ _ _ hw (lv_sub hl [1, 2, 0] rfl) hM hS
  · have hw := hw.2 hc
    refine lv_aload_n hx hb dX5_measure_27 rfl (lv_at hl 1 rfl) ?_
    refine lv_iload_n hx hb dX5_measure_28 rfl (lv_at hl 2 rfl) ?_
    refine lv_iload_n hx hb dX5_measure_29 rfl (lv_at hl 3 rfl) ?_
    refine zV_i [.int x2, .int x3] [] zc ky_X0_stepBetween kz_X0_stepBetween km_5_40 (c_wc_X0_stepBetween l hw) (wcPreV0 hK (pj_wk0_wc_3 hM)) rfl rfl hl.1 (Nat.le_of_ble_eq_true rfl) ⟨rfl, rfl⟩ ⟨Nat.le_of_ble_eq_true rfl, Nat.le_of_ble_eq_true rfl⟩ ⟨(Nat.zero_le _), (Nat.zero_le _)⟩ dX5_measure_30 (fun r_1 hw => ?_)
    refine lv_istore (lv' := [(4, .int r_1), (0, .ref qk), (1, .ref qc), (2, .int x2), (3, .int x3)]) hx hb dX5_measure_33 hl (by decide) rfl (fun ls hl => ?_)
    refine lv_aload_n hx hb dX5_measure_35 rfl (lv_at hl 1 rfl) ?_
    refine wk0g_5_9_0 zc hK hM dX5_measure_36 ?_
    refine lv_iload_n hx hb dX5_measure_39 rfl (lv_at hl 3 rfl) ?_
    refine lv_bipush (v := (9 : Int32)) hx hb dX5_measure_40 (by decide) ?_
    refine lv_imul hx hb dX5_measure_42 ?_
    refine lv_iload_n hx hb dX5_measure_43 rfl (lv_at hl 4 rfl) ?_
    refine lv_iadd hx hb dX5_measure_44 ?_
    refine lv_iload hx hb dX5_measure_45 (lv_at hl 0 rfl) ?_
    refine wk0st_1 zc hK hM hS hw.1 dX5_measure_47 (fun a_gaps_1 H locs ea_gaps_1 hM hS => ?_)
    have hw := hw.2 a_gaps_1 ea_gaps_1
    refine lv_iload hx hb dX5_measure_48 (lv_at hl 0 rfl) ?_
    refine lv_aload_n hx hb dX5_measure_50 rfl (lv_at hl 2 rfl) ?_
    refine wk0g_5_44_3 zc hK hM dX5_measure_51 ?_
    refine lv_icmp_gt (tgt := 69) hx hb dX5_measure_54 (by decide) (fun hc => ?_) (fun hc => ?_)
    · have hw := hw.1 hc
      exact t_wk0_X5_measure_3_69 zc hK hM hS hP2 (fun _ _ _ H locs ls h hl hM hS => h H locs ls hl hM hS) (lv_sub hl [1, 2, 3, 4] rfl) hw
    · have hw := hw.2 hc
      refine lv_aload_n hx hb dX5_measure_57 rfl (lv_at hl 1 rfl) ?_
      refine wk0g_5_15_0 zc hK hM dX5_measure_58 ?_
      refine lv_iload_n hx hb dX5_measure_61 rfl (lv_at hl 3 rfl) ?_
      refine lv_dup2_11 hx hb dX5_measure_62 rfl rfl ?_
      refine wk0ld_2 zc hK hM hw.1 dX5_measure_63 ?_
      have hw := hw.2
      refine lv_iconst (v := (1 : Int32)) hx hb dX5_measure_64 (by decide) ?_
      refine lv_iload_n hx hb dX5_measure_65 rfl (lv_at hl 4 rfl) ?_
      refine lv_ishl hx hb dX5_measure_66 ?_
      refine lv_ior hx hb dX5_measure_67 ?_
      refine lv_topi (fun v_2 ev_2 => ?_)
      have hw := hw v_2 ev_2
      refine wk0st_2 zc hK hM hS hw.1 dX5_measure_68 (fun a_behind_1 H locs ea_behind_1 hM hS => ?_)
      have hw := hw.2 a_behind_1 ea_behind_1
      exact t_wk0_X5_measure_3_69 zc hK hM hS hP2 (fun _ _ _ H locs ls h hl hM hS => h H locs ls hl hM hS) (lv_sub hl [1, 2, 3, 4] rfl) hw
set_option maxRecDepth 20000 in
theorem t_wk0_X5_measure_3_2 {p : Program} {l : Launch} {e : Env} {s : State} {m : MethodId} {args : Array Value} {below : List Frame} {meth : Method} {c : Code} {E : zE} {qk qc : Nat} {o_stands : Option Nat} {a_gaps : Nat → Int32} {a_behind : Nat → Int32} {cf_voices : Int32} {cf_step : Int32} {ca_parts : Nat → Int32} {ca_heights : Nat → Int32} {post : (Nat → Int32) → (Nat → Int32) → Prop} {x2 : Int32} {ls : Array Slot} {H : Heap} {locs : List Loc}
    (zc : zC p s m args meth c cX5_measure 5 RX5 none)
    (hK : zK E s)
    (hM : wk0W E qk qc o_stands a_gaps a_behind cf_voices cf_step ca_parts ca_heights H)
    (hS : va_S (wk0A qk qc) s.heap H locs)
    (hl : lv_has ls 5 [(0, .ref qk), (1, .ref qc), (2, .int x2)])
    (hw : q_wk0_X5_measure_3_2 a_gaps a_behind cf_voices cf_step ca_parts ca_heights x2 post) :
    W p l e rm_wk0_X5_measure_3 s m args below meth c H locs 0 0 (MQ below (zQv (S := (Nat → Int32) × (Nat → Int32)) (fun u => post u.1 u.2) (fun u H => wk0W E qk qc o_stands u.1 u.2 cf_voices cf_step ca_parts ca_heights H) (wk0A qk qc)) args s 0 0 (wk0A qk qc)) (F0 m 2 ls []) := by
  have hx := zc.1
  have hb := zc.2.1
  refine hw (fun x2 a_gaps a_behind => ∀ (H : Heap) (locs : List Loc) (ls : Array Slot), lv_has ls 5 [(0, .ref qk), (1, .ref qc), (2, .int x2)] → wk0W E qk qc o_stands a_gaps a_behind cf_voices cf_step ca_parts ca_heights H → va_S (wk0A qk qc) s.heap H locs → W p l e rm_wk0_X5_measure_3 s m args below meth c H locs 0 0 (MQ below (zQv (S := (Nat → Int32) × (Nat → Int32)) (fun u => post u.1 u.2) (fun u H => wk0W E qk qc o_stands u.1 u.2 cf_voices cf_step ca_parts ca_heights H) (wk0A qk qc)) args s 0 0 (wk0A qk qc)) (F0 m 2 ls [])) ?_ _ _ _ hl hM hS
  intro x2 a_gaps a_behind hw H locs ls hl hM hS
  refine lv_iload_n hx hb dX5_measure_2 rfl (lv_at hl 2 rfl) ?_
  refine lv_aload_n hx hb dX5_measure_3 rfl (lv_at hl 1 rfl) ?_
  refine wk0g_5_26_3 zc hK hM dX5_measure_4 ?_
  refine lv_icmp_ge (tgt := 81) hx hb dX5_measure_7 (by decide) (fun hc => ?_) (fun hc => ?_)
  · have hw := hw.1 hc
    exact zret_vw ⟨a_gaps, a_behind⟩ zc hS hw hM dX5_measure_81
  · have hw := hw.2 hc
    refine lv_aload_n hx hb dX5_measure_10 rfl (lv_at hl 0 rfl) ?_
    refine wk0g_5_15_0 zc hK hM dX5_measure_11 ?_
    refine lv_iload_n hx hb dX5_measure_14 rfl (lv_at hl 2 rfl) ?_
    refine lv_iconst (v := (0 : Int32)) hx hb dX5_measure_15 (by decide) ?_
    refine wk0st_2 zc hK hM hS hw.1 dX5_measure_16 (fun a_behind_1 H locs ea_behind_1 hM hS => ?_)
    have hw := hw.2 a_behind_1 ea_behind_1
    refine lv_iconst (v := (0 : Int32)) hx hb dX5_measure_17 (by decide) ?_
    refine lv_istore_n (lv' := [(3, .int (0 : Int32)), (0, .ref qk), (1, .ref qc), (2, .int x2)]) hx hb dX5_measure_18 rfl hl (by decide) rfl (fun ls hl => ?_)
    exact t_wk0_X5_measure_3_19 zc hK hM hS (fun _ _ _ H locs ls h hl hM hS => h H locs ls hl hM hS) (lv_sub hl [1, 2, 3, 0] rfl) hw
set_option maxRecDepth 20000 in
theorem t_wk0_X5_measure_3_0 {p : Program} {l : Launch} {e : Env} {s : State} {m : MethodId} {args : Array Value} {below : List Frame} {meth : Method} {c : Code} {E : zE} {qk qc : Nat} {o_stands : Option Nat} {a_gaps : Nat → Int32} {a_behind : Nat → Int32} {cf_voices : Int32} {cf_step : Int32} {ca_parts : Nat → Int32} {ca_heights : Nat → Int32} {post : (Nat → Int32) → (Nat → Int32) → Prop} {ls : Array Slot} {H : Heap} {locs : List Loc}
    (zc : zC p s m args meth c cX5_measure 5 RX5 none)
    (hK : zK E s)
    (hM : wk0W E qk qc o_stands a_gaps a_behind cf_voices cf_step ca_parts ca_heights H)
    (hS : va_S (wk0A qk qc) s.heap H locs)
    (hl : lv_has ls 5 [(0, .ref qk), (1, .ref qc)])
    (hw : q_wk0_X5_measure_3_0 a_gaps a_behind cf_voices cf_step ca_parts ca_heights post) :
    W p l e rm_wk0_X5_measure_3 s m args below meth c H locs 0 0 (MQ below (zQv (S := (Nat → Int32) × (Nat → Int32)) (fun u => post u.1 u.2) (fun u H => wk0W E qk qc o_stands u.1 u.2 cf_voices cf_step ca_parts ca_heights H) (wk0A qk qc)) args s 0 0 (wk0A qk qc)) (F0 m 0 ls []) := by
  have hx := zc.1
  have hb := zc.2.1
  refine lv_iconst (v := (0 : Int32)) hx hb dX5_measure_0 (by decide) ?_
  refine lv_istore_n (lv' := [(2, .int (0 : Int32)), (0, .ref qk), (1, .ref qc)]) hx hb dX5_measure_1 rfl hl (by decide) rfl (fun ls hl => ?_)
  exact t_wk0_X5_measure_3_2 zc hK hM hS  (lv_sub hl [1, 2, 0] rfl) hw
set_option maxRecDepth 20000 in
theorem c_wk0_X5_measure_3 (l : Launch) {E : zE} {qk qc : Nat} {o_stands : Option Nat} {a_gaps : Nat → Int32} {a_behind : Nat → Int32} {cf_voices : Int32} {cf_step : Int32} {ca_parts : Nat → Int32} {ca_heights : Nat → Int32} {post : (Nat → Int32) → (Nat → Int32) → Prop} (hw : q_wk0_X5_measure_3_0 a_gaps a_behind cf_voices cf_step ca_parts ca_heights post) : Met l yX5_measure (Cond.code yX5_measure cX5_measure 5 none :: zb) rm_wk0_X5_measure_3 (va_Pc [.ref qk, .ref qc] (fun U => wk0W E qk qc o_stands a_gaps a_behind cf_voices cf_step ca_parts ca_heights U.heap ∧ zK E U)) (zQv (S := (Nat → Int32) × (Nat → Int32)) (fun u => post u.1 u.2) (fun u H => wk0W E qk qc o_stands u.1 u.2 cf_voices cf_step ca_parts ca_heights H) (wk0A qk qc)) 0 0 (wk0A qk qc) := by
  refine Met.ofW (cc := cX5_measure) (maxL := 5) (ret := none) (by decide) rfl ?_
  intro p e s m args below meth c s₁ B hml hv
  obtain ⟨rfl, hM, hK⟩ := hv
  have zc := zc_of B hml
  have hl := lv_entry ([.ref qk, .ref qc]) (n := 5) (Nat.le_of_ble_eq_true rfl)
  rw [lg_entry_eq]
  generalize (lg_sl ([.ref qk, .ref qc]) ++ List.replicate (5 - (lg_sl ([.ref qk, .ref qc])).length) Slot.unset).toArray = ls at hl ⊢
  have hl : lv_has ls 5 [(0, .ref qk), (1, .ref qc)] := hl
  exact t_wk0_X5_measure_3_0 zc hK hM va_S.rf (lv_sub hl [0, 1] rfl) hw
end
section
-- wk_X5_measure_3
abbrev rm_wk_X5_measure_3 (kc ks : Nat) : Room := { frames := 2, cells := kc, slots := ks, locals := 62 }
def q_wk_X5_measure_3_69 (P2 : Int32 → (Nat → Int32) → (Nat → Int32) → Prop) (P19 : Int32 → (Nat → Int32) → (Nat → Int32) → Prop) (a_gaps : Nat → Int32) (a_behind : Nat → Int32) (cf_voices : Int32) (cf_step : Int32) (ca_parts : Nat → Int32) (ca_heights : Nat → Int32) (x2 : Int32) (x3 : Int32) (post : (Nat → Int32) → (Nat → Int32) → Prop) : Prop :=
  ∀ v_1 : Int32, v_1 = x3 + (1 : Int32) → (P19 v_1 a_gaps a_behind)
def q_wk_X5_measure_3_19 (P2 : Int32 → (Nat → Int32) → (Nat → Int32) → Prop) (a_gaps : Nat → Int32) (a_behind : Nat → Int32) (cf_voices : Int32) (cf_step : Int32) (ca_parts : Nat → Int32) (ca_heights : Nat → Int32) (x2 : Int32) (x3 : Int32) (post : (Nat → Int32) → (Nat → Int32) → Prop) : Prop :=
  ∀ P19 : Int32 → (Nat → Int32) → (Nat → Int32) → Prop, (∀ (x3 : Int32) (a_gaps : Nat → Int32) (a_behind : Nat → Int32), ((cf_voices ≤ x3 → (∀ v_1 : Int32, v_1 = x2 + (1 : Int32) → (P2 v_1 a_gaps a_behind))) ∧ (¬ cf_voices ≤ x3 → (q_wc_X0_stepBetween_0 ca_parts ca_heights x2 x3 (fun r_1 => vp_in ((x2 * (9 : Int32)) + x3) 81 ∧ (∀ a_gaps_1 : Nat → Int32, a_gaps_1 = upd a_gaps (Int32.toNatClampNeg ((x2 * (9 : Int32)) + x3)) r_1 → ((cf_step < r_1 → (q_wk_X5_measure_3_69 P2 P19 a_gaps_1 a_behind cf_voices cf_step ca_parts ca_heights x2 x3 post)) ∧ (¬ cf_step < r_1 → (vp_in x2 9 ∧ (∀ v_2 : Int32, v_2 = ((a_behind (Int32.toNatClampNeg x2)) ||| ((1 : Int32) <<< (x3 &&& 31))) → (vp_in x2 9 ∧ (∀ a_behind_1 : Nat → Int32, a_behind_1 = upd a_behind (Int32.toNatClampNeg x2) v_2 → (q_wk_X5_measure_3_69 P2 P19 a_gaps_1 a_behind_1 cf_voices cf_step ca_parts ca_heights x2 x3 post)))))))))))) → P19 x3 a_gaps a_behind) → P19 x3 a_gaps a_behind
def q_wk_X5_measure_3_2 (a_gaps : Nat → Int32) (a_behind : Nat → Int32) (cf_voices : Int32) (cf_step : Int32) (ca_parts : Nat → Int32) (ca_heights : Nat → Int32) (x2 : Int32) (post : (Nat → Int32) → (Nat → Int32) → Prop) : Prop :=
  ∀ P2 : Int32 → (Nat → Int32) → (Nat → Int32) → Prop, (∀ (x2 : Int32) (a_gaps : Nat → Int32) (a_behind : Nat → Int32), ((cf_voices ≤ x2 → (post a_gaps a_behind)) ∧ (¬ cf_voices ≤ x2 → (vp_in x2 9 ∧ (∀ a_behind_1 : Nat → Int32, a_behind_1 = upd a_behind (Int32.toNatClampNeg x2) (0 : Int32) → (q_wk_X5_measure_3_19 P2 a_gaps a_behind_1 cf_voices cf_step ca_parts ca_heights x2 (0 : Int32) post))))) → P2 x2 a_gaps a_behind) → P2 x2 a_gaps a_behind
def q_wk_X5_measure_3_0 (a_gaps : Nat → Int32) (a_behind : Nat → Int32) (cf_voices : Int32) (cf_step : Int32) (ca_parts : Nat → Int32) (ca_heights : Nat → Int32) (post : (Nat → Int32) → (Nat → Int32) → Prop) : Prop :=
  q_wk_X5_measure_3_2 a_gaps a_behind cf_voices cf_step ca_parts ca_heights (0 : Int32) post
set_option maxRecDepth 20000 in
theorem t_wk_X5_measure_3_69 {p : Program} {l : Launch} {e : Env} {s : State} {m : MethodId} {args : Array Value} {below : List Frame} {meth : Method} {c : Code} {kc ks : Nat} {E : zE} {qk qc qz : Nat} {a_gaps : Nat → Int32} {a_behind : Nat → Int32} {cf_voices : Int32} {cf_step : Int32} {ca_parts : Nat → Int32} {ca_heights : Nat → Int32} {z_tab : Nat → Int32} {P2 : Int32 → (Nat → Int32) → (Nat → Int32) → Prop} {P19 : Int32 → (Nat → Int32) → (Nat → Int32) → Prop} {post : (Nat → Int32) → (Nat → Int32) → Prop} {x2 : Int32} {x3 : Int32} {ls : Array Slot} {H : Heap} {locs : List Loc}
    (zc : zC p s m args meth c cX5_measure 5 RX5 none)
    (hK : zK E s)
    (hM : wkW E qk qc qz a_gaps a_behind cf_voices cf_step ca_parts ca_heights z_tab H)
    (hS : va_S (wkA qk qc qz) s.heap H locs)
    (hP2 : ∀ (x2 : Int32) (a_gaps : Nat → Int32) (a_behind : Nat → Int32) (H : Heap) (locs : List Loc) (ls : Array Slot), P2 x2 a_gaps a_behind → lv_has ls 5 [(0, .ref qk), (1, .ref qc), (2, .int x2)] → wkW E qk qc qz a_gaps a_behind cf_voices cf_step ca_parts ca_heights z_tab H → va_S (wkA qk qc qz) s.heap H locs → W p l e (rm_wk_X5_measure_3 kc ks) s m args below meth c H locs kc ks (MQ below (zQv (S := (Nat → Int32) × (Nat → Int32)) (fun u => post u.1 u.2) (fun u H => wkW E qk qc qz u.1 u.2 cf_voices cf_step ca_parts ca_heights z_tab H) (wkA qk qc qz)) args s kc ks (wkA qk qc qz)) (F0 m 2 ls []))
    (hP19 : ∀ (x3 : Int32) (a_gaps : Nat → Int32) (a_behind : Nat → Int32) (H : Heap) (locs : List Loc) (ls : Array Slot), P19 x3 a_gaps a_behind → lv_has ls 5 [(0, .ref qk), (1, .ref qc), (2, .int x2), (3, .int x3)] → wkW E qk qc qz a_gaps a_behind cf_voices cf_step ca_parts ca_heights z_tab H → va_S (wkA qk qc qz) s.heap H locs → W p l e (rm_wk_X5_measure_3 kc ks) s m args below meth c H locs kc ks (MQ below (zQv (S := (Nat → Int32) × (Nat → Int32)) (fun u => post u.1 u.2) (fun u H => wkW E qk qc qz u.1 u.2 cf_voices cf_step ca_parts ca_heights z_tab H) (wkA qk qc qz)) args s kc ks (wkA qk qc qz)) (F0 m 19 ls []))
    (hl : lv_has ls 5 [(0, .ref qk), (1, .ref qc), (2, .int x2), (3, .int x3)])
    (hw : q_wk_X5_measure_3_69 P2 P19 a_gaps a_behind cf_voices cf_step ca_parts ca_heights x2 x3 post) :
    W p l e (rm_wk_X5_measure_3 kc ks) s m args below meth c H locs kc ks (MQ below (zQv (S := (Nat → Int32) × (Nat → Int32)) (fun u => post u.1 u.2) (fun u H => wkW E qk qc qz u.1 u.2 cf_voices cf_step ca_parts ca_heights z_tab H) (wkA qk qc qz)) args s kc ks (wkA qk qc qz)) (F0 m 69 ls []) := by
  have hx := zc.1
  have hb := zc.2.1
  obtain ⟨v_1, ev_1⟩ : ∃ y : Int32, y = x3 + (1 : Int32) := ⟨_, rfl⟩
  have hw := hw v_1 ev_1
  refine lv_iinc (v := v_1) (k := 3) (lv' := [(3, .int v_1), (0, .ref qk), (1, .ref qc), (2, .int x2)]) hx hb dX5_measure_69 hl rfl (by rw [ev_1]; rfl) (by decide) rfl (fun ls hl => ?_)
  refine lv_goto (tgt := 19) hx hb dX5_measure_72 (by decide) ?_
  exact hP19 _ _ _ _ _ _ hw (lv_sub hl [1, 2, 3, 0] rfl) hM hS
set_option maxRecDepth 20000 in
theorem t_wk_X5_measure_3_19 {p : Program} {l : Launch} {e : Env} {s : State} {m : MethodId} {args : Array Value} {below : List Frame} {meth : Method} {c : Code} {kc ks : Nat} {E : zE} {qk qc qz : Nat} {a_gaps : Nat → Int32} {a_behind : Nat → Int32} {cf_voices : Int32} {cf_step : Int32} {ca_parts : Nat → Int32} {ca_heights : Nat → Int32} {z_tab : Nat → Int32} {P2 : Int32 → (Nat → Int32) → (Nat → Int32) → Prop} {post : (Nat → Int32) → (Nat → Int32) → Prop} {x2 : Int32} {x3 : Int32} {ls : Array Slot} {H : Heap} {locs : List Loc}
    (zc : zC p s m args meth c cX5_measure 5 RX5 none)
    (hK : zK E s)
    (hM : wkW E qk qc qz a_gaps a_behind cf_voices cf_step ca_parts ca_heights z_tab H)
    (hS : va_S (wkA qk qc qz) s.heap H locs)
    (hP2 : ∀ (x2 : Int32) (a_gaps : Nat → Int32) (a_behind : Nat → Int32) (H : Heap) (locs : List Loc) (ls : Array Slot), P2 x2 a_gaps a_behind → lv_has ls 5 [(0, .ref qk), (1, .ref qc), (2, .int x2)] → wkW E qk qc qz a_gaps a_behind cf_voices cf_step ca_parts ca_heights z_tab H → va_S (wkA qk qc qz) s.heap H locs → W p l e (rm_wk_X5_measure_3 kc ks) s m args below meth c H locs kc ks (MQ below (zQv (S := (Nat → Int32) × (Nat → Int32)) (fun u => post u.1 u.2) (fun u H => wkW E qk qc qz u.1 u.2 cf_voices cf_step ca_parts ca_heights z_tab H) (wkA qk qc qz)) args s kc ks (wkA qk qc qz)) (F0 m 2 ls []))
    (hl : lv_has ls 5 [(0, .ref qk), (1, .ref qc), (2, .int x2), (3, .int x3)])
    (hw : q_wk_X5_measure_3_19 P2 a_gaps a_behind cf_voices cf_step ca_parts ca_heights x2 x3 post) :
    W p l e (rm_wk_X5_measure_3 kc ks) s m args below meth c H locs kc ks (MQ below (zQv (S := (Nat → Int32) × (Nat → Int32)) (fun u => post u.1 u.2) (fun u H => wkW E qk qc qz u.1 u.2 cf_voices cf_step ca_parts ca_heights z_tab H) (wkA qk qc qz)) args s kc ks (wkA qk qc qz)) (F0 m 19 ls []) := by
  have hx := zc.1
  have hb := zc.2.1
  refine hw (fun x3 a_gaps a_behind => ∀ (H : Heap) (locs : List Loc) (ls : Array Slot), lv_has ls 5 [(0, .ref qk), (1, .ref qc), (2, .int x2), (3, .int x3)] → wkW E qk qc qz a_gaps a_behind cf_voices cf_step ca_parts ca_heights z_tab H → va_S (wkA qk qc qz) s.heap H locs → W p l e (rm_wk_X5_measure_3 kc ks) s m args below meth c H locs kc ks (MQ below (zQv (S := (Nat → Int32) × (Nat → Int32)) (fun u => post u.1 u.2) (fun u H => wkW E qk qc qz u.1 u.2 cf_voices cf_step ca_parts ca_heights z_tab H) (wkA qk qc qz)) args s kc ks (wkA qk qc qz)) (F0 m 19 ls [])) ?_ _ _ _ hl hM hS
  intro x3 a_gaps a_behind hw H locs ls hl hM hS
  refine lv_iload_n hx hb dX5_measure_19 rfl (lv_at hl 3 rfl) ?_
  refine lv_aload_n hx hb dX5_measure_20 rfl (lv_at hl 1 rfl) ?_
  refine wkg_5_26_3 zc hK hM dX5_measure_21 ?_
  refine lv_icmp_ge (tgt := 75) hx hb dX5_measure_24 (by decide) (fun hc => ?_) (fun hc => ?_)
  · have hw := hw.1 hc
    obtain ⟨v_1, ev_1⟩ : ∃ y : Int32, y = x2 + (1 : Int32) := ⟨_, rfl⟩
    have hw := hw v_1 ev_1
    refine lv_iinc (v := v_1) (k := 2) (lv' := [(2, .int v_1), (0, .ref qk), (1, .ref qc), (3, .int x3)]) hx hb dX5_measure_75 hl rfl (by rw [ev_1]; rfl) (by decide) rfl (fun ls hl => ?_)
    refine lv_goto (tgt := 2) hx hb dX5_measure_78 (by decide) ?_
    exact hP2 _ _ _ _ _ _ hw (lv_sub hl [1, 2, 0] rfl) hM hS
  · have hw := hw.2 hc
    refine lv_aload_n hx hb dX5_measure_27 rfl (lv_at hl 1 rfl) ?_
    refine lv_iload_n hx hb dX5_measure_28 rfl (lv_at hl 2 rfl) ?_
    refine lv_iload_n hx hb dX5_measure_29 rfl (lv_at hl 3 rfl) ?_
    refine zV_i [.int x2, .int x3] [] zc ky_X0_stepBetween kz_X0_stepBetween km_5_40 (c_wc_X0_stepBetween l hw) (wcPreV0 hK (pj_wk_wc_3 hM)) rfl rfl hl.1 (Nat.le_of_ble_eq_true rfl) ⟨rfl, rfl⟩ ⟨Nat.le_of_ble_eq_true rfl, Nat.le_of_ble_eq_true rfl⟩ ⟨(Nat.le_refl _), (Nat.le_refl _)⟩ dX5_measure_30 (fun r_1 hw => ?_)
    refine lv_istore (lv' := [(4, .int r_1), (0, .ref qk), (1, .ref qc), (2, .int x2), (3, .int x3)]) hx hb dX5_measure_33 hl (by decide) rfl (fun ls hl => ?_)
    refine lv_aload_n hx hb dX5_measure_35 rfl (lv_at hl 1 rfl) ?_
    refine wkg_5_9_0 zc hK hM dX5_measure_36 ?_
    refine lv_iload_n hx hb dX5_measure_39 rfl (lv_at hl 3 rfl) ?_
    refine lv_bipush (v := (9 : Int32)) hx hb dX5_measure_40 (by decide) ?_
    refine lv_imul hx hb dX5_measure_42 ?_
    refine lv_iload_n hx hb dX5_measure_43 rfl (lv_at hl 4 rfl) ?_
    refine lv_iadd hx hb dX5_measure_44 ?_
    refine lv_iload hx hb dX5_measure_45 (lv_at hl 0 rfl) ?_
    refine wkst_1 zc hK hM hS hw.1 dX5_measure_47 (fun a_gaps_1 H locs ea_gaps_1 hM hS => ?_)
    have hw := hw.2 a_gaps_1 ea_gaps_1
    refine lv_iload hx hb dX5_measure_48 (lv_at hl 0 rfl) ?_
    refine lv_aload_n hx hb dX5_measure_50 rfl (lv_at hl 2 rfl) ?_
    refine wkg_5_44_3 zc hK hM dX5_measure_51 ?_
    refine lv_icmp_gt (tgt := 69) hx hb dX5_measure_54 (by decide) (fun hc => ?_) (fun hc => ?_)
    · have hw := hw.1 hc
      exact t_wk_X5_measure_3_69 zc hK hM hS hP2 (fun _ _ _ H locs ls h hl hM hS => h H locs ls hl hM hS) (lv_sub hl [1, 2, 3, 4] rfl) hw
    · have hw := hw.2 hc
      refine lv_aload_n hx hb dX5_measure_57 rfl (lv_at hl 1 rfl) ?_
      refine wkg_5_15_0 zc hK hM dX5_measure_58 ?_
      refine lv_iload_n hx hb dX5_measure_61 rfl (lv_at hl 3 rfl) ?_
      refine lv_dup2_11 hx hb dX5_measure_62 rfl rfl ?_
      refine wkld_2 zc hK hM hw.1 dX5_measure_63 ?_
      have hw := hw.2
      refine lv_iconst (v := (1 : Int32)) hx hb dX5_measure_64 (by decide) ?_
      refine lv_iload_n hx hb dX5_measure_65 rfl (lv_at hl 4 rfl) ?_
      refine lv_ishl hx hb dX5_measure_66 ?_
      refine lv_ior hx hb dX5_measure_67 ?_
      refine lv_topi (fun v_2 ev_2 => ?_)
      have hw := hw v_2 ev_2
      refine wkst_2 zc hK hM hS hw.1 dX5_measure_68 (fun a_behind_1 H locs ea_behind_1 hM hS => ?_)
      have hw := hw.2 a_behind_1 ea_behind_1
      exact t_wk_X5_measure_3_69 zc hK hM hS hP2 (fun _ _ _ H locs ls h hl hM hS => h H locs ls hl hM hS) (lv_sub hl [1, 2, 3, 4] rfl) hw
set_option maxRecDepth 20000 in
theorem t_wk_X5_measure_3_2 {p : Program} {l : Launch} {e : Env} {s : State} {m : MethodId} {args : Array Value} {below : List Frame} {meth : Method} {c : Code} {kc ks : Nat} {E : zE} {qk qc qz : Nat} {a_gaps : Nat → Int32} {a_behind : Nat → Int32} {cf_voices : Int32} {cf_step : Int32} {ca_parts : Nat → Int32} {ca_heights : Nat → Int32} {z_tab : Nat → Int32} {post : (Nat → Int32) → (Nat → Int32) → Prop} {x2 : Int32} {ls : Array Slot} {H : Heap} {locs : List Loc}
    (zc : zC p s m args meth c cX5_measure 5 RX5 none)
    (hK : zK E s)
    (hM : wkW E qk qc qz a_gaps a_behind cf_voices cf_step ca_parts ca_heights z_tab H)
    (hS : va_S (wkA qk qc qz) s.heap H locs)
    (hl : lv_has ls 5 [(0, .ref qk), (1, .ref qc), (2, .int x2)])
    (hw : q_wk_X5_measure_3_2 a_gaps a_behind cf_voices cf_step ca_parts ca_heights x2 post) :
    W p l e (rm_wk_X5_measure_3 kc ks) s m args below meth c H locs kc ks (MQ below (zQv (S := (Nat → Int32) × (Nat → Int32)) (fun u => post u.1 u.2) (fun u H => wkW E qk qc qz u.1 u.2 cf_voices cf_step ca_parts ca_heights z_tab H) (wkA qk qc qz)) args s kc ks (wkA qk qc qz)) (F0 m 2 ls []) := by
  have hx := zc.1
  have hb := zc.2.1
  refine hw (fun x2 a_gaps a_behind => ∀ (H : Heap) (locs : List Loc) (ls : Array Slot), lv_has ls 5 [(0, .ref qk), (1, .ref qc), (2, .int x2)] → wkW E qk qc qz a_gaps a_behind cf_voices cf_step ca_parts ca_heights z_tab H → va_S (wkA qk qc qz) s.heap H locs → W p l e (rm_wk_X5_measure_3 kc ks) s m args below meth c H locs kc ks (MQ below (zQv (S := (Nat → Int32) × (Nat → Int32)) (fun u => post u.1 u.2) (fun u H => wkW E qk qc qz u.1 u.2 cf_voices cf_step ca_parts ca_heights z_tab H) (wkA qk qc qz)) args s kc ks (wkA qk qc qz)) (F0 m 2 ls [])) ?_ _ _ _ hl hM hS
  intro x2 a_gaps a_behind hw H locs ls hl hM hS
  refine lv_iload_n hx hb dX5_measure_2 rfl (lv_at hl 2 rfl) ?_
  refine lv_aload_n hx hb dX5_measure_3 rfl (lv_at hl 1 rfl) ?_
  refine wkg_5_26_3 zc hK hM dX5_measure_4 ?_
  refine lv_icmp_ge (tgt := 81) hx hb dX5_measure_7 (by decide) (fun hc => ?_) (fun hc => ?_)
  · have hw := hw.1 hc
    exact zret_vw ⟨a_gaps, a_behind⟩ zc hS hw hM dX5_measure_81
  · have hw := hw.2 hc
    refine lv_aload_n hx hb dX5_measure_10 rfl (lv_at hl 0 rfl) ?_
    refine wkg_5_15_0 zc hK hM dX5_measure_11 ?_
    refine lv_iload_n hx hb dX5_measure_14 rfl (lv_at hl 2 rfl) ?_
    refine lv_iconst (v := (0 : Int32)) hx hb dX5_measure_15 (by decide) ?_
    refine wkst_2 zc hK hM hS hw.1 dX5_measure_16 (fun a_behind_1 H locs ea_behind_1 hM hS => ?_)
    have hw := hw.2 a_behind_1 ea_behind_1
    refine lv_iconst (v := (0 : Int32)) hx hb dX5_measure_17 (by decide) ?_
    refine lv_istore_n (lv' := [(3, .int (0 : Int32)), (0, .ref qk), (1, .ref qc), (2, .int x2)]) hx hb dX5_measure_18 rfl hl (by decide) rfl (fun ls hl => ?_)
    exact t_wk_X5_measure_3_19 zc hK hM hS (fun _ _ _ H locs ls h hl hM hS => h H locs ls hl hM hS) (lv_sub hl [1, 2, 3, 0] rfl) hw
set_option maxRecDepth 20000 in
theorem t_wk_X5_measure_3_0 {p : Program} {l : Launch} {e : Env} {s : State} {m : MethodId} {args : Array Value} {below : List Frame} {meth : Method} {c : Code} {kc ks : Nat} {E : zE} {qk qc qz : Nat} {a_gaps : Nat → Int32} {a_behind : Nat → Int32} {cf_voices : Int32} {cf_step : Int32} {ca_parts : Nat → Int32} {ca_heights : Nat → Int32} {z_tab : Nat → Int32} {post : (Nat → Int32) → (Nat → Int32) → Prop} {ls : Array Slot} {H : Heap} {locs : List Loc}
    (zc : zC p s m args meth c cX5_measure 5 RX5 none)
    (hK : zK E s)
    (hM : wkW E qk qc qz a_gaps a_behind cf_voices cf_step ca_parts ca_heights z_tab H)
    (hS : va_S (wkA qk qc qz) s.heap H locs)
    (hl : lv_has ls 5 [(0, .ref qk), (1, .ref qc)])
    (hw : q_wk_X5_measure_3_0 a_gaps a_behind cf_voices cf_step ca_parts ca_heights post) :
    W p l e (rm_wk_X5_measure_3 kc ks) s m args below meth c H locs kc ks (MQ below (zQv (S := (Nat → Int32) × (Nat → Int32)) (fun u => post u.1 u.2) (fun u H => wkW E qk qc qz u.1 u.2 cf_voices cf_step ca_parts ca_heights z_tab H) (wkA qk qc qz)) args s kc ks (wkA qk qc qz)) (F0 m 0 ls []) := by
  have hx := zc.1
  have hb := zc.2.1
  refine lv_iconst (v := (0 : Int32)) hx hb dX5_measure_0 (by decide) ?_
  refine lv_istore_n (lv' := [(2, .int (0 : Int32)), (0, .ref qk), (1, .ref qc)]) hx hb dX5_measure_1 rfl hl (by decide) rfl (fun ls hl => ?_)
  exact t_wk_X5_measure_3_2 zc hK hM hS  (lv_sub hl [1, 2, 0] rfl) hw
set_option maxRecDepth 20000 in
theorem c_wk_X5_measure_3 (l : Launch) {E : zE} {qk qc qz : Nat} {a_gaps : Nat → Int32} {a_behind : Nat → Int32} {cf_voices : Int32} {cf_step : Int32} {ca_parts : Nat → Int32} {ca_heights : Nat → Int32} {z_tab : Nat → Int32} {post : (Nat → Int32) → (Nat → Int32) → Prop} (hw : q_wk_X5_measure_3_0 a_gaps a_behind cf_voices cf_step ca_parts ca_heights post) : Met l yX5_measure (Cond.code yX5_measure cX5_measure 5 none :: zb) (rm_wk_X5_measure_3 0 0) (va_Pc [.ref qk, .ref qc] (fun U => wkW E qk qc qz a_gaps a_behind cf_voices cf_step ca_parts ca_heights z_tab U.heap ∧ zK E U)) (zQv (S := (Nat → Int32) × (Nat → Int32)) (fun u => post u.1 u.2) (fun u H => wkW E qk qc qz u.1 u.2 cf_voices cf_step ca_parts ca_heights z_tab H) (wkA qk qc qz)) 0 0 (wkA qk qc qz) := by
  refine Met.ofW (cc := cX5_measure) (maxL := 5) (ret := none) (by decide) rfl ?_
  intro p e s m args below meth c s₁ B hml hv
  obtain ⟨rfl, hM, hK⟩ := hv
  have zc := zc_of B hml
  have hl := lv_entry ([.ref qk, .ref qc]) (n := 5) (Nat.le_of_ble_eq_true rfl)
  rw [lg_entry_eq]
  generalize (lg_sl ([.ref qk, .ref qc]) ++ List.replicate (5 - (lg_sl ([.ref qk, .ref qc])).length) Slot.unset).toArray = ls at hl ⊢
  have hl : lv_has ls 5 [(0, .ref qk), (1, .ref qc)] := hl
  exact t_wk_X5_measure_3_0 zc hK hM va_S.rf (lv_sub hl [0, 1] rfl) hw
-- wk_X5_table
abbrev rm_wk_X5_table (kc ks : Nat) : Room := { frames := 0, cells := kc, slots := ks, locals := 0 }
def q_wk_X5_table_0 (post : Nat → Prop) : Prop :=
  post 1
set_option maxRecDepth 20000 in
theorem t_wk_X5_table_0 {p : Program} {l : Launch} {e : Env} {s : State} {m : MethodId} {args : Array Value} {below : List Frame} {meth : Method} {c : Code} {kc ks : Nat} {E : zE} {qk qc qz : Nat} {a_gaps : Nat → Int32} {a_behind : Nat → Int32} {cf_voices : Int32} {cf_step : Int32} {ca_parts : Nat → Int32} {ca_heights : Nat → Int32} {z_tab : Nat → Int32} {post : Nat → Prop} {ls : Array Slot}
    (zc : zC p s m args meth c cX5_table 1 RX5 (some (.array .int)))
    (hK : zK E s)
    (hM : wkW E qk qc qz a_gaps a_behind cf_voices cf_step ca_parts ca_heights z_tab s.heap)
    (hl : lv_has ls 1 [(0, .ref qk)])
    (hw : q_wk_X5_table_0 post) :
    W p l e (rm_wk_X5_table kc ks) s m args below meth c s.heap [] kc ks (MQ below (va_Sr post (fun k => if k = 0 then Value.null else Value.ref qz)) args s kc ks (fun _ => False)) (F0 m 0 ls []) := by
  have hx := zc.1
  have hb := zc.2.1
  refine lv_aload_n hx hb dX5_table_0 rfl (lv_at hl 0 rfl) ?_
  refine wkg_5_66_0 zc hK hM dX5_table_1 ?_
  refine lv_ifnonnull (tgt := 16) hx hb dX5_table_4 (by decide) ?_
  refine lv_aload_n hx hb dX5_table_16 rfl (lv_at hl 0 rfl) ?_
  refine wkg_5_66_0 zc hK hM dX5_table_17 ?_
  exact zret_r (k := 1) zc (Or.inr ⟨_, rfl⟩) hw dX5_table_20
set_option maxRecDepth 20000 in
theorem c_wk_X5_table (l : Launch) {E : zE} {qk qc qz : Nat} {a_gaps : Nat → Int32} {a_behind : Nat → Int32} {cf_voices : Int32} {cf_step : Int32} {ca_parts : Nat → Int32} {ca_heights : Nat → Int32} {z_tab : Nat → Int32} {post : Nat → Prop} (hw : q_wk_X5_table_0 post) : Met l yX5_table (Cond.code yX5_table cX5_table 1 (some (.array .int)) :: zb) (rm_wk_X5_table 0 0) (va_Pc [.ref qk] (fun U => wkW E qk qc qz a_gaps a_behind cf_voices cf_step ca_parts ca_heights z_tab U.heap ∧ zK E U)) (va_Sr post (fun k => if k = 0 then Value.null else Value.ref qz)) 0 0 (fun _ => False) := by
  refine Met.ofW (cc := cX5_table) (maxL := 1) (ret := (some (.array .int))) (by decide) rfl ?_
  intro p e s m args below meth c s₁ B hml hv
  obtain ⟨rfl, hM, hK⟩ := hv
  have zc := zc_of B hml
  have hl := lv_entry ([.ref qk]) (n := 1) (Nat.le_of_ble_eq_true rfl)
  rw [lg_entry_eq]
  generalize (lg_sl ([.ref qk]) ++ List.replicate (1 - (lg_sl ([.ref qk])).length) Slot.unset).toArray = ls at hl ⊢
  have hl : lv_has ls 1 [(0, .ref qk)] := hl
  exact t_wk_X5_table_0 zc hK hM (lv_sub hl [0] rfl) hw
-- wk_X5_waysOn_6
abbrev rm_wk_X5_waysOn_6 (kc ks : Nat) : Room := { frames := 1, cells := kc, slots := ks, locals := 21 }
def q_wk_X5_waysOn_6_45 (P5 : Int32 → Int32 → Prop) (z_tab : Nat → Int32) (x1 : Int32) (x2 : Int32) (x3 : Int32) (x4 : Int32) (post : Int32 → Prop) : Prop :=
  ∀ v_1 : Int32, v_1 = x4 + (1 : Int32) → (P5 x3 v_1)
def q_wk_X5_waysOn_6_5 (z_tab : Nat → Int32) (x1 : Int32) (x2 : Int32) (x3 : Int32) (x4 : Int32) (post : Int32 → Prop) : Prop :=
  ∀ P5 : Int32 → Int32 → Prop, (∀ (x3 : Int32) (x4 : Int32), (((9 : Int32) ≤ x4 → (post x3)) ∧ (¬ (9 : Int32) ≤ x4 → (((x2 >>> (x4 &&& 31)) = 0 → (post x3)) ∧ (¬ (x2 >>> (x4 &&& 31)) = 0 → (q_z_X10_has_0 x2 x4 (fun r_1 => (r_1 = 0 → (q_wk_X5_waysOn_6_45 P5 z_tab x1 x2 x3 x4 post)) ∧ (¬ r_1 = 0 → (vp_in (((x1 ||| ((1 : Int32) <<< (x4 &&& 31))) * (9 : Int32)) + x4) 4608 ∧ (∀ v_1 : Int32, v_1 = (x3 + (z_tab (Int32.toNatClampNeg (((x1 ||| ((1 : Int32) <<< (x4 &&& 31))) * (9 : Int32)) + x4)))) → (q_wk_X5_waysOn_6_45 P5 z_tab x1 x2 v_1 x4 post)))))))))) → P5 x3 x4) → P5 x3 x4
def q_wk_X5_waysOn_6_0 (z_tab : Nat → Int32) (x1 : Int32) (x2 : Int32) (post : Int32 → Prop) : Prop :=
  q_wk_X5_waysOn_6_5 z_tab x1 x2 (0 : Int32) (0 : Int32) post
set_option maxRecDepth 20000 in
theorem t_wk_X5_waysOn_6_45 {p : Program} {l : Launch} {e : Env} {s : State} {m : MethodId} {args : Array Value} {below : List Frame} {meth : Method} {c : Code} {kc ks : Nat} {E : zE} {qk qc qz : Nat} {a_gaps : Nat → Int32} {a_behind : Nat → Int32} {cf_voices : Int32} {cf_step : Int32} {ca_parts : Nat → Int32} {ca_heights : Nat → Int32} {z_tab : Nat → Int32} {P5 : Int32 → Int32 → Prop} {post : Int32 → Prop} {x1 : Int32} {x2 : Int32} {x3 : Int32} {x4 : Int32} {ls : Array Slot}
    (zc : zC p s m args meth c cX5_waysOn 5 RX5 (some .int))
    (hK : zK E s)
    (hM : wkW E qk qc qz a_gaps a_behind cf_voices cf_step ca_parts ca_heights z_tab s.heap)
    (hP5 : ∀ (x3 : Int32) (x4 : Int32) (ls : Array Slot), P5 x3 x4 → lv_has ls 5 [(0, .ref qz), (1, .int x1), (2, .int x2), (3, .int x3), (4, .int x4)] → W p l e (rm_wk_X5_waysOn_6 kc ks) s m args below meth c s.heap [] kc ks (MQ below (vp_Si post) args s kc ks (fun _ => False)) (F0 m 5 ls []))
    (hl : lv_has ls 5 [(0, .ref qz), (1, .int x1), (2, .int x2), (3, .int x3), (4, .int x4)])
    (hw : q_wk_X5_waysOn_6_45 P5 z_tab x1 x2 x3 x4 post) :
    W p l e (rm_wk_X5_waysOn_6 kc ks) s m args below meth c s.heap [] kc ks (MQ below (vp_Si post) args s kc ks (fun _ => False)) (F0 m 45 ls []) := by
  have hx := zc.1
  have hb := zc.2.1
  obtain ⟨v_1, ev_1⟩ : ∃ y : Int32, y = x4 + (1 : Int32) := ⟨_, rfl⟩
  have hw := hw v_1 ev_1
  refine lv_iinc (v := v_1) (k := 4) (lv' := [(4, .int v_1), (0, .ref qz), (1, .int x1), (2, .int x2), (3, .int x3)]) hx hb dX5_waysOn_45 hl rfl (by rw [ev_1]; rfl) (by decide) rfl (fun ls hl => ?_)
  refine lv_goto (tgt := 5) hx hb dX5_waysOn_48 (by decide) ?_
  exact hP5 _ _ _ hw (lv_sub hl [1, 2, 3, 4, 0] rfl)
set_option maxRecDepth 20000 in
theorem t_wk_X5_waysOn_6_5 {p : Program} {l : Launch} {e : Env} {s : State} {m : MethodId} {args : Array Value} {below : List Frame} {meth : Method} {c : Code} {kc ks : Nat} {E : zE} {qk qc qz : Nat} {a_gaps : Nat → Int32} {a_behind : Nat → Int32} {cf_voices : Int32} {cf_step : Int32} {ca_parts : Nat → Int32} {ca_heights : Nat → Int32} {z_tab : Nat → Int32} {post : Int32 → Prop} {x1 : Int32} {x2 : Int32} {x3 : Int32} {x4 : Int32} {ls : Array Slot}
    (zc : zC p s m args meth c cX5_waysOn 5 RX5 (some .int))
    (hK : zK E s)
    (hM : wkW E qk qc qz a_gaps a_behind cf_voices cf_step ca_parts ca_heights z_tab s.heap)
    (hl : lv_has ls 5 [(0, .ref qz), (1, .int x1), (2, .int x2), (3, .int x3), (4, .int x4)])
    (hw : q_wk_X5_waysOn_6_5 z_tab x1 x2 x3 x4 post) :
    W p l e (rm_wk_X5_waysOn_6 kc ks) s m args below meth c s.heap [] kc ks (MQ below (vp_Si post) args s kc ks (fun _ => False)) (F0 m 5 ls []) := by
  have hx := zc.1
  have hb := zc.2.1
  refine hw (fun x3 x4 => ∀ (ls : Array Slot), lv_has ls 5 [(0, .ref qz), (1, .int x1), (2, .int x2), (3, .int x3), (4, .int x4)] → W p l e (rm_wk_X5_waysOn_6 kc ks) s m args below meth c s.heap [] kc ks (MQ below (vp_Si post) args s kc ks (fun _ => False)) (F0 m 5 ls [])) ?_ _ hl
  intro x3 x4 hw ls hl
  refine lv_iload hx hb dX5_waysOn_5 (lv_at hl 4 rfl) ?_
  refine lv_bipush (v := (9 : Int32)) hx hb dX5_waysOn_7 (by decide) ?_
  refine lv_icmp_ge (tgt := 51) hx hb dX5_waysOn_9 (by decide) (fun hc => ?_) (fun hc => ?_)
  · have hw := hw.1 hc
    refine lv_iload_n hx hb dX5_waysOn_51 rfl (lv_at hl 3 rfl) ?_
    exact zret_i zc hw dX5_waysOn_52
  · have hw := hw.2 hc
    refine lv_iload_n hx hb dX5_waysOn_12 rfl (lv_at hl 2 rfl) ?_
    refine lv_iload hx hb dX5_waysOn_13 (lv_at hl 4 rfl) ?_
    refine lv_ishr hx hb dX5_waysOn_15 ?_
    refine lv_if_eq (tgt := 51) hx hb dX5_waysOn_16 (by decide) (fun hc => ?_) (fun hc => ?_)
    · have hw := hw.1 hc
      refine lv_iload_n hx hb dX5_waysOn_51 rfl (lv_at hl 3 rfl) ?_
      exact zret_i zc hw dX5_waysOn_52
    · have hw := hw.2 hc
      refine lv_iload_n hx hb dX5_waysOn_19 rfl (lv_at hl 2 rfl) ?_
      refine lv_iload hx hb dX5_waysOn_20 (lv_at hl 4 rfl) ?_
      refine zSN_i [.int x2, .int x4] [] zc ky_X10_has kz_X10_has (hK.2 _ kn_5_32) (c_z_X10_has l hw) (zPre0 _) rfl rfl hl.1 (Nat.le_of_ble_eq_true rfl) ⟨rfl, rfl⟩ ⟨Nat.le_of_ble_eq_true rfl, Nat.le_of_ble_eq_true rfl⟩ ⟨(Nat.le_refl _), (Nat.le_refl _)⟩ dX5_waysOn_22 (fun r_1 hw => ?_)
      refine lv_if_eq (tgt := 45) hx hb dX5_waysOn_25 (by decide) (fun hc => ?_) (fun hc => ?_)
      · have hw := hw.1 hc
        exact t_wk_X5_waysOn_6_45 zc hK hM (fun _ _ ls h hl => h ls hl) (lv_sub hl [0, 1, 2, 3, 4] rfl) hw
      · have hw := hw.2 hc
        refine lv_iload_n hx hb dX5_waysOn_28 rfl (lv_at hl 3 rfl) ?_
        refine lv_aload_n hx hb dX5_waysOn_29 rfl (lv_at hl 0 rfl) ?_
        refine lv_iload_n hx hb dX5_waysOn_30 rfl (lv_at hl 1 rfl) ?_
        refine lv_iconst (v := (1 : Int32)) hx hb dX5_waysOn_31 (by decide) ?_
        refine lv_iload hx hb dX5_waysOn_32 (lv_at hl 4 rfl) ?_
        refine lv_ishl hx hb dX5_waysOn_34 ?_
        refine lv_ior hx hb dX5_waysOn_35 ?_
        refine lv_bipush (v := (9 : Int32)) hx hb dX5_waysOn_36 (by decide) ?_
        refine lv_imul hx hb dX5_waysOn_38 ?_
        refine lv_iload hx hb dX5_waysOn_39 (lv_at hl 4 rfl) ?_
        refine lv_iadd hx hb dX5_waysOn_41 ?_
        refine wkld_6 zc hK hM hw.1 dX5_waysOn_42 ?_
        have hw := hw.2
        refine lv_iadd hx hb dX5_waysOn_43 ?_
        refine lv_topi (fun v_1 ev_1 => ?_)
        have hw := hw v_1 ev_1
        refine lv_istore_n (lv' := [(3, .int v_1), (0, .ref qz), (1, .int x1), (2, .int x2), (4, .int x4)]) hx hb dX5_waysOn_44 rfl hl (by decide) rfl (fun ls hl => ?_)
        exact t_wk_X5_waysOn_6_45 zc hK hM (fun _ _ ls h hl => h ls hl) (lv_sub hl [1, 2, 3, 0, 4] rfl) hw
set_option maxRecDepth 20000 in
theorem t_wk_X5_waysOn_6_0 {p : Program} {l : Launch} {e : Env} {s : State} {m : MethodId} {args : Array Value} {below : List Frame} {meth : Method} {c : Code} {kc ks : Nat} {E : zE} {qk qc qz : Nat} {a_gaps : Nat → Int32} {a_behind : Nat → Int32} {cf_voices : Int32} {cf_step : Int32} {ca_parts : Nat → Int32} {ca_heights : Nat → Int32} {z_tab : Nat → Int32} {post : Int32 → Prop} {x1 : Int32} {x2 : Int32} {ls : Array Slot}
    (zc : zC p s m args meth c cX5_waysOn 5 RX5 (some .int))
    (hK : zK E s)
    (hM : wkW E qk qc qz a_gaps a_behind cf_voices cf_step ca_parts ca_heights z_tab s.heap)
    (hl : lv_has ls 5 [(0, .ref qz), (1, .int x1), (2, .int x2)])
    (hw : q_wk_X5_waysOn_6_0 z_tab x1 x2 post) :
    W p l e (rm_wk_X5_waysOn_6 kc ks) s m args below meth c s.heap [] kc ks (MQ below (vp_Si post) args s kc ks (fun _ => False)) (F0 m 0 ls []) := by
  have hx := zc.1
  have hb := zc.2.1
  refine lv_iconst (v := (0 : Int32)) hx hb dX5_waysOn_0 (by decide) ?_
  refine lv_istore_n (lv' := [(3, .int (0 : Int32)), (0, .ref qz), (1, .int x1), (2, .int x2)]) hx hb dX5_waysOn_1 rfl hl (by decide) rfl (fun ls hl => ?_)
  refine lv_iconst (v := (0 : Int32)) hx hb dX5_waysOn_2 (by decide) ?_
  refine lv_istore (lv' := [(4, .int (0 : Int32)), (3, .int (0 : Int32)), (0, .ref qz), (1, .int x1), (2, .int x2)]) hx hb dX5_waysOn_3 hl (by decide) rfl (fun ls hl => ?_)
  exact t_wk_X5_waysOn_6_5 zc hK hM  (lv_sub hl [2, 3, 4, 1, 0] rfl) hw
set_option maxRecDepth 20000 in
theorem c_wk_X5_waysOn_6 (l : Launch) {E : zE} {qk qc qz : Nat} {a_gaps : Nat → Int32} {a_behind : Nat → Int32} {cf_voices : Int32} {cf_step : Int32} {ca_parts : Nat → Int32} {ca_heights : Nat → Int32} {z_tab : Nat → Int32} {x1 : Int32} {x2 : Int32} {post : Int32 → Prop} (hw : q_wk_X5_waysOn_6_0 z_tab x1 x2 post) : Met l yX5_waysOn (Cond.code yX5_waysOn cX5_waysOn 5 (some .int) :: zb) (rm_wk_X5_waysOn_6 0 0) (va_Pc [.ref qz, .int x1, .int x2] (fun U => wkW E qk qc qz a_gaps a_behind cf_voices cf_step ca_parts ca_heights z_tab U.heap ∧ zK E U)) (vp_Si post) 0 0 (fun _ => False) := by
  refine Met.ofW (cc := cX5_waysOn) (maxL := 5) (ret := (some .int)) (by decide) rfl ?_
  intro p e s m args below meth c s₁ B hml hv
  obtain ⟨rfl, hM, hK⟩ := hv
  have zc := zc_of B hml
  have hl := lv_entry ([.ref qz, .int x1, .int x2]) (n := 5) (Nat.le_of_ble_eq_true rfl)
  rw [lg_entry_eq]
  generalize (lg_sl ([.ref qz, .int x1, .int x2]) ++ List.replicate (5 - (lg_sl ([.ref qz, .int x1, .int x2])).length) Slot.unset).toArray = ls at hl ⊢
  have hl : lv_has ls 5 [(0, .ref qz), (1, .int x1), (2, .int x2)] := hl
  exact t_wk_X5_waysOn_6_0 zc hK hM (lv_sub hl [0, 1, 2] rfl) hw
-- wk_X5_fill_3
abbrev rm_wk_X5_fill_3 (kc ks : Nat) : Room := { frames := 3, cells := kc, slots := ks, locals := 86 }
def q_wk_X5_fill_3_87 (P22 : Int32 → (Nat → Int32) → Prop) (P30 : Int32 → (Nat → Int32) → Prop) (a_gaps : Nat → Int32) (a_behind : Nat → Int32) (cf_voices : Int32) (cf_step : Int32) (ca_parts : Nat → Int32) (ca_heights : Nat → Int32) (z_tab : Nat → Int32) (x3 : Int32) (x4 : Int32) (x5 : Int32) (post : (Nat → Int32) → (Nat → Int32) → (Nat → Int32) → Prop) : Prop :=
  ∀ v_1 : Int32, v_1 = x5 + (1 : Int32) → (P30 v_1 z_tab)
def q_wk_X5_fill_3_86 (P22 : Int32 → (Nat → Int32) → Prop) (P30 : Int32 → (Nat → Int32) → Prop) (a_gaps : Nat → Int32) (a_behind : Nat → Int32) (cf_voices : Int32) (cf_step : Int32) (ca_parts : Nat → Int32) (ca_heights : Nat → Int32) (z_tab : Nat → Int32) (x3 : Int32) (x4 : Int32) (x5 : Int32) (y0 : Int32) (y1 : Int32) (post : (Nat → Int32) → (Nat → Int32) → (Nat → Int32) → Prop) : Prop :=
  vp_in y0 4608 ∧ (∀ z_tab_1 : Nat → Int32, z_tab_1 = upd z_tab (Int32.toNatClampNeg y0) y1 → (q_wk_X5_fill_3_87 P22 P30 a_gaps a_behind cf_voices cf_step ca_parts ca_heights z_tab_1 x3 x4 x5 post))
def q_wk_X5_fill_3_30 (P22 : Int32 → (Nat → Int32) → Prop) (a_gaps : Nat → Int32) (a_behind : Nat → Int32) (cf_voices : Int32) (cf_step : Int32) (ca_parts : Nat → Int32) (ca_heights : Nat → Int32) (z_tab : Nat → Int32) (x3 : Int32) (x4 : Int32) (x5 : Int32) (post : (Nat → Int32) → (Nat → Int32) → (Nat → Int32) → Prop) : Prop :=
  ∀ P30 : Int32 → (Nat → Int32) → Prop, (∀ (x5 : Int32) (z_tab : Nat → Int32), ((cf_voices ≤ x5 → (∀ v_1 : Int32, v_1 = x4 + (-1 : Int32) → (P22 v_1 z_tab))) ∧ (¬ cf_voices ≤ x5 → (q_z_X10_has_0 x4 x5 (fun r_1 => (r_1 = 0 → (q_wk_X5_fill_3_87 P22 P30 a_gaps a_behind cf_voices cf_step ca_parts ca_heights z_tab x3 x4 x5 post)) ∧ (¬ r_1 = 0 → ((¬ x4 = x3 → (vp_in x5 9 ∧ (q_wk_X5_waysOn_6_0 z_tab x4 ((a_behind (Int32.toNatClampNeg x5)) &&& (x4 ^^^ (-1 : Int32))) (fun r_2 => q_wk_X5_fill_3_86 P22 P30 a_gaps a_behind cf_voices cf_step ca_parts ca_heights z_tab x3 x4 x5 ((x4 * (9 : Int32)) + x5) r_2 post)))) ∧ (x4 = x3 → (q_wk_X5_fill_3_86 P22 P30 a_gaps a_behind cf_voices cf_step ca_parts ca_heights z_tab x3 x4 x5 ((x4 * (9 : Int32)) + x5) (1 : Int32) post)))))))) → P30 x5 z_tab) → P30 x5 z_tab
def q_wk_X5_fill_3_22 (a_gaps : Nat → Int32) (a_behind : Nat → Int32) (cf_voices : Int32) (cf_step : Int32) (ca_parts : Nat → Int32) (ca_heights : Nat → Int32) (z_tab : Nat → Int32) (x3 : Int32) (x4 : Int32) (post : (Nat → Int32) → (Nat → Int32) → (Nat → Int32) → Prop) : Prop :=
  ∀ P22 : Int32 → (Nat → Int32) → Prop, (∀ (x4 : Int32) (z_tab : Nat → Int32), ((x4 ≤ 0 → (post a_gaps a_behind z_tab)) ∧ (¬ x4 ≤ 0 → (q_wk_X5_fill_3_30 P22 a_gaps a_behind cf_voices cf_step ca_parts ca_heights z_tab x3 x4 (0 : Int32) post))) → P22 x4 z_tab) → P22 x4 z_tab
def q_wk_X5_fill_3_10 (a_gaps : Nat → Int32) (a_behind : Nat → Int32) (cf_voices : Int32) (cf_step : Int32) (ca_parts : Nat → Int32) (ca_heights : Nat → Int32) (z_tab : Nat → Int32) (post : (Nat → Int32) → (Nat → Int32) → (Nat → Int32) → Prop) : Prop :=
  ∀ v_1 : Int32, v_1 = (((1 : Int32) <<< (cf_voices &&& 31)) - (1 : Int32)) → (q_wk_X5_fill_3_22 a_gaps a_behind cf_voices cf_step ca_parts ca_heights z_tab v_1 v_1 post)
def q_wk_X5_fill_3_0 (a_gaps : Nat → Int32) (a_behind : Nat → Int32) (cf_voices : Int32) (cf_step : Int32) (ca_parts : Nat → Int32) (ca_heights : Nat → Int32) (z_tab : Nat → Int32) (post : (Nat → Int32) → (Nat → Int32) → (Nat → Int32) → Prop) : Prop :=
  q_wk_X5_measure_3_0 a_gaps a_behind cf_voices cf_step ca_parts ca_heights (fun a_gaps_1 a_behind_1 => q_wk_X5_table_0 (fun r_1 => (r_1 = 0 → False) ∧ (¬ r_1 = 0 → (q_wk_X5_fill_3_10 a_gaps_1 a_behind_1 cf_voices cf_step ca_parts ca_heights z_tab post))))
set_option maxRecDepth 20000 in
theorem t_wk_X5_fill_3_87 {p : Program} {l : Launch} {e : Env} {s : State} {m : MethodId} {args : Array Value} {below : List Frame} {meth : Method} {c : Code} {kc ks : Nat} {E : zE} {qk qc qz : Nat} {a_gaps : Nat → Int32} {a_behind : Nat → Int32} {cf_voices : Int32} {cf_step : Int32} {ca_parts : Nat → Int32} {ca_heights : Nat → Int32} {z_tab : Nat → Int32} {P22 : Int32 → (Nat → Int32) → Prop} {P30 : Int32 → (Nat → Int32) → Prop} {post : (Nat → Int32) → (Nat → Int32) → (Nat → Int32) → Prop} {x3 : Int32} {x4 : Int32} {x5 : Int32} {ls : Array Slot} {H : Heap} {locs : List Loc}
    (zc : zC p s m args meth c cX5_fill 6 RX5 none)
    (hK : zK E s)
    (hM : wkW E qk qc qz a_gaps a_behind cf_voices cf_step ca_parts ca_heights z_tab H)
    (hS : va_S (wkA qk qc qz) s.heap H locs)
    (hP22 : ∀ (x4 : Int32) (z_tab : Nat → Int32) (H : Heap) (locs : List Loc) (ls : Array Slot), P22 x4 z_tab → lv_has ls 6 [(0, .ref qk), (1, .ref qc), (2, .ref qz), (3, .int x3), (4, .int x4)] → wkW E qk qc qz a_gaps a_behind cf_voices cf_step ca_parts ca_heights z_tab H → va_S (wkA qk qc qz) s.heap H locs → W p l e (rm_wk_X5_fill_3 kc ks) s m args below meth c H locs kc ks (MQ below (zQv (S := (Nat → Int32) × (Nat → Int32) × (Nat → Int32)) (fun u => post u.1 u.2.1 u.2.2) (fun u H => wkW E qk qc qz u.1 u.2.1 cf_voices cf_step ca_parts ca_heights u.2.2 H) (wkA qk qc qz)) args s kc ks (wkA qk qc qz)) (F0 m 22 ls []))
    (hP30 : ∀ (x5 : Int32) (z_tab : Nat → Int32) (H : Heap) (locs : List Loc) (ls : Array Slot), P30 x5 z_tab → lv_has ls 6 [(0, .ref qk), (1, .ref qc), (2, .ref qz), (3, .int x3), (4, .int x4), (5, .int x5)] → wkW E qk qc qz a_gaps a_behind cf_voices cf_step ca_parts ca_heights z_tab H → va_S (wkA qk qc qz) s.heap H locs → W p l e (rm_wk_X5_fill_3 kc ks) s m args below meth c H locs kc ks (MQ below (zQv (S := (Nat → Int32) × (Nat → Int32) × (Nat → Int32)) (fun u => post u.1 u.2.1 u.2.2) (fun u H => wkW E qk qc qz u.1 u.2.1 cf_voices cf_step ca_parts ca_heights u.2.2 H) (wkA qk qc qz)) args s kc ks (wkA qk qc qz)) (F0 m 30 ls []))
    (hl : lv_has ls 6 [(0, .ref qk), (1, .ref qc), (2, .ref qz), (3, .int x3), (4, .int x4), (5, .int x5)])
    (hw : q_wk_X5_fill_3_87 P22 P30 a_gaps a_behind cf_voices cf_step ca_parts ca_heights z_tab x3 x4 x5 post) :
    W p l e (rm_wk_X5_fill_3 kc ks) s m args below meth c H locs kc ks (MQ below (zQv (S := (Nat → Int32) × (Nat → Int32) × (Nat → Int32)) (fun u => post u.1 u.2.1 u.2.2) (fun u H => wkW E qk qc qz u.1 u.2.1 cf_voices cf_step ca_parts ca_heights u.2.2 H) (wkA qk qc qz)) args s kc ks (wkA qk qc qz)) (F0 m 87 ls []) := by
  have hx := zc.1
  have hb := zc.2.1
  obtain ⟨v_1, ev_1⟩ : ∃ y : Int32, y = x5 + (1 : Int32) := ⟨_, rfl⟩
  have hw := hw v_1 ev_1
  refine lv_iinc (v := v_1) (k := 5) (lv' := [(5, .int v_1), (0, .ref qk), (1, .ref qc), (2, .ref qz), (3, .int x3), (4, .int x4)]) hx hb dX5_fill_87 hl rfl (by rw [ev_1]; rfl) (by decide) rfl (fun ls hl => ?_)
  refine lv_goto (tgt := 30) hx hb dX5_fill_90 (by decide) ?_
  exact hP30 _ _ _ _ _ hw (lv_sub hl [1, 2, 3, 4, 5, 0] rfl) hM hS
set_option maxRecDepth 20000 in
theorem t_wk_X5_fill_3_86 {p : Program} {l : Launch} {e : Env} {s : State} {m : MethodId} {args : Array Value} {below : List Frame} {meth : Method} {c : Code} {kc ks : Nat} {E : zE} {qk qc qz : Nat} {a_gaps : Nat → Int32} {a_behind : Nat → Int32} {cf_voices : Int32} {cf_step : Int32} {ca_parts : Nat → Int32} {ca_heights : Nat → Int32} {z_tab : Nat → Int32} {P22 : Int32 → (Nat → Int32) → Prop} {P30 : Int32 → (Nat → Int32) → Prop} {post : (Nat → Int32) → (Nat → Int32) → (Nat → Int32) → Prop} {x3 : Int32} {x4 : Int32} {x5 : Int32} {y0 : Int32} {y1 : Int32} {ls : Array Slot} {H : Heap} {locs : List Loc}
    (zc : zC p s m args meth c cX5_fill 6 RX5 none)
    (hK : zK E s)
    (hM : wkW E qk qc qz a_gaps a_behind cf_voices cf_step ca_parts ca_heights z_tab H)
    (hS : va_S (wkA qk qc qz) s.heap H locs)
    (hP22 : ∀ (x4 : Int32) (z_tab : Nat → Int32) (H : Heap) (locs : List Loc) (ls : Array Slot), P22 x4 z_tab → lv_has ls 6 [(0, .ref qk), (1, .ref qc), (2, .ref qz), (3, .int x3), (4, .int x4)] → wkW E qk qc qz a_gaps a_behind cf_voices cf_step ca_parts ca_heights z_tab H → va_S (wkA qk qc qz) s.heap H locs → W p l e (rm_wk_X5_fill_3 kc ks) s m args below meth c H locs kc ks (MQ below (zQv (S := (Nat → Int32) × (Nat → Int32) × (Nat → Int32)) (fun u => post u.1 u.2.1 u.2.2) (fun u H => wkW E qk qc qz u.1 u.2.1 cf_voices cf_step ca_parts ca_heights u.2.2 H) (wkA qk qc qz)) args s kc ks (wkA qk qc qz)) (F0 m 22 ls []))
    (hP30 : ∀ (x5 : Int32) (z_tab : Nat → Int32) (H : Heap) (locs : List Loc) (ls : Array Slot), P30 x5 z_tab → lv_has ls 6 [(0, .ref qk), (1, .ref qc), (2, .ref qz), (3, .int x3), (4, .int x4), (5, .int x5)] → wkW E qk qc qz a_gaps a_behind cf_voices cf_step ca_parts ca_heights z_tab H → va_S (wkA qk qc qz) s.heap H locs → W p l e (rm_wk_X5_fill_3 kc ks) s m args below meth c H locs kc ks (MQ below (zQv (S := (Nat → Int32) × (Nat → Int32) × (Nat → Int32)) (fun u => post u.1 u.2.1 u.2.2) (fun u H => wkW E qk qc qz u.1 u.2.1 cf_voices cf_step ca_parts ca_heights u.2.2 H) (wkA qk qc qz)) args s kc ks (wkA qk qc qz)) (F0 m 30 ls []))
    (hl : lv_has ls 6 [(0, .ref qk), (1, .ref qc), (2, .ref qz), (3, .int x3), (4, .int x4), (5, .int x5)])
    (hw : q_wk_X5_fill_3_86 P22 P30 a_gaps a_behind cf_voices cf_step ca_parts ca_heights z_tab x3 x4 x5 y0 y1 post) :
    W p l e (rm_wk_X5_fill_3 kc ks) s m args below meth c H locs kc ks (MQ below (zQv (S := (Nat → Int32) × (Nat → Int32) × (Nat → Int32)) (fun u => post u.1 u.2.1 u.2.2) (fun u H => wkW E qk qc qz u.1 u.2.1 cf_voices cf_step ca_parts ca_heights u.2.2 H) (wkA qk qc qz)) args s kc ks (wkA qk qc qz)) (F0 m 86 ls [.int y1, .int y0, .ref qz]) := by
  have hx := zc.1
  have hb := zc.2.1
  refine wkst_6 zc hK hM hS hw.1 dX5_fill_86 (fun z_tab_1 H locs ez_tab_1 hM hS => ?_)
  have hw := hw.2 z_tab_1 ez_tab_1
  exact t_wk_X5_fill_3_87 zc hK hM hS hP22 hP30 (lv_sub hl [0, 1, 2, 3, 4, 5] rfl) hw
set_option maxRecDepth 20000 in
theorem t_wk_X5_fill_3_30 {p : Program} {l : Launch} {e : Env} {s : State} {m : MethodId} {args : Array Value} {below : List Frame} {meth : Method} {c : Code} {kc ks : Nat} {E : zE} {qk qc qz : Nat} {a_gaps : Nat → Int32} {a_behind : Nat → Int32} {cf_voices : Int32} {cf_step : Int32} {ca_parts : Nat → Int32} {ca_heights : Nat → Int32} {z_tab : Nat → Int32} {P22 : Int32 → (Nat → Int32) → Prop} {post : (Nat → Int32) → (Nat → Int32) → (Nat → Int32) → Prop} {x3 : Int32} {x4 : Int32} {x5 : Int32} {ls : Array Slot} {H : Heap} {locs : List Loc}
    (zc : zC p s m args meth c cX5_fill 6 RX5 none)
    (hK : zK E s)
    (hM : wkW E qk qc qz a_gaps a_behind cf_voices cf_step ca_parts ca_heights z_tab H)
    (hS : va_S (wkA qk qc qz) s.heap H locs)
    (hP22 : ∀ (x4 : Int32) (z_tab : Nat → Int32) (H : Heap) (locs : List Loc) (ls : Array Slot), P22 x4 z_tab → lv_has ls 6 [(0, .ref qk), (1, .ref qc), (2, .ref qz), (3, .int x3), (4, .int x4)] → wkW E qk qc qz a_gaps a_behind cf_voices cf_step ca_parts ca_heights z_tab H → va_S (wkA qk qc qz) s.heap H locs → W p l e (rm_wk_X5_fill_3 kc ks) s m args below meth c H locs kc ks (MQ below (zQv (S := (Nat → Int32) × (Nat → Int32) × (Nat → Int32)) (fun u => post u.1 u.2.1 u.2.2) (fun u H => wkW E qk qc qz u.1 u.2.1 cf_voices cf_step ca_parts ca_heights u.2.2 H) (wkA qk qc qz)) args s kc ks (wkA qk qc qz)) (F0 m 22 ls []))
    (hl : lv_has ls 6 [(0, .ref qk), (1, .ref qc), (2, .ref qz), (3, .int x3), (4, .int x4), (5, .int x5)])
    (hw : q_wk_X5_fill_3_30 P22 a_gaps a_behind cf_voices cf_step ca_parts ca_heights z_tab x3 x4 x5 post) :
    W p l e (rm_wk_X5_fill_3 kc ks) s m args below meth c H locs kc ks (MQ below (zQv (S := (Nat → Int32) × (Nat → Int32) × (Nat → Int32)) (fun u => post u.1 u.2.1 u.2.2) (fun u H => wkW E qk qc qz u.1 u.2.1 cf_voices cf_step ca_parts ca_heights u.2.2 H) (wkA qk qc qz)) args s kc ks (wkA qk qc qz)) (F0 m 30 ls []) := by
  have hx := zc.1
  have hb := zc.2.1
  refine hw (fun x5 z_tab => ∀ (H : Heap) (locs : List Loc) (ls : Array Slot), lv_has ls 6 [(0, .ref qk), (1, .ref qc), (2, .ref qz), (3, .int x3), (4, .int x4), (5, .int x5)] → wkW E qk qc qz a_gaps a_behind cf_voices cf_step ca_parts ca_heights z_tab H → va_S (wkA qk qc qz) s.heap H locs → W p l e (rm_wk_X5_fill_3 kc ks) s m args below meth c H locs kc ks (MQ below (zQv (S := (Nat → Int32) × (Nat → Int32) × (Nat → Int32)) (fun u => post u.1 u.2.1 u.2.2) (fun u H => wkW E qk qc qz u.1 u.2.1 cf_voices cf_step ca_parts ca_heights u.2.2 H) (wkA qk qc qz)) args s kc ks (wkA qk qc qz)) (F0 m 30 ls [])) ?_ _ _ _ hl hM hS
  intro x5 z_tab hw H locs ls hl hM hS
  refine lv_iload hx hb dX5_fill_30 (lv_at hl 5 rfl) ?_
  refine lv_aload_n hx hb dX5_fill_32 rfl (lv_at hl 1 rfl) ?_
  refine wkg_5_26_3 zc hK hM dX5_fill_33 ?_
  refine lv_icmp_ge (tgt := 93) hx hb dX5_fill_36 (by decide) (fun hc => ?_) (fun hc => ?_)
  · have hw := hw.1 hc
    obtain ⟨v_1, ev_1⟩ : ∃ y : Int32, y = x4 + (-1 : Int32) := ⟨_, rfl⟩
    have hw := hw v_1 ev_1
    refine lv_iinc (v := v_1) (k := 4) (lv' := [(4, .int v_1), (0, .ref qk), (1, .ref qc), (2, .ref qz), (3, .int x3), (5, .int x5)]) hx hb dX5_fill_93 hl rfl (by rw [ev_1]; rfl) (by decide) rfl (fun ls hl => ?_)
    refine lv_goto (tgt := 22) hx hb dX5_fill_96 (by decide) ?_
    exact hP22 _ _ _ _ _ hw (lv_sub hl [1, 2, 3, 4, 0] rfl) hM hS
  · have hw := hw.2 hc
    refine lv_iload hx hb dX5_fill_39 (lv_at hl 4 rfl) ?_
    refine lv_iload hx hb dX5_fill_41 (lv_at hl 5 rfl) ?_
    refine zSN_i [.int x4, .int x5] [] zc ky_X10_has kz_X10_has (hK.2 _ kn_5_32) (c_z_X10_has l hw) (zPre0 _) rfl rfl hl.1 (Nat.le_of_ble_eq_true rfl) ⟨rfl, rfl⟩ ⟨Nat.le_of_ble_eq_true rfl, Nat.le_of_ble_eq_true rfl⟩ ⟨(Nat.le_refl _), (Nat.le_refl _)⟩ dX5_fill_43 (fun r_1 hw => ?_)
    refine lv_if_eq (tgt := 87) hx hb dX5_fill_46 (by decide) (fun hc => ?_) (fun hc => ?_)
    · have hw := hw.1 hc
      exact t_wk_X5_fill_3_87 zc hK hM hS hP22 (fun _ _ H locs ls h hl hM hS => h H locs ls hl hM hS) (lv_sub hl [0, 1, 2, 3, 4, 5] rfl) hw
    · have hw := hw.2 hc
      refine lv_aload_n hx hb dX5_fill_49 rfl (lv_at hl 2 rfl) ?_
      refine lv_iload hx hb dX5_fill_50 (lv_at hl 4 rfl) ?_
      refine lv_bipush (v := (9 : Int32)) hx hb dX5_fill_52 (by decide) ?_
      refine lv_imul hx hb dX5_fill_54 ?_
      refine lv_iload hx hb dX5_fill_55 (lv_at hl 5 rfl) ?_
      refine lv_iadd hx hb dX5_fill_57 ?_
      refine lv_iload hx hb dX5_fill_58 (lv_at hl 4 rfl) ?_
      refine lv_iload_n hx hb dX5_fill_60 rfl (lv_at hl 3 rfl) ?_
      refine lv_icmp_ne (tgt := 68) hx hb dX5_fill_61 (by decide) (fun hc => ?_) (fun hc => ?_)
      · have hw := hw.1 hc
        refine lv_aload_n hx hb dX5_fill_68 rfl (lv_at hl 2 rfl) ?_
        refine lv_iload hx hb dX5_fill_69 (lv_at hl 4 rfl) ?_
        refine lv_aload_n hx hb dX5_fill_71 rfl (lv_at hl 0 rfl) ?_
        refine wkg_5_15_0 zc hK hM dX5_fill_72 ?_
        refine lv_iload hx hb dX5_fill_75 (lv_at hl 5 rfl) ?_
        refine wkld_2 zc hK hM hw.1 dX5_fill_77 ?_
        have hw := hw.2
        refine lv_iload hx hb dX5_fill_78 (lv_at hl 4 rfl) ?_
        refine lv_iconst (v := (-1 : Int32)) hx hb dX5_fill_80 (by decide) ?_
        refine lv_ixor hx hb dX5_fill_81 ?_
        refine lv_iand hx hb dX5_fill_82 ?_
        refine zS_i [.ref qz, .int x4, .int ((a_behind (Int32.toNatClampNeg x5)) &&& (x4 ^^^ (-1 : Int32)))] [.int ((x4 * (9 : Int32)) + x5), .ref qz] zc ky_X5_waysOn kz_X5_waysOn km_5_36 (c_wk_X5_waysOn_6 l hw) (wkPreS hK hM) rfl rfl hl.1 (Nat.le_of_ble_eq_true rfl) ⟨rfl, rfl⟩ ⟨Nat.le_of_ble_eq_true rfl, Nat.le_of_ble_eq_true rfl⟩ ⟨(Nat.le_refl _), (Nat.le_refl _)⟩ dX5_fill_83 (fun r_2 hw => ?_)
        exact t_wk_X5_fill_3_86 zc hK hM hS hP22 (fun _ _ H locs ls h hl hM hS => h H locs ls hl hM hS) (lv_sub hl [0, 1, 2, 3, 4, 5] rfl) hw
      · have hw := hw.2 hc
        refine lv_iconst (v := (1 : Int32)) hx hb dX5_fill_64 (by decide) ?_
        refine lv_goto (tgt := 86) hx hb dX5_fill_65 (by decide) ?_
        exact t_wk_X5_fill_3_86 zc hK hM hS hP22 (fun _ _ H locs ls h hl hM hS => h H locs ls hl hM hS) (lv_sub hl [0, 1, 2, 3, 4, 5] rfl) hw
set_option maxRecDepth 20000 in
theorem t_wk_X5_fill_3_22 {p : Program} {l : Launch} {e : Env} {s : State} {m : MethodId} {args : Array Value} {below : List Frame} {meth : Method} {c : Code} {kc ks : Nat} {E : zE} {qk qc qz : Nat} {a_gaps : Nat → Int32} {a_behind : Nat → Int32} {cf_voices : Int32} {cf_step : Int32} {ca_parts : Nat → Int32} {ca_heights : Nat → Int32} {z_tab : Nat → Int32} {post : (Nat → Int32) → (Nat → Int32) → (Nat → Int32) → Prop} {x3 : Int32} {x4 : Int32} {ls : Array Slot} {H : Heap} {locs : List Loc}
    (zc : zC p s m args meth c cX5_fill 6 RX5 none)
    (hK : zK E s)
    (hM : wkW E qk qc qz a_gaps a_behind cf_voices cf_step ca_parts ca_heights z_tab H)
    (hS : va_S (wkA qk qc qz) s.heap H locs)
    (hl : lv_has ls 6 [(0, .ref qk), (1, .ref qc), (2, .ref qz), (3, .int x3), (4, .int x4)])
    (hw : q_wk_X5_fill_3_22 a_gaps a_behind cf_voices cf_step ca_parts ca_heights z_tab x3 x4 post) :
    W p l e (rm_wk_X5_fill_3 kc ks) s m args below meth c H locs kc ks (MQ below (zQv (S := (Nat → Int32) × (Nat → Int32) × (Nat → Int32)) (fun u => post u.1 u.2.1 u.2.2) (fun u H => wkW E qk qc qz u.1 u.2.1 cf_voices cf_step ca_parts ca_heights u.2.2 H) (wkA qk qc qz)) args s kc ks (wkA qk qc qz)) (F0 m 22 ls []) := by
  have hx := zc.1
  have hb := zc.2.1
  refine hw (fun x4 z_tab => ∀ (H : Heap) (locs : List Loc) (ls : Array Slot), lv_has ls 6 [(0, .ref qk), (1, .ref qc), (2, .ref qz), (3, .int x3), (4, .int x4)] → wkW E qk qc qz a_gaps a_behind cf_voices cf_step ca_parts ca_heights z_tab H → va_S (wkA qk qc qz) s.heap H locs → W p l e (rm_wk_X5_fill_3 kc ks) s m args below meth c H locs kc ks (MQ below (zQv (S := (Nat → Int32) × (Nat → Int32) × (Nat → Int32)) (fun u => post u.1 u.2.1 u.2.2) (fun u H => wkW E qk qc qz u.1 u.2.1 cf_voices cf_step ca_parts ca_heights u.2.2 H) (wkA qk qc qz)) args s kc ks (wkA qk qc qz)) (F0 m 22 ls [])) ?_ _ _ _ hl hM hS
  intro x4 z_tab hw H locs ls hl hM hS
  refine lv_iload hx hb dX5_fill_22 (lv_at hl 4 rfl) ?_
  refine lv_if_le (tgt := 99) hx hb dX5_fill_24 (by decide) (fun hc => ?_) (fun hc => ?_)
  · have hw := hw.1 hc
    exact zret_vw ⟨a_gaps, a_behind, z_tab⟩ zc hS hw hM dX5_fill_99
  · have hw := hw.2 hc
    refine lv_iconst (v := (0 : Int32)) hx hb dX5_fill_27 (by decide) ?_
    refine lv_istore (lv' := [(5, .int (0 : Int32)), (0, .ref qk), (1, .ref qc), (2, .ref qz), (3, .int x3), (4, .int x4)]) hx hb dX5_fill_28 hl (by decide) rfl (fun ls hl => ?_)
    exact t_wk_X5_fill_3_30 zc hK hM hS (fun _ _ H locs ls h hl hM hS => h H locs ls hl hM hS) (lv_sub hl [1, 2, 3, 4, 5, 0] rfl) hw
set_option maxRecDepth 20000 in
theorem t_wk_X5_fill_3_10 {p : Program} {l : Launch} {e : Env} {s : State} {m : MethodId} {args : Array Value} {below : List Frame} {meth : Method} {c : Code} {kc ks : Nat} {E : zE} {qk qc qz : Nat} {a_gaps : Nat → Int32} {a_behind : Nat → Int32} {cf_voices : Int32} {cf_step : Int32} {ca_parts : Nat → Int32} {ca_heights : Nat → Int32} {z_tab : Nat → Int32} {post : (Nat → Int32) → (Nat → Int32) → (Nat → Int32) → Prop} {ls : Array Slot} {H : Heap} {locs : List Loc}
    (zc : zC p s m args meth c cX5_fill 6 RX5 none)
    (hK : zK E s)
    (hM : wkW E qk qc qz a_gaps a_behind cf_voices cf_step ca_parts ca_heights z_tab H)
    (hS : va_S (wkA qk qc qz) s.heap H locs)
    (hl : lv_has ls 6 [(0, .ref qk), (1, .ref qc), (2, .ref qz)])
    (hw : q_wk_X5_fill_3_10 a_gaps a_behind cf_voices cf_step ca_parts ca_heights z_tab post) :
    W p l e (rm_wk_X5_fill_3 kc ks) s m args below meth c H locs kc ks (MQ below (zQv (S := (Nat → Int32) × (Nat → Int32) × (Nat → Int32)) (fun u => post u.1 u.2.1 u.2.2) (fun u H => wkW E qk qc qz u.1 u.2.1 cf_voices cf_step ca_parts ca_heights u.2.2 H) (wkA qk qc qz)) args s kc ks (wkA qk qc qz)) (F0 m 10 ls []) := by
  have hx := zc.1
  have hb := zc.2.1
  refine lv_iconst (v := (1 : Int32)) hx hb dX5_fill_10 (by decide) ?_
  refine lv_aload_n hx hb dX5_fill_11 rfl (lv_at hl 1 rfl) ?_
  refine wkg_5_26_3 zc hK hM dX5_fill_12 ?_
  refine lv_ishl hx hb dX5_fill_15 ?_
  refine lv_iconst (v := (1 : Int32)) hx hb dX5_fill_16 (by decide) ?_
  refine lv_isub hx hb dX5_fill_17 ?_
  refine lv_topi (fun v_1 ev_1 => ?_)
  have hw := hw v_1 ev_1
  refine lv_istore_n (lv' := [(3, .int v_1), (0, .ref qk), (1, .ref qc), (2, .ref qz)]) hx hb dX5_fill_18 rfl hl (by decide) rfl (fun ls hl => ?_)
  refine lv_iload_n hx hb dX5_fill_19 rfl (lv_at hl 0 rfl) ?_
  refine lv_istore (lv' := [(4, .int v_1), (3, .int v_1), (0, .ref qk), (1, .ref qc), (2, .ref qz)]) hx hb dX5_fill_20 hl (by decide) rfl (fun ls hl => ?_)
  exact t_wk_X5_fill_3_22 zc hK hM hS  (lv_sub hl [2, 3, 4, 1, 0] rfl) hw
set_option maxRecDepth 20000 in
theorem t_wk_X5_fill_3_0 {p : Program} {l : Launch} {e : Env} {s : State} {m : MethodId} {args : Array Value} {below : List Frame} {meth : Method} {c : Code} {kc ks : Nat} {E : zE} {qk qc qz : Nat} {a_gaps : Nat → Int32} {a_behind : Nat → Int32} {cf_voices : Int32} {cf_step : Int32} {ca_parts : Nat → Int32} {ca_heights : Nat → Int32} {z_tab : Nat → Int32} {post : (Nat → Int32) → (Nat → Int32) → (Nat → Int32) → Prop} {ls : Array Slot} {H : Heap} {locs : List Loc}
    (zc : zC p s m args meth c cX5_fill 6 RX5 none)
    (hK : zK E s)
    (hM : wkW E qk qc qz a_gaps a_behind cf_voices cf_step ca_parts ca_heights z_tab H)
    (hS : va_S (wkA qk qc qz) s.heap H locs)
    (hl : lv_has ls 6 [(0, .ref qk), (1, .ref qc)])
    (hw : q_wk_X5_fill_3_0 a_gaps a_behind cf_voices cf_step ca_parts ca_heights z_tab post) :
    W p l e (rm_wk_X5_fill_3 kc ks) s m args below meth c H locs kc ks (MQ below (zQv (S := (Nat → Int32) × (Nat → Int32) × (Nat → Int32)) (fun u => post u.1 u.2.1 u.2.2) (fun u H => wkW E qk qc qz u.1 u.2.1 cf_voices cf_step ca_parts ca_heights u.2.2 H) (wkA qk qc qz)) args s kc ks (wkA qk qc qz)) (F0 m 0 ls []) := by
  have hx := zc.1
  have hb := zc.2.1
  refine lv_aload_n hx hb dX5_fill_0 rfl (lv_at hl 0 rfl) ?_
  refine lv_aload_n hx hb dX5_fill_1 rfl (lv_at hl 1 rfl) ?_
  refine zVw_v [.ref qc] [] zc ky_X5_measure kz_X5_measure km_5_18 (c_wk_X5_measure_3 l hw) (wkPreV0 hK hM) hS rfl rfl hl.1 (Nat.le_of_ble_eq_true rfl) ⟨rfl, rfl⟩ ⟨Nat.le_of_ble_eq_true rfl, Nat.le_of_ble_eq_true rfl⟩ ⟨(Nat.le_refl _), (Nat.le_refl _)⟩ dX5_fill_2 (fun u H locs hw hM hS => ?_)
  obtain ⟨a_gaps_1, a_behind_1⟩ := u
  refine lv_aload_n hx hb dX5_fill_5 rfl (lv_at hl 0 rfl) ?_
  refine zV_r [] [] zc ky_X5_table kz_X5_table km_5_22 (c_wk_X5_table l hw) (wkPreV0 hK hM) rfl rfl hl.1 (Nat.le_of_ble_eq_true rfl) ⟨rfl, rfl⟩ ⟨Nat.le_of_ble_eq_true rfl, Nat.le_of_ble_eq_true rfl⟩ ⟨(Nat.le_refl _), (Nat.le_refl _)⟩ dX5_fill_6 (fun r_1 hw => ?_)
  by_cases hc0 : r_1 = 0
  · have hw := hw.1 hc0
    exact hw.elim
  have hw := hw.2 hc0
  refine W.eq (g2 := F0 m 9 ls (.ref qz :: [])) (by simp [hc0]) ?_
  refine lv_astore_n (lv' := [(2, .ref qz), (0, .ref qk), (1, .ref qc)]) hx hb dX5_fill_9 rfl hl (by decide) rfl (fun ls hl => ?_)
  exact t_wk_X5_fill_3_10 zc hK hM hS  (lv_sub hl [1, 2, 0] rfl) hw
set_option maxRecDepth 20000 in
theorem c_wk_X5_fill_3 (l : Launch) {E : zE} {qk qc qz : Nat} {a_gaps : Nat → Int32} {a_behind : Nat → Int32} {cf_voices : Int32} {cf_step : Int32} {ca_parts : Nat → Int32} {ca_heights : Nat → Int32} {z_tab : Nat → Int32} {post : (Nat → Int32) → (Nat → Int32) → (Nat → Int32) → Prop} (hw : q_wk_X5_fill_3_0 a_gaps a_behind cf_voices cf_step ca_parts ca_heights z_tab post) : Met l yX5_fill (Cond.code yX5_fill cX5_fill 6 none :: zb) (rm_wk_X5_fill_3 0 0) (va_Pc [.ref qk, .ref qc] (fun U => wkW E qk qc qz a_gaps a_behind cf_voices cf_step ca_parts ca_heights z_tab U.heap ∧ zK E U)) (zQv (S := (Nat → Int32) × (Nat → Int32) × (Nat → Int32)) (fun u => post u.1 u.2.1 u.2.2) (fun u H => wkW E qk qc qz u.1 u.2.1 cf_voices cf_step ca_parts ca_heights u.2.2 H) (wkA qk qc qz)) 0 0 (wkA qk qc qz) := by
  refine Met.ofW (cc := cX5_fill) (maxL := 6) (ret := none) (by decide) rfl ?_
  intro p e s m args below meth c s₁ B hml hv
  obtain ⟨rfl, hM, hK⟩ := hv
  have zc := zc_of B hml
  have hl := lv_entry ([.ref qk, .ref qc]) (n := 6) (Nat.le_of_ble_eq_true rfl)
  rw [lg_entry_eq]
  generalize (lg_sl ([.ref qk, .ref qc]) ++ List.replicate (6 - (lg_sl ([.ref qk, .ref qc])).length) Slot.unset).toArray = ls at hl ⊢
  have hl : lv_has ls 6 [(0, .ref qk), (1, .ref qc)] := hl
  exact t_wk_X5_fill_3_0 zc hK hM va_S.rf (lv_sub hl [0, 1] rfl) hw
-- wk_X5_total_3
abbrev rm_wk_X5_total_3 (kc ks : Nat) : Room := { frames := 1, cells := kc, slots := ks, locals := 20 }
def q_wk_X5_total_3_19 (cf_voices : Int32) (z_tab : Nat → Int32) (x3 : Int32) (x4 : Int32) (post : Int32 → Prop) : Prop :=
  ∀ P19 : Int32 → Int32 → Prop, (∀ (x3 : Int32) (x4 : Int32), ((cf_voices ≤ x4 → (post x3)) ∧ (¬ cf_voices ≤ x4 → (vp_in ((((1 : Int32) <<< (x4 &&& 31)) * (9 : Int32)) + x4) 4608 ∧ (∀ v_1 : Int32, v_1 = (x3 + (z_tab (Int32.toNatClampNeg ((((1 : Int32) <<< (x4 &&& 31)) * (9 : Int32)) + x4)))) → (∀ v_2 : Int32, v_2 = x4 + (1 : Int32) → (P19 v_1 v_2)))))) → P19 x3 x4) → P19 x3 x4
def q_wk_X5_total_3_0 (cf_voices : Int32) (z_tab : Nat → Int32) (post : Int32 → Prop) : Prop :=
  (¬ cf_voices = 0 → (q_wk_X5_table_0 (fun r_1 => (r_1 = 0 → False) ∧ (¬ r_1 = 0 → (q_wk_X5_total_3_19 cf_voices z_tab (0 : Int32) (0 : Int32) post))))) ∧ (cf_voices = 0 → (post (1 : Int32)))
set_option maxRecDepth 20000 in
theorem t_wk_X5_total_3_19 {p : Program} {l : Launch} {e : Env} {s : State} {m : MethodId} {args : Array Value} {below : List Frame} {meth : Method} {c : Code} {kc ks : Nat} {E : zE} {qk qc qz : Nat} {a_gaps : Nat → Int32} {a_behind : Nat → Int32} {cf_voices : Int32} {cf_step : Int32} {ca_parts : Nat → Int32} {ca_heights : Nat → Int32} {z_tab : Nat → Int32} {post : Int32 → Prop} {x3 : Int32} {x4 : Int32} {ls : Array Slot}
    (zc : zC p s m args meth c cX5_total 5 RX5 (some .int))
    (hK : zK E s)
    (hM : wkW E qk qc qz a_gaps a_behind cf_voices cf_step ca_parts ca_heights z_tab s.heap)
    (hl : lv_has ls 5 [(1, .ref qc), (2, .ref qz), (3, .int x3), (4, .int x4)])
    (hw : q_wk_X5_total_3_19 cf_voices z_tab x3 x4 post) :
    W p l e (rm_wk_X5_total_3 kc ks) s m args below meth c s.heap [] kc ks (MQ below (vp_Si post) args s kc ks (fun _ => False)) (F0 m 19 ls []) := by
  have hx := zc.1
  have hb := zc.2.1
  refine hw (fun x3 x4 => ∀ (ls : Array Slot), lv_has ls 5 [(1, .ref qc), (2, .ref qz), (3, .int x3), (4, .int x4)] → W p l e (rm_wk_X5_total_3 kc ks) s m args below meth c s.heap [] kc ks (MQ below (vp_Si post) args s kc ks (fun _ => False)) (F0 m 19 ls [])) ?_ _ hl
  intro x3 x4 hw ls hl
  refine lv_iload hx hb dX5_total_19 (lv_at hl 3 rfl) ?_
  refine lv_aload_n hx hb dX5_total_21 rfl (lv_at hl 0 rfl) ?_
  refine wkg_5_26_3 zc hK hM dX5_total_22 ?_
  refine lv_icmp_ge (tgt := 49) hx hb dX5_total_25 (by decide) (fun hc => ?_) (fun hc => ?_)
  · have hw := hw.1 hc
    refine lv_iload_n hx hb dX5_total_49 rfl (lv_at hl 2 rfl) ?_
    exact zret_i zc hw dX5_total_50
  · have hw := hw.2 hc
    refine lv_iload_n hx hb dX5_total_28 rfl (lv_at hl 2 rfl) ?_
    refine lv_aload_n hx hb dX5_total_29 rfl (lv_at hl 1 rfl) ?_
    refine lv_iconst (v := (1 : Int32)) hx hb dX5_total_30 (by decide) ?_
    refine lv_iload hx hb dX5_total_31 (lv_at hl 3 rfl) ?_
    refine lv_ishl hx hb dX5_total_33 ?_
    refine lv_bipush (v := (9 : Int32)) hx hb dX5_total_34 (by decide) ?_
    refine lv_imul hx hb dX5_total_36 ?_
    refine lv_iload hx hb dX5_total_37 (lv_at hl 3 rfl) ?_
    refine lv_iadd hx hb dX5_total_39 ?_
    refine wkld_6 zc hK hM hw.1 dX5_total_40 ?_
    have hw := hw.2
    refine lv_iadd hx hb dX5_total_41 ?_
    refine lv_topi (fun v_1 ev_1 => ?_)
    have hw := hw v_1 ev_1
    refine lv_istore_n (lv' := [(3, .int v_1), (1, .ref qc), (2, .ref qz), (4, .int x4)]) hx hb dX5_total_42 rfl hl (by decide) rfl (fun ls hl => ?_)
    obtain ⟨v_2, ev_2⟩ : ∃ y : Int32, y = x4 + (1 : Int32) := ⟨_, rfl⟩
    have hw := hw v_2 ev_2
    refine lv_iinc (v := v_2) (k := 3) (lv' := [(4, .int v_2), (3, .int v_1), (1, .ref qc), (2, .ref qz)]) hx hb dX5_total_43 hl rfl (by rw [ev_2]; rfl) (by decide) rfl (fun ls hl => ?_)
    refine lv_goto (tgt := 19) hx hb dX5_total_46 (by decide) ?_
    exact hw _ (lv_sub hl [2, 3, 1, 0] rfl)
set_option maxRecDepth 20000 in
theorem t_wk_X5_total_3_0 {p : Program} {l : Launch} {e : Env} {s : State} {m : MethodId} {args : Array Value} {below : List Frame} {meth : Method} {c : Code} {kc ks : Nat} {E : zE} {qk qc qz : Nat} {a_gaps : Nat → Int32} {a_behind : Nat → Int32} {cf_voices : Int32} {cf_step : Int32} {ca_parts : Nat → Int32} {ca_heights : Nat → Int32} {z_tab : Nat → Int32} {post : Int32 → Prop} {ls : Array Slot}
    (zc : zC p s m args meth c cX5_total 5 RX5 (some .int))
    (hK : zK E s)
    (hM : wkW E qk qc qz a_gaps a_behind cf_voices cf_step ca_parts ca_heights z_tab s.heap)
    (hl : lv_has ls 5 [(0, .ref qk), (1, .ref qc)])
    (hw : q_wk_X5_total_3_0 cf_voices z_tab post) :
    W p l e (rm_wk_X5_total_3 kc ks) s m args below meth c s.heap [] kc ks (MQ below (vp_Si post) args s kc ks (fun _ => False)) (F0 m 0 ls []) := by
  have hx := zc.1
  have hb := zc.2.1
  refine lv_aload_n hx hb dX5_total_0 rfl (lv_at hl 1 rfl) ?_
  refine wkg_5_26_3 zc hK hM dX5_total_1 ?_
  refine lv_if_ne (tgt := 9) hx hb dX5_total_4 (by decide) (fun hc => ?_) (fun hc => ?_)
  · have hw := hw.1 hc
    refine lv_aload_n hx hb dX5_total_9 rfl (lv_at hl 0 rfl) ?_
    refine zV_r [] [] zc ky_X5_table kz_X5_table km_5_22 (c_wk_X5_table l hw) (wkPreV0 hK hM) rfl rfl hl.1 (Nat.le_of_ble_eq_true rfl) ⟨rfl, rfl⟩ ⟨Nat.le_of_ble_eq_true rfl, Nat.le_of_ble_eq_true rfl⟩ ⟨(Nat.le_refl _), (Nat.le_refl _)⟩ dX5_total_10 (fun r_1 hw => ?_)
    by_cases hc0 : r_1 = 0
    · have hw := hw.1 hc0
      exact hw.elim
    have hw := hw.2 hc0
    refine W.eq (g2 := F0 m 13 ls (.ref qz :: [])) (by simp [hc0]) ?_
    refine lv_astore_n (lv' := [(2, .ref qz), (0, .ref qk), (1, .ref qc)]) hx hb dX5_total_13 rfl hl (by decide) rfl (fun ls hl => ?_)
    refine lv_iconst (v := (0 : Int32)) hx hb dX5_total_14 (by decide) ?_
    refine lv_istore_n (lv' := [(3, .int (0 : Int32)), (2, .ref qz), (0, .ref qk), (1, .ref qc)]) hx hb dX5_total_15 rfl hl (by decide) rfl (fun ls hl => ?_)
    refine lv_iconst (v := (0 : Int32)) hx hb dX5_total_16 (by decide) ?_
    refine lv_istore (lv' := [(4, .int (0 : Int32)), (3, .int (0 : Int32)), (2, .ref qz), (0, .ref qk), (1, .ref qc)]) hx hb dX5_total_17 hl (by decide) rfl (fun ls hl => ?_)
    exact t_wk_X5_total_3_19 zc hK hM  (lv_sub hl [4, 2, 1, 0] rfl) hw
  · have hw := hw.2 hc
    refine lv_iconst (v := (1 : Int32)) hx hb dX5_total_7 (by decide) ?_
    exact zret_i zc hw dX5_total_8
set_option maxRecDepth 20000 in
theorem c_wk_X5_total_3 (l : Launch) {E : zE} {qk qc qz : Nat} {a_gaps : Nat → Int32} {a_behind : Nat → Int32} {cf_voices : Int32} {cf_step : Int32} {ca_parts : Nat → Int32} {ca_heights : Nat → Int32} {z_tab : Nat → Int32} {post : Int32 → Prop} (hw : q_wk_X5_total_3_0 cf_voices z_tab post) : Met l yX5_total (Cond.code yX5_total cX5_total 5 (some .int) :: zb) (rm_wk_X5_total_3 0 0) (va_Pc [.ref qk, .ref qc] (fun U => wkW E qk qc qz a_gaps a_behind cf_voices cf_step ca_parts ca_heights z_tab U.heap ∧ zK E U)) (vp_Si post) 0 0 (fun _ => False) := by
  refine Met.ofW (cc := cX5_total) (maxL := 5) (ret := (some .int)) (by decide) rfl ?_
  intro p e s m args below meth c s₁ B hml hv
  obtain ⟨rfl, hM, hK⟩ := hv
  have zc := zc_of B hml
  have hl := lv_entry ([.ref qk, .ref qc]) (n := 5) (Nat.le_of_ble_eq_true rfl)
  rw [lg_entry_eq]
  generalize (lg_sl ([.ref qk, .ref qc]) ++ List.replicate (5 - (lg_sl ([.ref qk, .ref qc])).length) Slot.unset).toArray = ls at hl ⊢
  have hl : lv_has ls 5 [(0, .ref qk), (1, .ref qc)] := hl
  exact t_wk_X5_total_3_0 zc hK hM (lv_sub hl [0, 1] rfl) hw
-- wk_X5_firstOf
abbrev rm_wk_X5_firstOf (kc ks : Nat) : Room := { frames := 1, cells := kc, slots := ks, locals := 21 }
def q_wk_X5_firstOf_44 (P8 : Int32 → Prop) (z_tab : Nat → Int32) (x1 : Int32) (x2 : Int32) (x4 : Int32) (post : Int32 → Prop) : Prop :=
  ∀ v_1 : Int32, v_1 = x4 + (1 : Int32) → (P8 v_1)
def q_wk_X5_firstOf_8 (z_tab : Nat → Int32) (x1 : Int32) (x2 : Int32) (x4 : Int32) (post : Int32 → Prop) : Prop :=
  ∀ P8 : Int32 → Prop, (∀ (x4 : Int32), (((9 : Int32) ≤ x4 → (post (-1 : Int32))) ∧ (¬ (9 : Int32) ≤ x4 → (q_z_X10_has_0 x2 x4 (fun r_1 => (r_1 = 0 → (q_wk_X5_firstOf_44 P8 z_tab x1 x2 x4 post)) ∧ (¬ r_1 = 0 → (vp_in (((x1 ||| ((1 : Int32) <<< (x4 &&& 31))) * (9 : Int32)) + x4) 4608 ∧ (((z_tab (Int32.toNatClampNeg (((x1 ||| ((1 : Int32) <<< (x4 &&& 31))) * (9 : Int32)) + x4))) ≤ 0 → (q_wk_X5_firstOf_44 P8 z_tab x1 x2 x4 post)) ∧ (¬ (z_tab (Int32.toNatClampNeg (((x1 ||| ((1 : Int32) <<< (x4 &&& 31))) * (9 : Int32)) + x4))) ≤ 0 → (post x4))))))))) → P8 x4) → P8 x4
def q_wk_X5_firstOf_0 (z_tab : Nat → Int32) (x1 : Int32) (x2 : Int32) (post : Int32 → Prop) : Prop :=
  q_wk_X5_table_0 (fun r_1 => (r_1 = 0 → False) ∧ (¬ r_1 = 0 → (q_wk_X5_firstOf_8 z_tab x1 x2 (0 : Int32) post)))
set_option maxRecDepth 20000 in
theorem t_wk_X5_firstOf_44 {p : Program} {l : Launch} {e : Env} {s : State} {m : MethodId} {args : Array Value} {below : List Frame} {meth : Method} {c : Code} {kc ks : Nat} {E : zE} {qk qc qz : Nat} {a_gaps : Nat → Int32} {a_behind : Nat → Int32} {cf_voices : Int32} {cf_step : Int32} {ca_parts : Nat → Int32} {ca_heights : Nat → Int32} {z_tab : Nat → Int32} {P8 : Int32 → Prop} {post : Int32 → Prop} {x1 : Int32} {x2 : Int32} {x4 : Int32} {ls : Array Slot}
    (zc : zC p s m args meth c cX5_firstOf 5 RX5 (some .int))
    (hK : zK E s)
    (hM : wkW E qk qc qz a_gaps a_behind cf_voices cf_step ca_parts ca_heights z_tab s.heap)
    (hP8 : ∀ (x4 : Int32) (ls : Array Slot), P8 x4 → lv_has ls 5 [(1, .int x1), (2, .int x2), (3, .ref qz), (4, .int x4)] → W p l e (rm_wk_X5_firstOf kc ks) s m args below meth c s.heap [] kc ks (MQ below (vp_Si post) args s kc ks (fun _ => False)) (F0 m 8 ls []))
    (hl : lv_has ls 5 [(1, .int x1), (2, .int x2), (3, .ref qz), (4, .int x4)])
    (hw : q_wk_X5_firstOf_44 P8 z_tab x1 x2 x4 post) :
    W p l e (rm_wk_X5_firstOf kc ks) s m args below meth c s.heap [] kc ks (MQ below (vp_Si post) args s kc ks (fun _ => False)) (F0 m 44 ls []) := by
  have hx := zc.1
  have hb := zc.2.1
  obtain ⟨v_1, ev_1⟩ : ∃ y : Int32, y = x4 + (1 : Int32) := ⟨_, rfl⟩
  have hw := hw v_1 ev_1
  refine lv_iinc (v := v_1) (k := 3) (lv' := [(4, .int v_1), (1, .int x1), (2, .int x2), (3, .ref qz)]) hx hb dX5_firstOf_44 hl rfl (by rw [ev_1]; rfl) (by decide) rfl (fun ls hl => ?_)
  refine lv_goto (tgt := 8) hx hb dX5_firstOf_47 (by decide) ?_
  exact hP8 _ _ hw (lv_sub hl [1, 2, 3, 0] rfl)
set_option maxRecDepth 20000 in
theorem t_wk_X5_firstOf_8 {p : Program} {l : Launch} {e : Env} {s : State} {m : MethodId} {args : Array Value} {below : List Frame} {meth : Method} {c : Code} {kc ks : Nat} {E : zE} {qk qc qz : Nat} {a_gaps : Nat → Int32} {a_behind : Nat → Int32} {cf_voices : Int32} {cf_step : Int32} {ca_parts : Nat → Int32} {ca_heights : Nat → Int32} {z_tab : Nat → Int32} {post : Int32 → Prop} {x1 : Int32} {x2 : Int32} {x4 : Int32} {ls : Array Slot}
    (zc : zC p s m args meth c cX5_firstOf 5 RX5 (some .int))
    (hK : zK E s)
    (hM : wkW E qk qc qz a_gaps a_behind cf_voices cf_step ca_parts ca_heights z_tab s.heap)
    (hl : lv_has ls 5 [(1, .int x1), (2, .int x2), (3, .ref qz), (4, .int x4)])
    (hw : q_wk_X5_firstOf_8 z_tab x1 x2 x4 post) :
    W p l e (rm_wk_X5_firstOf kc ks) s m args below meth c s.heap [] kc ks (MQ below (vp_Si post) args s kc ks (fun _ => False)) (F0 m 8 ls []) := by
  have hx := zc.1
  have hb := zc.2.1
  refine hw (fun x4 => ∀ (ls : Array Slot), lv_has ls 5 [(1, .int x1), (2, .int x2), (3, .ref qz), (4, .int x4)] → W p l e (rm_wk_X5_firstOf kc ks) s m args below meth c s.heap [] kc ks (MQ below (vp_Si post) args s kc ks (fun _ => False)) (F0 m 8 ls [])) ?_ _ hl
  intro x4 hw ls hl
  refine lv_iload hx hb dX5_firstOf_8 (lv_at hl 3 rfl) ?_
  refine lv_bipush (v := (9 : Int32)) hx hb dX5_firstOf_10 (by decide) ?_
  refine lv_icmp_ge (tgt := 50) hx hb dX5_firstOf_12 (by decide) (fun hc => ?_) (fun hc => ?_)
  · have hw := hw.1 hc
    refine lv_iconst (v := (-1 : Int32)) hx hb dX5_firstOf_50 (by decide) ?_
    exact zret_i zc hw dX5_firstOf_51
  · have hw := hw.2 hc
    refine lv_iload_n hx hb dX5_firstOf_15 rfl (lv_at hl 1 rfl) ?_
    refine lv_iload hx hb dX5_firstOf_16 (lv_at hl 3 rfl) ?_
    refine zSN_i [.int x2, .int x4] [] zc ky_X10_has kz_X10_has (hK.2 _ kn_5_32) (c_z_X10_has l hw) (zPre0 _) rfl rfl hl.1 (Nat.le_of_ble_eq_true rfl) ⟨rfl, rfl⟩ ⟨Nat.le_of_ble_eq_true rfl, Nat.le_of_ble_eq_true rfl⟩ ⟨(Nat.le_refl _), (Nat.le_refl _)⟩ dX5_firstOf_18 (fun r_1 hw => ?_)
    refine lv_if_eq (tgt := 44) hx hb dX5_firstOf_21 (by decide) (fun hc => ?_) (fun hc => ?_)
    · have hw := hw.1 hc
      exact t_wk_X5_firstOf_44 zc hK hM (fun _ ls h hl => h ls hl) (lv_sub hl [0, 1, 2, 3] rfl) hw
    · have hw := hw.2 hc
      refine lv_aload_n hx hb dX5_firstOf_24 rfl (lv_at hl 2 rfl) ?_
      refine lv_iload_n hx hb dX5_firstOf_25 rfl (lv_at hl 0 rfl) ?_
      refine lv_iconst (v := (1 : Int32)) hx hb dX5_firstOf_26 (by decide) ?_
      refine lv_iload hx hb dX5_firstOf_27 (lv_at hl 3 rfl) ?_
      refine lv_ishl hx hb dX5_firstOf_29 ?_
      refine lv_ior hx hb dX5_firstOf_30 ?_
      refine lv_bipush (v := (9 : Int32)) hx hb dX5_firstOf_31 (by decide) ?_
      refine lv_imul hx hb dX5_firstOf_33 ?_
      refine lv_iload hx hb dX5_firstOf_34 (lv_at hl 3 rfl) ?_
      refine lv_iadd hx hb dX5_firstOf_36 ?_
      refine wkld_6 zc hK hM hw.1 dX5_firstOf_37 ?_
      have hw := hw.2
      refine lv_if_le (tgt := 44) hx hb dX5_firstOf_38 (by decide) (fun hc => ?_) (fun hc => ?_)
      · have hw := hw.1 hc
        exact t_wk_X5_firstOf_44 zc hK hM (fun _ ls h hl => h ls hl) (lv_sub hl [0, 1, 2, 3] rfl) hw
      · have hw := hw.2 hc
        refine lv_iload hx hb dX5_firstOf_41 (lv_at hl 3 rfl) ?_
        exact zret_i zc hw dX5_firstOf_43
set_option maxRecDepth 20000 in
theorem t_wk_X5_firstOf_0 {p : Program} {l : Launch} {e : Env} {s : State} {m : MethodId} {args : Array Value} {below : List Frame} {meth : Method} {c : Code} {kc ks : Nat} {E : zE} {qk qc qz : Nat} {a_gaps : Nat → Int32} {a_behind : Nat → Int32} {cf_voices : Int32} {cf_step : Int32} {ca_parts : Nat → Int32} {ca_heights : Nat → Int32} {z_tab : Nat → Int32} {post : Int32 → Prop} {x1 : Int32} {x2 : Int32} {ls : Array Slot}
    (zc : zC p s m args meth c cX5_firstOf 5 RX5 (some .int))
    (hK : zK E s)
    (hM : wkW E qk qc qz a_gaps a_behind cf_voices cf_step ca_parts ca_heights z_tab s.heap)
    (hl : lv_has ls 5 [(0, .ref qk), (1, .int x1), (2, .int x2)])
    (hw : q_wk_X5_firstOf_0 z_tab x1 x2 post) :
    W p l e (rm_wk_X5_firstOf kc ks) s m args below meth c s.heap [] kc ks (MQ below (vp_Si post) args s kc ks (fun _ => False)) (F0 m 0 ls []) := by
  have hx := zc.1
  have hb := zc.2.1
  refine lv_aload_n hx hb dX5_firstOf_0 rfl (lv_at hl 0 rfl) ?_
  refine zV_r [] [] zc ky_X5_table kz_X5_table km_5_22 (c_wk_X5_table l hw) (wkPreV0 hK hM) rfl rfl hl.1 (Nat.le_of_ble_eq_true rfl) ⟨rfl, rfl⟩ ⟨Nat.le_of_ble_eq_true rfl, Nat.le_of_ble_eq_true rfl⟩ ⟨(Nat.le_refl _), (Nat.le_refl _)⟩ dX5_firstOf_1 (fun r_1 hw => ?_)
  by_cases hc0 : r_1 = 0
  · have hw := hw.1 hc0
    exact hw.elim
  have hw := hw.2 hc0
  refine W.eq (g2 := F0 m 4 ls (.ref qz :: [])) (by simp [hc0]) ?_
  refine lv_astore_n (lv' := [(3, .ref qz), (0, .ref qk), (1, .int x1), (2, .int x2)]) hx hb dX5_firstOf_4 rfl hl (by decide) rfl (fun ls hl => ?_)
  refine lv_iconst (v := (0 : Int32)) hx hb dX5_firstOf_5 (by decide) ?_
  refine lv_istore (lv' := [(4, .int (0 : Int32)), (3, .ref qz), (0, .ref qk), (1, .int x1), (2, .int x2)]) hx hb dX5_firstOf_6 hl (by decide) rfl (fun ls hl => ?_)
  exact t_wk_X5_firstOf_8 zc hK hM  (lv_sub hl [3, 4, 1, 0] rfl) hw
set_option maxRecDepth 20000 in
theorem c_wk_X5_firstOf (l : Launch) {E : zE} {qk qc qz : Nat} {a_gaps : Nat → Int32} {a_behind : Nat → Int32} {cf_voices : Int32} {cf_step : Int32} {ca_parts : Nat → Int32} {ca_heights : Nat → Int32} {z_tab : Nat → Int32} {x1 : Int32} {x2 : Int32} {post : Int32 → Prop} (hw : q_wk_X5_firstOf_0 z_tab x1 x2 post) : Met l yX5_firstOf (Cond.code yX5_firstOf cX5_firstOf 5 (some .int) :: zb) (rm_wk_X5_firstOf 0 0) (va_Pc [.ref qk, .int x1, .int x2] (fun U => wkW E qk qc qz a_gaps a_behind cf_voices cf_step ca_parts ca_heights z_tab U.heap ∧ zK E U)) (vp_Si post) 0 0 (fun _ => False) := by
  refine Met.ofW (cc := cX5_firstOf) (maxL := 5) (ret := (some .int)) (by decide) rfl ?_
  intro p e s m args below meth c s₁ B hml hv
  obtain ⟨rfl, hM, hK⟩ := hv
  have zc := zc_of B hml
  have hl := lv_entry ([.ref qk, .int x1, .int x2]) (n := 5) (Nat.le_of_ble_eq_true rfl)
  rw [lg_entry_eq]
  generalize (lg_sl ([.ref qk, .int x1, .int x2]) ++ List.replicate (5 - (lg_sl ([.ref qk, .int x1, .int x2])).length) Slot.unset).toArray = ls at hl ⊢
  have hl : lv_has ls 5 [(0, .ref qk), (1, .int x1), (2, .int x2)] := hl
  exact t_wk_X5_firstOf_0 zc hK hM (lv_sub hl [0, 1, 2] rfl) hw
-- wk_X5_voiceAt_3
abbrev rm_wk_X5_voiceAt_3 (kc ks : Nat) : Room := { frames := 2, cells := kc, slots := ks, locals := 45 }
def q_wk_X5_voiceAt_3_18 (a_behind : Nat → Int32) (cf_voices : Int32) (z_tab : Nat → Int32) (x2 : Int32) (x3 : Int32) (x4 : Int32) (x5 : Int32) (x6 : Int32) (post : Int32 → Prop) : Prop :=
  ∀ P18 : Int32 → Int32 → Int32 → Int32 → Prop, (∀ (x3 : Int32) (x4 : Int32) (x5 : Int32) (x6 : Int32), ((x2 < x6 → (post x5)) ∧ (¬ x2 < x6 → (q_wk_X5_firstOf_0 z_tab x3 x4 (fun r_1 => (¬ r_1 = (-1 : Int32) → (∀ v_1 : Int32, v_1 = (x3 ||| ((1 : Int32) <<< (r_1 &&& 31))) → (vp_in r_1 9 ∧ (∀ v_2 : Int32, v_2 = ((a_behind (Int32.toNatClampNeg r_1)) &&& (v_1 ^^^ (-1 : Int32))) → (∀ v_3 : Int32, v_3 = x6 + (1 : Int32) → (P18 v_1 v_2 r_1 v_3)))))) ∧ (r_1 = (-1 : Int32) → (post (-1 : Int32))))))) → P18 x3 x4 x5 x6) → P18 x3 x4 x5 x6
def q_wk_X5_voiceAt_3_0 (a_behind : Nat → Int32) (cf_voices : Int32) (z_tab : Nat → Int32) (x2 : Int32) (post : Int32 → Prop) : Prop :=
  ∀ v_1 : Int32, v_1 = (((1 : Int32) <<< (cf_voices &&& 31)) - (1 : Int32)) → (q_wk_X5_voiceAt_3_18 a_behind cf_voices z_tab x2 (0 : Int32) v_1 (-1 : Int32) (0 : Int32) post)
set_option maxRecDepth 20000 in
theorem t_wk_X5_voiceAt_3_18 {p : Program} {l : Launch} {e : Env} {s : State} {m : MethodId} {args : Array Value} {below : List Frame} {meth : Method} {c : Code} {kc ks : Nat} {E : zE} {qk qc qz : Nat} {a_gaps : Nat → Int32} {a_behind : Nat → Int32} {cf_voices : Int32} {cf_step : Int32} {ca_parts : Nat → Int32} {ca_heights : Nat → Int32} {z_tab : Nat → Int32} {post : Int32 → Prop} {x2 : Int32} {x3 : Int32} {x4 : Int32} {x5 : Int32} {x6 : Int32} {ls : Array Slot}
    (zc : zC p s m args meth c cX5_voiceAt 7 RX5 (some .int))
    (hK : zK E s)
    (hM : wkW E qk qc qz a_gaps a_behind cf_voices cf_step ca_parts ca_heights z_tab s.heap)
    (hl : lv_has ls 7 [(0, .ref qk), (2, .int x2), (3, .int x3), (4, .int x4), (5, .int x5), (6, .int x6)])
    (hw : q_wk_X5_voiceAt_3_18 a_behind cf_voices z_tab x2 x3 x4 x5 x6 post) :
    W p l e (rm_wk_X5_voiceAt_3 kc ks) s m args below meth c s.heap [] kc ks (MQ below (vp_Si post) args s kc ks (fun _ => False)) (F0 m 18 ls []) := by
  have hx := zc.1
  have hb := zc.2.1
  refine hw (fun x3 x4 x5 x6 => ∀ (ls : Array Slot), lv_has ls 7 [(0, .ref qk), (2, .int x2), (3, .int x3), (4, .int x4), (5, .int x5), (6, .int x6)] → W p l e (rm_wk_X5_voiceAt_3 kc ks) s m args below meth c s.heap [] kc ks (MQ below (vp_Si post) args s kc ks (fun _ => False)) (F0 m 18 ls [])) ?_ _ hl
  intro x3 x4 x5 x6 hw ls hl
  refine lv_iload hx hb dX5_voiceAt_18 (lv_at hl 5 rfl) ?_
  refine lv_iload_n hx hb dX5_voiceAt_20 rfl (lv_at hl 1 rfl) ?_
  refine lv_icmp_gt (tgt := 67) hx hb dX5_voiceAt_21 (by decide) (fun hc => ?_) (fun hc => ?_)
  · have hw := hw.1 hc
    refine lv_iload hx hb dX5_voiceAt_67 (lv_at hl 4 rfl) ?_
    exact zret_i zc hw dX5_voiceAt_69
  · have hw := hw.2 hc
    refine lv_aload_n hx hb dX5_voiceAt_24 rfl (lv_at hl 0 rfl) ?_
    refine lv_iload_n hx hb dX5_voiceAt_25 rfl (lv_at hl 2 rfl) ?_
    refine lv_iload hx hb dX5_voiceAt_26 (lv_at hl 3 rfl) ?_
    refine zV_i [.int x3, .int x4] [] zc ky_X5_firstOf kz_X5_firstOf km_5_47 (c_wk_X5_firstOf l hw) (wkPreV0 hK hM) rfl rfl hl.1 (Nat.le_of_ble_eq_true rfl) ⟨rfl, rfl⟩ ⟨Nat.le_of_ble_eq_true rfl, Nat.le_of_ble_eq_true rfl⟩ ⟨(Nat.le_refl _), (Nat.le_refl _)⟩ dX5_voiceAt_28 (fun r_1 hw => ?_)
    refine lv_istore (lv' := [(5, .int r_1), (0, .ref qk), (2, .int x2), (3, .int x3), (4, .int x4), (6, .int x6)]) hx hb dX5_voiceAt_31 hl (by decide) rfl (fun ls hl => ?_)
    refine lv_iload hx hb dX5_voiceAt_33 (lv_at hl 0 rfl) ?_
    refine lv_iconst (v := (-1 : Int32)) hx hb dX5_voiceAt_35 (by decide) ?_
    refine lv_icmp_ne (tgt := 41) hx hb dX5_voiceAt_36 (by decide) (fun hc => ?_) (fun hc => ?_)
    · have hw := hw.1 hc
      refine lv_iload_n hx hb dX5_voiceAt_41 rfl (lv_at hl 3 rfl) ?_
      refine lv_iconst (v := (1 : Int32)) hx hb dX5_voiceAt_42 (by decide) ?_
      refine lv_iload hx hb dX5_voiceAt_43 (lv_at hl 0 rfl) ?_
      refine lv_ishl hx hb dX5_voiceAt_45 ?_
      refine lv_ior hx hb dX5_voiceAt_46 ?_
      refine lv_topi (fun v_1 ev_1 => ?_)
      have hw := hw v_1 ev_1
      refine lv_istore_n (lv' := [(3, .int v_1), (5, .int r_1), (0, .ref qk), (2, .int x2), (4, .int x4), (6, .int x6)]) hx hb dX5_voiceAt_47 rfl hl (by decide) rfl (fun ls hl => ?_)
      refine lv_aload_n hx hb dX5_voiceAt_48 rfl (lv_at hl 2 rfl) ?_
      refine wkg_5_15_0 zc hK hM dX5_voiceAt_49 ?_
      refine lv_iload hx hb dX5_voiceAt_52 (lv_at hl 1 rfl) ?_
      refine wkld_2 zc hK hM hw.1 dX5_voiceAt_54 ?_
      have hw := hw.2
      refine lv_iload_n hx hb dX5_voiceAt_55 rfl (lv_at hl 0 rfl) ?_
      refine lv_iconst (v := (-1 : Int32)) hx hb dX5_voiceAt_56 (by decide) ?_
      refine lv_ixor hx hb dX5_voiceAt_57 ?_
      refine lv_iand hx hb dX5_voiceAt_58 ?_
      refine lv_topi (fun v_2 ev_2 => ?_)
      have hw := hw v_2 ev_2
      refine lv_istore (lv' := [(4, .int v_2), (3, .int v_1), (5, .int r_1), (0, .ref qk), (2, .int x2), (6, .int x6)]) hx hb dX5_voiceAt_59 hl (by decide) rfl (fun ls hl => ?_)
      obtain ⟨v_3, ev_3⟩ : ∃ y : Int32, y = x6 + (1 : Int32) := ⟨_, rfl⟩
      have hw := hw v_3 ev_3
      refine lv_iinc (v := v_3) (k := 5) (lv' := [(6, .int v_3), (4, .int v_2), (3, .int v_1), (5, .int r_1), (0, .ref qk), (2, .int x2)]) hx hb dX5_voiceAt_61 hl rfl (by rw [ev_3]; rfl) (by decide) rfl (fun ls hl => ?_)
      refine lv_goto (tgt := 18) hx hb dX5_voiceAt_64 (by decide) ?_
      exact hw _ (lv_sub hl [4, 5, 2, 1, 3, 0] rfl)
    · have hw := hw.2 hc
      refine lv_iconst (v := (-1 : Int32)) hx hb dX5_voiceAt_39 (by decide) ?_
      exact zret_i zc hw dX5_voiceAt_40
set_option maxRecDepth 20000 in
theorem t_wk_X5_voiceAt_3_0 {p : Program} {l : Launch} {e : Env} {s : State} {m : MethodId} {args : Array Value} {below : List Frame} {meth : Method} {c : Code} {kc ks : Nat} {E : zE} {qk qc qz : Nat} {a_gaps : Nat → Int32} {a_behind : Nat → Int32} {cf_voices : Int32} {cf_step : Int32} {ca_parts : Nat → Int32} {ca_heights : Nat → Int32} {z_tab : Nat → Int32} {post : Int32 → Prop} {x2 : Int32} {ls : Array Slot}
    (zc : zC p s m args meth c cX5_voiceAt 7 RX5 (some .int))
    (hK : zK E s)
    (hM : wkW E qk qc qz a_gaps a_behind cf_voices cf_step ca_parts ca_heights z_tab s.heap)
    (hl : lv_has ls 7 [(0, .ref qk), (1, .ref qc), (2, .int x2)])
    (hw : q_wk_X5_voiceAt_3_0 a_behind cf_voices z_tab x2 post) :
    W p l e (rm_wk_X5_voiceAt_3 kc ks) s m args below meth c s.heap [] kc ks (MQ below (vp_Si post) args s kc ks (fun _ => False)) (F0 m 0 ls []) := by
  have hx := zc.1
  have hb := zc.2.1
  refine lv_iconst (v := (0 : Int32)) hx hb dX5_voiceAt_0 (by decide) ?_
  refine lv_istore_n (lv' := [(3, .int (0 : Int32)), (0, .ref qk), (1, .ref qc), (2, .int x2)]) hx hb dX5_voiceAt_1 rfl hl (by decide) rfl (fun ls hl => ?_)
  refine lv_iconst (v := (1 : Int32)) hx hb dX5_voiceAt_2 (by decide) ?_
  refine lv_aload_n hx hb dX5_voiceAt_3 rfl (lv_at hl 2 rfl) ?_
  refine wkg_5_26_3 zc hK hM dX5_voiceAt_4 ?_
  refine lv_ishl hx hb dX5_voiceAt_7 ?_
  refine lv_iconst (v := (1 : Int32)) hx hb dX5_voiceAt_8 (by decide) ?_
  refine lv_isub hx hb dX5_voiceAt_9 ?_
  refine lv_topi (fun v_1 ev_1 => ?_)
  have hw := hw v_1 ev_1
  refine lv_istore (lv' := [(4, .int v_1), (3, .int (0 : Int32)), (0, .ref qk), (1, .ref qc), (2, .int x2)]) hx hb dX5_voiceAt_10 hl (by decide) rfl (fun ls hl => ?_)
  refine lv_iconst (v := (-1 : Int32)) hx hb dX5_voiceAt_12 (by decide) ?_
  refine lv_istore (lv' := [(5, .int (-1 : Int32)), (4, .int v_1), (3, .int (0 : Int32)), (0, .ref qk), (1, .ref qc), (2, .int x2)]) hx hb dX5_voiceAt_13 hl (by decide) rfl (fun ls hl => ?_)
  refine lv_iconst (v := (0 : Int32)) hx hb dX5_voiceAt_15 (by decide) ?_
  refine lv_istore (lv' := [(6, .int (0 : Int32)), (5, .int (-1 : Int32)), (4, .int v_1), (3, .int (0 : Int32)), (0, .ref qk), (1, .ref qc), (2, .int x2)]) hx hb dX5_voiceAt_16 hl (by decide) rfl (fun ls hl => ?_)
  exact t_wk_X5_voiceAt_3_18 zc hK hM  (lv_sub hl [4, 6, 3, 2, 1, 0] rfl) hw
set_option maxRecDepth 20000 in
theorem c_wk_X5_voiceAt_3 (l : Launch) {E : zE} {qk qc qz : Nat} {a_gaps : Nat → Int32} {a_behind : Nat → Int32} {cf_voices : Int32} {cf_step : Int32} {ca_parts : Nat → Int32} {ca_heights : Nat → Int32} {z_tab : Nat → Int32} {x2 : Int32} {post : Int32 → Prop} (hw : q_wk_X5_voiceAt_3_0 a_behind cf_voices z_tab x2 post) : Met l yX5_voiceAt (Cond.code yX5_voiceAt cX5_voiceAt 7 (some .int) :: zb) (rm_wk_X5_voiceAt_3 0 0) (va_Pc [.ref qk, .ref qc, .int x2] (fun U => wkW E qk qc qz a_gaps a_behind cf_voices cf_step ca_parts ca_heights z_tab U.heap ∧ zK E U)) (vp_Si post) 0 0 (fun _ => False) := by
  refine Met.ofW (cc := cX5_voiceAt) (maxL := 7) (ret := (some .int)) (by decide) rfl ?_
  intro p e s m args below meth c s₁ B hml hv
  obtain ⟨rfl, hM, hK⟩ := hv
  have zc := zc_of B hml
  have hl := lv_entry ([.ref qk, .ref qc, .int x2]) (n := 7) (Nat.le_of_ble_eq_true rfl)
  rw [lg_entry_eq]
  generalize (lg_sl ([.ref qk, .ref qc, .int x2]) ++ List.replicate (7 - (lg_sl ([.ref qk, .ref qc, .int x2])).length) Slot.unset).toArray = ls at hl ⊢
  have hl : lv_has ls 7 [(0, .ref qk), (1, .ref qc), (2, .int x2)] := hl
  exact t_wk_X5_voiceAt_3_0 zc hK hM (lv_sub hl [0, 1, 2] rfl) hw
-- wk_X5_stepOn_6
abbrev rm_wk_X5_stepOn_6 (kc ks : Nat) : Room := { frames := 1, cells := kc, slots := ks, locals := 40 }
def q_wk_X5_stepOn_6_79 (P8 : Int32 → Int32 → Prop) (a_gaps : Nat → Int32) (z_tab : Nat → Int32) (x2 : Int32) (x3 : Int32) (x4 : Int32) (x5 : Int32) (x6 : Int32) (post : Int32 → Prop) : Prop :=
  ∀ v_1 : Int32, v_1 = x6 + (1 : Int32) → (P8 x5 v_1)
def q_wk_X5_stepOn_6_8 (a_gaps : Nat → Int32) (z_tab : Nat → Int32) (x2 : Int32) (x3 : Int32) (x4 : Int32) (x5 : Int32) (x6 : Int32) (post : Int32 → Prop) : Prop :=
  ∀ P8 : Int32 → Int32 → Prop, (∀ (x5 : Int32) (x6 : Int32), (((9 : Int32) ≤ x6 → (post x5)) ∧ (¬ (9 : Int32) ≤ x6 → (((x3 >>> (x6 &&& 31)) = 0 → (post x5)) ∧ (¬ (x3 >>> (x6 &&& 31)) = 0 → (vp_in ((x4 * (9 : Int32)) + x6) 81 ∧ (∀ v_1 : Int32, v_1 = (a_gaps (Int32.toNatClampNeg ((x4 * (9 : Int32)) + x6))) → (q_z_X10_has_0 x3 x6 (fun r_1 => (r_1 = 0 → (q_wk_X5_stepOn_6_79 P8 a_gaps z_tab x2 x3 x4 x5 x6 post)) ∧ (¬ r_1 = 0 → ((x5 ≤ v_1 → (q_wk_X5_stepOn_6_79 P8 a_gaps z_tab x2 x3 x4 x5 x6 post)) ∧ (¬ x5 ≤ v_1 → (vp_in (((x2 ||| ((1 : Int32) <<< (x6 &&& 31))) * (9 : Int32)) + x6) 4608 ∧ (∀ v_2 : Int32, v_2 = (if (if v_1 < (z_tab (Int32.toNatClampNeg (((x2 ||| ((1 : Int32) <<< (x6 &&& 31))) * (9 : Int32)) + x6))) then (z_tab (Int32.toNatClampNeg (((x2 ||| ((1 : Int32) <<< (x6 &&& 31))) * (9 : Int32)) + x6))) else v_1) < x5 then (if v_1 < (z_tab (Int32.toNatClampNeg (((x2 ||| ((1 : Int32) <<< (x6 &&& 31))) * (9 : Int32)) + x6))) then (z_tab (Int32.toNatClampNeg (((x2 ||| ((1 : Int32) <<< (x6 &&& 31))) * (9 : Int32)) + x6))) else v_1) else x5) → (q_wk_X5_stepOn_6_79 P8 a_gaps z_tab x2 x3 x4 v_2 x6 post)))))))))))))) → P8 x5 x6) → P8 x5 x6
def q_wk_X5_stepOn_6_0 (a_gaps : Nat → Int32) (z_tab : Nat → Int32) (x2 : Int32) (x3 : Int32) (x4 : Int32) (post : Int32 → Prop) : Prop :=
  q_wk_X5_stepOn_6_8 a_gaps z_tab x2 x3 x4 (1000 : Int32) (0 : Int32) post
set_option maxRecDepth 20000 in
theorem t_wk_X5_stepOn_6_79 {p : Program} {l : Launch} {e : Env} {s : State} {m : MethodId} {args : Array Value} {below : List Frame} {meth : Method} {c : Code} {kc ks : Nat} {E : zE} {qk qc qz : Nat} {a_gaps : Nat → Int32} {a_behind : Nat → Int32} {cf_voices : Int32} {cf_step : Int32} {ca_parts : Nat → Int32} {ca_heights : Nat → Int32} {z_tab : Nat → Int32} {P8 : Int32 → Int32 → Prop} {post : Int32 → Prop} {x2 : Int32} {x3 : Int32} {x4 : Int32} {x5 : Int32} {x6 : Int32} {ls : Array Slot}
    (zc : zC p s m args meth c cX5_stepOn 8 RX5 (some .int))
    (hK : zK E s)
    (hM : wkW E qk qc qz a_gaps a_behind cf_voices cf_step ca_parts ca_heights z_tab s.heap)
    (hP8 : ∀ (x5 : Int32) (x6 : Int32) (ls : Array Slot), P8 x5 x6 → lv_has ls 8 [(0, .ref qk), (1, .ref qz), (2, .int x2), (3, .int x3), (4, .int x4), (5, .int x5), (6, .int x6)] → W p l e (rm_wk_X5_stepOn_6 kc ks) s m args below meth c s.heap [] kc ks (MQ below (vp_Si post) args s kc ks (fun _ => False)) (F0 m 8 ls []))
    (hl : lv_has ls 8 [(0, .ref qk), (1, .ref qz), (2, .int x2), (3, .int x3), (4, .int x4), (5, .int x5), (6, .int x6)])
    (hw : q_wk_X5_stepOn_6_79 P8 a_gaps z_tab x2 x3 x4 x5 x6 post) :
    W p l e (rm_wk_X5_stepOn_6 kc ks) s m args below meth c s.heap [] kc ks (MQ below (vp_Si post) args s kc ks (fun _ => False)) (F0 m 79 ls []) := by
  have hx := zc.1
  have hb := zc.2.1
  obtain ⟨v_1, ev_1⟩ : ∃ y : Int32, y = x6 + (1 : Int32) := ⟨_, rfl⟩
  have hw := hw v_1 ev_1
  refine lv_iinc (v := v_1) (k := 6) (lv' := [(6, .int v_1), (0, .ref qk), (1, .ref qz), (2, .int x2), (3, .int x3), (4, .int x4), (5, .int x5)]) hx hb dX5_stepOn_79 hl rfl (by rw [ev_1]; rfl) (by decide) rfl (fun ls hl => ?_)
  refine lv_goto (tgt := 8) hx hb dX5_stepOn_82 (by decide) ?_
  exact hP8 _ _ _ hw (lv_sub hl [1, 2, 3, 4, 5, 6, 0] rfl)
set_option maxRecDepth 20000 in
theorem t_wk_X5_stepOn_6_8 {p : Program} {l : Launch} {e : Env} {s : State} {m : MethodId} {args : Array Value} {below : List Frame} {meth : Method} {c : Code} {kc ks : Nat} {E : zE} {qk qc qz : Nat} {a_gaps : Nat → Int32} {a_behind : Nat → Int32} {cf_voices : Int32} {cf_step : Int32} {ca_parts : Nat → Int32} {ca_heights : Nat → Int32} {z_tab : Nat → Int32} {post : Int32 → Prop} {x2 : Int32} {x3 : Int32} {x4 : Int32} {x5 : Int32} {x6 : Int32} {ls : Array Slot}
    (zc : zC p s m args meth c cX5_stepOn 8 RX5 (some .int))
    (hK : zK E s)
    (hM : wkW E qk qc qz a_gaps a_behind cf_voices cf_step ca_parts ca_heights z_tab s.heap)
    (hl : lv_has ls 8 [(0, .ref qk), (1, .ref qz), (2, .int x2), (3, .int x3), (4, .int x4), (5, .int x5), (6, .int x6)])
    (hw : q_wk_X5_stepOn_6_8 a_gaps z_tab x2 x3 x4 x5 x6 post) :
    W p l e (rm_wk_X5_stepOn_6 kc ks) s m args below meth c s.heap [] kc ks (MQ below (vp_Si post) args s kc ks (fun _ => False)) (F0 m 8 ls []) := by
  have hx := zc.1
  have hb := zc.2.1
  refine hw (fun x5 x6 => ∀ (ls : Array Slot), lv_has ls 8 [(0, .ref qk), (1, .ref qz), (2, .int x2), (3, .int x3), (4, .int x4), (5, .int x5), (6, .int x6)] → W p l e (rm_wk_X5_stepOn_6 kc ks) s m args below meth c s.heap [] kc ks (MQ below (vp_Si post) args s kc ks (fun _ => False)) (F0 m 8 ls [])) ?_ _ hl
  intro x5 x6 hw ls hl
  refine lv_iload hx hb dX5_stepOn_8 (lv_at hl 6 rfl) ?_
  refine lv_bipush (v := (9 : Int32)) hx hb dX5_stepOn_10 (by decide) ?_
  refine lv_icmp_ge (tgt := 85) hx hb dX5_stepOn_12 (by decide) (fun hc => ?_) (fun hc => ?_)
  · have hw := hw.1 hc
    refine lv_iload hx hb dX5_stepOn_85 (lv_at hl 5 rfl) ?_
    exact zret_i zc hw dX5_stepOn_87
  · have hw := hw.2 hc
    refine lv_iload_n hx hb dX5_stepOn_15 rfl (lv_at hl 3 rfl) ?_
    refine lv_iload hx hb dX5_stepOn_16 (lv_at hl 6 rfl) ?_
    refine lv_ishr hx hb dX5_stepOn_18 ?_
    refine lv_if_eq (tgt := 85) hx hb dX5_stepOn_19 (by decide) (fun hc => ?_) (fun hc => ?_)
    · have hw := hw.1 hc
      refine lv_iload hx hb dX5_stepOn_85 (lv_at hl 5 rfl) ?_
      exact zret_i zc hw dX5_stepOn_87
    · have hw := hw.2 hc
      refine lv_aload_n hx hb dX5_stepOn_22 rfl (lv_at hl 0 rfl) ?_
      refine wkg_5_9_0 zc hK hM dX5_stepOn_23 ?_
      refine lv_iload hx hb dX5_stepOn_26 (lv_at hl 4 rfl) ?_
      refine lv_bipush (v := (9 : Int32)) hx hb dX5_stepOn_28 (by decide) ?_
      refine lv_imul hx hb dX5_stepOn_30 ?_
      refine lv_iload hx hb dX5_stepOn_31 (lv_at hl 6 rfl) ?_
      refine lv_iadd hx hb dX5_stepOn_33 ?_
      refine wkld_1 zc hK hM hw.1 dX5_stepOn_34 ?_
      have hw := hw.2
      refine lv_topi (fun v_1 ev_1 => ?_)
      have hw := hw v_1 ev_1
      refine lv_istore (lv' := [(7, .int v_1), (0, .ref qk), (1, .ref qz), (2, .int x2), (3, .int x3), (4, .int x4), (5, .int x5), (6, .int x6)]) hx hb dX5_stepOn_35 hl (by decide) rfl (fun ls hl => ?_)
      refine lv_iload_n hx hb dX5_stepOn_37 rfl (lv_at hl 4 rfl) ?_
      refine lv_iload hx hb dX5_stepOn_38 (lv_at hl 7 rfl) ?_
      refine zSN_i [.int x3, .int x6] [] zc ky_X10_has kz_X10_has (hK.2 _ kn_5_32) (c_z_X10_has l hw) (zPre0 _) rfl rfl hl.1 (Nat.le_of_ble_eq_true rfl) ⟨rfl, rfl⟩ ⟨Nat.le_of_ble_eq_true rfl, Nat.le_of_ble_eq_true rfl⟩ ⟨(Nat.le_refl _), (Nat.le_refl _)⟩ dX5_stepOn_40 (fun r_1 hw => ?_)
      refine lv_if_eq (tgt := 79) hx hb dX5_stepOn_43 (by decide) (fun hc => ?_) (fun hc => ?_)
      · have hw := hw.1 hc
        exact t_wk_X5_stepOn_6_79 zc hK hM (fun _ _ ls h hl => h ls hl) (lv_sub hl [1, 2, 3, 4, 5, 6, 7] rfl) hw
      · have hw := hw.2 hc
        refine lv_iload hx hb dX5_stepOn_46 (lv_at hl 0 rfl) ?_
        refine lv_iload hx hb dX5_stepOn_48 (lv_at hl 6 rfl) ?_
        refine lv_icmp_ge (tgt := 79) hx hb dX5_stepOn_50 (by decide) (fun hc => ?_) (fun hc => ?_)
        · have hw := hw.1 hc
          exact t_wk_X5_stepOn_6_79 zc hK hM (fun _ _ ls h hl => h ls hl) (lv_sub hl [1, 2, 3, 4, 5, 6, 7] rfl) hw
        · have hw := hw.2 hc
          refine lv_iload hx hb dX5_stepOn_53 (lv_at hl 6 rfl) ?_
          refine lv_iload hx hb dX5_stepOn_55 (lv_at hl 0 rfl) ?_
          refine lv_aload_n hx hb dX5_stepOn_57 rfl (lv_at hl 2 rfl) ?_
          refine lv_iload_n hx hb dX5_stepOn_58 rfl (lv_at hl 3 rfl) ?_
          refine lv_iconst (v := (1 : Int32)) hx hb dX5_stepOn_59 (by decide) ?_
          refine lv_iload hx hb dX5_stepOn_60 (lv_at hl 7 rfl) ?_
          refine lv_ishl hx hb dX5_stepOn_62 ?_
          refine lv_ior hx hb dX5_stepOn_63 ?_
          refine lv_bipush (v := (9 : Int32)) hx hb dX5_stepOn_64 (by decide) ?_
          refine lv_imul hx hb dX5_stepOn_66 ?_
          refine lv_iload hx hb dX5_stepOn_67 (lv_at hl 7 rfl) ?_
          refine lv_iadd hx hb dX5_stepOn_69 ?_
          refine wkld_6 zc hK hM hw.1 dX5_stepOn_70 ?_
          have hw := hw.2
          refine va_mmax hx hb (zc.2.2.1.trans hl.1.symm) zc.2.2.2.1 (zc.2.2.2.2.1 _ km_5_63) (zc.2.2.2.2.1 _ k_mmaxs) (zc.2.2.2.2.1 _ k_mini) (zc.2.2.2.2.1 _ k_mmaxc) (Nat.le_of_ble_eq_true rfl) (Nat.le_of_ble_eq_true rfl) (Nat.le_refl _) (Nat.le_refl _) dX5_stepOn_71 ?_
          refine va_mmin hx hb (zc.2.2.1.trans hl.1.symm) zc.2.2.2.1 (zc.2.2.2.2.1 _ km_5_54) (zc.2.2.2.2.1 _ k_mmins) (zc.2.2.2.2.1 _ k_mini) (zc.2.2.2.2.1 _ k_mminc) (Nat.le_of_ble_eq_true rfl) (Nat.le_of_ble_eq_true rfl) (Nat.le_refl _) (Nat.le_refl _) dX5_stepOn_74 ?_
          refine lv_topi (fun v_2 ev_2 => ?_)
          have hw := hw v_2 ev_2
          refine lv_istore (lv' := [(5, .int v_2), (7, .int v_1), (0, .ref qk), (1, .ref qz), (2, .int x2), (3, .int x3), (4, .int x4), (6, .int x6)]) hx hb dX5_stepOn_77 hl (by decide) rfl (fun ls hl => ?_)
          exact t_wk_X5_stepOn_6_79 zc hK hM (fun _ _ ls h hl => h ls hl) (lv_sub hl [2, 3, 4, 5, 6, 0, 7] rfl) hw
set_option maxRecDepth 20000 in
theorem t_wk_X5_stepOn_6_0 {p : Program} {l : Launch} {e : Env} {s : State} {m : MethodId} {args : Array Value} {below : List Frame} {meth : Method} {c : Code} {kc ks : Nat} {E : zE} {qk qc qz : Nat} {a_gaps : Nat → Int32} {a_behind : Nat → Int32} {cf_voices : Int32} {cf_step : Int32} {ca_parts : Nat → Int32} {ca_heights : Nat → Int32} {z_tab : Nat → Int32} {post : Int32 → Prop} {x2 : Int32} {x3 : Int32} {x4 : Int32} {ls : Array Slot}
    (zc : zC p s m args meth c cX5_stepOn 8 RX5 (some .int))
    (hK : zK E s)
    (hM : wkW E qk qc qz a_gaps a_behind cf_voices cf_step ca_parts ca_heights z_tab s.heap)
    (hl : lv_has ls 8 [(0, .ref qk), (1, .ref qz), (2, .int x2), (3, .int x3), (4, .int x4)])
    (hw : q_wk_X5_stepOn_6_0 a_gaps z_tab x2 x3 x4 post) :
    W p l e (rm_wk_X5_stepOn_6 kc ks) s m args below meth c s.heap [] kc ks (MQ below (vp_Si post) args s kc ks (fun _ => False)) (F0 m 0 ls []) := by
  have hx := zc.1
  have hb := zc.2.1
  refine lv_sipush (v := (1000 : Int32)) hx hb dX5_stepOn_0 (by decide) ?_
  refine lv_istore (lv' := [(5, .int (1000 : Int32)), (0, .ref qk), (1, .ref qz), (2, .int x2), (3, .int x3), (4, .int x4)]) hx hb dX5_stepOn_3 hl (by decide) rfl (fun ls hl => ?_)
  refine lv_iconst (v := (0 : Int32)) hx hb dX5_stepOn_5 (by decide) ?_
  refine lv_istore (lv' := [(6, .int (0 : Int32)), (5, .int (1000 : Int32)), (0, .ref qk), (1, .ref qz), (2, .int x2), (3, .int x3), (4, .int x4)]) hx hb dX5_stepOn_6 hl (by decide) rfl (fun ls hl => ?_)
  exact t_wk_X5_stepOn_6_8 zc hK hM  (lv_sub hl [2, 3, 4, 5, 6, 1, 0] rfl) hw
set_option maxRecDepth 20000 in
theorem c_wk_X5_stepOn_6 (l : Launch) {E : zE} {qk qc qz : Nat} {a_gaps : Nat → Int32} {a_behind : Nat → Int32} {cf_voices : Int32} {cf_step : Int32} {ca_parts : Nat → Int32} {ca_heights : Nat → Int32} {z_tab : Nat → Int32} {x2 : Int32} {x3 : Int32} {x4 : Int32} {post : Int32 → Prop} (hw : q_wk_X5_stepOn_6_0 a_gaps z_tab x2 x3 x4 post) : Met l yX5_stepOn (Cond.code yX5_stepOn cX5_stepOn 8 (some .int) :: zb) (rm_wk_X5_stepOn_6 0 0) (va_Pc [.ref qk, .ref qz, .int x2, .int x3, .int x4] (fun U => wkW E qk qc qz a_gaps a_behind cf_voices cf_step ca_parts ca_heights z_tab U.heap ∧ zK E U)) (vp_Si post) 0 0 (fun _ => False) := by
  refine Met.ofW (cc := cX5_stepOn) (maxL := 8) (ret := (some .int)) (by decide) rfl ?_
  intro p e s m args below meth c s₁ B hml hv
  obtain ⟨rfl, hM, hK⟩ := hv
  have zc := zc_of B hml
  have hl := lv_entry ([.ref qk, .ref qz, .int x2, .int x3, .int x4]) (n := 8) (Nat.le_of_ble_eq_true rfl)
  rw [lg_entry_eq]
  generalize (lg_sl ([.ref qk, .ref qz, .int x2, .int x3, .int x4]) ++ List.replicate (8 - (lg_sl ([.ref qk, .ref qz, .int x2, .int x3, .int x4])).length) Slot.unset).toArray = ls at hl ⊢
  have hl : lv_has ls 8 [(0, .ref qk), (1, .ref qz), (2, .int x2), (3, .int x3), (4, .int x4)] := hl
  exact t_wk_X5_stepOn_6_0 zc hK hM (lv_sub hl [0, 1, 2, 3, 4] rfl) hw
-- wk_X5_leastStep_3
abbrev rm_wk_X5_leastStep_3 (kc ks : Nat) : Room := { frames := 3, cells := kc, slots := ks, locals := 86 }
def q_wk_X5_leastStep_3_113 (a_gaps : Nat → Int32) (a_behind : Nat → Int32) (cf_voices : Int32) (cf_step : Int32) (ca_parts : Nat → Int32) (ca_heights : Nat → Int32) (z_tab : Nat → Int32) (x4 : Int32) (x5 : Int32) (post : Int32 → (Nat → Int32) → (Nat → Int32) → (Nat → Int32) → Prop) : Prop :=
  ∀ P113 : Int32 → Int32 → Prop, (∀ (x4 : Int32) (x5 : Int32), ((cf_voices ≤ x5 → (q_z_X10_nearOrNone_0 x4 (fun r_1 => post r_1 a_gaps a_behind z_tab))) ∧ (¬ cf_voices ≤ x5 → (vp_in ((((1 : Int32) <<< (x5 &&& 31)) * (9 : Int32)) + x5) 4608 ∧ (∀ v_1 : Int32, v_1 = (if (z_tab (Int32.toNatClampNeg ((((1 : Int32) <<< (x5 &&& 31)) * (9 : Int32)) + x5))) < x4 then (z_tab (Int32.toNatClampNeg ((((1 : Int32) <<< (x5 &&& 31)) * (9 : Int32)) + x5))) else x4) → (∀ v_2 : Int32, v_2 = x5 + (1 : Int32) → (P113 v_1 v_2)))))) → P113 x4 x5) → P113 x4 x5
def q_wk_X5_leastStep_3_93 (P31 : Int32 → (Nat → Int32) → Prop) (P39 : Int32 → (Nat → Int32) → Prop) (a_gaps : Nat → Int32) (a_behind : Nat → Int32) (cf_voices : Int32) (cf_step : Int32) (ca_parts : Nat → Int32) (ca_heights : Nat → Int32) (z_tab : Nat → Int32) (x3 : Int32) (x4 : Int32) (x5 : Int32) (post : Int32 → (Nat → Int32) → (Nat → Int32) → (Nat → Int32) → Prop) : Prop :=
  ∀ v_1 : Int32, v_1 = x5 + (1 : Int32) → (P39 v_1 z_tab)
def q_wk_X5_leastStep_3_92 (P31 : Int32 → (Nat → Int32) → Prop) (P39 : Int32 → (Nat → Int32) → Prop) (a_gaps : Nat → Int32) (a_behind : Nat → Int32) (cf_voices : Int32) (cf_step : Int32) (ca_parts : Nat → Int32) (ca_heights : Nat → Int32) (z_tab : Nat → Int32) (x3 : Int32) (x4 : Int32) (x5 : Int32) (y0 : Int32) (y1 : Int32) (post : Int32 → (Nat → Int32) → (Nat → Int32) → (Nat → Int32) → Prop) : Prop :=
  vp_in y0 4608 ∧ (∀ z_tab_1 : Nat → Int32, z_tab_1 = upd z_tab (Int32.toNatClampNeg y0) y1 → (q_wk_X5_leastStep_3_93 P31 P39 a_gaps a_behind cf_voices cf_step ca_parts ca_heights z_tab_1 x3 x4 x5 post))
def q_wk_X5_leastStep_3_39 (P31 : Int32 → (Nat → Int32) → Prop) (a_gaps : Nat → Int32) (a_behind : Nat → Int32) (cf_voices : Int32) (cf_step : Int32) (ca_parts : Nat → Int32) (ca_heights : Nat → Int32) (z_tab : Nat → Int32) (x3 : Int32) (x4 : Int32) (x5 : Int32) (post : Int32 → (Nat → Int32) → (Nat → Int32) → (Nat → Int32) → Prop) : Prop :=
  ∀ P39 : Int32 → (Nat → Int32) → Prop, (∀ (x5 : Int32) (z_tab : Nat → Int32), ((cf_voices ≤ x5 → (∀ v_1 : Int32, v_1 = x4 + (-1 : Int32) → (P31 v_1 z_tab))) ∧ (¬ cf_voices ≤ x5 → (q_z_X10_has_0 x4 x5 (fun r_1 => (r_1 = 0 → (q_wk_X5_leastStep_3_93 P31 P39 a_gaps a_behind cf_voices cf_step ca_parts ca_heights z_tab x3 x4 x5 post)) ∧ (¬ r_1 = 0 → ((¬ x4 = x3 → (q_wk_X5_stepOn_6_0 a_gaps z_tab x4 (x3 &&& (x4 ^^^ (-1 : Int32))) x5 (fun r_2 => q_wk_X5_leastStep_3_92 P31 P39 a_gaps a_behind cf_voices cf_step ca_parts ca_heights z_tab x3 x4 x5 ((x4 * (9 : Int32)) + x5) r_2 post))) ∧ (x4 = x3 → (q_wk_X5_leastStep_3_92 P31 P39 a_gaps a_behind cf_voices cf_step ca_parts ca_heights z_tab x3 x4 x5 ((x4 * (9 : Int32)) + x5) (0 : Int32) post)))))))) → P39 x5 z_tab) → P39 x5 z_tab
def q_wk_X5_leastStep_3_31 (a_gaps : Nat → Int32) (a_behind : Nat → Int32) (cf_voices : Int32) (cf_step : Int32) (ca_parts : Nat → Int32) (ca_heights : Nat → Int32) (z_tab : Nat → Int32) (x3 : Int32) (x4 : Int32) (post : Int32 → (Nat → Int32) → (Nat → Int32) → (Nat → Int32) → Prop) : Prop :=
  ∀ P31 : Int32 → (Nat → Int32) → Prop, (∀ (x4 : Int32) (z_tab : Nat → Int32), ((x4 ≤ 0 → (q_wk_X5_leastStep_3_113 a_gaps a_behind cf_voices cf_step ca_parts ca_heights z_tab (1000 : Int32) (0 : Int32) post)) ∧ (¬ x4 ≤ 0 → (q_wk_X5_leastStep_3_39 P31 a_gaps a_behind cf_voices cf_step ca_parts ca_heights z_tab x3 x4 (0 : Int32) post))) → P31 x4 z_tab) → P31 x4 z_tab
def q_wk_X5_leastStep_3_19 (a_gaps : Nat → Int32) (a_behind : Nat → Int32) (cf_voices : Int32) (cf_step : Int32) (ca_parts : Nat → Int32) (ca_heights : Nat → Int32) (z_tab : Nat → Int32) (post : Int32 → (Nat → Int32) → (Nat → Int32) → (Nat → Int32) → Prop) : Prop :=
  ∀ v_1 : Int32, v_1 = (((1 : Int32) <<< (cf_voices &&& 31)) - (1 : Int32)) → (q_wk_X5_leastStep_3_31 a_gaps a_behind cf_voices cf_step ca_parts ca_heights z_tab v_1 v_1 post)
def q_wk_X5_leastStep_3_0 (a_gaps : Nat → Int32) (a_behind : Nat → Int32) (cf_voices : Int32) (cf_step : Int32) (ca_parts : Nat → Int32) (ca_heights : Nat → Int32) (z_tab : Nat → Int32) (post : Int32 → (Nat → Int32) → (Nat → Int32) → (Nat → Int32) → Prop) : Prop :=
  (¬ cf_voices = 0 → (q_wk_X5_measure_3_0 a_gaps a_behind cf_voices cf_step ca_parts ca_heights (fun a_gaps_1 a_behind_1 => q_wk_X5_table_0 (fun r_1 => (r_1 = 0 → False) ∧ (¬ r_1 = 0 → (q_wk_X5_leastStep_3_19 a_gaps_1 a_behind_1 cf_voices cf_step ca_parts ca_heights z_tab post)))))) ∧ (cf_voices = 0 → (post (0 : Int32) a_gaps a_behind z_tab))
set_option maxRecDepth 20000 in
theorem t_wk_X5_leastStep_3_113 {p : Program} {l : Launch} {e : Env} {s : State} {m : MethodId} {args : Array Value} {below : List Frame} {meth : Method} {c : Code} {kc ks : Nat} {E : zE} {qk qc qz : Nat} {a_gaps : Nat → Int32} {a_behind : Nat → Int32} {cf_voices : Int32} {cf_step : Int32} {ca_parts : Nat → Int32} {ca_heights : Nat → Int32} {z_tab : Nat → Int32} {post : Int32 → (Nat → Int32) → (Nat → Int32) → (Nat → Int32) → Prop} {x4 : Int32} {x5 : Int32} {ls : Array Slot} {H : Heap} {locs : List Loc}
    (zc : zC p s m args meth c cX5_leastStep 6 RX5 (some .int))
    (hK : zK E s)
    (hM : wkW E qk qc qz a_gaps a_behind cf_voices cf_step ca_parts ca_heights z_tab H)
    (hS : va_S (wkA qk qc qz) s.heap H locs)
    (hl : lv_has ls 6 [(1, .ref qc), (2, .ref qz), (4, .int x4), (5, .int x5)])
    (hw : q_wk_X5_leastStep_3_113 a_gaps a_behind cf_voices cf_step ca_parts ca_heights z_tab x4 x5 post) :
    W p l e (rm_wk_X5_leastStep_3 kc ks) s m args below meth c H locs kc ks (MQ below (zQi (S := (Nat → Int32) × (Nat → Int32) × (Nat → Int32)) (fun r u => post r u.1 u.2.1 u.2.2) (fun u H => wkW E qk qc qz u.1 u.2.1 cf_voices cf_step ca_parts ca_heights u.2.2 H) (wkA qk qc qz)) args s kc ks (wkA qk qc qz)) (F0 m 113 ls []) := by
  have hx := zc.1
  have hb := zc.2.1
  refine hw (fun x4 x5 => ∀ (H : Heap) (locs : List Loc) (ls : Array Slot), lv_has ls 6 [(1, .ref qc), (2, .ref qz), (4, .int x4), (5, .int x5)] → wkW E qk qc qz a_gaps a_behind cf_voices cf_step ca_parts ca_heights z_tab H → va_S (wkA qk qc qz) s.heap H locs → W p l e (rm_wk_X5_leastStep_3 kc ks) s m args below meth c H locs kc ks (MQ below (zQi (S := (Nat → Int32) × (Nat → Int32) × (Nat → Int32)) (fun r u => post r u.1 u.2.1 u.2.2) (fun u H => wkW E qk qc qz u.1 u.2.1 cf_voices cf_step ca_parts ca_heights u.2.2 H) (wkA qk qc qz)) args s kc ks (wkA qk qc qz)) (F0 m 113 ls [])) ?_ _ _ _ hl hM hS
  intro x4 x5 hw H locs ls hl hM hS
  refine lv_iload hx hb dX5_leastStep_113 (lv_at hl 3 rfl) ?_
  refine lv_aload_n hx hb dX5_leastStep_115 rfl (lv_at hl 0 rfl) ?_
  refine wkg_5_26_3 zc hK hM dX5_leastStep_116 ?_
  refine lv_icmp_ge (tgt := 147) hx hb dX5_leastStep_119 (by decide) (fun hc => ?_) (fun hc => ?_)
  · have hw := hw.1 hc
    refine lv_iload hx hb dX5_leastStep_147 (lv_at hl 2 rfl) ?_
    refine zSN_i [.int x4] [] zc ky_X10_nearOrNone kz_X10_nearOrNone (hK.2 _ kn_5_59) (c_z_X10_nearOrNone l hw) (zPre0 _) rfl rfl hl.1 (Nat.le_of_ble_eq_true rfl) ⟨rfl, rfl⟩ ⟨Nat.le_of_ble_eq_true rfl, Nat.le_of_ble_eq_true rfl⟩ ⟨(Nat.le_refl _), (Nat.le_refl _)⟩ dX5_leastStep_149 (fun r_1 hw => ?_)
    exact zret_iw ⟨a_gaps, a_behind, z_tab⟩ zc hS hw hM dX5_leastStep_152
  · have hw := hw.2 hc
    refine lv_iload hx hb dX5_leastStep_122 (lv_at hl 2 rfl) ?_
    refine lv_aload_n hx hb dX5_leastStep_124 rfl (lv_at hl 1 rfl) ?_
    refine lv_iconst (v := (1 : Int32)) hx hb dX5_leastStep_125 (by decide) ?_
    refine lv_iload hx hb dX5_leastStep_126 (lv_at hl 3 rfl) ?_
    refine lv_ishl hx hb dX5_leastStep_128 ?_
    refine lv_bipush (v := (9 : Int32)) hx hb dX5_leastStep_129 (by decide) ?_
    refine lv_imul hx hb dX5_leastStep_131 ?_
    refine lv_iload hx hb dX5_leastStep_132 (lv_at hl 3 rfl) ?_
    refine lv_iadd hx hb dX5_leastStep_134 ?_
    refine wkld_6 zc hK hM hw.1 dX5_leastStep_135 ?_
    have hw := hw.2
    refine va_mmin hx hb (zc.2.2.1.trans hl.1.symm) zc.2.2.2.1 (zc.2.2.2.2.1 _ km_5_54) (zc.2.2.2.2.1 _ k_mmins) (zc.2.2.2.2.1 _ k_mini) (zc.2.2.2.2.1 _ k_mminc) (Nat.le_of_ble_eq_true rfl) (Nat.le_of_ble_eq_true rfl) (Nat.le_refl _) (Nat.le_refl _) dX5_leastStep_136 ?_
    refine lv_topi (fun v_1 ev_1 => ?_)
    have hw := hw v_1 ev_1
    refine lv_istore (lv' := [(4, .int v_1), (1, .ref qc), (2, .ref qz), (5, .int x5)]) hx hb dX5_leastStep_139 hl (by decide) rfl (fun ls hl => ?_)
    obtain ⟨v_2, ev_2⟩ : ∃ y : Int32, y = x5 + (1 : Int32) := ⟨_, rfl⟩
    have hw := hw v_2 ev_2
    refine lv_iinc (v := v_2) (k := 3) (lv' := [(5, .int v_2), (4, .int v_1), (1, .ref qc), (2, .ref qz)]) hx hb dX5_leastStep_141 hl rfl (by rw [ev_2]; rfl) (by decide) rfl (fun ls hl => ?_)
    refine lv_goto (tgt := 113) hx hb dX5_leastStep_144 (by decide) ?_
    exact hw _ _ _ (lv_sub hl [2, 3, 1, 0] rfl) hM hS
set_option maxRecDepth 20000 in
theorem t_wk_X5_leastStep_3_93 {p : Program} {l : Launch} {e : Env} {s : State} {m : MethodId} {args : Array Value} {below : List Frame} {meth : Method} {c : Code} {kc ks : Nat} {E : zE} {qk qc qz : Nat} {a_gaps : Nat → Int32} {a_behind : Nat → Int32} {cf_voices : Int32} {cf_step : Int32} {ca_parts : Nat → Int32} {ca_heights : Nat → Int32} {z_tab : Nat → Int32} {P31 : Int32 → (Nat → Int32) → Prop} {P39 : Int32 → (Nat → Int32) → Prop} {post : Int32 → (Nat → Int32) → (Nat → Int32) → (Nat → Int32) → Prop} {x3 : Int32} {x4 : Int32} {x5 : Int32} {ls : Array Slot} {H : Heap} {locs : List Loc}
    (zc : zC p s m args meth c cX5_leastStep 6 RX5 (some .int))
    (hK : zK E s)
    (hM : wkW E qk qc qz a_gaps a_behind cf_voices cf_step ca_parts ca_heights z_tab H)
    (hS : va_S (wkA qk qc qz) s.heap H locs)
    (hP31 : ∀ (x4 : Int32) (z_tab : Nat → Int32) (H : Heap) (locs : List Loc) (ls : Array Slot), P31 x4 z_tab → lv_has ls 6 [(0, .ref qk), (1, .ref qc), (2, .ref qz), (3, .int x3), (4, .int x4)] → wkW E qk qc qz a_gaps a_behind cf_voices cf_step ca_parts ca_heights z_tab H → va_S (wkA qk qc qz) s.heap H locs → W p l e (rm_wk_X5_leastStep_3 kc ks) s m args below meth c H locs kc ks (MQ below (zQi (S := (Nat → Int32) × (Nat → Int32) × (Nat → Int32)) (fun r u => post r u.1 u.2.1 u.2.2) (fun u H => wkW E qk qc qz u.1 u.2.1 cf_voices cf_step ca_parts ca_heights u.2.2 H) (wkA qk qc qz)) args s kc ks (wkA qk qc qz)) (F0 m 31 ls []))
    (hP39 : ∀ (x5 : Int32) (z_tab : Nat → Int32) (H : Heap) (locs : List Loc) (ls : Array Slot), P39 x5 z_tab → lv_has ls 6 [(0, .ref qk), (1, .ref qc), (2, .ref qz), (3, .int x3), (4, .int x4), (5, .int x5)] → wkW E qk qc qz a_gaps a_behind cf_voices cf_step ca_parts ca_heights z_tab H → va_S (wkA qk qc qz) s.heap H locs → W p l e (rm_wk_X5_leastStep_3 kc ks) s m args below meth c H locs kc ks (MQ below (zQi (S := (Nat → Int32) × (Nat → Int32) × (Nat → Int32)) (fun r u => post r u.1 u.2.1 u.2.2) (fun u H => wkW E qk qc qz u.1 u.2.1 cf_voices cf_step ca_parts ca_heights u.2.2 H) (wkA qk qc qz)) args s kc ks (wkA qk qc qz)) (F0 m 39 ls []))
    (hl : lv_has ls 6 [(0, .ref qk), (1, .ref qc), (2, .ref qz), (3, .int x3), (4, .int x4), (5, .int x5)])
    (hw : q_wk_X5_leastStep_3_93 P31 P39 a_gaps a_behind cf_voices cf_step ca_parts ca_heights z_tab x3 x4 x5 post) :
    W p l e (rm_wk_X5_leastStep_3 kc ks) s m args below meth c H locs kc ks (MQ below (zQi (S := (Nat → Int32) × (Nat → Int32) × (Nat → Int32)) (fun r u => post r u.1 u.2.1 u.2.2) (fun u H => wkW E qk qc qz u.1 u.2.1 cf_voices cf_step ca_parts ca_heights u.2.2 H) (wkA qk qc qz)) args s kc ks (wkA qk qc qz)) (F0 m 93 ls []) := by
  have hx := zc.1
  have hb := zc.2.1
  obtain ⟨v_1, ev_1⟩ : ∃ y : Int32, y = x5 + (1 : Int32) := ⟨_, rfl⟩
  have hw := hw v_1 ev_1
  refine lv_iinc (v := v_1) (k := 5) (lv' := [(5, .int v_1), (0, .ref qk), (1, .ref qc), (2, .ref qz), (3, .int x3), (4, .int x4)]) hx hb dX5_leastStep_93 hl rfl (by rw [ev_1]; rfl) (by decide) rfl (fun ls hl => ?_)
  refine lv_goto (tgt := 39) hx hb dX5_leastStep_96 (by decide) ?_
  exact hP39 _ _ _ _ _ hw (lv_sub hl [1, 2, 3, 4, 5, 0] rfl) hM hS
set_option maxRecDepth 20000 in
theorem t_wk_X5_leastStep_3_92 {p : Program} {l : Launch} {e : Env} {s : State} {m : MethodId} {args : Array Value} {below : List Frame} {meth : Method} {c : Code} {kc ks : Nat} {E : zE} {qk qc qz : Nat} {a_gaps : Nat → Int32} {a_behind : Nat → Int32} {cf_voices : Int32} {cf_step : Int32} {ca_parts : Nat → Int32} {ca_heights : Nat → Int32} {z_tab : Nat → Int32} {P31 : Int32 → (Nat → Int32) → Prop} {P39 : Int32 → (Nat → Int32) → Prop} {post : Int32 → (Nat → Int32) → (Nat → Int32) → (Nat → Int32) → Prop} {x3 : Int32} {x4 : Int32} {x5 : Int32} {y0 : Int32} {y1 : Int32} {ls : Array Slot} {H : Heap} {locs : List Loc}
    (zc : zC p s m args meth c cX5_leastStep 6 RX5 (some .int))
    (hK : zK E s)
    (hM : wkW E qk qc qz a_gaps a_behind cf_voices cf_step ca_parts ca_heights z_tab H)
    (hS : va_S (wkA qk qc qz) s.heap H locs)
    (hP31 : ∀ (x4 : Int32) (z_tab : Nat → Int32) (H : Heap) (locs : List Loc) (ls : Array Slot), P31 x4 z_tab → lv_has ls 6 [(0, .ref qk), (1, .ref qc), (2, .ref qz), (3, .int x3), (4, .int x4)] → wkW E qk qc qz a_gaps a_behind cf_voices cf_step ca_parts ca_heights z_tab H → va_S (wkA qk qc qz) s.heap H locs → W p l e (rm_wk_X5_leastStep_3 kc ks) s m args below meth c H locs kc ks (MQ below (zQi (S := (Nat → Int32) × (Nat → Int32) × (Nat → Int32)) (fun r u => post r u.1 u.2.1 u.2.2) (fun u H => wkW E qk qc qz u.1 u.2.1 cf_voices cf_step ca_parts ca_heights u.2.2 H) (wkA qk qc qz)) args s kc ks (wkA qk qc qz)) (F0 m 31 ls []))
    (hP39 : ∀ (x5 : Int32) (z_tab : Nat → Int32) (H : Heap) (locs : List Loc) (ls : Array Slot), P39 x5 z_tab → lv_has ls 6 [(0, .ref qk), (1, .ref qc), (2, .ref qz), (3, .int x3), (4, .int x4), (5, .int x5)] → wkW E qk qc qz a_gaps a_behind cf_voices cf_step ca_parts ca_heights z_tab H → va_S (wkA qk qc qz) s.heap H locs → W p l e (rm_wk_X5_leastStep_3 kc ks) s m args below meth c H locs kc ks (MQ below (zQi (S := (Nat → Int32) × (Nat → Int32) × (Nat → Int32)) (fun r u => post r u.1 u.2.1 u.2.2) (fun u H => wkW E qk qc qz u.1 u.2.1 cf_voices cf_step ca_parts ca_heights u.2.2 H) (wkA qk qc qz)) args s kc ks (wkA qk qc qz)) (F0 m 39 ls []))
    (hl : lv_has ls 6 [(0, .ref qk), (1, .ref qc), (2, .ref qz), (3, .int x3), (4, .int x4), (5, .int x5)])
    (hw : q_wk_X5_leastStep_3_92 P31 P39 a_gaps a_behind cf_voices cf_step ca_parts ca_heights z_tab x3 x4 x5 y0 y1 post) :
    W p l e (rm_wk_X5_leastStep_3 kc ks) s m args below meth c H locs kc ks (MQ below (zQi (S := (Nat → Int32) × (Nat → Int32) × (Nat → Int32)) (fun r u => post r u.1 u.2.1 u.2.2) (fun u H => wkW E qk qc qz u.1 u.2.1 cf_voices cf_step ca_parts ca_heights u.2.2 H) (wkA qk qc qz)) args s kc ks (wkA qk qc qz)) (F0 m 92 ls [.int y1, .int y0, .ref qz]) := by
  have hx := zc.1
  have hb := zc.2.1
  refine wkst_6 zc hK hM hS hw.1 dX5_leastStep_92 (fun z_tab_1 H locs ez_tab_1 hM hS => ?_)
  have hw := hw.2 z_tab_1 ez_tab_1
  exact t_wk_X5_leastStep_3_93 zc hK hM hS hP31 hP39 (lv_sub hl [0, 1, 2, 3, 4, 5] rfl) hw
set_option maxRecDepth 20000 in
theorem t_wk_X5_leastStep_3_39 {p : Program} {l : Launch} {e : Env} {s : State} {m : MethodId} {args : Array Value} {below : List Frame} {meth : Method} {c : Code} {kc ks : Nat} {E : zE} {qk qc qz : Nat} {a_gaps : Nat → Int32} {a_behind : Nat → Int32} {cf_voices : Int32} {cf_step : Int32} {ca_parts : Nat → Int32} {ca_heights : Nat → Int32} {z_tab : Nat → Int32} {P31 : Int32 → (Nat → Int32) → Prop} {post : Int32 → (Nat → Int32) → (Nat → Int32) → (Nat → Int32) → Prop} {x3 : Int32} {x4 : Int32} {x5 : Int32} {ls : Array Slot} {H : Heap} {locs : List Loc}
    (zc : zC p s m args meth c cX5_leastStep 6 RX5 (some .int))
    (hK : zK E s)
    (hM : wkW E qk qc qz a_gaps a_behind cf_voices cf_step ca_parts ca_heights z_tab H)
    (hS : va_S (wkA qk qc qz) s.heap H locs)
    (hP31 : ∀ (x4 : Int32) (z_tab : Nat → Int32) (H : Heap) (locs : List Loc) (ls : Array Slot), P31 x4 z_tab → lv_has ls 6 [(0, .ref qk), (1, .ref qc), (2, .ref qz), (3, .int x3), (4, .int x4)] → wkW E qk qc qz a_gaps a_behind cf_voices cf_step ca_parts ca_heights z_tab H → va_S (wkA qk qc qz) s.heap H locs → W p l e (rm_wk_X5_leastStep_3 kc ks) s m args below meth c H locs kc ks (MQ below (zQi (S := (Nat → Int32) × (Nat → Int32) × (Nat → Int32)) (fun r u => post r u.1 u.2.1 u.2.2) (fun u H => wkW E qk qc qz u.1 u.2.1 cf_voices cf_step ca_parts ca_heights u.2.2 H) (wkA qk qc qz)) args s kc ks (wkA qk qc qz)) (F0 m 31 ls []))
    (hl : lv_has ls 6 [(0, .ref qk), (1, .ref qc), (2, .ref qz), (3, .int x3), (4, .int x4), (5, .int x5)])
    (hw : q_wk_X5_leastStep_3_39 P31 a_gaps a_behind cf_voices cf_step ca_parts ca_heights z_tab x3 x4 x5 post) :
    W p l e (rm_wk_X5_leastStep_3 kc ks) s m args below meth c H locs kc ks (MQ below (zQi (S := (Nat → Int32) × (Nat → Int32) × (Nat → Int32)) (fun r u => post r u.1 u.2.1 u.2.2) (fun u H => wkW E qk qc qz u.1 u.2.1 cf_voices cf_step ca_parts ca_heights u.2.2 H) (wkA qk qc qz)) args s kc ks (wkA qk qc qz)) (F0 m 39 ls []) := by
  have hx := zc.1
  have hb := zc.2.1
  refine hw (fun x5 z_tab => ∀ (H : Heap) (locs : List Loc) (ls : Array Slot), lv_has ls 6 [(0, .ref qk), (1, .ref qc), (2, .ref qz), (3, .int x3), (4, .int x4), (5, .int x5)] → wkW E qk qc qz a_gaps a_behind cf_voices cf_step ca_parts ca_heights z_tab H → va_S (wkA qk qc qz) s.heap H locs → W p l e (rm_wk_X5_leastStep_3 kc ks) s m args below meth c H locs kc ks (MQ below (zQi (S := (Nat → Int32) × (Nat → Int32) × (Nat → Int32)) (fun r u => post r u.1 u.2.1 u.2.2) (fun u H => wkW E qk qc qz u.1 u.2.1 cf_voices cf_step ca_parts ca_heights u.2.2 H) (wkA qk qc qz)) args s kc ks (wkA qk qc qz)) (F0 m 39 ls [])) ?_ _ _ _ hl hM hS
  intro x5 z_tab hw H locs ls hl hM hS
  refine lv_iload hx hb dX5_leastStep_39 (lv_at hl 5 rfl) ?_
  refine lv_aload_n hx hb dX5_leastStep_41 rfl (lv_at hl 1 rfl) ?_
  refine wkg_5_26_3 zc hK hM dX5_leastStep_42 ?_
  refine lv_icmp_ge (tgt := 99) hx hb dX5_leastStep_45 (by decide) (fun hc => ?_) (fun hc => ?_)
  · have hw := hw.1 hc
    obtain ⟨v_1, ev_1⟩ : ∃ y : Int32, y = x4 + (-1 : Int32) := ⟨_, rfl⟩
    have hw := hw v_1 ev_1
    refine lv_iinc (v := v_1) (k := 4) (lv' := [(4, .int v_1), (0, .ref qk), (1, .ref qc), (2, .ref qz), (3, .int x3), (5, .int x5)]) hx hb dX5_leastStep_99 hl rfl (by rw [ev_1]; rfl) (by decide) rfl (fun ls hl => ?_)
    refine lv_goto (tgt := 31) hx hb dX5_leastStep_102 (by decide) ?_
    exact hP31 _ _ _ _ _ hw (lv_sub hl [1, 2, 3, 4, 0] rfl) hM hS
  · have hw := hw.2 hc
    refine lv_iload hx hb dX5_leastStep_48 (lv_at hl 4 rfl) ?_
    refine lv_iload hx hb dX5_leastStep_50 (lv_at hl 5 rfl) ?_
    refine zSN_i [.int x4, .int x5] [] zc ky_X10_has kz_X10_has (hK.2 _ kn_5_32) (c_z_X10_has l hw) (zPre0 _) rfl rfl hl.1 (Nat.le_of_ble_eq_true rfl) ⟨rfl, rfl⟩ ⟨Nat.le_of_ble_eq_true rfl, Nat.le_of_ble_eq_true rfl⟩ ⟨(Nat.le_refl _), (Nat.le_refl _)⟩ dX5_leastStep_52 (fun r_1 hw => ?_)
    refine lv_if_eq (tgt := 93) hx hb dX5_leastStep_55 (by decide) (fun hc => ?_) (fun hc => ?_)
    · have hw := hw.1 hc
      exact t_wk_X5_leastStep_3_93 zc hK hM hS hP31 (fun _ _ H locs ls h hl hM hS => h H locs ls hl hM hS) (lv_sub hl [0, 1, 2, 3, 4, 5] rfl) hw
    · have hw := hw.2 hc
      refine lv_aload_n hx hb dX5_leastStep_58 rfl (lv_at hl 2 rfl) ?_
      refine lv_iload hx hb dX5_leastStep_59 (lv_at hl 4 rfl) ?_
      refine lv_bipush (v := (9 : Int32)) hx hb dX5_leastStep_61 (by decide) ?_
      refine lv_imul hx hb dX5_leastStep_63 ?_
      refine lv_iload hx hb dX5_leastStep_64 (lv_at hl 5 rfl) ?_
      refine lv_iadd hx hb dX5_leastStep_66 ?_
      refine lv_iload hx hb dX5_leastStep_67 (lv_at hl 4 rfl) ?_
      refine lv_iload_n hx hb dX5_leastStep_69 rfl (lv_at hl 3 rfl) ?_
      refine lv_icmp_ne (tgt := 77) hx hb dX5_leastStep_70 (by decide) (fun hc => ?_) (fun hc => ?_)
      · have hw := hw.1 hc
        refine lv_aload_n hx hb dX5_leastStep_77 rfl (lv_at hl 0 rfl) ?_
        refine lv_aload_n hx hb dX5_leastStep_78 rfl (lv_at hl 2 rfl) ?_
        refine lv_iload hx hb dX5_leastStep_79 (lv_at hl 4 rfl) ?_
        refine lv_iload_n hx hb dX5_leastStep_81 rfl (lv_at hl 3 rfl) ?_
        refine lv_iload hx hb dX5_leastStep_82 (lv_at hl 4 rfl) ?_
        refine lv_iconst (v := (-1 : Int32)) hx hb dX5_leastStep_84 (by decide) ?_
        refine lv_ixor hx hb dX5_leastStep_85 ?_
        refine lv_iand hx hb dX5_leastStep_86 ?_
        refine lv_iload hx hb dX5_leastStep_87 (lv_at hl 5 rfl) ?_
        refine zV_i [.ref qz, .int x4, .int (x3 &&& (x4 ^^^ (-1 : Int32))), .int x5] [.int ((x4 * (9 : Int32)) + x5), .ref qz] zc ky_X5_stepOn kz_X5_stepOn km_5_50 (c_wk_X5_stepOn_6 l hw) (wkPreV0 hK hM) rfl rfl hl.1 (Nat.le_of_ble_eq_true rfl) ⟨rfl, rfl⟩ ⟨Nat.le_of_ble_eq_true rfl, Nat.le_of_ble_eq_true rfl⟩ ⟨(Nat.le_refl _), (Nat.le_refl _)⟩ dX5_leastStep_89 (fun r_2 hw => ?_)
        exact t_wk_X5_leastStep_3_92 zc hK hM hS hP31 (fun _ _ H locs ls h hl hM hS => h H locs ls hl hM hS) (lv_sub hl [0, 1, 2, 3, 4, 5] rfl) hw
      · have hw := hw.2 hc
        refine lv_iconst (v := (0 : Int32)) hx hb dX5_leastStep_73 (by decide) ?_
        refine lv_goto (tgt := 92) hx hb dX5_leastStep_74 (by decide) ?_
        exact t_wk_X5_leastStep_3_92 zc hK hM hS hP31 (fun _ _ H locs ls h hl hM hS => h H locs ls hl hM hS) (lv_sub hl [0, 1, 2, 3, 4, 5] rfl) hw
set_option maxRecDepth 20000 in
theorem t_wk_X5_leastStep_3_31 {p : Program} {l : Launch} {e : Env} {s : State} {m : MethodId} {args : Array Value} {below : List Frame} {meth : Method} {c : Code} {kc ks : Nat} {E : zE} {qk qc qz : Nat} {a_gaps : Nat → Int32} {a_behind : Nat → Int32} {cf_voices : Int32} {cf_step : Int32} {ca_parts : Nat → Int32} {ca_heights : Nat → Int32} {z_tab : Nat → Int32} {post : Int32 → (Nat → Int32) → (Nat → Int32) → (Nat → Int32) → Prop} {x3 : Int32} {x4 : Int32} {ls : Array Slot} {H : Heap} {locs : List Loc}
    (zc : zC p s m args meth c cX5_leastStep 6 RX5 (some .int))
    (hK : zK E s)
    (hM : wkW E qk qc qz a_gaps a_behind cf_voices cf_step ca_parts ca_heights z_tab H)
    (hS : va_S (wkA qk qc qz) s.heap H locs)
    (hl : lv_has ls 6 [(0, .ref qk), (1, .ref qc), (2, .ref qz), (3, .int x3), (4, .int x4)])
    (hw : q_wk_X5_leastStep_3_31 a_gaps a_behind cf_voices cf_step ca_parts ca_heights z_tab x3 x4 post) :
    W p l e (rm_wk_X5_leastStep_3 kc ks) s m args below meth c H locs kc ks (MQ below (zQi (S := (Nat → Int32) × (Nat → Int32) × (Nat → Int32)) (fun r u => post r u.1 u.2.1 u.2.2) (fun u H => wkW E qk qc qz u.1 u.2.1 cf_voices cf_step ca_parts ca_heights u.2.2 H) (wkA qk qc qz)) args s kc ks (wkA qk qc qz)) (F0 m 31 ls []) := by
  have hx := zc.1
  have hb := zc.2.1
  refine hw (fun x4 z_tab => ∀ (H : Heap) (locs : List Loc) (ls : Array Slot), lv_has ls 6 [(0, .ref qk), (1, .ref qc), (2, .ref qz), (3, .int x3), (4, .int x4)] → wkW E qk qc qz a_gaps a_behind cf_voices cf_step ca_parts ca_heights z_tab H → va_S (wkA qk qc qz) s.heap H locs → W p l e (rm_wk_X5_leastStep_3 kc ks) s m args below meth c H locs kc ks (MQ below (zQi (S := (Nat → Int32) × (Nat → Int32) × (Nat → Int32)) (fun r u => post r u.1 u.2.1 u.2.2) (fun u H => wkW E qk qc qz u.1 u.2.1 cf_voices cf_step ca_parts ca_heights u.2.2 H) (wkA qk qc qz)) args s kc ks (wkA qk qc qz)) (F0 m 31 ls [])) ?_ _ _ _ hl hM hS
  intro x4 z_tab hw H locs ls hl hM hS
  refine lv_iload hx hb dX5_leastStep_31 (lv_at hl 4 rfl) ?_
  refine lv_if_le (tgt := 105) hx hb dX5_leastStep_33 (by decide) (fun hc => ?_) (fun hc => ?_)
  · have hw := hw.1 hc
    refine lv_sipush (v := (1000 : Int32)) hx hb dX5_leastStep_105 (by decide) ?_
    refine lv_istore (lv' := [(4, .int (1000 : Int32)), (0, .ref qk), (1, .ref qc), (2, .ref qz), (3, .int x3)]) hx hb dX5_leastStep_108 hl (by decide) rfl (fun ls hl => ?_)
    refine lv_iconst (v := (0 : Int32)) hx hb dX5_leastStep_110 (by decide) ?_
    refine lv_istore (lv' := [(5, .int (0 : Int32)), (4, .int (1000 : Int32)), (0, .ref qk), (1, .ref qc), (2, .ref qz), (3, .int x3)]) hx hb dX5_leastStep_111 hl (by decide) rfl (fun ls hl => ?_)
    exact t_wk_X5_leastStep_3_113 zc hK hM hS  (lv_sub hl [3, 4, 1, 0] rfl) hw
  · have hw := hw.2 hc
    refine lv_iconst (v := (0 : Int32)) hx hb dX5_leastStep_36 (by decide) ?_
    refine lv_istore (lv' := [(5, .int (0 : Int32)), (0, .ref qk), (1, .ref qc), (2, .ref qz), (3, .int x3), (4, .int x4)]) hx hb dX5_leastStep_37 hl (by decide) rfl (fun ls hl => ?_)
    exact t_wk_X5_leastStep_3_39 zc hK hM hS (fun _ _ H locs ls h hl hM hS => h H locs ls hl hM hS) (lv_sub hl [1, 2, 3, 4, 5, 0] rfl) hw
set_option maxRecDepth 20000 in
theorem t_wk_X5_leastStep_3_19 {p : Program} {l : Launch} {e : Env} {s : State} {m : MethodId} {args : Array Value} {below : List Frame} {meth : Method} {c : Code} {kc ks : Nat} {E : zE} {qk qc qz : Nat} {a_gaps : Nat → Int32} {a_behind : Nat → Int32} {cf_voices : Int32} {cf_step : Int32} {ca_parts : Nat → Int32} {ca_heights : Nat → Int32} {z_tab : Nat → Int32} {post : Int32 → (Nat → Int32) → (Nat → Int32) → (Nat → Int32) → Prop} {ls : Array Slot} {H : Heap} {locs : List Loc}
    (zc : zC p s m args meth c cX5_leastStep 6 RX5 (some .int))
    (hK : zK E s)
    (hM : wkW E qk qc qz a_gaps a_behind cf_voices cf_step ca_parts ca_heights z_tab H)
    (hS : va_S (wkA qk qc qz) s.heap H locs)
    (hl : lv_has ls 6 [(0, .ref qk), (1, .ref qc), (2, .ref qz)])
    (hw : q_wk_X5_leastStep_3_19 a_gaps a_behind cf_voices cf_step ca_parts ca_heights z_tab post) :
    W p l e (rm_wk_X5_leastStep_3 kc ks) s m args below meth c H locs kc ks (MQ below (zQi (S := (Nat → Int32) × (Nat → Int32) × (Nat → Int32)) (fun r u => post r u.1 u.2.1 u.2.2) (fun u H => wkW E qk qc qz u.1 u.2.1 cf_voices cf_step ca_parts ca_heights u.2.2 H) (wkA qk qc qz)) args s kc ks (wkA qk qc qz)) (F0 m 19 ls []) := by
  have hx := zc.1
  have hb := zc.2.1
  refine lv_iconst (v := (1 : Int32)) hx hb dX5_leastStep_19 (by decide) ?_
  refine lv_aload_n hx hb dX5_leastStep_20 rfl (lv_at hl 1 rfl) ?_
  refine wkg_5_26_3 zc hK hM dX5_leastStep_21 ?_
  refine lv_ishl hx hb dX5_leastStep_24 ?_
  refine lv_iconst (v := (1 : Int32)) hx hb dX5_leastStep_25 (by decide) ?_
  refine lv_isub hx hb dX5_leastStep_26 ?_
  refine lv_topi (fun v_1 ev_1 => ?_)
  have hw := hw v_1 ev_1
  refine lv_istore_n (lv' := [(3, .int v_1), (0, .ref qk), (1, .ref qc), (2, .ref qz)]) hx hb dX5_leastStep_27 rfl hl (by decide) rfl (fun ls hl => ?_)
  refine lv_iload_n hx hb dX5_leastStep_28 rfl (lv_at hl 0 rfl) ?_
  refine lv_istore (lv' := [(4, .int v_1), (3, .int v_1), (0, .ref qk), (1, .ref qc), (2, .ref qz)]) hx hb dX5_leastStep_29 hl (by decide) rfl (fun ls hl => ?_)
  exact t_wk_X5_leastStep_3_31 zc hK hM hS  (lv_sub hl [2, 3, 4, 1, 0] rfl) hw
set_option maxRecDepth 20000 in
theorem t_wk_X5_leastStep_3_0 {p : Program} {l : Launch} {e : Env} {s : State} {m : MethodId} {args : Array Value} {below : List Frame} {meth : Method} {c : Code} {kc ks : Nat} {E : zE} {qk qc qz : Nat} {a_gaps : Nat → Int32} {a_behind : Nat → Int32} {cf_voices : Int32} {cf_step : Int32} {ca_parts : Nat → Int32} {ca_heights : Nat → Int32} {z_tab : Nat → Int32} {post : Int32 → (Nat → Int32) → (Nat → Int32) → (Nat → Int32) → Prop} {ls : Array Slot} {H : Heap} {locs : List Loc}
    (zc : zC p s m args meth c cX5_leastStep 6 RX5 (some .int))
    (hK : zK E s)
    (hM : wkW E qk qc qz a_gaps a_behind cf_voices cf_step ca_parts ca_heights z_tab H)
    (hS : va_S (wkA qk qc qz) s.heap H locs)
    (hl : lv_has ls 6 [(0, .ref qk), (1, .ref qc)])
    (hw : q_wk_X5_leastStep_3_0 a_gaps a_behind cf_voices cf_step ca_parts ca_heights z_tab post) :
    W p l e (rm_wk_X5_leastStep_3 kc ks) s m args below meth c H locs kc ks (MQ below (zQi (S := (Nat → Int32) × (Nat → Int32) × (Nat → Int32)) (fun r u => post r u.1 u.2.1 u.2.2) (fun u H => wkW E qk qc qz u.1 u.2.1 cf_voices cf_step ca_parts ca_heights u.2.2 H) (wkA qk qc qz)) args s kc ks (wkA qk qc qz)) (F0 m 0 ls []) := by
  have hx := zc.1
  have hb := zc.2.1
  refine lv_aload_n hx hb dX5_leastStep_0 rfl (lv_at hl 1 rfl) ?_
  refine wkg_5_26_3 zc hK hM dX5_leastStep_1 ?_
  refine lv_if_ne (tgt := 9) hx hb dX5_leastStep_4 (by decide) (fun hc => ?_) (fun hc => ?_)
  · have hw := hw.1 hc
    refine lv_aload_n hx hb dX5_leastStep_9 rfl (lv_at hl 0 rfl) ?_
    refine lv_aload_n hx hb dX5_leastStep_10 rfl (lv_at hl 1 rfl) ?_
    refine zVw_v [.ref qc] [] zc ky_X5_measure kz_X5_measure km_5_18 (c_wk_X5_measure_3 l hw) (wkPreV0 hK hM) hS rfl rfl hl.1 (Nat.le_of_ble_eq_true rfl) ⟨rfl, rfl⟩ ⟨Nat.le_of_ble_eq_true rfl, Nat.le_of_ble_eq_true rfl⟩ ⟨(Nat.le_refl _), (Nat.le_refl _)⟩ dX5_leastStep_11 (fun u H locs hw hM hS => ?_)
    obtain ⟨a_gaps_1, a_behind_1⟩ := u
    refine lv_aload_n hx hb dX5_leastStep_14 rfl (lv_at hl 0 rfl) ?_
    refine zV_r [] [] zc ky_X5_table kz_X5_table km_5_22 (c_wk_X5_table l hw) (wkPreV0 hK hM) rfl rfl hl.1 (Nat.le_of_ble_eq_true rfl) ⟨rfl, rfl⟩ ⟨Nat.le_of_ble_eq_true rfl, Nat.le_of_ble_eq_true rfl⟩ ⟨(Nat.le_refl _), (Nat.le_refl _)⟩ dX5_leastStep_15 (fun r_1 hw => ?_)
    by_cases hc0 : r_1 = 0
    · have hw := hw.1 hc0
      exact hw.elim
    have hw := hw.2 hc0
    refine W.eq (g2 := F0 m 18 ls (.ref qz :: [])) (by simp [hc0]) ?_
    refine lv_astore_n (lv' := [(2, .ref qz), (0, .ref qk), (1, .ref qc)]) hx hb dX5_leastStep_18 rfl hl (by decide) rfl (fun ls hl => ?_)
    exact t_wk_X5_leastStep_3_19 zc hK hM hS  (lv_sub hl [1, 2, 0] rfl) hw
  · have hw := hw.2 hc
    refine lv_iconst (v := (0 : Int32)) hx hb dX5_leastStep_7 (by decide) ?_
    exact zret_iw ⟨a_gaps, a_behind, z_tab⟩ zc hS hw hM dX5_leastStep_8
set_option maxRecDepth 20000 in
theorem c_wk_X5_leastStep_3 (l : Launch) {E : zE} {qk qc qz : Nat} {a_gaps : Nat → Int32} {a_behind : Nat → Int32} {cf_voices : Int32} {cf_step : Int32} {ca_parts : Nat → Int32} {ca_heights : Nat → Int32} {z_tab : Nat → Int32} {post : Int32 → (Nat → Int32) → (Nat → Int32) → (Nat → Int32) → Prop} (hw : q_wk_X5_leastStep_3_0 a_gaps a_behind cf_voices cf_step ca_parts ca_heights z_tab post) : Met l yX5_leastStep (Cond.code yX5_leastStep cX5_leastStep 6 (some .int) :: zb) (rm_wk_X5_leastStep_3 0 0) (va_Pc [.ref qk, .ref qc] (fun U => wkW E qk qc qz a_gaps a_behind cf_voices cf_step ca_parts ca_heights z_tab U.heap ∧ zK E U)) (zQi (S := (Nat → Int32) × (Nat → Int32) × (Nat → Int32)) (fun r u => post r u.1 u.2.1 u.2.2) (fun u H => wkW E qk qc qz u.1 u.2.1 cf_voices cf_step ca_parts ca_heights u.2.2 H) (wkA qk qc qz)) 0 0 (wkA qk qc qz) := by
  refine Met.ofW (cc := cX5_leastStep) (maxL := 6) (ret := (some .int)) (by decide) rfl ?_
  intro p e s m args below meth c s₁ B hml hv
  obtain ⟨rfl, hM, hK⟩ := hv
  have zc := zc_of B hml
  have hl := lv_entry ([.ref qk, .ref qc]) (n := 6) (Nat.le_of_ble_eq_true rfl)
  rw [lg_entry_eq]
  generalize (lg_sl ([.ref qk, .ref qc]) ++ List.replicate (6 - (lg_sl ([.ref qk, .ref qc])).length) Slot.unset).toArray = ls at hl ⊢
  have hl : lv_has ls 6 [(0, .ref qk), (1, .ref qc)] := hl
  exact t_wk_X5_leastStep_3_0 zc hK hM va_S.rf (lv_sub hl [0, 1] rfl) hw
end
