-- wr_J7_fill_53178_3
abbrev rm_wr_J7_fill_53178_3 : Room := { frames := 0, cells := 0, slots := 0, locals := 0 }
def q_wr_J7_fill_53178_3_5 (la_ladders : Nat → Int32) (x1 : Int32) (x2 : Int32) (x3 : Int32) (post : (Nat → Int32) → Prop) : Prop :=
  ∀ P5 : Int32 → (Nat → Int32) → Prop, (∀ (x2 : Int32) (la_ladders : Nat → Int32), ((x3 ≤ x2 → (post la_ladders)) ∧ (¬ x3 ≤ x2 → (vp_in x2 9 ∧ (∀ la_ladders_1 : Nat → Int32, la_ladders_1 = upd la_ladders (Int32.toNatClampNeg x2) x1 → (∀ v_1 : Int32, v_1 = x2 + (1 : Int32) → (P5 v_1 la_ladders_1)))))) → P5 x2 la_ladders) → P5 x2 la_ladders
def q_wr_J7_fill_53178_3_0 (la_ladders : Nat → Int32) (x1 : Int32) (post : (Nat → Int32) → Prop) : Prop :=
  q_wr_J7_fill_53178_3_5 la_ladders x1 (0 : Int32) (9 : Int32) post
set_option maxRecDepth 20000 in
theorem t_wr_J7_fill_53178_3_5 {p : Program} {l : Launch} {e : Env} {s : State} {m : MethodId} {args : Array Value} {below : List Frame} {meth : Method} {c : Code} {E : zE} {qr qt : Nat} {lf_huts : Int32} {lf_singers : Int32} {lf_villages : Int32} {lf_dams : Int32} {lf_echoes : Int32} {lf_deep : Int32} {lf_slide : Int32} {la_heights : Nat → Int32} {la_ladders : Nat → Int32} {la_minutes : Nat → Int32} {la_echoFrom : Nat → Int32} {la_echoTo : Nat → Int32} {la_homes : Nat → Int32} {la_talls : Nat → Int32} {la_known : Nat → Int32} {vf_deeds : Int32} {va_kinds : Nat → Int32} {va_firsts : Nat → Int32} {va_seconds : Nat → Int32} {sf_facts : Int32} {sa_heard : Nat → Int32} {sa_huts : Nat → Int32} {sa_minutes : Nat → Int32} {cf_voices : Int32} {cf_step : Int32} {ca_parts : Nat → Int32} {ca_heights : Nat → Int32} {f_fault : Int32} {f_faultPlace : Int32} {a_numbers : Nat → Int32} {a_tape : Nat → Int32} {f_length : Int32} {f_behind : Int32} {f_kind : Int32} {f_first : Int32} {f_value : Int32} {f_hutsToldOf : Int32} {f_singersToldOf : Int32} {z_from : Nat → Int32} {post : (Nat → Int32) → Prop} {x1 : Int32} {x2 : Int32} {x3 : Int32} {ls : Array Slot} {H : Heap} {locs : List Loc}
    (zc : zC p s m args meth c cJ7_fill_53178 4 RJ7 none)
    (hK : zK E s)
    (hM : wrW E qr qt lf_huts lf_singers lf_villages lf_dams lf_echoes lf_deep lf_slide la_heights la_ladders la_minutes la_echoFrom la_echoTo la_homes la_talls la_known vf_deeds va_kinds va_firsts va_seconds sf_facts sa_heard sa_huts sa_minutes cf_voices cf_step ca_parts ca_heights f_fault f_faultPlace a_numbers a_tape f_length f_behind f_kind f_first f_value f_hutsToldOf f_singersToldOf z_from H)
    (hS : va_S (wrA qr qt) s.heap H locs)
    (hl : lv_has ls 4 [(0, .ref (qr + 3)), (1, .int x1), (2, .int x2), (3, .int x3)])
    (hw : q_wr_J7_fill_53178_3_5 la_ladders x1 x2 x3 post) :
    W p l e rm_wr_J7_fill_53178_3 s m args below meth c H locs 0 0 (MQ below (zQv (S := (Nat → Int32)) (fun u => post u) (fun u H => wrW E qr qt lf_huts lf_singers lf_villages lf_dams lf_echoes lf_deep lf_slide la_heights u la_minutes la_echoFrom la_echoTo la_homes la_talls la_known vf_deeds va_kinds va_firsts va_seconds sf_facts sa_heard sa_huts sa_minutes cf_voices cf_step ca_parts ca_heights f_fault f_faultPlace a_numbers a_tape f_length f_behind f_kind f_first f_value f_hutsToldOf f_singersToldOf z_from H) (wrA qr qt)) args s 0 0 (wrA qr qt)) (F0 m 5 ls []) := by
  have hx := zc.1
  have hb := zc.2.1
  refine hw (fun x2 la_ladders => ∀ (H : Heap) (locs : List Loc) (ls : Array Slot), lv_has ls 4 [(0, .ref (qr + 3)), (1, .int x1), (2, .int x2), (3, .int x3)] → wrW E qr qt lf_huts lf_singers lf_villages lf_dams lf_echoes lf_deep lf_slide la_heights la_ladders la_minutes la_echoFrom la_echoTo la_homes la_talls la_known vf_deeds va_kinds va_firsts va_seconds sf_facts sa_heard sa_huts sa_minutes cf_voices cf_step ca_parts ca_heights f_fault f_faultPlace a_numbers a_tape f_length f_behind f_kind f_first f_value f_hutsToldOf f_singersToldOf z_from H → va_S (wrA qr qt) s.heap H locs → W p l e rm_wr_J7_fill_53178_3 s m args below meth c H locs 0 0 (MQ below (zQv (S := (Nat → Int32)) (fun u => post u) (fun u H => wrW E qr qt lf_huts lf_singers lf_villages lf_dams lf_echoes lf_deep lf_slide la_heights u la_minutes la_echoFrom la_echoTo la_homes la_talls la_known vf_deeds va_kinds va_firsts va_seconds sf_facts sa_heard sa_huts sa_minutes cf_voices cf_step ca_parts ca_heights f_fault f_faultPlace a_numbers a_tape f_length f_behind f_kind f_first f_value f_hutsToldOf f_singersToldOf z_from H) (wrA qr qt)) args s 0 0 (wrA qr qt)) (F0 m 5 ls [])) ?_ _ _ _ hl hM hS
  intro x2 la_ladders hw H locs ls hl hM hS
  refine lv_iload_n hx hb dJ7_fill_53178_5 rfl (lv_at hl 2 rfl) ?_
  refine lv_iload_n hx hb dJ7_fill_53178_6 rfl (lv_at hl 3 rfl) ?_
  refine lv_icmp_ge (tgt := 20) hx hb dJ7_fill_53178_7 (by decide) (fun hc => ?_) (fun hc => ?_)
  · have hw := hw.1 hc
    exact zret_vw la_ladders zc hS hw hM dJ7_fill_53178_20
  · have hw := hw.2 hc
    refine lv_aload_n hx hb dJ7_fill_53178_10 rfl (lv_at hl 0 rfl) ?_
    refine lv_iload_n hx hb dJ7_fill_53178_11 rfl (lv_at hl 2 rfl) ?_
    refine lv_iload_n hx hb dJ7_fill_53178_12 rfl (lv_at hl 1 rfl) ?_
    refine wrst_3 zc hK hM hS hw.1 dJ7_fill_53178_13 (fun la_ladders_1 H locs ela_ladders_1 hM hS => ?_)
    have hw := hw.2 la_ladders_1 ela_ladders_1
    obtain ⟨v_1, ev_1⟩ : ∃ y : Int32, y = x2 + (1 : Int32) := ⟨_, rfl⟩
    have hw := hw v_1 ev_1
    refine lv_iinc (v := v_1) (k := 2) (lv' := [(2, .int v_1), (0, .ref (qr + 3)), (1, .int x1), (3, .int x3)]) hx hb dJ7_fill_53178_14 hl rfl (by rw [ev_1]; rfl) (by decide) rfl (fun ls hl => ?_)
    refine lv_goto (tgt := 5) hx hb dJ7_fill_53178_17 (by decide) ?_
    exact hw _ _ _ (lv_sub hl [1, 2, 0, 3] rfl) hM hS
set_option maxRecDepth 20000 in
theorem t_wr_J7_fill_53178_3_0 {p : Program} {l : Launch} {e : Env} {s : State} {m : MethodId} {args : Array Value} {below : List Frame} {meth : Method} {c : Code} {E : zE} {qr qt : Nat} {lf_huts : Int32} {lf_singers : Int32} {lf_villages : Int32} {lf_dams : Int32} {lf_echoes : Int32} {lf_deep : Int32} {lf_slide : Int32} {la_heights : Nat → Int32} {la_ladders : Nat → Int32} {la_minutes : Nat → Int32} {la_echoFrom : Nat → Int32} {la_echoTo : Nat → Int32} {la_homes : Nat → Int32} {la_talls : Nat → Int32} {la_known : Nat → Int32} {vf_deeds : Int32} {va_kinds : Nat → Int32} {va_firsts : Nat → Int32} {va_seconds : Nat → Int32} {sf_facts : Int32} {sa_heard : Nat → Int32} {sa_huts : Nat → Int32} {sa_minutes : Nat → Int32} {cf_voices : Int32} {cf_step : Int32} {ca_parts : Nat → Int32} {ca_heights : Nat → Int32} {f_fault : Int32} {f_faultPlace : Int32} {a_numbers : Nat → Int32} {a_tape : Nat → Int32} {f_length : Int32} {f_behind : Int32} {f_kind : Int32} {f_first : Int32} {f_value : Int32} {f_hutsToldOf : Int32} {f_singersToldOf : Int32} {z_from : Nat → Int32} {post : (Nat → Int32) → Prop} {x1 : Int32} {ls : Array Slot} {H : Heap} {locs : List Loc}
    (zc : zC p s m args meth c cJ7_fill_53178 4 RJ7 none)
    (hK : zK E s)
    (hM : wrW E qr qt lf_huts lf_singers lf_villages lf_dams lf_echoes lf_deep lf_slide la_heights la_ladders la_minutes la_echoFrom la_echoTo la_homes la_talls la_known vf_deeds va_kinds va_firsts va_seconds sf_facts sa_heard sa_huts sa_minutes cf_voices cf_step ca_parts ca_heights f_fault f_faultPlace a_numbers a_tape f_length f_behind f_kind f_first f_value f_hutsToldOf f_singersToldOf z_from H)
    (hS : va_S (wrA qr qt) s.heap H locs)
    (hl : lv_has ls 4 [(0, .ref (qr + 3)), (1, .int x1)])
    (hw : q_wr_J7_fill_53178_3_0 la_ladders x1 post) :
    W p l e rm_wr_J7_fill_53178_3 s m args below meth c H locs 0 0 (MQ below (zQv (S := (Nat → Int32)) (fun u => post u) (fun u H => wrW E qr qt lf_huts lf_singers lf_villages lf_dams lf_echoes lf_deep lf_slide la_heights u la_minutes la_echoFrom la_echoTo la_homes la_talls la_known vf_deeds va_kinds va_firsts va_seconds sf_facts sa_heard sa_huts sa_minutes cf_voices cf_step ca_parts ca_heights f_fault f_faultPlace a_numbers a_tape f_length f_behind f_kind f_first f_value f_hutsToldOf f_singersToldOf z_from H) (wrA qr qt)) args s 0 0 (wrA qr qt)) (F0 m 0 ls []) := by
  have hx := zc.1
  have hb := zc.2.1
  refine lv_iconst (v := (0 : Int32)) hx hb dJ7_fill_53178_0 (by decide) ?_
  refine lv_istore_n (lv' := [(2, .int (0 : Int32)), (0, .ref (qr + 3)), (1, .int x1)]) hx hb dJ7_fill_53178_1 rfl hl (by decide) rfl (fun ls hl => ?_)
  refine lv_aload_n hx hb dJ7_fill_53178_2 rfl (lv_at hl 1 rfl) ?_
  refine va_alen (v := (9 : Int32)) hx hb hK.1 hM.1 3 1 rfl rfl rfl dJ7_fill_53178_3 ?_
  refine lv_istore_n (lv' := [(3, .int (9 : Int32)), (2, .int (0 : Int32)), (0, .ref (qr + 3)), (1, .int x1)]) hx hb dJ7_fill_53178_4 rfl hl (by decide) rfl (fun ls hl => ?_)
  exact t_wr_J7_fill_53178_3_5 zc hK hM hS  (lv_sub hl [2, 3, 1, 0] rfl) hw
set_option maxRecDepth 20000 in
theorem c_wr_J7_fill_53178_3 (l : Launch) {E : zE} {qr qt : Nat} {lf_huts : Int32} {lf_singers : Int32} {lf_villages : Int32} {lf_dams : Int32} {lf_echoes : Int32} {lf_deep : Int32} {lf_slide : Int32} {la_heights : Nat → Int32} {la_ladders : Nat → Int32} {la_minutes : Nat → Int32} {la_echoFrom : Nat → Int32} {la_echoTo : Nat → Int32} {la_homes : Nat → Int32} {la_talls : Nat → Int32} {la_known : Nat → Int32} {vf_deeds : Int32} {va_kinds : Nat → Int32} {va_firsts : Nat → Int32} {va_seconds : Nat → Int32} {sf_facts : Int32} {sa_heard : Nat → Int32} {sa_huts : Nat → Int32} {sa_minutes : Nat → Int32} {cf_voices : Int32} {cf_step : Int32} {ca_parts : Nat → Int32} {ca_heights : Nat → Int32} {f_fault : Int32} {f_faultPlace : Int32} {a_numbers : Nat → Int32} {a_tape : Nat → Int32} {f_length : Int32} {f_behind : Int32} {f_kind : Int32} {f_first : Int32} {f_value : Int32} {f_hutsToldOf : Int32} {f_singersToldOf : Int32} {z_from : Nat → Int32} {x1 : Int32} {post : (Nat → Int32) → Prop} (hw : q_wr_J7_fill_53178_3_0 la_ladders x1 post) : Met l yJ7_fill_53178 (Cond.code yJ7_fill_53178 cJ7_fill_53178 4 none :: zb) rm_wr_J7_fill_53178_3 (va_Pc [.ref (qr + 3), .int x1] (fun U => wrW E qr qt lf_huts lf_singers lf_villages lf_dams lf_echoes lf_deep lf_slide la_heights la_ladders la_minutes la_echoFrom la_echoTo la_homes la_talls la_known vf_deeds va_kinds va_firsts va_seconds sf_facts sa_heard sa_huts sa_minutes cf_voices cf_step ca_parts ca_heights f_fault f_faultPlace a_numbers a_tape f_length f_behind f_kind f_first f_value f_hutsToldOf f_singersToldOf z_from U.heap ∧ zK E U)) (zQv (S := (Nat → Int32)) (fun u => post u) (fun u H => wrW E qr qt lf_huts lf_singers lf_villages lf_dams lf_echoes lf_deep lf_slide la_heights u la_minutes la_echoFrom la_echoTo la_homes la_talls la_known vf_deeds va_kinds va_firsts va_seconds sf_facts sa_heard sa_huts sa_minutes cf_voices cf_step ca_parts ca_heights f_fault f_faultPlace a_numbers a_tape f_length f_behind f_kind f_first f_value f_hutsToldOf f_singersToldOf z_from H) (wrA qr qt)) 0 0 (wrA qr qt) := by
  refine Met.ofW (cc := cJ7_fill_53178) (maxL := 4) (ret := none) (by decide) rfl ?_
  intro p e s m args below meth c s₁ B hml hv
  obtain ⟨rfl, hM, hK⟩ := hv
  have zc := zc_of B hml
  have hl := lv_entry ([.ref (qr + 3), .int x1]) (n := 4) (Nat.le_of_ble_eq_true rfl)
  rw [lg_entry_eq]
  generalize (lg_sl ([.ref (qr + 3), .int x1]) ++ List.replicate (4 - (lg_sl ([.ref (qr + 3), .int x1])).length) Slot.unset).toArray = ls at hl ⊢
  have hl : lv_has ls 4 [(0, .ref (qr + 3)), (1, .int x1)] := hl
  exact t_wr_J7_fill_53178_3_0 zc hK hM va_S.rf (lv_sub hl [0, 1] rfl) hw
-- wr_J7_fill_53178_4
abbrev rm_wr_J7_fill_53178_4 : Room := { frames := 0, cells := 0, slots := 0, locals := 0 }
def q_wr_J7_fill_53178_4_5 (la_minutes : Nat → Int32) (x1 : Int32) (x2 : Int32) (x3 : Int32) (post : (Nat → Int32) → Prop) : Prop :=
  ∀ P5 : Int32 → (Nat → Int32) → Prop, (∀ (x2 : Int32) (la_minutes : Nat → Int32), ((x3 ≤ x2 → (post la_minutes)) ∧ (¬ x3 ≤ x2 → (vp_in x2 81 ∧ (∀ la_minutes_1 : Nat → Int32, la_minutes_1 = upd la_minutes (Int32.toNatClampNeg x2) x1 → (∀ v_1 : Int32, v_1 = x2 + (1 : Int32) → (P5 v_1 la_minutes_1)))))) → P5 x2 la_minutes) → P5 x2 la_minutes
def q_wr_J7_fill_53178_4_0 (la_minutes : Nat → Int32) (x1 : Int32) (post : (Nat → Int32) → Prop) : Prop :=
  q_wr_J7_fill_53178_4_5 la_minutes x1 (0 : Int32) (81 : Int32) post
set_option maxRecDepth 20000 in
theorem t_wr_J7_fill_53178_4_5 {p : Program} {l : Launch} {e : Env} {s : State} {m : MethodId} {args : Array Value} {below : List Frame} {meth : Method} {c : Code} {E : zE} {qr qt : Nat} {lf_huts : Int32} {lf_singers : Int32} {lf_villages : Int32} {lf_dams : Int32} {lf_echoes : Int32} {lf_deep : Int32} {lf_slide : Int32} {la_heights : Nat → Int32} {la_ladders : Nat → Int32} {la_minutes : Nat → Int32} {la_echoFrom : Nat → Int32} {la_echoTo : Nat → Int32} {la_homes : Nat → Int32} {la_talls : Nat → Int32} {la_known : Nat → Int32} {vf_deeds : Int32} {va_kinds : Nat → Int32} {va_firsts : Nat → Int32} {va_seconds : Nat → Int32} {sf_facts : Int32} {sa_heard : Nat → Int32} {sa_huts : Nat → Int32} {sa_minutes : Nat → Int32} {cf_voices : Int32} {cf_step : Int32} {ca_parts : Nat → Int32} {ca_heights : Nat → Int32} {f_fault : Int32} {f_faultPlace : Int32} {a_numbers : Nat → Int32} {a_tape : Nat → Int32} {f_length : Int32} {f_behind : Int32} {f_kind : Int32} {f_first : Int32} {f_value : Int32} {f_hutsToldOf : Int32} {f_singersToldOf : Int32} {z_from : Nat → Int32} {post : (Nat → Int32) → Prop} {x1 : Int32} {x2 : Int32} {x3 : Int32} {ls : Array Slot} {H : Heap} {locs : List Loc}
    (zc : zC p s m args meth c cJ7_fill_53178 4 RJ7 none)
    (hK : zK E s)
    (hM : wrW E qr qt lf_huts lf_singers lf_villages lf_dams lf_echoes lf_deep lf_slide la_heights la_ladders la_minutes la_echoFrom la_echoTo la_homes la_talls la_known vf_deeds va_kinds va_firsts va_seconds sf_facts sa_heard sa_huts sa_minutes cf_voices cf_step ca_parts ca_heights f_fault f_faultPlace a_numbers a_tape f_length f_behind f_kind f_first f_value f_hutsToldOf f_singersToldOf z_from H)
    (hS : va_S (wrA qr qt) s.heap H locs)
    (hl : lv_has ls 4 [(0, .ref (qr + 4)), (1, .int x1), (2, .int x2), (3, .int x3)])
    (hw : q_wr_J7_fill_53178_4_5 la_minutes x1 x2 x3 post) :
    W p l e rm_wr_J7_fill_53178_4 s m args below meth c H locs 0 0 (MQ below (zQv (S := (Nat → Int32)) (fun u => post u) (fun u H => wrW E qr qt lf_huts lf_singers lf_villages lf_dams lf_echoes lf_deep lf_slide la_heights la_ladders u la_echoFrom la_echoTo la_homes la_talls la_known vf_deeds va_kinds va_firsts va_seconds sf_facts sa_heard sa_huts sa_minutes cf_voices cf_step ca_parts ca_heights f_fault f_faultPlace a_numbers a_tape f_length f_behind f_kind f_first f_value f_hutsToldOf f_singersToldOf z_from H) (wrA qr qt)) args s 0 0 (wrA qr qt)) (F0 m 5 ls []) := by
  have hx := zc.1
  have hb := zc.2.1
  refine hw (fun x2 la_minutes => ∀ (H : Heap) (locs : List Loc) (ls : Array Slot), lv_has ls 4 [(0, .ref (qr + 4)), (1, .int x1), (2, .int x2), (3, .int x3)] → wrW E qr qt lf_huts lf_singers lf_villages lf_dams lf_echoes lf_deep lf_slide la_heights la_ladders la_minutes la_echoFrom la_echoTo la_homes la_talls la_known vf_deeds va_kinds va_firsts va_seconds sf_facts sa_heard sa_huts sa_minutes cf_voices cf_step ca_parts ca_heights f_fault f_faultPlace a_numbers a_tape f_length f_behind f_kind f_first f_value f_hutsToldOf f_singersToldOf z_from H → va_S (wrA qr qt) s.heap H locs → W p l e rm_wr_J7_fill_53178_4 s m args below meth c H locs 0 0 (MQ below (zQv (S := (Nat → Int32)) (fun u => post u) (fun u H => wrW E qr qt lf_huts lf_singers lf_villages lf_dams lf_echoes lf_deep lf_slide la_heights la_ladders u la_echoFrom la_echoTo la_homes la_talls la_known vf_deeds va_kinds va_firsts va_seconds sf_facts sa_heard sa_huts sa_minutes cf_voices cf_step ca_parts ca_heights f_fault f_faultPlace a_numbers a_tape f_length f_behind f_kind f_first f_value f_hutsToldOf f_singersToldOf z_from H) (wrA qr qt)) args s 0 0 (wrA qr qt)) (F0 m 5 ls [])) ?_ _ _ _ hl hM hS
  intro x2 la_minutes hw H locs ls hl hM hS
  refine lv_iload_n hx hb dJ7_fill_53178_5 rfl (lv_at hl 2 rfl) ?_
  refine lv_iload_n hx hb dJ7_fill_53178_6 rfl (lv_at hl 3 rfl) ?_
  refine lv_icmp_ge (tgt := 20) hx hb dJ7_fill_53178_7 (by decide) (fun hc => ?_) (fun hc => ?_)
  · have hw := hw.1 hc
    exact zret_vw la_minutes zc hS hw hM dJ7_fill_53178_20
  · have hw := hw.2 hc
    refine lv_aload_n hx hb dJ7_fill_53178_10 rfl (lv_at hl 0 rfl) ?_
    refine lv_iload_n hx hb dJ7_fill_53178_11 rfl (lv_at hl 2 rfl) ?_
    refine lv_iload_n hx hb dJ7_fill_53178_12 rfl (lv_at hl 1 rfl) ?_
    refine wrst_4 zc hK hM hS hw.1 dJ7_fill_53178_13 (fun la_minutes_1 H locs ela_minutes_1 hM hS => ?_)
    have hw := hw.2 la_minutes_1 ela_minutes_1
    obtain ⟨v_1, ev_1⟩ : ∃ y : Int32, y = x2 + (1 : Int32) := ⟨_, rfl⟩
    have hw := hw v_1 ev_1
    refine lv_iinc (v := v_1) (k := 2) (lv' := [(2, .int v_1), (0, .ref (qr + 4)), (1, .int x1), (3, .int x3)]) hx hb dJ7_fill_53178_14 hl rfl (by rw [ev_1]; rfl) (by decide) rfl (fun ls hl => ?_)
    refine lv_goto (tgt := 5) hx hb dJ7_fill_53178_17 (by decide) ?_
    exact hw _ _ _ (lv_sub hl [1, 2, 0, 3] rfl) hM hS
set_option maxRecDepth 20000 in
theorem t_wr_J7_fill_53178_4_0 {p : Program} {l : Launch} {e : Env} {s : State} {m : MethodId} {args : Array Value} {below : List Frame} {meth : Method} {c : Code} {E : zE} {qr qt : Nat} {lf_huts : Int32} {lf_singers : Int32} {lf_villages : Int32} {lf_dams : Int32} {lf_echoes : Int32} {lf_deep : Int32} {lf_slide : Int32} {la_heights : Nat → Int32} {la_ladders : Nat → Int32} {la_minutes : Nat → Int32} {la_echoFrom : Nat → Int32} {la_echoTo : Nat → Int32} {la_homes : Nat → Int32} {la_talls : Nat → Int32} {la_known : Nat → Int32} {vf_deeds : Int32} {va_kinds : Nat → Int32} {va_firsts : Nat → Int32} {va_seconds : Nat → Int32} {sf_facts : Int32} {sa_heard : Nat → Int32} {sa_huts : Nat → Int32} {sa_minutes : Nat → Int32} {cf_voices : Int32} {cf_step : Int32} {ca_parts : Nat → Int32} {ca_heights : Nat → Int32} {f_fault : Int32} {f_faultPlace : Int32} {a_numbers : Nat → Int32} {a_tape : Nat → Int32} {f_length : Int32} {f_behind : Int32} {f_kind : Int32} {f_first : Int32} {f_value : Int32} {f_hutsToldOf : Int32} {f_singersToldOf : Int32} {z_from : Nat → Int32} {post : (Nat → Int32) → Prop} {x1 : Int32} {ls : Array Slot} {H : Heap} {locs : List Loc}
    (zc : zC p s m args meth c cJ7_fill_53178 4 RJ7 none)
    (hK : zK E s)
    (hM : wrW E qr qt lf_huts lf_singers lf_villages lf_dams lf_echoes lf_deep lf_slide la_heights la_ladders la_minutes la_echoFrom la_echoTo la_homes la_talls la_known vf_deeds va_kinds va_firsts va_seconds sf_facts sa_heard sa_huts sa_minutes cf_voices cf_step ca_parts ca_heights f_fault f_faultPlace a_numbers a_tape f_length f_behind f_kind f_first f_value f_hutsToldOf f_singersToldOf z_from H)
    (hS : va_S (wrA qr qt) s.heap H locs)
    (hl : lv_has ls 4 [(0, .ref (qr + 4)), (1, .int x1)])
    (hw : q_wr_J7_fill_53178_4_0 la_minutes x1 post) :
    W p l e rm_wr_J7_fill_53178_4 s m args below meth c H locs 0 0 (MQ below (zQv (S := (Nat → Int32)) (fun u => post u) (fun u H => wrW E qr qt lf_huts lf_singers lf_villages lf_dams lf_echoes lf_deep lf_slide la_heights la_ladders u la_echoFrom la_echoTo la_homes la_talls la_known vf_deeds va_kinds va_firsts va_seconds sf_facts sa_heard sa_huts sa_minutes cf_voices cf_step ca_parts ca_heights f_fault f_faultPlace a_numbers a_tape f_length f_behind f_kind f_first f_value f_hutsToldOf f_singersToldOf z_from H) (wrA qr qt)) args s 0 0 (wrA qr qt)) (F0 m 0 ls []) := by
  have hx := zc.1
  have hb := zc.2.1
  refine lv_iconst (v := (0 : Int32)) hx hb dJ7_fill_53178_0 (by decide) ?_
  refine lv_istore_n (lv' := [(2, .int (0 : Int32)), (0, .ref (qr + 4)), (1, .int x1)]) hx hb dJ7_fill_53178_1 rfl hl (by decide) rfl (fun ls hl => ?_)
  refine lv_aload_n hx hb dJ7_fill_53178_2 rfl (lv_at hl 1 rfl) ?_
  refine va_alen (v := (81 : Int32)) hx hb hK.1 hM.1 4 1 rfl rfl rfl dJ7_fill_53178_3 ?_
  refine lv_istore_n (lv' := [(3, .int (81 : Int32)), (2, .int (0 : Int32)), (0, .ref (qr + 4)), (1, .int x1)]) hx hb dJ7_fill_53178_4 rfl hl (by decide) rfl (fun ls hl => ?_)
  exact t_wr_J7_fill_53178_4_5 zc hK hM hS  (lv_sub hl [2, 3, 1, 0] rfl) hw
set_option maxRecDepth 20000 in
theorem c_wr_J7_fill_53178_4 (l : Launch) {E : zE} {qr qt : Nat} {lf_huts : Int32} {lf_singers : Int32} {lf_villages : Int32} {lf_dams : Int32} {lf_echoes : Int32} {lf_deep : Int32} {lf_slide : Int32} {la_heights : Nat → Int32} {la_ladders : Nat → Int32} {la_minutes : Nat → Int32} {la_echoFrom : Nat → Int32} {la_echoTo : Nat → Int32} {la_homes : Nat → Int32} {la_talls : Nat → Int32} {la_known : Nat → Int32} {vf_deeds : Int32} {va_kinds : Nat → Int32} {va_firsts : Nat → Int32} {va_seconds : Nat → Int32} {sf_facts : Int32} {sa_heard : Nat → Int32} {sa_huts : Nat → Int32} {sa_minutes : Nat → Int32} {cf_voices : Int32} {cf_step : Int32} {ca_parts : Nat → Int32} {ca_heights : Nat → Int32} {f_fault : Int32} {f_faultPlace : Int32} {a_numbers : Nat → Int32} {a_tape : Nat → Int32} {f_length : Int32} {f_behind : Int32} {f_kind : Int32} {f_first : Int32} {f_value : Int32} {f_hutsToldOf : Int32} {f_singersToldOf : Int32} {z_from : Nat → Int32} {x1 : Int32} {post : (Nat → Int32) → Prop} (hw : q_wr_J7_fill_53178_4_0 la_minutes x1 post) : Met l yJ7_fill_53178 (Cond.code yJ7_fill_53178 cJ7_fill_53178 4 none :: zb) rm_wr_J7_fill_53178_4 (va_Pc [.ref (qr + 4), .int x1] (fun U => wrW E qr qt lf_huts lf_singers lf_villages lf_dams lf_echoes lf_deep lf_slide la_heights la_ladders la_minutes la_echoFrom la_echoTo la_homes la_talls la_known vf_deeds va_kinds va_firsts va_seconds sf_facts sa_heard sa_huts sa_minutes cf_voices cf_step ca_parts ca_heights f_fault f_faultPlace a_numbers a_tape f_length f_behind f_kind f_first f_value f_hutsToldOf f_singersToldOf z_from U.heap ∧ zK E U)) (zQv (S := (Nat → Int32)) (fun u => post u) (fun u H => wrW E qr qt lf_huts lf_singers lf_villages lf_dams lf_echoes lf_deep lf_slide la_heights la_ladders u la_echoFrom la_echoTo la_homes la_talls la_known vf_deeds va_kinds va_firsts va_seconds sf_facts sa_heard sa_huts sa_minutes cf_voices cf_step ca_parts ca_heights f_fault f_faultPlace a_numbers a_tape f_length f_behind f_kind f_first f_value f_hutsToldOf f_singersToldOf z_from H) (wrA qr qt)) 0 0 (wrA qr qt) := by
  refine Met.ofW (cc := cJ7_fill_53178) (maxL := 4) (ret := none) (by decide) rfl ?_
  intro p e s m args below meth c s₁ B hml hv
  obtain ⟨rfl, hM, hK⟩ := hv
  have zc := zc_of B hml
  have hl := lv_entry ([.ref (qr + 4), .int x1]) (n := 4) (Nat.le_of_ble_eq_true rfl)
  rw [lg_entry_eq]
  generalize (lg_sl ([.ref (qr + 4), .int x1]) ++ List.replicate (4 - (lg_sl ([.ref (qr + 4), .int x1])).length) Slot.unset).toArray = ls at hl ⊢
  have hl : lv_has ls 4 [(0, .ref (qr + 4)), (1, .int x1)] := hl
  exact t_wr_J7_fill_53178_4_0 zc hK hM va_S.rf (lv_sub hl [0, 1] rfl) hw
-- wr_J7_fill_53178_9
abbrev rm_wr_J7_fill_53178_9 : Room := { frames := 0, cells := 0, slots := 0, locals := 0 }
def q_wr_J7_fill_53178_9_5 (la_known : Nat → Int32) (x1 : Int32) (x2 : Int32) (x3 : Int32) (post : (Nat → Int32) → Prop) : Prop :=
  ∀ P5 : Int32 → (Nat → Int32) → Prop, (∀ (x2 : Int32) (la_known : Nat → Int32), ((x3 ≤ x2 → (post la_known)) ∧ (¬ x3 ≤ x2 → (vp_in x2 6 ∧ (∀ la_known_1 : Nat → Int32, la_known_1 = upd la_known (Int32.toNatClampNeg x2) x1 → (∀ v_1 : Int32, v_1 = x2 + (1 : Int32) → (P5 v_1 la_known_1)))))) → P5 x2 la_known) → P5 x2 la_known
def q_wr_J7_fill_53178_9_0 (la_known : Nat → Int32) (x1 : Int32) (post : (Nat → Int32) → Prop) : Prop :=
  q_wr_J7_fill_53178_9_5 la_known x1 (0 : Int32) (6 : Int32) post
set_option maxRecDepth 20000 in
theorem t_wr_J7_fill_53178_9_5 {p : Program} {l : Launch} {e : Env} {s : State} {m : MethodId} {args : Array Value} {below : List Frame} {meth : Method} {c : Code} {E : zE} {qr qt : Nat} {lf_huts : Int32} {lf_singers : Int32} {lf_villages : Int32} {lf_dams : Int32} {lf_echoes : Int32} {lf_deep : Int32} {lf_slide : Int32} {la_heights : Nat → Int32} {la_ladders : Nat → Int32} {la_minutes : Nat → Int32} {la_echoFrom : Nat → Int32} {la_echoTo : Nat → Int32} {la_homes : Nat → Int32} {la_talls : Nat → Int32} {la_known : Nat → Int32} {vf_deeds : Int32} {va_kinds : Nat → Int32} {va_firsts : Nat → Int32} {va_seconds : Nat → Int32} {sf_facts : Int32} {sa_heard : Nat → Int32} {sa_huts : Nat → Int32} {sa_minutes : Nat → Int32} {cf_voices : Int32} {cf_step : Int32} {ca_parts : Nat → Int32} {ca_heights : Nat → Int32} {f_fault : Int32} {f_faultPlace : Int32} {a_numbers : Nat → Int32} {a_tape : Nat → Int32} {f_length : Int32} {f_behind : Int32} {f_kind : Int32} {f_first : Int32} {f_value : Int32} {f_hutsToldOf : Int32} {f_singersToldOf : Int32} {z_from : Nat → Int32} {post : (Nat → Int32) → Prop} {x1 : Int32} {x2 : Int32} {x3 : Int32} {ls : Array Slot} {H : Heap} {locs : List Loc}
    (zc : zC p s m args meth c cJ7_fill_53178 4 RJ7 none)
    (hK : zK E s)
    (hM : wrW E qr qt lf_huts lf_singers lf_villages lf_dams lf_echoes lf_deep lf_slide la_heights la_ladders la_minutes la_echoFrom la_echoTo la_homes la_talls la_known vf_deeds va_kinds va_firsts va_seconds sf_facts sa_heard sa_huts sa_minutes cf_voices cf_step ca_parts ca_heights f_fault f_faultPlace a_numbers a_tape f_length f_behind f_kind f_first f_value f_hutsToldOf f_singersToldOf z_from H)
    (hS : va_S (wrA qr qt) s.heap H locs)
    (hl : lv_has ls 4 [(0, .ref (qr + 9)), (1, .int x1), (2, .int x2), (3, .int x3)])
    (hw : q_wr_J7_fill_53178_9_5 la_known x1 x2 x3 post) :
    W p l e rm_wr_J7_fill_53178_9 s m args below meth c H locs 0 0 (MQ below (zQv (S := (Nat → Int32)) (fun u => post u) (fun u H => wrW E qr qt lf_huts lf_singers lf_villages lf_dams lf_echoes lf_deep lf_slide la_heights la_ladders la_minutes la_echoFrom la_echoTo la_homes la_talls u vf_deeds va_kinds va_firsts va_seconds sf_facts sa_heard sa_huts sa_minutes cf_voices cf_step ca_parts ca_heights f_fault f_faultPlace a_numbers a_tape f_length f_behind f_kind f_first f_value f_hutsToldOf f_singersToldOf z_from H) (wrA qr qt)) args s 0 0 (wrA qr qt)) (F0 m 5 ls []) := by
  have hx := zc.1
  have hb := zc.2.1
  refine hw (fun x2 la_known => ∀ (H : Heap) (locs : List Loc) (ls : Array Slot), lv_has ls 4 [(0, .ref (qr + 9)), (1, .int x1), (2, .int x2), (3, .int x3)] → wrW E qr qt lf_huts lf_singers lf_villages lf_dams lf_echoes lf_deep lf_slide la_heights la_ladders la_minutes la_echoFrom la_echoTo la_homes la_talls la_known vf_deeds va_kinds va_firsts va_seconds sf_facts sa_heard sa_huts sa_minutes cf_voices cf_step ca_parts ca_heights f_fault f_faultPlace a_numbers a_tape f_length f_behind f_kind f_first f_value f_hutsToldOf f_singersToldOf z_from H → va_S (wrA qr qt) s.heap H locs → W p l e rm_wr_J7_fill_53178_9 s m args below meth c H locs 0 0 (MQ below (zQv (S := (Nat → Int32)) (fun u => post u) (fun u H => wrW E qr qt lf_huts lf_singers lf_villages lf_dams lf_echoes lf_deep lf_slide la_heights la_ladders la_minutes la_echoFrom la_echoTo la_homes la_talls u vf_deeds va_kinds va_firsts va_seconds sf_facts sa_heard sa_huts sa_minutes cf_voices cf_step ca_parts ca_heights f_fault f_faultPlace a_numbers a_tape f_length f_behind f_kind f_first f_value f_hutsToldOf f_singersToldOf z_from H) (wrA qr qt)) args s 0 0 (wrA qr qt)) (F0 m 5 ls [])) ?_ _ _ _ hl hM hS
  intro x2 la_known hw H locs ls hl hM hS
  refine lv_iload_n hx hb dJ7_fill_53178_5 rfl (lv_at hl 2 rfl) ?_
  refine lv_iload_n hx hb dJ7_fill_53178_6 rfl (lv_at hl 3 rfl) ?_
  refine lv_icmp_ge (tgt := 20) hx hb dJ7_fill_53178_7 (by decide) (fun hc => ?_) (fun hc => ?_)
  · have hw := hw.1 hc
    exact zret_vw la_known zc hS hw hM dJ7_fill_53178_20
  · have hw := hw.2 hc
    refine lv_aload_n hx hb dJ7_fill_53178_10 rfl (lv_at hl 0 rfl) ?_
    refine lv_iload_n hx hb dJ7_fill_53178_11 rfl (lv_at hl 2 rfl) ?_
    refine lv_iload_n hx hb dJ7_fill_53178_12 rfl (lv_at hl 1 rfl) ?_
    refine wrst_9 zc hK hM hS hw.1 dJ7_fill_53178_13 (fun la_known_1 H locs ela_known_1 hM hS => ?_)
    have hw := hw.2 la_known_1 ela_known_1
    obtain ⟨v_1, ev_1⟩ : ∃ y : Int32, y = x2 + (1 : Int32) := ⟨_, rfl⟩
    have hw := hw v_1 ev_1
    refine lv_iinc (v := v_1) (k := 2) (lv' := [(2, .int v_1), (0, .ref (qr + 9)), (1, .int x1), (3, .int x3)]) hx hb dJ7_fill_53178_14 hl rfl (by rw [ev_1]; rfl) (by decide) rfl (fun ls hl => ?_)
    refine lv_goto (tgt := 5) hx hb dJ7_fill_53178_17 (by decide) ?_
    exact hw _ _ _ (lv_sub hl [1, 2, 0, 3] rfl) hM hS
set_option maxRecDepth 20000 in
theorem t_wr_J7_fill_53178_9_0 {p : Program} {l : Launch} {e : Env} {s : State} {m : MethodId} {args : Array Value} {below : List Frame} {meth : Method} {c : Code} {E : zE} {qr qt : Nat} {lf_huts : Int32} {lf_singers : Int32} {lf_villages : Int32} {lf_dams : Int32} {lf_echoes : Int32} {lf_deep : Int32} {lf_slide : Int32} {la_heights : Nat → Int32} {la_ladders : Nat → Int32} {la_minutes : Nat → Int32} {la_echoFrom : Nat → Int32} {la_echoTo : Nat → Int32} {la_homes : Nat → Int32} {la_talls : Nat → Int32} {la_known : Nat → Int32} {vf_deeds : Int32} {va_kinds : Nat → Int32} {va_firsts : Nat → Int32} {va_seconds : Nat → Int32} {sf_facts : Int32} {sa_heard : Nat → Int32} {sa_huts : Nat → Int32} {sa_minutes : Nat → Int32} {cf_voices : Int32} {cf_step : Int32} {ca_parts : Nat → Int32} {ca_heights : Nat → Int32} {f_fault : Int32} {f_faultPlace : Int32} {a_numbers : Nat → Int32} {a_tape : Nat → Int32} {f_length : Int32} {f_behind : Int32} {f_kind : Int32} {f_first : Int32} {f_value : Int32} {f_hutsToldOf : Int32} {f_singersToldOf : Int32} {z_from : Nat → Int32} {post : (Nat → Int32) → Prop} {x1 : Int32} {ls : Array Slot} {H : Heap} {locs : List Loc}
    (zc : zC p s m args meth c cJ7_fill_53178 4 RJ7 none)
    (hK : zK E s)
    (hM : wrW E qr qt lf_huts lf_singers lf_villages lf_dams lf_echoes lf_deep lf_slide la_heights la_ladders la_minutes la_echoFrom la_echoTo la_homes la_talls la_known vf_deeds va_kinds va_firsts va_seconds sf_facts sa_heard sa_huts sa_minutes cf_voices cf_step ca_parts ca_heights f_fault f_faultPlace a_numbers a_tape f_length f_behind f_kind f_first f_value f_hutsToldOf f_singersToldOf z_from H)
    (hS : va_S (wrA qr qt) s.heap H locs)
    (hl : lv_has ls 4 [(0, .ref (qr + 9)), (1, .int x1)])
    (hw : q_wr_J7_fill_53178_9_0 la_known x1 post) :
    W p l e rm_wr_J7_fill_53178_9 s m args below meth c H locs 0 0 (MQ below (zQv (S := (Nat → Int32)) (fun u => post u) (fun u H => wrW E qr qt lf_huts lf_singers lf_villages lf_dams lf_echoes lf_deep lf_slide la_heights la_ladders la_minutes la_echoFrom la_echoTo la_homes la_talls u vf_deeds va_kinds va_firsts va_seconds sf_facts sa_heard sa_huts sa_minutes cf_voices cf_step ca_parts ca_heights f_fault f_faultPlace a_numbers a_tape f_length f_behind f_kind f_first f_value f_hutsToldOf f_singersToldOf z_from H) (wrA qr qt)) args s 0 0 (wrA qr qt)) (F0 m 0 ls []) := by
  have hx := zc.1
  have hb := zc.2.1
  refine lv_iconst (v := (0 : Int32)) hx hb dJ7_fill_53178_0 (by decide) ?_
  refine lv_istore_n (lv' := [(2, .int (0 : Int32)), (0, .ref (qr + 9)), (1, .int x1)]) hx hb dJ7_fill_53178_1 rfl hl (by decide) rfl (fun ls hl => ?_)
  refine lv_aload_n hx hb dJ7_fill_53178_2 rfl (lv_at hl 1 rfl) ?_
  refine va_alen (v := (6 : Int32)) hx hb hK.1 hM.1 9 1 rfl rfl rfl dJ7_fill_53178_3 ?_
  refine lv_istore_n (lv' := [(3, .int (6 : Int32)), (2, .int (0 : Int32)), (0, .ref (qr + 9)), (1, .int x1)]) hx hb dJ7_fill_53178_4 rfl hl (by decide) rfl (fun ls hl => ?_)
  exact t_wr_J7_fill_53178_9_5 zc hK hM hS  (lv_sub hl [2, 3, 1, 0] rfl) hw
set_option maxRecDepth 20000 in
theorem c_wr_J7_fill_53178_9 (l : Launch) {E : zE} {qr qt : Nat} {lf_huts : Int32} {lf_singers : Int32} {lf_villages : Int32} {lf_dams : Int32} {lf_echoes : Int32} {lf_deep : Int32} {lf_slide : Int32} {la_heights : Nat → Int32} {la_ladders : Nat → Int32} {la_minutes : Nat → Int32} {la_echoFrom : Nat → Int32} {la_echoTo : Nat → Int32} {la_homes : Nat → Int32} {la_talls : Nat → Int32} {la_known : Nat → Int32} {vf_deeds : Int32} {va_kinds : Nat → Int32} {va_firsts : Nat → Int32} {va_seconds : Nat → Int32} {sf_facts : Int32} {sa_heard : Nat → Int32} {sa_huts : Nat → Int32} {sa_minutes : Nat → Int32} {cf_voices : Int32} {cf_step : Int32} {ca_parts : Nat → Int32} {ca_heights : Nat → Int32} {f_fault : Int32} {f_faultPlace : Int32} {a_numbers : Nat → Int32} {a_tape : Nat → Int32} {f_length : Int32} {f_behind : Int32} {f_kind : Int32} {f_first : Int32} {f_value : Int32} {f_hutsToldOf : Int32} {f_singersToldOf : Int32} {z_from : Nat → Int32} {x1 : Int32} {post : (Nat → Int32) → Prop} (hw : q_wr_J7_fill_53178_9_0 la_known x1 post) : Met l yJ7_fill_53178 (Cond.code yJ7_fill_53178 cJ7_fill_53178 4 none :: zb) rm_wr_J7_fill_53178_9 (va_Pc [.ref (qr + 9), .int x1] (fun U => wrW E qr qt lf_huts lf_singers lf_villages lf_dams lf_echoes lf_deep lf_slide la_heights la_ladders la_minutes la_echoFrom la_echoTo la_homes la_talls la_known vf_deeds va_kinds va_firsts va_seconds sf_facts sa_heard sa_huts sa_minutes cf_voices cf_step ca_parts ca_heights f_fault f_faultPlace a_numbers a_tape f_length f_behind f_kind f_first f_value f_hutsToldOf f_singersToldOf z_from U.heap ∧ zK E U)) (zQv (S := (Nat → Int32)) (fun u => post u) (fun u H => wrW E qr qt lf_huts lf_singers lf_villages lf_dams lf_echoes lf_deep lf_slide la_heights la_ladders la_minutes la_echoFrom la_echoTo la_homes la_talls u vf_deeds va_kinds va_firsts va_seconds sf_facts sa_heard sa_huts sa_minutes cf_voices cf_step ca_parts ca_heights f_fault f_faultPlace a_numbers a_tape f_length f_behind f_kind f_first f_value f_hutsToldOf f_singersToldOf z_from H) (wrA qr qt)) 0 0 (wrA qr qt) := by
  refine Met.ofW (cc := cJ7_fill_53178) (maxL := 4) (ret := none) (by decide) rfl ?_
  intro p e s m args below meth c s₁ B hml hv
  obtain ⟨rfl, hM, hK⟩ := hv
  have zc := zc_of B hml
  have hl := lv_entry ([.ref (qr + 9), .int x1]) (n := 4) (Nat.le_of_ble_eq_true rfl)
  rw [lg_entry_eq]
  generalize (lg_sl ([.ref (qr + 9), .int x1]) ++ List.replicate (4 - (lg_sl ([.ref (qr + 9), .int x1])).length) Slot.unset).toArray = ls at hl ⊢
  have hl : lv_has ls 4 [(0, .ref (qr + 9)), (1, .int x1)] := hl
  exact t_wr_J7_fill_53178_9_0 zc hK hM va_S.rf (lv_sub hl [0, 1] rfl) hw
-- wr_X2_clear
abbrev rm_wr_X2_clear : Room := { frames := 1, cells := 0, slots := 0, locals := 23 }
def q_wr_X2_clear_0 (lf_huts : Int32) (lf_singers : Int32) (lf_villages : Int32) (lf_dams : Int32) (lf_echoes : Int32) (lf_deep : Int32) (lf_slide : Int32) (la_ladders : Nat → Int32) (la_minutes : Nat → Int32) (la_known : Nat → Int32) (post : (Int32) → (Int32) → (Int32) → (Int32) → (Int32) → (Int32) → (Int32) → (Nat → Int32) → (Nat → Int32) → (Nat → Int32) → Prop) : Prop :=
  q_wr_J7_fill_53178_3_0 la_ladders (0 : Int32) (fun la_ladders_1 => q_wr_J7_fill_53178_4_0 la_minutes (0 : Int32) (fun la_minutes_1 => q_wr_J7_fill_53178_9_0 la_known (0 : Int32) (fun la_known_1 => post (0 : Int32) (0 : Int32) (0 : Int32) (0 : Int32) (0 : Int32) (2 : Int32) (5 : Int32) la_ladders_1 la_minutes_1 la_known_1)))
set_option maxRecDepth 20000 in
theorem t_wr_X2_clear_0 {p : Program} {l : Launch} {e : Env} {s : State} {m : MethodId} {args : Array Value} {below : List Frame} {meth : Method} {c : Code} {E : zE} {qr qt : Nat} {lf_huts : Int32} {lf_singers : Int32} {lf_villages : Int32} {lf_dams : Int32} {lf_echoes : Int32} {lf_deep : Int32} {lf_slide : Int32} {la_heights : Nat → Int32} {la_ladders : Nat → Int32} {la_minutes : Nat → Int32} {la_echoFrom : Nat → Int32} {la_echoTo : Nat → Int32} {la_homes : Nat → Int32} {la_talls : Nat → Int32} {la_known : Nat → Int32} {vf_deeds : Int32} {va_kinds : Nat → Int32} {va_firsts : Nat → Int32} {va_seconds : Nat → Int32} {sf_facts : Int32} {sa_heard : Nat → Int32} {sa_huts : Nat → Int32} {sa_minutes : Nat → Int32} {cf_voices : Int32} {cf_step : Int32} {ca_parts : Nat → Int32} {ca_heights : Nat → Int32} {f_fault : Int32} {f_faultPlace : Int32} {a_numbers : Nat → Int32} {a_tape : Nat → Int32} {f_length : Int32} {f_behind : Int32} {f_kind : Int32} {f_first : Int32} {f_value : Int32} {f_hutsToldOf : Int32} {f_singersToldOf : Int32} {z_from : Nat → Int32} {post : (Int32) → (Int32) → (Int32) → (Int32) → (Int32) → (Int32) → (Int32) → (Nat → Int32) → (Nat → Int32) → (Nat → Int32) → Prop} {ls : Array Slot} {H : Heap} {locs : List Loc}
    (zc : zC p s m args meth c cX2_clear 1 RX2 none)
    (hK : zK E s)
    (hM : wrW E qr qt lf_huts lf_singers lf_villages lf_dams lf_echoes lf_deep lf_slide la_heights la_ladders la_minutes la_echoFrom la_echoTo la_homes la_talls la_known vf_deeds va_kinds va_firsts va_seconds sf_facts sa_heard sa_huts sa_minutes cf_voices cf_step ca_parts ca_heights f_fault f_faultPlace a_numbers a_tape f_length f_behind f_kind f_first f_value f_hutsToldOf f_singersToldOf z_from H)
    (hS : va_S (wrA qr qt) s.heap H locs)
    (hl : lv_has ls 1 [(0, .ref (qr + 1))])
    (hw : q_wr_X2_clear_0 lf_huts lf_singers lf_villages lf_dams lf_echoes lf_deep lf_slide la_ladders la_minutes la_known post) :
    W p l e rm_wr_X2_clear s m args below meth c H locs 0 0 (MQ below (zQv (S := (Int32) × (Int32) × (Int32) × (Int32) × (Int32) × (Int32) × (Int32) × (Nat → Int32) × (Nat → Int32) × (Nat → Int32)) (fun u => post u.1 u.2.1 u.2.2.1 u.2.2.2.1 u.2.2.2.2.1 u.2.2.2.2.2.1 u.2.2.2.2.2.2.1 u.2.2.2.2.2.2.2.1 u.2.2.2.2.2.2.2.2.1 u.2.2.2.2.2.2.2.2.2) (fun u H => wrW E qr qt u.1 u.2.1 u.2.2.1 u.2.2.2.1 u.2.2.2.2.1 u.2.2.2.2.2.1 u.2.2.2.2.2.2.1 la_heights u.2.2.2.2.2.2.2.1 u.2.2.2.2.2.2.2.2.1 la_echoFrom la_echoTo la_homes la_talls u.2.2.2.2.2.2.2.2.2 vf_deeds va_kinds va_firsts va_seconds sf_facts sa_heard sa_huts sa_minutes cf_voices cf_step ca_parts ca_heights f_fault f_faultPlace a_numbers a_tape f_length f_behind f_kind f_first f_value f_hutsToldOf f_singersToldOf z_from H) (wrA qr qt)) args s 0 0 (wrA qr qt)) (F0 m 0 ls []) := by
  have hx := zc.1
  have hb := zc.2.1
  refine lv_aload_n hx hb dX2_clear_0 rfl (lv_at hl 0 rfl) ?_
  refine lv_iconst (v := (0 : Int32)) hx hb dX2_clear_1 (by decide) ?_
  refine wrp_2_43_1 zc hK hM hS dX2_clear_2 (fun H locs hM hS => ?_)
  refine lv_aload_n hx hb dX2_clear_5 rfl (lv_at hl 0 rfl) ?_
  refine lv_iconst (v := (0 : Int32)) hx hb dX2_clear_6 (by decide) ?_
  refine wrp_2_46_1 zc hK hM hS dX2_clear_7 (fun H locs hM hS => ?_)
  refine lv_aload_n hx hb dX2_clear_10 rfl (lv_at hl 0 rfl) ?_
  refine lv_iconst (v := (0 : Int32)) hx hb dX2_clear_11 (by decide) ?_
  refine wrp_2_49_1 zc hK hM hS dX2_clear_12 (fun H locs hM hS => ?_)
  refine lv_aload_n hx hb dX2_clear_15 rfl (lv_at hl 0 rfl) ?_
  refine lv_iconst (v := (0 : Int32)) hx hb dX2_clear_16 (by decide) ?_
  refine wrp_2_52_1 zc hK hM hS dX2_clear_17 (fun H locs hM hS => ?_)
  refine lv_aload_n hx hb dX2_clear_20 rfl (lv_at hl 0 rfl) ?_
  refine lv_iconst (v := (0 : Int32)) hx hb dX2_clear_21 (by decide) ?_
  refine wrp_2_55_1 zc hK hM hS dX2_clear_22 (fun H locs hM hS => ?_)
  refine lv_aload_n hx hb dX2_clear_25 rfl (lv_at hl 0 rfl) ?_
  refine lv_iconst (v := (2 : Int32)) hx hb dX2_clear_26 (by decide) ?_
  refine wrp_2_9_1 zc hK hM hS dX2_clear_27 (fun H locs hM hS => ?_)
  refine lv_aload_n hx hb dX2_clear_30 rfl (lv_at hl 0 rfl) ?_
  refine lv_iconst (v := (5 : Int32)) hx hb dX2_clear_31 (by decide) ?_
  refine wrp_2_15_1 zc hK hM hS dX2_clear_32 (fun H locs hM hS => ?_)
  refine lv_aload_n hx hb dX2_clear_35 rfl (lv_at hl 0 rfl) ?_
  refine wrg_2_22_1 zc hK hM dX2_clear_36 ?_
  refine lv_iconst (v := (0 : Int32)) hx hb dX2_clear_39 (by decide) ?_
  refine zSw_v [.ref (qr + 3), .int (0 : Int32)] [] zc ky_J7_fill_53178 kz_J7_fill_53178 km_2_58 (c_wr_J7_fill_53178_3 l hw) (wrPreS hK hM) hS rfl rfl hl.1 (Nat.le_of_ble_eq_true rfl) ⟨rfl, rfl⟩ ⟨Nat.le_of_ble_eq_true rfl, Nat.le_of_ble_eq_true rfl⟩ ⟨Nat.zero_le _, Nat.zero_le _⟩ dX2_clear_40 (fun la_ladders_1 H locs hw hM hS => ?_)
  refine lv_aload_n hx hb dX2_clear_43 rfl (lv_at hl 0 rfl) ?_
  refine wrg_2_25_1 zc hK hM dX2_clear_44 ?_
  refine lv_iconst (v := (0 : Int32)) hx hb dX2_clear_47 (by decide) ?_
  refine zSw_v [.ref (qr + 4), .int (0 : Int32)] [] zc ky_J7_fill_53178 kz_J7_fill_53178 km_2_58 (c_wr_J7_fill_53178_4 l hw) (wrPreS hK hM) hS rfl rfl hl.1 (Nat.le_of_ble_eq_true rfl) ⟨rfl, rfl⟩ ⟨Nat.le_of_ble_eq_true rfl, Nat.le_of_ble_eq_true rfl⟩ ⟨Nat.zero_le _, Nat.zero_le _⟩ dX2_clear_48 (fun la_minutes_1 H locs hw hM hS => ?_)
  refine lv_aload_n hx hb dX2_clear_51 rfl (lv_at hl 0 rfl) ?_
  refine wrg_2_40_1 zc hK hM dX2_clear_52 ?_
  refine lv_iconst (v := (0 : Int32)) hx hb dX2_clear_55 (by decide) ?_
  refine zSw_v [.ref (qr + 9), .int (0 : Int32)] [] zc ky_J7_fill_53178 kz_J7_fill_53178 km_2_58 (c_wr_J7_fill_53178_9 l hw) (wrPreS hK hM) hS rfl rfl hl.1 (Nat.le_of_ble_eq_true rfl) ⟨rfl, rfl⟩ ⟨Nat.le_of_ble_eq_true rfl, Nat.le_of_ble_eq_true rfl⟩ ⟨Nat.zero_le _, Nat.zero_le _⟩ dX2_clear_56 (fun la_known_1 H locs hw hM hS => ?_)
  exact zret_vw ⟨(0 : Int32), (0 : Int32), (0 : Int32), (0 : Int32), (0 : Int32), (2 : Int32), (5 : Int32), la_ladders_1, la_minutes_1, la_known_1⟩ zc hS hw hM dX2_clear_59
set_option maxRecDepth 20000 in
theorem c_wr_X2_clear (l : Launch) {E : zE} {qr qt : Nat} {lf_huts : Int32} {lf_singers : Int32} {lf_villages : Int32} {lf_dams : Int32} {lf_echoes : Int32} {lf_deep : Int32} {lf_slide : Int32} {la_heights : Nat → Int32} {la_ladders : Nat → Int32} {la_minutes : Nat → Int32} {la_echoFrom : Nat → Int32} {la_echoTo : Nat → Int32} {la_homes : Nat → Int32} {la_talls : Nat → Int32} {la_known : Nat → Int32} {vf_deeds : Int32} {va_kinds : Nat → Int32} {va_firsts : Nat → Int32} {va_seconds : Nat → Int32} {sf_facts : Int32} {sa_heard : Nat → Int32} {sa_huts : Nat → Int32} {sa_minutes : Nat → Int32} {cf_voices : Int32} {cf_step : Int32} {ca_parts : Nat → Int32} {ca_heights : Nat → Int32} {f_fault : Int32} {f_faultPlace : Int32} {a_numbers : Nat → Int32} {a_tape : Nat → Int32} {f_length : Int32} {f_behind : Int32} {f_kind : Int32} {f_first : Int32} {f_value : Int32} {f_hutsToldOf : Int32} {f_singersToldOf : Int32} {z_from : Nat → Int32} {post : (Int32) → (Int32) → (Int32) → (Int32) → (Int32) → (Int32) → (Int32) → (Nat → Int32) → (Nat → Int32) → (Nat → Int32) → Prop} (hw : q_wr_X2_clear_0 lf_huts lf_singers lf_villages lf_dams lf_echoes lf_deep lf_slide la_ladders la_minutes la_known post) : Met l yX2_clear (Cond.code yX2_clear cX2_clear 1 none :: zb) rm_wr_X2_clear (va_Pc [.ref (qr + 1)] (fun U => wrW E qr qt lf_huts lf_singers lf_villages lf_dams lf_echoes lf_deep lf_slide la_heights la_ladders la_minutes la_echoFrom la_echoTo la_homes la_talls la_known vf_deeds va_kinds va_firsts va_seconds sf_facts sa_heard sa_huts sa_minutes cf_voices cf_step ca_parts ca_heights f_fault f_faultPlace a_numbers a_tape f_length f_behind f_kind f_first f_value f_hutsToldOf f_singersToldOf z_from U.heap ∧ zK E U)) (zQv (S := (Int32) × (Int32) × (Int32) × (Int32) × (Int32) × (Int32) × (Int32) × (Nat → Int32) × (Nat → Int32) × (Nat → Int32)) (fun u => post u.1 u.2.1 u.2.2.1 u.2.2.2.1 u.2.2.2.2.1 u.2.2.2.2.2.1 u.2.2.2.2.2.2.1 u.2.2.2.2.2.2.2.1 u.2.2.2.2.2.2.2.2.1 u.2.2.2.2.2.2.2.2.2) (fun u H => wrW E qr qt u.1 u.2.1 u.2.2.1 u.2.2.2.1 u.2.2.2.2.1 u.2.2.2.2.2.1 u.2.2.2.2.2.2.1 la_heights u.2.2.2.2.2.2.2.1 u.2.2.2.2.2.2.2.2.1 la_echoFrom la_echoTo la_homes la_talls u.2.2.2.2.2.2.2.2.2 vf_deeds va_kinds va_firsts va_seconds sf_facts sa_heard sa_huts sa_minutes cf_voices cf_step ca_parts ca_heights f_fault f_faultPlace a_numbers a_tape f_length f_behind f_kind f_first f_value f_hutsToldOf f_singersToldOf z_from H) (wrA qr qt)) 0 0 (wrA qr qt) := by
  refine Met.ofW (cc := cX2_clear) (maxL := 1) (ret := none) (by decide) rfl ?_
  intro p e s m args below meth c s₁ B hml hv
  obtain ⟨rfl, hM, hK⟩ := hv
  have zc := zc_of B hml
  have hl := lv_entry ([.ref (qr + 1)]) (n := 1) (Nat.le_of_ble_eq_true rfl)
  rw [lg_entry_eq]
  generalize (lg_sl ([.ref (qr + 1)]) ++ List.replicate (1 - (lg_sl ([.ref (qr + 1)])).length) Slot.unset).toArray = ls at hl ⊢
  have hl : lv_has ls 1 [(0, .ref (qr + 1))] := hl
  exact t_wr_X2_clear_0 zc hK hM va_S.rf (lv_sub hl [0] rfl) hw
-- wr_X4_clearDraft
abbrev rm_wr_X4_clearDraft : Room := { frames := 2, cells := 0, slots := 0, locals := 43 }
def q_wr_X4_clearDraft_0 (lf_huts : Int32) (lf_singers : Int32) (lf_villages : Int32) (lf_dams : Int32) (lf_echoes : Int32) (lf_deep : Int32) (lf_slide : Int32) (la_ladders : Nat → Int32) (la_minutes : Nat → Int32) (la_known : Nat → Int32) (vf_deeds : Int32) (sf_facts : Int32) (cf_voices : Int32) (cf_step : Int32) (f_hutsToldOf : Int32) (f_singersToldOf : Int32) (x1 : Int32) (post : (Int32) → (Int32) → (Int32) → (Int32) → (Int32) → (Int32) → (Int32) → (Nat → Int32) → (Nat → Int32) → (Nat → Int32) → (Int32) → (Int32) → (Int32) → (Int32) → (Int32) → (Int32) → Prop) : Prop :=
  (¬ x1 = 0 → ((¬ x1 = (1 : Int32) → ((¬ x1 = (2 : Int32) → (post lf_huts lf_singers lf_villages lf_dams lf_echoes lf_deep lf_slide la_ladders la_minutes la_known vf_deeds sf_facts (0 : Int32) (0 : Int32) f_hutsToldOf f_singersToldOf)) ∧ (x1 = (2 : Int32) → (post lf_huts lf_singers lf_villages lf_dams lf_echoes lf_deep lf_slide la_ladders la_minutes la_known vf_deeds (0 : Int32) cf_voices cf_step f_hutsToldOf f_singersToldOf)))) ∧ (x1 = (1 : Int32) → (post lf_huts lf_singers lf_villages lf_dams lf_echoes lf_deep lf_slide la_ladders la_minutes la_known (0 : Int32) sf_facts cf_voices cf_step f_hutsToldOf f_singersToldOf)))) ∧ (x1 = 0 → (q_wr_X2_clear_0 lf_huts lf_singers lf_villages lf_dams lf_echoes lf_deep lf_slide la_ladders la_minutes la_known (fun lf_huts_1 lf_singers_1 lf_villages_1 lf_dams_1 lf_echoes_1 lf_deep_1 lf_slide_1 la_ladders_1 la_minutes_1 la_known_1 => post lf_huts_1 lf_singers_1 lf_villages_1 lf_dams_1 lf_echoes_1 lf_deep_1 lf_slide_1 la_ladders_1 la_minutes_1 la_known_1 vf_deeds sf_facts cf_voices cf_step (0 : Int32) (0 : Int32))))
set_option maxRecDepth 20000 in
theorem t_wr_X4_clearDraft_0 {p : Program} {l : Launch} {e : Env} {s : State} {m : MethodId} {args : Array Value} {below : List Frame} {meth : Method} {c : Code} {E : zE} {qr qt : Nat} {lf_huts : Int32} {lf_singers : Int32} {lf_villages : Int32} {lf_dams : Int32} {lf_echoes : Int32} {lf_deep : Int32} {lf_slide : Int32} {la_heights : Nat → Int32} {la_ladders : Nat → Int32} {la_minutes : Nat → Int32} {la_echoFrom : Nat → Int32} {la_echoTo : Nat → Int32} {la_homes : Nat → Int32} {la_talls : Nat → Int32} {la_known : Nat → Int32} {vf_deeds : Int32} {va_kinds : Nat → Int32} {va_firsts : Nat → Int32} {va_seconds : Nat → Int32} {sf_facts : Int32} {sa_heard : Nat → Int32} {sa_huts : Nat → Int32} {sa_minutes : Nat → Int32} {cf_voices : Int32} {cf_step : Int32} {ca_parts : Nat → Int32} {ca_heights : Nat → Int32} {f_fault : Int32} {f_faultPlace : Int32} {a_numbers : Nat → Int32} {a_tape : Nat → Int32} {f_length : Int32} {f_behind : Int32} {f_kind : Int32} {f_first : Int32} {f_value : Int32} {f_hutsToldOf : Int32} {f_singersToldOf : Int32} {z_from : Nat → Int32} {post : (Int32) → (Int32) → (Int32) → (Int32) → (Int32) → (Int32) → (Int32) → (Nat → Int32) → (Nat → Int32) → (Nat → Int32) → (Int32) → (Int32) → (Int32) → (Int32) → (Int32) → (Int32) → Prop} {x1 : Int32} {ls : Array Slot} {H : Heap} {locs : List Loc}
    (zc : zC p s m args meth c cX4_clearDraft 2 RX4 none)
    (hK : zK E s)
    (hM : wrW E qr qt lf_huts lf_singers lf_villages lf_dams lf_echoes lf_deep lf_slide la_heights la_ladders la_minutes la_echoFrom la_echoTo la_homes la_talls la_known vf_deeds va_kinds va_firsts va_seconds sf_facts sa_heard sa_huts sa_minutes cf_voices cf_step ca_parts ca_heights f_fault f_faultPlace a_numbers a_tape f_length f_behind f_kind f_first f_value f_hutsToldOf f_singersToldOf z_from H)
    (hS : va_S (wrA qr qt) s.heap H locs)
    (hl : lv_has ls 2 [(0, .ref qr), (1, .int x1)])
    (hw : q_wr_X4_clearDraft_0 lf_huts lf_singers lf_villages lf_dams lf_echoes lf_deep lf_slide la_ladders la_minutes la_known vf_deeds sf_facts cf_voices cf_step f_hutsToldOf f_singersToldOf x1 post) :
    W p l e rm_wr_X4_clearDraft s m args below meth c H locs 0 0 (MQ below (zQv (S := (Int32) × (Int32) × (Int32) × (Int32) × (Int32) × (Int32) × (Int32) × (Nat → Int32) × (Nat → Int32) × (Nat → Int32) × (Int32) × (Int32) × (Int32) × (Int32) × (Int32) × (Int32)) (fun u => post u.1 u.2.1 u.2.2.1 u.2.2.2.1 u.2.2.2.2.1 u.2.2.2.2.2.1 u.2.2.2.2.2.2.1 u.2.2.2.2.2.2.2.1 u.2.2.2.2.2.2.2.2.1 u.2.2.2.2.2.2.2.2.2.1 u.2.2.2.2.2.2.2.2.2.2.1 u.2.2.2.2.2.2.2.2.2.2.2.1 u.2.2.2.2.2.2.2.2.2.2.2.2.1 u.2.2.2.2.2.2.2.2.2.2.2.2.2.1 u.2.2.2.2.2.2.2.2.2.2.2.2.2.2.1 u.2.2.2.2.2.2.2.2.2.2.2.2.2.2.2) (fun u H => wrW E qr qt u.1 u.2.1 u.2.2.1 u.2.2.2.1 u.2.2.2.2.1 u.2.2.2.2.2.1 u.2.2.2.2.2.2.1 la_heights u.2.2.2.2.2.2.2.1 u.2.2.2.2.2.2.2.2.1 la_echoFrom la_echoTo la_homes la_talls u.2.2.2.2.2.2.2.2.2.1 u.2.2.2.2.2.2.2.2.2.2.1 va_kinds va_firsts va_seconds u.2.2.2.2.2.2.2.2.2.2.2.1 sa_heard sa_huts sa_minutes u.2.2.2.2.2.2.2.2.2.2.2.2.1 u.2.2.2.2.2.2.2.2.2.2.2.2.2.1 ca_parts ca_heights f_fault f_faultPlace a_numbers a_tape f_length f_behind f_kind f_first f_value u.2.2.2.2.2.2.2.2.2.2.2.2.2.2.1 u.2.2.2.2.2.2.2.2.2.2.2.2.2.2.2 z_from H) (wrA qr qt)) args s 0 0 (wrA qr qt)) (F0 m 0 ls []) := by
  have hx := zc.1
  have hb := zc.2.1
  refine lv_iload_n hx hb dX4_clearDraft_0 rfl (lv_at hl 1 rfl) ?_
  refine lv_if_ne (tgt := 24) hx hb dX4_clearDraft_1 (by decide) (fun hc => ?_) (fun hc => ?_)
  · have hw := hw.1 hc
    refine lv_iload_n hx hb dX4_clearDraft_24 rfl (lv_at hl 1 rfl) ?_
    refine lv_iconst (v := (1 : Int32)) hx hb dX4_clearDraft_25 (by decide) ?_
    refine lv_icmp_ne (tgt := 40) hx hb dX4_clearDraft_26 (by decide) (fun hc => ?_) (fun hc => ?_)
    · have hw := hw.1 hc
      refine lv_iload_n hx hb dX4_clearDraft_40 rfl (lv_at hl 1 rfl) ?_
      refine lv_iconst (v := (2 : Int32)) hx hb dX4_clearDraft_41 (by decide) ?_
      refine lv_icmp_ne (tgt := 56) hx hb dX4_clearDraft_42 (by decide) (fun hc => ?_) (fun hc => ?_)
      · have hw := hw.1 hc
        refine lv_aload_n hx hb dX4_clearDraft_56 rfl (lv_at hl 0 rfl) ?_
        refine wrg_4_35_0 zc hK hM dX4_clearDraft_57 ?_
        refine lv_iconst (v := (0 : Int32)) hx hb dX4_clearDraft_60 (by decide) ?_
        refine wrp_4_102_18 zc hK hM hS dX4_clearDraft_61 (fun H locs hM hS => ?_)
        refine lv_aload_n hx hb dX4_clearDraft_64 rfl (lv_at hl 0 rfl) ?_
        refine wrg_4_35_0 zc hK hM dX4_clearDraft_65 ?_
        refine lv_iconst (v := (0 : Int32)) hx hb dX4_clearDraft_68 (by decide) ?_
        refine wrp_4_105_18 zc hK hM hS dX4_clearDraft_69 (fun H locs hM hS => ?_)
        exact zret_vw ⟨lf_huts, lf_singers, lf_villages, lf_dams, lf_echoes, lf_deep, lf_slide, la_ladders, la_minutes, la_known, vf_deeds, sf_facts, (0 : Int32), (0 : Int32), f_hutsToldOf, f_singersToldOf⟩ zc hS hw hM dX4_clearDraft_72
      · have hw := hw.2 hc
        refine lv_aload_n hx hb dX4_clearDraft_45 rfl (lv_at hl 0 rfl) ?_
        refine wrg_4_28_0 zc hK hM dX4_clearDraft_46 ?_
        refine lv_iconst (v := (0 : Int32)) hx hb dX4_clearDraft_49 (by decide) ?_
        refine wrp_4_99_14 zc hK hM hS dX4_clearDraft_50 (fun H locs hM hS => ?_)
        refine lv_goto (tgt := 72) hx hb dX4_clearDraft_53 (by decide) ?_
        exact zret_vw ⟨lf_huts, lf_singers, lf_villages, lf_dams, lf_echoes, lf_deep, lf_slide, la_ladders, la_minutes, la_known, vf_deeds, (0 : Int32), cf_voices, cf_step, f_hutsToldOf, f_singersToldOf⟩ zc hS hw hM dX4_clearDraft_72
    · have hw := hw.2 hc
      refine lv_aload_n hx hb dX4_clearDraft_29 rfl (lv_at hl 0 rfl) ?_
      refine wrg_4_21_0 zc hK hM dX4_clearDraft_30 ?_
      refine lv_iconst (v := (0 : Int32)) hx hb dX4_clearDraft_33 (by decide) ?_
      refine wrp_4_96_10 zc hK hM hS dX4_clearDraft_34 (fun H locs hM hS => ?_)
      refine lv_goto (tgt := 72) hx hb dX4_clearDraft_37 (by decide) ?_
      exact zret_vw ⟨lf_huts, lf_singers, lf_villages, lf_dams, lf_echoes, lf_deep, lf_slide, la_ladders, la_minutes, la_known, (0 : Int32), sf_facts, cf_voices, cf_step, f_hutsToldOf, f_singersToldOf⟩ zc hS hw hM dX4_clearDraft_72
  · have hw := hw.2 hc
    refine lv_aload_n hx hb dX4_clearDraft_4 rfl (lv_at hl 0 rfl) ?_
    refine wrg_4_12_0 zc hK hM dX4_clearDraft_5 ?_
    refine zVw_v [] [] zc ky_X2_clear kz_X2_clear km_4_87 (c_wr_X2_clear l hw) (wrPreV1 hK hM) hS rfl rfl hl.1 (Nat.le_of_ble_eq_true rfl) ⟨rfl, rfl⟩ ⟨Nat.le_of_ble_eq_true rfl, Nat.le_of_ble_eq_true rfl⟩ ⟨Nat.zero_le _, Nat.zero_le _⟩ dX4_clearDraft_8 (fun u H locs hw hM hS => ?_)
    obtain ⟨lf_huts_1, lf_singers_1, lf_villages_1, lf_dams_1, lf_echoes_1, lf_deep_1, lf_slide_1, la_ladders_1, la_minutes_1, la_known_1⟩ := u
    refine lv_aload_n hx hb dX4_clearDraft_11 rfl (lv_at hl 0 rfl) ?_
    refine lv_iconst (v := (0 : Int32)) hx hb dX4_clearDraft_12 (by decide) ?_
    refine wrp_4_90_0 zc hK hM hS dX4_clearDraft_13 (fun H locs hM hS => ?_)
    refine lv_aload_n hx hb dX4_clearDraft_16 rfl (lv_at hl 0 rfl) ?_
    refine lv_iconst (v := (0 : Int32)) hx hb dX4_clearDraft_17 (by decide) ?_
    refine wrp_4_93_0 zc hK hM hS dX4_clearDraft_18 (fun H locs hM hS => ?_)
    refine lv_goto (tgt := 72) hx hb dX4_clearDraft_21 (by decide) ?_
    exact zret_vw ⟨lf_huts_1, lf_singers_1, lf_villages_1, lf_dams_1, lf_echoes_1, lf_deep_1, lf_slide_1, la_ladders_1, la_minutes_1, la_known_1, vf_deeds, sf_facts, cf_voices, cf_step, (0 : Int32), (0 : Int32)⟩ zc hS hw hM dX4_clearDraft_72
set_option maxRecDepth 20000 in
theorem c_wr_X4_clearDraft (l : Launch) {E : zE} {qr qt : Nat} {lf_huts : Int32} {lf_singers : Int32} {lf_villages : Int32} {lf_dams : Int32} {lf_echoes : Int32} {lf_deep : Int32} {lf_slide : Int32} {la_heights : Nat → Int32} {la_ladders : Nat → Int32} {la_minutes : Nat → Int32} {la_echoFrom : Nat → Int32} {la_echoTo : Nat → Int32} {la_homes : Nat → Int32} {la_talls : Nat → Int32} {la_known : Nat → Int32} {vf_deeds : Int32} {va_kinds : Nat → Int32} {va_firsts : Nat → Int32} {va_seconds : Nat → Int32} {sf_facts : Int32} {sa_heard : Nat → Int32} {sa_huts : Nat → Int32} {sa_minutes : Nat → Int32} {cf_voices : Int32} {cf_step : Int32} {ca_parts : Nat → Int32} {ca_heights : Nat → Int32} {f_fault : Int32} {f_faultPlace : Int32} {a_numbers : Nat → Int32} {a_tape : Nat → Int32} {f_length : Int32} {f_behind : Int32} {f_kind : Int32} {f_first : Int32} {f_value : Int32} {f_hutsToldOf : Int32} {f_singersToldOf : Int32} {z_from : Nat → Int32} {x1 : Int32} {post : (Int32) → (Int32) → (Int32) → (Int32) → (Int32) → (Int32) → (Int32) → (Nat → Int32) → (Nat → Int32) → (Nat → Int32) → (Int32) → (Int32) → (Int32) → (Int32) → (Int32) → (Int32) → Prop} (hw : q_wr_X4_clearDraft_0 lf_huts lf_singers lf_villages lf_dams lf_echoes lf_deep lf_slide la_ladders la_minutes la_known vf_deeds sf_facts cf_voices cf_step f_hutsToldOf f_singersToldOf x1 post) : Met l yX4_clearDraft (Cond.code yX4_clearDraft cX4_clearDraft 2 none :: zb) rm_wr_X4_clearDraft (va_Pc [.ref qr, .int x1] (fun U => wrW E qr qt lf_huts lf_singers lf_villages lf_dams lf_echoes lf_deep lf_slide la_heights la_ladders la_minutes la_echoFrom la_echoTo la_homes la_talls la_known vf_deeds va_kinds va_firsts va_seconds sf_facts sa_heard sa_huts sa_minutes cf_voices cf_step ca_parts ca_heights f_fault f_faultPlace a_numbers a_tape f_length f_behind f_kind f_first f_value f_hutsToldOf f_singersToldOf z_from U.heap ∧ zK E U)) (zQv (S := (Int32) × (Int32) × (Int32) × (Int32) × (Int32) × (Int32) × (Int32) × (Nat → Int32) × (Nat → Int32) × (Nat → Int32) × (Int32) × (Int32) × (Int32) × (Int32) × (Int32) × (Int32)) (fun u => post u.1 u.2.1 u.2.2.1 u.2.2.2.1 u.2.2.2.2.1 u.2.2.2.2.2.1 u.2.2.2.2.2.2.1 u.2.2.2.2.2.2.2.1 u.2.2.2.2.2.2.2.2.1 u.2.2.2.2.2.2.2.2.2.1 u.2.2.2.2.2.2.2.2.2.2.1 u.2.2.2.2.2.2.2.2.2.2.2.1 u.2.2.2.2.2.2.2.2.2.2.2.2.1 u.2.2.2.2.2.2.2.2.2.2.2.2.2.1 u.2.2.2.2.2.2.2.2.2.2.2.2.2.2.1 u.2.2.2.2.2.2.2.2.2.2.2.2.2.2.2) (fun u H => wrW E qr qt u.1 u.2.1 u.2.2.1 u.2.2.2.1 u.2.2.2.2.1 u.2.2.2.2.2.1 u.2.2.2.2.2.2.1 la_heights u.2.2.2.2.2.2.2.1 u.2.2.2.2.2.2.2.2.1 la_echoFrom la_echoTo la_homes la_talls u.2.2.2.2.2.2.2.2.2.1 u.2.2.2.2.2.2.2.2.2.2.1 va_kinds va_firsts va_seconds u.2.2.2.2.2.2.2.2.2.2.2.1 sa_heard sa_huts sa_minutes u.2.2.2.2.2.2.2.2.2.2.2.2.1 u.2.2.2.2.2.2.2.2.2.2.2.2.2.1 ca_parts ca_heights f_fault f_faultPlace a_numbers a_tape f_length f_behind f_kind f_first f_value u.2.2.2.2.2.2.2.2.2.2.2.2.2.2.1 u.2.2.2.2.2.2.2.2.2.2.2.2.2.2.2 z_from H) (wrA qr qt)) 0 0 (wrA qr qt) := by
  refine Met.ofW (cc := cX4_clearDraft) (maxL := 2) (ret := none) (by decide) rfl ?_
  intro p e s m args below meth c s₁ B hml hv
  obtain ⟨rfl, hM, hK⟩ := hv
  have zc := zc_of B hml
  have hl := lv_entry ([.ref qr, .int x1]) (n := 2) (Nat.le_of_ble_eq_true rfl)
  rw [lg_entry_eq]
  generalize (lg_sl ([.ref qr, .int x1]) ++ List.replicate (2 - (lg_sl ([.ref qr, .int x1])).length) Slot.unset).toArray = ls at hl ⊢
  have hl : lv_has ls 2 [(0, .ref qr), (1, .int x1)] := hl
  exact t_wr_X4_clearDraft_0 zc hK hM va_S.rf (lv_sub hl [0, 1] rfl) hw
-- wr_X4_advance
abbrev rm_wr_X4_advance : Room := { frames := 0, cells := 0, slots := 0, locals := 0 }
def q_wr_X4_advance_35 (P5 : Int32 → Prop) (a_tape : Nat → Int32) (f_length : Int32) (f_behind : Int32) (f_kind : Int32) (f_first : Int32) (x1 : Int32) (post : (Int32) → (Int32) → (Int32) → Prop) : Prop :=
  ∀ v_1 : Int32, v_1 = x1 + (1 : Int32) → (P5 v_1)
def q_wr_X4_advance_149 (a_tape : Nat → Int32) (f_length : Int32) (f_behind : Int32) (f_kind : Int32) (f_first : Int32) (x1 : Int32) (post : (Int32) → (Int32) → (Int32) → Prop) : Prop :=
  post x1 f_kind f_first
def q_wr_X4_advance_41 (a_tape : Nat → Int32) (f_length : Int32) (f_behind : Int32) (f_kind : Int32) (f_first : Int32) (x1 : Int32) (post : (Int32) → (Int32) → (Int32) → Prop) : Prop :=
  (x1 < f_length → (vp_in x1 600 ∧ (False))) ∧ (¬ x1 < f_length → (q_wr_X4_advance_149 a_tape f_length f_behind (0 : Int32) x1 x1 post))
def q_wr_X4_advance_5 (a_tape : Nat → Int32) (f_length : Int32) (f_behind : Int32) (f_kind : Int32) (f_first : Int32) (x1 : Int32) (post : (Int32) → (Int32) → (Int32) → Prop) : Prop :=
  ∀ P5 : Int32 → Prop, (∀ (x1 : Int32), ((f_length ≤ x1 → (q_wr_X4_advance_41 a_tape f_length f_behind f_kind f_first x1 post)) ∧ (¬ f_length ≤ x1 → (vp_in x1 600 ∧ (((a_tape (Int32.toNatClampNeg x1)) = (10 : Int32) → (q_wr_X4_advance_35 P5 a_tape f_length f_behind f_kind f_first x1 post)) ∧ (¬ (a_tape (Int32.toNatClampNeg x1)) = (10 : Int32) → (vp_in x1 600 ∧ ((¬ (a_tape (Int32.toNatClampNeg x1)) = (32 : Int32) → (q_wr_X4_advance_41 a_tape f_length f_behind f_kind f_first x1 post)) ∧ ((a_tape (Int32.toNatClampNeg x1)) = (32 : Int32) → (q_wr_X4_advance_35 P5 a_tape f_length f_behind f_kind f_first x1 post))))))))) → P5 x1) → P5 x1
def q_wr_X4_advance_0 (a_tape : Nat → Int32) (f_length : Int32) (f_behind : Int32) (f_kind : Int32) (f_first : Int32) (post : (Int32) → (Int32) → (Int32) → Prop) : Prop :=
  q_wr_X4_advance_5 a_tape f_length f_behind f_kind f_first f_behind post
set_option maxRecDepth 20000 in
theorem t_wr_X4_advance_35 {p : Program} {l : Launch} {e : Env} {s : State} {m : MethodId} {args : Array Value} {below : List Frame} {meth : Method} {c : Code} {E : zE} {qr qt : Nat} {lf_huts : Int32} {lf_singers : Int32} {lf_villages : Int32} {lf_dams : Int32} {lf_echoes : Int32} {lf_deep : Int32} {lf_slide : Int32} {la_heights : Nat → Int32} {la_ladders : Nat → Int32} {la_minutes : Nat → Int32} {la_echoFrom : Nat → Int32} {la_echoTo : Nat → Int32} {la_homes : Nat → Int32} {la_talls : Nat → Int32} {la_known : Nat → Int32} {vf_deeds : Int32} {va_kinds : Nat → Int32} {va_firsts : Nat → Int32} {va_seconds : Nat → Int32} {sf_facts : Int32} {sa_heard : Nat → Int32} {sa_huts : Nat → Int32} {sa_minutes : Nat → Int32} {cf_voices : Int32} {cf_step : Int32} {ca_parts : Nat → Int32} {ca_heights : Nat → Int32} {f_fault : Int32} {f_faultPlace : Int32} {a_numbers : Nat → Int32} {a_tape : Nat → Int32} {f_length : Int32} {f_behind : Int32} {f_kind : Int32} {f_first : Int32} {f_value : Int32} {f_hutsToldOf : Int32} {f_singersToldOf : Int32} {z_from : Nat → Int32} {P5 : Int32 → Prop} {post : (Int32) → (Int32) → (Int32) → Prop} {x1 : Int32} {ls : Array Slot} {H : Heap} {locs : List Loc}
    (zc : zC p s m args meth c cX4_advance 2 RX4 none)
    (hK : zK E s)
    (hM : wrW E qr qt lf_huts lf_singers lf_villages lf_dams lf_echoes lf_deep lf_slide la_heights la_ladders la_minutes la_echoFrom la_echoTo la_homes la_talls la_known vf_deeds va_kinds va_firsts va_seconds sf_facts sa_heard sa_huts sa_minutes cf_voices cf_step ca_parts ca_heights f_fault f_faultPlace a_numbers a_tape f_length f_behind f_kind f_first f_value f_hutsToldOf f_singersToldOf z_from H)
    (hS : va_S (wrA qr qt) s.heap H locs)
    (hP5 : ∀ (x1 : Int32) (H : Heap) (locs : List Loc) (ls : Array Slot), P5 x1 → lv_has ls 2 [(0, .ref qr), (1, .int x1)] → wrW E qr qt lf_huts lf_singers lf_villages lf_dams lf_echoes lf_deep lf_slide la_heights la_ladders la_minutes la_echoFrom la_echoTo la_homes la_talls la_known vf_deeds va_kinds va_firsts va_seconds sf_facts sa_heard sa_huts sa_minutes cf_voices cf_step ca_parts ca_heights f_fault f_faultPlace a_numbers a_tape f_length f_behind f_kind f_first f_value f_hutsToldOf f_singersToldOf z_from H → va_S (wrA qr qt) s.heap H locs → W p l e rm_wr_X4_advance s m args below meth c H locs 0 0 (MQ below (zQv (S := (Int32) × (Int32) × (Int32)) (fun u => post u.1 u.2.1 u.2.2) (fun u H => wrW E qr qt lf_huts lf_singers lf_villages lf_dams lf_echoes lf_deep lf_slide la_heights la_ladders la_minutes la_echoFrom la_echoTo la_homes la_talls la_known vf_deeds va_kinds va_firsts va_seconds sf_facts sa_heard sa_huts sa_minutes cf_voices cf_step ca_parts ca_heights f_fault f_faultPlace a_numbers a_tape f_length u.1 u.2.1 u.2.2 f_value f_hutsToldOf f_singersToldOf z_from H) (wrA qr qt)) args s 0 0 (wrA qr qt)) (F0 m 5 ls []))
    (hl : lv_has ls 2 [(0, .ref qr), (1, .int x1)])
    (hw : q_wr_X4_advance_35 P5 a_tape f_length f_behind f_kind f_first x1 post) :
    W p l e rm_wr_X4_advance s m args below meth c H locs 0 0 (MQ below (zQv (S := (Int32) × (Int32) × (Int32)) (fun u => post u.1 u.2.1 u.2.2) (fun u H => wrW E qr qt lf_huts lf_singers lf_villages lf_dams lf_echoes lf_deep lf_slide la_heights la_ladders la_minutes la_echoFrom la_echoTo la_homes la_talls la_known vf_deeds va_kinds va_firsts va_seconds sf_facts sa_heard sa_huts sa_minutes cf_voices cf_step ca_parts ca_heights f_fault f_faultPlace a_numbers a_tape f_length u.1 u.2.1 u.2.2 f_value f_hutsToldOf f_singersToldOf z_from H) (wrA qr qt)) args s 0 0 (wrA qr qt)) (F0 m 35 ls []) := by
  have hx := zc.1
  have hb := zc.2.1
  obtain ⟨v_1, ev_1⟩ : ∃ y : Int32, y = x1 + (1 : Int32) := ⟨_, rfl⟩
  have hw := hw v_1 ev_1
  refine lv_iinc (v := v_1) (k := 1) (lv' := [(1, .int v_1), (0, .ref qr)]) hx hb dX4_advance_35 hl rfl (by rw [ev_1]; rfl) (by decide) rfl (fun ls hl => ?_)
  refine lv_goto (tgt := 5) hx hb dX4_advance_38 (by decide) ?_
  exact hP5 _ _ _ _ hw (lv_sub hl [1, 0] rfl) hM hS
set_option maxRecDepth 20000 in
theorem t_wr_X4_advance_149 {p : Program} {l : Launch} {e : Env} {s : State} {m : MethodId} {args : Array Value} {below : List Frame} {meth : Method} {c : Code} {E : zE} {qr qt : Nat} {lf_huts : Int32} {lf_singers : Int32} {lf_villages : Int32} {lf_dams : Int32} {lf_echoes : Int32} {lf_deep : Int32} {lf_slide : Int32} {la_heights : Nat → Int32} {la_ladders : Nat → Int32} {la_minutes : Nat → Int32} {la_echoFrom : Nat → Int32} {la_echoTo : Nat → Int32} {la_homes : Nat → Int32} {la_talls : Nat → Int32} {la_known : Nat → Int32} {vf_deeds : Int32} {va_kinds : Nat → Int32} {va_firsts : Nat → Int32} {va_seconds : Nat → Int32} {sf_facts : Int32} {sa_heard : Nat → Int32} {sa_huts : Nat → Int32} {sa_minutes : Nat → Int32} {cf_voices : Int32} {cf_step : Int32} {ca_parts : Nat → Int32} {ca_heights : Nat → Int32} {f_fault : Int32} {f_faultPlace : Int32} {a_numbers : Nat → Int32} {a_tape : Nat → Int32} {f_length : Int32} {f_behind : Int32} {f_kind : Int32} {f_first : Int32} {f_value : Int32} {f_hutsToldOf : Int32} {f_singersToldOf : Int32} {z_from : Nat → Int32} {post : (Int32) → (Int32) → (Int32) → Prop} {x1 : Int32} {ls : Array Slot} {H : Heap} {locs : List Loc}
    (zc : zC p s m args meth c cX4_advance 2 RX4 none)
    (hK : zK E s)
    (hM : wrW E qr qt lf_huts lf_singers lf_villages lf_dams lf_echoes lf_deep lf_slide la_heights la_ladders la_minutes la_echoFrom la_echoTo la_homes la_talls la_known vf_deeds va_kinds va_firsts va_seconds sf_facts sa_heard sa_huts sa_minutes cf_voices cf_step ca_parts ca_heights f_fault f_faultPlace a_numbers a_tape f_length f_behind f_kind f_first f_value f_hutsToldOf f_singersToldOf z_from H)
    (hS : va_S (wrA qr qt) s.heap H locs)
    (hl : lv_has ls 2 [(0, .ref qr), (1, .int x1)])
    (hw : q_wr_X4_advance_149 a_tape f_length f_behind f_kind f_first x1 post) :
    W p l e rm_wr_X4_advance s m args below meth c H locs 0 0 (MQ below (zQv (S := (Int32) × (Int32) × (Int32)) (fun u => post u.1 u.2.1 u.2.2) (fun u H => wrW E qr qt lf_huts lf_singers lf_villages lf_dams lf_echoes lf_deep lf_slide la_heights la_ladders la_minutes la_echoFrom la_echoTo la_homes la_talls la_known vf_deeds va_kinds va_firsts va_seconds sf_facts sa_heard sa_huts sa_minutes cf_voices cf_step ca_parts ca_heights f_fault f_faultPlace a_numbers a_tape f_length u.1 u.2.1 u.2.2 f_value f_hutsToldOf f_singersToldOf z_from H) (wrA qr qt)) args s 0 0 (wrA qr qt)) (F0 m 149 ls []) := by
  have hx := zc.1
  have hb := zc.2.1
  refine lv_aload_n hx hb dX4_advance_149 rfl (lv_at hl 0 rfl) ?_
  refine lv_iload_n hx hb dX4_advance_150 rfl (lv_at hl 1 rfl) ?_
  refine wrp_4_60_0 zc hK hM hS dX4_advance_151 (fun H locs hM hS => ?_)
  exact zret_vw ⟨x1, f_kind, f_first⟩ zc hS hw hM dX4_advance_154
set_option maxRecDepth 20000 in
theorem t_wr_X4_advance_41 {p : Program} {l : Launch} {e : Env} {s : State} {m : MethodId} {args : Array Value} {below : List Frame} {meth : Method} {c : Code} {E : zE} {qr qt : Nat} {lf_huts : Int32} {lf_singers : Int32} {lf_villages : Int32} {lf_dams : Int32} {lf_echoes : Int32} {lf_deep : Int32} {lf_slide : Int32} {la_heights : Nat → Int32} {la_ladders : Nat → Int32} {la_minutes : Nat → Int32} {la_echoFrom : Nat → Int32} {la_echoTo : Nat → Int32} {la_homes : Nat → Int32} {la_talls : Nat → Int32} {la_known : Nat → Int32} {vf_deeds : Int32} {va_kinds : Nat → Int32} {va_firsts : Nat → Int32} {va_seconds : Nat → Int32} {sf_facts : Int32} {sa_heard : Nat → Int32} {sa_huts : Nat → Int32} {sa_minutes : Nat → Int32} {cf_voices : Int32} {cf_step : Int32} {ca_parts : Nat → Int32} {ca_heights : Nat → Int32} {f_fault : Int32} {f_faultPlace : Int32} {a_numbers : Nat → Int32} {a_tape : Nat → Int32} {f_length : Int32} {f_behind : Int32} {f_kind : Int32} {f_first : Int32} {f_value : Int32} {f_hutsToldOf : Int32} {f_singersToldOf : Int32} {z_from : Nat → Int32} {post : (Int32) → (Int32) → (Int32) → Prop} {x1 : Int32} {ls : Array Slot} {H : Heap} {locs : List Loc}
    (zc : zC p s m args meth c cX4_advance 2 RX4 none)
    (hK : zK E s)
    (hM : wrW E qr qt lf_huts lf_singers lf_villages lf_dams lf_echoes lf_deep lf_slide la_heights la_ladders la_minutes la_echoFrom la_echoTo la_homes la_talls la_known vf_deeds va_kinds va_firsts va_seconds sf_facts sa_heard sa_huts sa_minutes cf_voices cf_step ca_parts ca_heights f_fault f_faultPlace a_numbers a_tape f_length f_behind f_kind f_first f_value f_hutsToldOf f_singersToldOf z_from H)
    (hS : va_S (wrA qr qt) s.heap H locs)
    (hl : lv_has ls 2 [(0, .ref qr), (1, .int x1)])
    (hw : q_wr_X4_advance_41 a_tape f_length f_behind f_kind f_first x1 post) :
    W p l e rm_wr_X4_advance s m args below meth c H locs 0 0 (MQ below (zQv (S := (Int32) × (Int32) × (Int32)) (fun u => post u.1 u.2.1 u.2.2) (fun u H => wrW E qr qt lf_huts lf_singers lf_villages lf_dams lf_echoes lf_deep lf_slide la_heights la_ladders la_minutes la_echoFrom la_echoTo la_homes la_talls la_known vf_deeds va_kinds va_firsts va_seconds sf_facts sa_heard sa_huts sa_minutes cf_voices cf_step ca_parts ca_heights f_fault f_faultPlace a_numbers a_tape f_length u.1 u.2.1 u.2.2 f_value f_hutsToldOf f_singersToldOf z_from H) (wrA qr qt)) args s 0 0 (wrA qr qt)) (F0 m 41 ls []) := by
  have hx := zc.1
  have hb := zc.2.1
  refine lv_aload_n hx hb dX4_advance_41 rfl (lv_at hl 0 rfl) ?_
  refine lv_iload_n hx hb dX4_advance_42 rfl (lv_at hl 1 rfl) ?_
  refine wrp_4_125_0 zc hK hM hS dX4_advance_43 (fun H locs hM hS => ?_)
  refine lv_iload_n hx hb dX4_advance_46 rfl (lv_at hl 1 rfl) ?_
  refine lv_aload_n hx hb dX4_advance_47 rfl (lv_at hl 0 rfl) ?_
  refine wrg_4_57_0 zc hK hM dX4_advance_48 ?_
  refine lv_icmp_lt (tgt := 62) hx hb dX4_advance_51 (by decide) (fun hc => ?_) (fun hc => ?_)
  · have hw := hw.1 hc
    refine lv_aload_n hx hb dX4_advance_62 rfl (lv_at hl 0 rfl) ?_
    refine wrg_4_47_0 zc hK hM dX4_advance_63 ?_
    refine lv_iload_n hx hb dX4_advance_66 rfl (lv_at hl 1 rfl) ?_
    refine wrld_22 zc hK hM hw.1 dX4_advance_67 ?_
    have hw := hw.2
    exact hw.elim
  · have hw := hw.2 hc
    refine lv_aload_n hx hb dX4_advance_54 rfl (lv_at hl 0 rfl) ?_
    refine lv_iconst (v := (0 : Int32)) hx hb dX4_advance_55 (by decide) ?_
    refine wrp_4_73_0 zc hK hM hS dX4_advance_56 (fun H locs hM hS => ?_)
    refine lv_goto (tgt := 149) hx hb dX4_advance_59 (by decide) ?_
    exact t_wr_X4_advance_149 zc hK hM hS  (lv_sub hl [0, 1] rfl) hw
set_option maxRecDepth 20000 in
theorem t_wr_X4_advance_5 {p : Program} {l : Launch} {e : Env} {s : State} {m : MethodId} {args : Array Value} {below : List Frame} {meth : Method} {c : Code} {E : zE} {qr qt : Nat} {lf_huts : Int32} {lf_singers : Int32} {lf_villages : Int32} {lf_dams : Int32} {lf_echoes : Int32} {lf_deep : Int32} {lf_slide : Int32} {la_heights : Nat → Int32} {la_ladders : Nat → Int32} {la_minutes : Nat → Int32} {la_echoFrom : Nat → Int32} {la_echoTo : Nat → Int32} {la_homes : Nat → Int32} {la_talls : Nat → Int32} {la_known : Nat → Int32} {vf_deeds : Int32} {va_kinds : Nat → Int32} {va_firsts : Nat → Int32} {va_seconds : Nat → Int32} {sf_facts : Int32} {sa_heard : Nat → Int32} {sa_huts : Nat → Int32} {sa_minutes : Nat → Int32} {cf_voices : Int32} {cf_step : Int32} {ca_parts : Nat → Int32} {ca_heights : Nat → Int32} {f_fault : Int32} {f_faultPlace : Int32} {a_numbers : Nat → Int32} {a_tape : Nat → Int32} {f_length : Int32} {f_behind : Int32} {f_kind : Int32} {f_first : Int32} {f_value : Int32} {f_hutsToldOf : Int32} {f_singersToldOf : Int32} {z_from : Nat → Int32} {post : (Int32) → (Int32) → (Int32) → Prop} {x1 : Int32} {ls : Array Slot} {H : Heap} {locs : List Loc}
    (zc : zC p s m args meth c cX4_advance 2 RX4 none)
    (hK : zK E s)
    (hM : wrW E qr qt lf_huts lf_singers lf_villages lf_dams lf_echoes lf_deep lf_slide la_heights la_ladders la_minutes la_echoFrom la_echoTo la_homes la_talls la_known vf_deeds va_kinds va_firsts va_seconds sf_facts sa_heard sa_huts sa_minutes cf_voices cf_step ca_parts ca_heights f_fault f_faultPlace a_numbers a_tape f_length f_behind f_kind f_first f_value f_hutsToldOf f_singersToldOf z_from H)
    (hS : va_S (wrA qr qt) s.heap H locs)
    (hl : lv_has ls 2 [(0, .ref qr), (1, .int x1)])
    (hw : q_wr_X4_advance_5 a_tape f_length f_behind f_kind f_first x1 post) :
    W p l e rm_wr_X4_advance s m args below meth c H locs 0 0 (MQ below (zQv (S := (Int32) × (Int32) × (Int32)) (fun u => post u.1 u.2.1 u.2.2) (fun u H => wrW E qr qt lf_huts lf_singers lf_villages lf_dams lf_echoes lf_deep lf_slide la_heights la_ladders la_minutes la_echoFrom la_echoTo la_homes la_talls la_known vf_deeds va_kinds va_firsts va_seconds sf_facts sa_heard sa_huts sa_minutes cf_voices cf_step ca_parts ca_heights f_fault f_faultPlace a_numbers a_tape f_length u.1 u.2.1 u.2.2 f_value f_hutsToldOf f_singersToldOf z_from H) (wrA qr qt)) args s 0 0 (wrA qr qt)) (F0 m 5 ls []) := by
  have hx := zc.1
  have hb := zc.2.1
  refine hw (fun x1 => ∀ (H : Heap) (locs : List Loc) (ls : Array Slot), lv_has ls 2 [(0, .ref qr), (1, .int x1)] → wrW E qr qt lf_huts lf_singers lf_villages lf_dams lf_echoes lf_deep lf_slide la_heights la_ladders la_minutes la_echoFrom la_echoTo la_homes la_talls la_known vf_deeds va_kinds va_firsts va_seconds sf_facts sa_heard sa_huts sa_minutes cf_voices cf_step ca_parts ca_heights f_fault f_faultPlace a_numbers a_tape f_length f_behind f_kind f_first f_value f_hutsToldOf f_singersToldOf z_from H → va_S (wrA qr qt) s.heap H locs → W p l e rm_wr_X4_advance s m args below meth c H locs 0 0 (MQ below (zQv (S := (Int32) × (Int32) × (Int32)) (fun u => post u.1 u.2.1 u.2.2) (fun u H => wrW E qr qt lf_huts lf_singers lf_villages lf_dams lf_echoes lf_deep lf_slide la_heights la_ladders la_minutes la_echoFrom la_echoTo la_homes la_talls la_known vf_deeds va_kinds va_firsts va_seconds sf_facts sa_heard sa_huts sa_minutes cf_voices cf_step ca_parts ca_heights f_fault f_faultPlace a_numbers a_tape f_length u.1 u.2.1 u.2.2 f_value f_hutsToldOf f_singersToldOf z_from H) (wrA qr qt)) args s 0 0 (wrA qr qt)) (F0 m 5 ls [])) ?_ _ _ _ hl hM hS
  intro x1 hw H locs ls hl hM hS
  refine lv_iload_n hx hb dX4_advance_5 rfl (lv_at hl 1 rfl) ?_
  refine lv_aload_n hx hb dX4_advance_6 rfl (lv_at hl 0 rfl) ?_
  refine wrg_4_57_0 zc hK hM dX4_advance_7 ?_
  refine lv_icmp_ge (tgt := 41) hx hb dX4_advance_10 (by decide) (fun hc => ?_) (fun hc => ?_)
  · have hw := hw.1 hc
    exact t_wr_X4_advance_41 zc hK hM hS  (lv_sub hl [0, 1] rfl) hw
  · have hw := hw.2 hc
    refine lv_aload_n hx hb dX4_advance_13 rfl (lv_at hl 0 rfl) ?_
    refine wrg_4_47_0 zc hK hM dX4_advance_14 ?_
    refine lv_iload_n hx hb dX4_advance_17 rfl (lv_at hl 1 rfl) ?_
    refine wrld_22 zc hK hM hw.1 dX4_advance_18 ?_
    have hw := hw.2
    refine lv_bipush (v := (10 : Int32)) hx hb dX4_advance_19 (by decide) ?_
    refine lv_icmp_eq (tgt := 35) hx hb dX4_advance_21 (by decide) (fun hc => ?_) (fun hc => ?_)
    · have hw := hw.1 hc
      exact t_wr_X4_advance_35 zc hK hM hS (fun _ H locs ls h hl hM hS => h H locs ls hl hM hS) (lv_sub hl [0, 1] rfl) hw
    · have hw := hw.2 hc
      refine lv_aload_n hx hb dX4_advance_24 rfl (lv_at hl 0 rfl) ?_
      refine wrg_4_47_0 zc hK hM dX4_advance_25 ?_
      refine lv_iload_n hx hb dX4_advance_28 rfl (lv_at hl 1 rfl) ?_
      refine wrld_22 zc hK hM hw.1 dX4_advance_29 ?_
      have hw := hw.2
      refine lv_bipush (v := (32 : Int32)) hx hb dX4_advance_30 (by decide) ?_
      refine lv_icmp_ne (tgt := 41) hx hb dX4_advance_32 (by decide) (fun hc => ?_) (fun hc => ?_)
      · have hw := hw.1 hc
        exact t_wr_X4_advance_41 zc hK hM hS  (lv_sub hl [0, 1] rfl) hw
      · have hw := hw.2 hc
        exact t_wr_X4_advance_35 zc hK hM hS (fun _ H locs ls h hl hM hS => h H locs ls hl hM hS) (lv_sub hl [0, 1] rfl) hw
set_option maxRecDepth 20000 in
theorem t_wr_X4_advance_0 {p : Program} {l : Launch} {e : Env} {s : State} {m : MethodId} {args : Array Value} {below : List Frame} {meth : Method} {c : Code} {E : zE} {qr qt : Nat} {lf_huts : Int32} {lf_singers : Int32} {lf_villages : Int32} {lf_dams : Int32} {lf_echoes : Int32} {lf_deep : Int32} {lf_slide : Int32} {la_heights : Nat → Int32} {la_ladders : Nat → Int32} {la_minutes : Nat → Int32} {la_echoFrom : Nat → Int32} {la_echoTo : Nat → Int32} {la_homes : Nat → Int32} {la_talls : Nat → Int32} {la_known : Nat → Int32} {vf_deeds : Int32} {va_kinds : Nat → Int32} {va_firsts : Nat → Int32} {va_seconds : Nat → Int32} {sf_facts : Int32} {sa_heard : Nat → Int32} {sa_huts : Nat → Int32} {sa_minutes : Nat → Int32} {cf_voices : Int32} {cf_step : Int32} {ca_parts : Nat → Int32} {ca_heights : Nat → Int32} {f_fault : Int32} {f_faultPlace : Int32} {a_numbers : Nat → Int32} {a_tape : Nat → Int32} {f_length : Int32} {f_behind : Int32} {f_kind : Int32} {f_first : Int32} {f_value : Int32} {f_hutsToldOf : Int32} {f_singersToldOf : Int32} {z_from : Nat → Int32} {post : (Int32) → (Int32) → (Int32) → Prop} {ls : Array Slot} {H : Heap} {locs : List Loc}
    (zc : zC p s m args meth c cX4_advance 2 RX4 none)
    (hK : zK E s)
    (hM : wrW E qr qt lf_huts lf_singers lf_villages lf_dams lf_echoes lf_deep lf_slide la_heights la_ladders la_minutes la_echoFrom la_echoTo la_homes la_talls la_known vf_deeds va_kinds va_firsts va_seconds sf_facts sa_heard sa_huts sa_minutes cf_voices cf_step ca_parts ca_heights f_fault f_faultPlace a_numbers a_tape f_length f_behind f_kind f_first f_value f_hutsToldOf f_singersToldOf z_from H)
    (hS : va_S (wrA qr qt) s.heap H locs)
    (hl : lv_has ls 2 [(0, .ref qr)])
    (hw : q_wr_X4_advance_0 a_tape f_length f_behind f_kind f_first post) :
    W p l e rm_wr_X4_advance s m args below meth c H locs 0 0 (MQ below (zQv (S := (Int32) × (Int32) × (Int32)) (fun u => post u.1 u.2.1 u.2.2) (fun u H => wrW E qr qt lf_huts lf_singers lf_villages lf_dams lf_echoes lf_deep lf_slide la_heights la_ladders la_minutes la_echoFrom la_echoTo la_homes la_talls la_known vf_deeds va_kinds va_firsts va_seconds sf_facts sa_heard sa_huts sa_minutes cf_voices cf_step ca_parts ca_heights f_fault f_faultPlace a_numbers a_tape f_length u.1 u.2.1 u.2.2 f_value f_hutsToldOf f_singersToldOf z_from H) (wrA qr qt)) args s 0 0 (wrA qr qt)) (F0 m 0 ls []) := by
  have hx := zc.1
  have hb := zc.2.1
  refine lv_aload_n hx hb dX4_advance_0 rfl (lv_at hl 0 rfl) ?_
  refine wrg_4_60_0 zc hK hM dX4_advance_1 ?_
  refine lv_istore_n (lv' := [(1, .int f_behind), (0, .ref qr)]) hx hb dX4_advance_4 rfl hl (by decide) rfl (fun ls hl => ?_)
  exact t_wr_X4_advance_5 zc hK hM hS  (lv_sub hl [1, 0] rfl) hw
set_option maxRecDepth 20000 in
theorem c_wr_X4_advance (l : Launch) {E : zE} {qr qt : Nat} {lf_huts : Int32} {lf_singers : Int32} {lf_villages : Int32} {lf_dams : Int32} {lf_echoes : Int32} {lf_deep : Int32} {lf_slide : Int32} {la_heights : Nat → Int32} {la_ladders : Nat → Int32} {la_minutes : Nat → Int32} {la_echoFrom : Nat → Int32} {la_echoTo : Nat → Int32} {la_homes : Nat → Int32} {la_talls : Nat → Int32} {la_known : Nat → Int32} {vf_deeds : Int32} {va_kinds : Nat → Int32} {va_firsts : Nat → Int32} {va_seconds : Nat → Int32} {sf_facts : Int32} {sa_heard : Nat → Int32} {sa_huts : Nat → Int32} {sa_minutes : Nat → Int32} {cf_voices : Int32} {cf_step : Int32} {ca_parts : Nat → Int32} {ca_heights : Nat → Int32} {f_fault : Int32} {f_faultPlace : Int32} {a_numbers : Nat → Int32} {a_tape : Nat → Int32} {f_length : Int32} {f_behind : Int32} {f_kind : Int32} {f_first : Int32} {f_value : Int32} {f_hutsToldOf : Int32} {f_singersToldOf : Int32} {z_from : Nat → Int32} {post : (Int32) → (Int32) → (Int32) → Prop} (hw : q_wr_X4_advance_0 a_tape f_length f_behind f_kind f_first post) : Met l yX4_advance (Cond.code yX4_advance cX4_advance 2 none :: zb) rm_wr_X4_advance (va_Pc [.ref qr] (fun U => wrW E qr qt lf_huts lf_singers lf_villages lf_dams lf_echoes lf_deep lf_slide la_heights la_ladders la_minutes la_echoFrom la_echoTo la_homes la_talls la_known vf_deeds va_kinds va_firsts va_seconds sf_facts sa_heard sa_huts sa_minutes cf_voices cf_step ca_parts ca_heights f_fault f_faultPlace a_numbers a_tape f_length f_behind f_kind f_first f_value f_hutsToldOf f_singersToldOf z_from U.heap ∧ zK E U)) (zQv (S := (Int32) × (Int32) × (Int32)) (fun u => post u.1 u.2.1 u.2.2) (fun u H => wrW E qr qt lf_huts lf_singers lf_villages lf_dams lf_echoes lf_deep lf_slide la_heights la_ladders la_minutes la_echoFrom la_echoTo la_homes la_talls la_known vf_deeds va_kinds va_firsts va_seconds sf_facts sa_heard sa_huts sa_minutes cf_voices cf_step ca_parts ca_heights f_fault f_faultPlace a_numbers a_tape f_length u.1 u.2.1 u.2.2 f_value f_hutsToldOf f_singersToldOf z_from H) (wrA qr qt)) 0 0 (wrA qr qt) := by
  refine Met.ofW (cc := cX4_advance) (maxL := 2) (ret := none) (by decide) rfl ?_
  intro p e s m args below meth c s₁ B hml hv
  obtain ⟨rfl, hM, hK⟩ := hv
  have zc := zc_of B hml
  have hl := lv_entry ([.ref qr]) (n := 2) (Nat.le_of_ble_eq_true rfl)
  rw [lg_entry_eq]
  generalize (lg_sl ([.ref qr]) ++ List.replicate (2 - (lg_sl ([.ref qr])).length) Slot.unset).toArray = ls at hl ⊢
  have hl : lv_has ls 2 [(0, .ref qr)] := hl
  exact t_wr_X4_advance_0 zc hK hM va_S.rf (lv_sub hl [0] rfl) hw
-- wr_X4_tellsOfMissing
abbrev rm_wr_X4_tellsOfMissing : Room := { frames := 0, cells := 0, slots := 0, locals := 0 }
def q_wr_X4_tellsOfMissing_30 (lf_huts : Int32) (lf_singers : Int32) (f_hutsToldOf : Int32) (f_singersToldOf : Int32) (post : Int32 → Prop) : Prop :=
  post (1 : Int32)
def q_wr_X4_tellsOfMissing_0 (lf_huts : Int32) (lf_singers : Int32) (f_hutsToldOf : Int32) (f_singersToldOf : Int32) (post : Int32 → Prop) : Prop :=
  (¬ (f_hutsToldOf >>> (lf_huts &&& 31)) = 0 → (q_wr_X4_tellsOfMissing_30 lf_huts lf_singers f_hutsToldOf f_singersToldOf post)) ∧ ((f_hutsToldOf >>> (lf_huts &&& 31)) = 0 → (((f_singersToldOf >>> (lf_singers &&& 31)) = 0 → (post (0 : Int32))) ∧ (¬ (f_singersToldOf >>> (lf_singers &&& 31)) = 0 → (q_wr_X4_tellsOfMissing_30 lf_huts lf_singers f_hutsToldOf f_singersToldOf post))))
set_option maxRecDepth 20000 in
theorem t_wr_X4_tellsOfMissing_30 {p : Program} {l : Launch} {e : Env} {s : State} {m : MethodId} {args : Array Value} {below : List Frame} {meth : Method} {c : Code} {E : zE} {qr qt : Nat} {lf_huts : Int32} {lf_singers : Int32} {lf_villages : Int32} {lf_dams : Int32} {lf_echoes : Int32} {lf_deep : Int32} {lf_slide : Int32} {la_heights : Nat → Int32} {la_ladders : Nat → Int32} {la_minutes : Nat → Int32} {la_echoFrom : Nat → Int32} {la_echoTo : Nat → Int32} {la_homes : Nat → Int32} {la_talls : Nat → Int32} {la_known : Nat → Int32} {vf_deeds : Int32} {va_kinds : Nat → Int32} {va_firsts : Nat → Int32} {va_seconds : Nat → Int32} {sf_facts : Int32} {sa_heard : Nat → Int32} {sa_huts : Nat → Int32} {sa_minutes : Nat → Int32} {cf_voices : Int32} {cf_step : Int32} {ca_parts : Nat → Int32} {ca_heights : Nat → Int32} {f_fault : Int32} {f_faultPlace : Int32} {a_numbers : Nat → Int32} {a_tape : Nat → Int32} {f_length : Int32} {f_behind : Int32} {f_kind : Int32} {f_first : Int32} {f_value : Int32} {f_hutsToldOf : Int32} {f_singersToldOf : Int32} {z_from : Nat → Int32} {post : Int32 → Prop} {ls : Array Slot}
    (zc : zC p s m args meth c cX4_tellsOfMissing 1 RX4 (some .boolean))
    (hK : zK E s)
    (hM : wrW E qr qt lf_huts lf_singers lf_villages lf_dams lf_echoes lf_deep lf_slide la_heights la_ladders la_minutes la_echoFrom la_echoTo la_homes la_talls la_known vf_deeds va_kinds va_firsts va_seconds sf_facts sa_heard sa_huts sa_minutes cf_voices cf_step ca_parts ca_heights f_fault f_faultPlace a_numbers a_tape f_length f_behind f_kind f_first f_value f_hutsToldOf f_singersToldOf z_from s.heap)
    (hl : lv_has ls 1 [])
    (hw : q_wr_X4_tellsOfMissing_30 lf_huts lf_singers f_hutsToldOf f_singersToldOf post) :
    W p l e rm_wr_X4_tellsOfMissing s m args below meth c s.heap [] 0 0 (MQ below (vp_Si post) args s 0 0 (fun _ => False)) (F0 m 30 ls []) := by
  have hx := zc.1
  have hb := zc.2.1
  refine lv_iconst (v := (1 : Int32)) hx hb dX4_tellsOfMissing_30 (by decide) ?_
  refine lv_goto (tgt := 35) hx hb dX4_tellsOfMissing_31 (by decide) ?_
  exact zret_z zc rfl hw dX4_tellsOfMissing_35
set_option maxRecDepth 20000 in
theorem t_wr_X4_tellsOfMissing_0 {p : Program} {l : Launch} {e : Env} {s : State} {m : MethodId} {args : Array Value} {below : List Frame} {meth : Method} {c : Code} {E : zE} {qr qt : Nat} {lf_huts : Int32} {lf_singers : Int32} {lf_villages : Int32} {lf_dams : Int32} {lf_echoes : Int32} {lf_deep : Int32} {lf_slide : Int32} {la_heights : Nat → Int32} {la_ladders : Nat → Int32} {la_minutes : Nat → Int32} {la_echoFrom : Nat → Int32} {la_echoTo : Nat → Int32} {la_homes : Nat → Int32} {la_talls : Nat → Int32} {la_known : Nat → Int32} {vf_deeds : Int32} {va_kinds : Nat → Int32} {va_firsts : Nat → Int32} {va_seconds : Nat → Int32} {sf_facts : Int32} {sa_heard : Nat → Int32} {sa_huts : Nat → Int32} {sa_minutes : Nat → Int32} {cf_voices : Int32} {cf_step : Int32} {ca_parts : Nat → Int32} {ca_heights : Nat → Int32} {f_fault : Int32} {f_faultPlace : Int32} {a_numbers : Nat → Int32} {a_tape : Nat → Int32} {f_length : Int32} {f_behind : Int32} {f_kind : Int32} {f_first : Int32} {f_value : Int32} {f_hutsToldOf : Int32} {f_singersToldOf : Int32} {z_from : Nat → Int32} {post : Int32 → Prop} {ls : Array Slot}
    (zc : zC p s m args meth c cX4_tellsOfMissing 1 RX4 (some .boolean))
    (hK : zK E s)
    (hM : wrW E qr qt lf_huts lf_singers lf_villages lf_dams lf_echoes lf_deep lf_slide la_heights la_ladders la_minutes la_echoFrom la_echoTo la_homes la_talls la_known vf_deeds va_kinds va_firsts va_seconds sf_facts sa_heard sa_huts sa_minutes cf_voices cf_step ca_parts ca_heights f_fault f_faultPlace a_numbers a_tape f_length f_behind f_kind f_first f_value f_hutsToldOf f_singersToldOf z_from s.heap)
    (hl : lv_has ls 1 [(0, .ref qr)])
    (hw : q_wr_X4_tellsOfMissing_0 lf_huts lf_singers f_hutsToldOf f_singersToldOf post) :
    W p l e rm_wr_X4_tellsOfMissing s m args below meth c s.heap [] 0 0 (MQ below (vp_Si post) args s 0 0 (fun _ => False)) (F0 m 0 ls []) := by
  have hx := zc.1
  have hb := zc.2.1
  refine lv_aload_n hx hb dX4_tellsOfMissing_0 rfl (lv_at hl 0 rfl) ?_
  refine wrg_4_90_0 zc hK hM dX4_tellsOfMissing_1 ?_
  refine lv_aload_n hx hb dX4_tellsOfMissing_4 rfl (lv_at hl 0 rfl) ?_
  refine wrg_4_12_0 zc hK hM dX4_tellsOfMissing_5 ?_
  refine wrg_4_108_1 zc hK hM dX4_tellsOfMissing_8 ?_
  refine lv_ishr hx hb dX4_tellsOfMissing_11 ?_
  refine lv_if_ne (tgt := 30) hx hb dX4_tellsOfMissing_12 (by decide) (fun hc => ?_) (fun hc => ?_)
  · have hw := hw.1 hc
    exact t_wr_X4_tellsOfMissing_30 zc hK hM  (lv_sub hl [] rfl) hw
  · have hw := hw.2 hc
    refine lv_aload_n hx hb dX4_tellsOfMissing_15 rfl (lv_at hl 0 rfl) ?_
    refine wrg_4_93_0 zc hK hM dX4_tellsOfMissing_16 ?_
    refine lv_aload_n hx hb dX4_tellsOfMissing_19 rfl (lv_at hl 0 rfl) ?_
    refine wrg_4_12_0 zc hK hM dX4_tellsOfMissing_20 ?_
    refine wrg_4_111_1 zc hK hM dX4_tellsOfMissing_23 ?_
    refine lv_ishr hx hb dX4_tellsOfMissing_26 ?_
    refine lv_if_eq (tgt := 34) hx hb dX4_tellsOfMissing_27 (by decide) (fun hc => ?_) (fun hc => ?_)
    · have hw := hw.1 hc
      refine lv_iconst (v := (0 : Int32)) hx hb dX4_tellsOfMissing_34 (by decide) ?_
      exact zret_z zc rfl hw dX4_tellsOfMissing_35
    · have hw := hw.2 hc
      exact t_wr_X4_tellsOfMissing_30 zc hK hM  (lv_sub hl [] rfl) hw
set_option maxRecDepth 20000 in
theorem c_wr_X4_tellsOfMissing (l : Launch) {E : zE} {qr qt : Nat} {lf_huts : Int32} {lf_singers : Int32} {lf_villages : Int32} {lf_dams : Int32} {lf_echoes : Int32} {lf_deep : Int32} {lf_slide : Int32} {la_heights : Nat → Int32} {la_ladders : Nat → Int32} {la_minutes : Nat → Int32} {la_echoFrom : Nat → Int32} {la_echoTo : Nat → Int32} {la_homes : Nat → Int32} {la_talls : Nat → Int32} {la_known : Nat → Int32} {vf_deeds : Int32} {va_kinds : Nat → Int32} {va_firsts : Nat → Int32} {va_seconds : Nat → Int32} {sf_facts : Int32} {sa_heard : Nat → Int32} {sa_huts : Nat → Int32} {sa_minutes : Nat → Int32} {cf_voices : Int32} {cf_step : Int32} {ca_parts : Nat → Int32} {ca_heights : Nat → Int32} {f_fault : Int32} {f_faultPlace : Int32} {a_numbers : Nat → Int32} {a_tape : Nat → Int32} {f_length : Int32} {f_behind : Int32} {f_kind : Int32} {f_first : Int32} {f_value : Int32} {f_hutsToldOf : Int32} {f_singersToldOf : Int32} {z_from : Nat → Int32} {post : Int32 → Prop} (hw : q_wr_X4_tellsOfMissing_0 lf_huts lf_singers f_hutsToldOf f_singersToldOf post) : Met l yX4_tellsOfMissing (Cond.code yX4_tellsOfMissing cX4_tellsOfMissing 1 (some .boolean) :: zb) rm_wr_X4_tellsOfMissing (va_Pc [.ref qr] (fun U => wrW E qr qt lf_huts lf_singers lf_villages lf_dams lf_echoes lf_deep lf_slide la_heights la_ladders la_minutes la_echoFrom la_echoTo la_homes la_talls la_known vf_deeds va_kinds va_firsts va_seconds sf_facts sa_heard sa_huts sa_minutes cf_voices cf_step ca_parts ca_heights f_fault f_faultPlace a_numbers a_tape f_length f_behind f_kind f_first f_value f_hutsToldOf f_singersToldOf z_from U.heap ∧ zK E U)) (vp_Si post) 0 0 (fun _ => False) := by
  refine Met.ofW (cc := cX4_tellsOfMissing) (maxL := 1) (ret := (some .boolean)) (by decide) rfl ?_
  intro p e s m args below meth c s₁ B hml hv
  obtain ⟨rfl, hM, hK⟩ := hv
  have zc := zc_of B hml
  have hl := lv_entry ([.ref qr]) (n := 1) (Nat.le_of_ble_eq_true rfl)
  rw [lg_entry_eq]
  generalize (lg_sl ([.ref qr]) ++ List.replicate (1 - (lg_sl ([.ref qr])).length) Slot.unset).toArray = ls at hl ⊢
  have hl : lv_has ls 1 [(0, .ref qr)] := hl
  exact t_wr_X4_tellsOfMissing_0 zc hK hM (lv_sub hl [0] rfl) hw
-- wr_X4_read_23
abbrev rm_wr_X4_read_23 : Room := { frames := 3, cells := 0, slots := 0, locals := 64 }
def q_wr_X4_read_23_78 (lf_huts : Int32) (lf_singers : Int32) (lf_villages : Int32) (lf_dams : Int32) (lf_echoes : Int32) (lf_deep : Int32) (lf_slide : Int32) (la_ladders : Nat → Int32) (la_minutes : Nat → Int32) (la_known : Nat → Int32) (vf_deeds : Int32) (sf_facts : Int32) (cf_voices : Int32) (cf_step : Int32) (f_fault : Int32) (f_faultPlace : Int32) (a_tape : Nat → Int32) (f_length : Int32) (f_behind : Int32) (f_kind : Int32) (f_first : Int32) (f_hutsToldOf : Int32) (f_singersToldOf : Int32) (z_from : Nat → Int32) (x3 : Int32) (post : (Int32) → (Int32) → (Int32) → (Int32) → (Int32) → (Int32) → (Int32) → (Nat → Int32) → (Nat → Int32) → (Nat → Int32) → (Int32) → (Int32) → (Int32) → (Int32) → (Int32) → (Int32) → (Nat → Int32) → (Int32) → (Int32) → (Int32) → (Int32) → (Int32) → (Int32) → Prop) : Prop :=
  (¬ f_fault = 0 → (post lf_huts lf_singers lf_villages lf_dams lf_echoes lf_deep lf_slide la_ladders la_minutes la_known vf_deeds sf_facts cf_voices cf_step f_fault f_faultPlace a_tape f_length f_behind f_kind f_first f_hutsToldOf f_singersToldOf)) ∧ (f_fault = 0 → ((¬ x3 = 0 → (post lf_huts lf_singers lf_villages lf_dams lf_echoes lf_deep lf_slide la_ladders la_minutes la_known vf_deeds sf_facts cf_voices cf_step f_fault f_faultPlace a_tape f_length f_behind f_kind f_first f_hutsToldOf f_singersToldOf)) ∧ (x3 = 0 → (q_wr_X4_tellsOfMissing_0 lf_huts lf_singers f_hutsToldOf f_singersToldOf (fun r_1 => (r_1 = 0 → (post lf_huts lf_singers lf_villages lf_dams lf_echoes lf_deep lf_slide la_ladders la_minutes la_known vf_deeds sf_facts cf_voices cf_step f_fault f_faultPlace a_tape f_length f_behind f_kind f_first f_hutsToldOf f_singersToldOf)) ∧ (¬ r_1 = 0 → False))))))
def q_wr_X4_read_23_43 (lf_huts : Int32) (lf_singers : Int32) (lf_villages : Int32) (lf_dams : Int32) (lf_echoes : Int32) (lf_deep : Int32) (lf_slide : Int32) (la_ladders : Nat → Int32) (la_minutes : Nat → Int32) (la_known : Nat → Int32) (vf_deeds : Int32) (sf_facts : Int32) (cf_voices : Int32) (cf_step : Int32) (f_fault : Int32) (f_faultPlace : Int32) (a_tape : Nat → Int32) (f_length : Int32) (f_behind : Int32) (f_kind : Int32) (f_first : Int32) (f_hutsToldOf : Int32) (f_singersToldOf : Int32) (z_from : Nat → Int32) (x3 : Int32) (x4 : Int32) (post : (Int32) → (Int32) → (Int32) → (Int32) → (Int32) → (Int32) → (Int32) → (Nat → Int32) → (Nat → Int32) → (Nat → Int32) → (Int32) → (Int32) → (Int32) → (Int32) → (Int32) → (Int32) → (Nat → Int32) → (Int32) → (Int32) → (Int32) → (Int32) → (Int32) → (Int32) → Prop) : Prop :=
  (f_length ≤ x4 → (q_wr_X4_read_23_78 lf_huts lf_singers lf_villages lf_dams lf_echoes lf_deep lf_slide la_ladders la_minutes la_known vf_deeds sf_facts cf_voices cf_step f_fault f_faultPlace a_tape f_length f_behind f_kind f_first f_hutsToldOf f_singersToldOf z_from x3 post)) ∧ (¬ f_length ≤ x4 → ((f_kind = 0 → (q_wr_X4_read_23_78 lf_huts lf_singers lf_villages lf_dams lf_echoes lf_deep lf_slide la_ladders la_minutes la_known vf_deeds sf_facts cf_voices cf_step f_fault f_faultPlace a_tape f_length f_behind f_kind f_first f_hutsToldOf f_singersToldOf z_from x3 post)) ∧ (¬ f_kind = 0 → ((f_fault = (1 : Int32) → (q_wr_X4_read_23_78 lf_huts lf_singers lf_villages lf_dams lf_echoes lf_deep lf_slide la_ladders la_minutes la_known vf_deeds sf_facts cf_voices cf_step f_fault f_faultPlace a_tape f_length f_behind f_kind f_first f_hutsToldOf f_singersToldOf z_from x3 post)) ∧ (¬ f_fault = (1 : Int32) → False)))))
def q_wr_X4_read_23_0 (lf_huts : Int32) (lf_singers : Int32) (lf_villages : Int32) (lf_dams : Int32) (lf_echoes : Int32) (lf_deep : Int32) (lf_slide : Int32) (la_ladders : Nat → Int32) (la_minutes : Nat → Int32) (la_known : Nat → Int32) (vf_deeds : Int32) (sf_facts : Int32) (cf_voices : Int32) (cf_step : Int32) (f_fault : Int32) (f_faultPlace : Int32) (a_tape : Nat → Int32) (f_length : Int32) (f_behind : Int32) (f_kind : Int32) (f_first : Int32) (f_hutsToldOf : Int32) (f_singersToldOf : Int32) (z_from : Nat → Int32) (x2 : Int32) (x3 : Int32) (post : (Int32) → (Int32) → (Int32) → (Int32) → (Int32) → (Int32) → (Int32) → (Nat → Int32) → (Nat → Int32) → (Nat → Int32) → (Int32) → (Int32) → (Int32) → (Int32) → (Int32) → (Int32) → (Nat → Int32) → (Int32) → (Int32) → (Int32) → (Int32) → (Int32) → (Int32) → Prop) : Prop :=
  (¬ x2 < 0) ∧ ((Int32.toNatClampNeg (0 : Int32) + Int32.toNatClampNeg x2 ≤ 600) ∧ ((Int32.toNatClampNeg (0 : Int32) + Int32.toNatClampNeg x2 ≤ 600) ∧ ((∀ i, i < Int32.toNatClampNeg x2 → fits .byte (.int (z_from (Int32.toNatClampNeg (0 : Int32) + i))) = true) ∧ (∀ a_tape_1 : Nat → Int32, a_tape_1 = va_cpy z_from a_tape (Int32.toNatClampNeg (0 : Int32)) (Int32.toNatClampNeg (0 : Int32)) (Int32.toNatClampNeg x2) → (q_wr_X4_clearDraft_0 lf_huts lf_singers lf_villages lf_dams lf_echoes lf_deep lf_slide la_ladders la_minutes la_known vf_deeds sf_facts cf_voices cf_step f_hutsToldOf f_singersToldOf x3 (fun lf_huts_1 lf_singers_1 lf_villages_1 lf_dams_1 lf_echoes_1 lf_deep_1 lf_slide_1 la_ladders_1 la_minutes_1 la_known_1 vf_deeds_1 sf_facts_1 cf_voices_1 cf_step_1 f_hutsToldOf_1 f_singersToldOf_1 => q_wr_X4_advance_0 a_tape_1 x2 (0 : Int32) f_kind f_first (fun f_behind_1 f_kind_1 f_first_1 => q_wr_X4_read_23_43 lf_huts_1 lf_singers_1 lf_villages_1 lf_dams_1 lf_echoes_1 lf_deep_1 lf_slide_1 la_ladders_1 la_minutes_1 la_known_1 vf_deeds_1 sf_facts_1 cf_voices_1 cf_step_1 (0 : Int32) (-1 : Int32) a_tape_1 x2 f_behind_1 f_kind_1 f_first_1 f_hutsToldOf_1 f_singersToldOf_1 z_from x3 (0 : Int32) post)))))))
set_option maxRecDepth 20000 in
theorem t_wr_X4_read_23_78 {p : Program} {l : Launch} {e : Env} {s : State} {m : MethodId} {args : Array Value} {below : List Frame} {meth : Method} {c : Code} {E : zE} {qr qt : Nat} {lf_huts : Int32} {lf_singers : Int32} {lf_villages : Int32} {lf_dams : Int32} {lf_echoes : Int32} {lf_deep : Int32} {lf_slide : Int32} {la_heights : Nat → Int32} {la_ladders : Nat → Int32} {la_minutes : Nat → Int32} {la_echoFrom : Nat → Int32} {la_echoTo : Nat → Int32} {la_homes : Nat → Int32} {la_talls : Nat → Int32} {la_known : Nat → Int32} {vf_deeds : Int32} {va_kinds : Nat → Int32} {va_firsts : Nat → Int32} {va_seconds : Nat → Int32} {sf_facts : Int32} {sa_heard : Nat → Int32} {sa_huts : Nat → Int32} {sa_minutes : Nat → Int32} {cf_voices : Int32} {cf_step : Int32} {ca_parts : Nat → Int32} {ca_heights : Nat → Int32} {f_fault : Int32} {f_faultPlace : Int32} {a_numbers : Nat → Int32} {a_tape : Nat → Int32} {f_length : Int32} {f_behind : Int32} {f_kind : Int32} {f_first : Int32} {f_value : Int32} {f_hutsToldOf : Int32} {f_singersToldOf : Int32} {z_from : Nat → Int32} {post : (Int32) → (Int32) → (Int32) → (Int32) → (Int32) → (Int32) → (Int32) → (Nat → Int32) → (Nat → Int32) → (Nat → Int32) → (Int32) → (Int32) → (Int32) → (Int32) → (Int32) → (Int32) → (Nat → Int32) → (Int32) → (Int32) → (Int32) → (Int32) → (Int32) → (Int32) → Prop} {x3 : Int32} {ls : Array Slot} {H : Heap} {locs : List Loc}
    (zc : zC p s m args meth c cX4_read 5 RX4 none)
    (hK : zK E s)
    (hM : wrW E qr qt lf_huts lf_singers lf_villages lf_dams lf_echoes lf_deep lf_slide la_heights la_ladders la_minutes la_echoFrom la_echoTo la_homes la_talls la_known vf_deeds va_kinds va_firsts va_seconds sf_facts sa_heard sa_huts sa_minutes cf_voices cf_step ca_parts ca_heights f_fault f_faultPlace a_numbers a_tape f_length f_behind f_kind f_first f_value f_hutsToldOf f_singersToldOf z_from H)
    (hS : va_S (wrA qr qt) s.heap H locs)
    (hl : lv_has ls 5 [(0, .ref qr), (3, .int x3)])
    (hw : q_wr_X4_read_23_78 lf_huts lf_singers lf_villages lf_dams lf_echoes lf_deep lf_slide la_ladders la_minutes la_known vf_deeds sf_facts cf_voices cf_step f_fault f_faultPlace a_tape f_length f_behind f_kind f_first f_hutsToldOf f_singersToldOf z_from x3 post) :
    W p l e rm_wr_X4_read_23 s m args below meth c H locs 0 0 (MQ below (zQv (S := (Int32) × (Int32) × (Int32) × (Int32) × (Int32) × (Int32) × (Int32) × (Nat → Int32) × (Nat → Int32) × (Nat → Int32) × (Int32) × (Int32) × (Int32) × (Int32) × (Int32) × (Int32) × (Nat → Int32) × (Int32) × (Int32) × (Int32) × (Int32) × (Int32) × (Int32)) (fun u => post u.1 u.2.1 u.2.2.1 u.2.2.2.1 u.2.2.2.2.1 u.2.2.2.2.2.1 u.2.2.2.2.2.2.1 u.2.2.2.2.2.2.2.1 u.2.2.2.2.2.2.2.2.1 u.2.2.2.2.2.2.2.2.2.1 u.2.2.2.2.2.2.2.2.2.2.1 u.2.2.2.2.2.2.2.2.2.2.2.1 u.2.2.2.2.2.2.2.2.2.2.2.2.1 u.2.2.2.2.2.2.2.2.2.2.2.2.2.1 u.2.2.2.2.2.2.2.2.2.2.2.2.2.2.1 u.2.2.2.2.2.2.2.2.2.2.2.2.2.2.2.1 u.2.2.2.2.2.2.2.2.2.2.2.2.2.2.2.2.1 u.2.2.2.2.2.2.2.2.2.2.2.2.2.2.2.2.2.1 u.2.2.2.2.2.2.2.2.2.2.2.2.2.2.2.2.2.2.1 u.2.2.2.2.2.2.2.2.2.2.2.2.2.2.2.2.2.2.2.1 u.2.2.2.2.2.2.2.2.2.2.2.2.2.2.2.2.2.2.2.2.1 u.2.2.2.2.2.2.2.2.2.2.2.2.2.2.2.2.2.2.2.2.2.1 u.2.2.2.2.2.2.2.2.2.2.2.2.2.2.2.2.2.2.2.2.2.2) (fun u H => wrW E qr qt u.1 u.2.1 u.2.2.1 u.2.2.2.1 u.2.2.2.2.1 u.2.2.2.2.2.1 u.2.2.2.2.2.2.1 la_heights u.2.2.2.2.2.2.2.1 u.2.2.2.2.2.2.2.2.1 la_echoFrom la_echoTo la_homes la_talls u.2.2.2.2.2.2.2.2.2.1 u.2.2.2.2.2.2.2.2.2.2.1 va_kinds va_firsts va_seconds u.2.2.2.2.2.2.2.2.2.2.2.1 sa_heard sa_huts sa_minutes u.2.2.2.2.2.2.2.2.2.2.2.2.1 u.2.2.2.2.2.2.2.2.2.2.2.2.2.1 ca_parts ca_heights u.2.2.2.2.2.2.2.2.2.2.2.2.2.2.1 u.2.2.2.2.2.2.2.2.2.2.2.2.2.2.2.1 a_numbers u.2.2.2.2.2.2.2.2.2.2.2.2.2.2.2.2.1 u.2.2.2.2.2.2.2.2.2.2.2.2.2.2.2.2.2.1 u.2.2.2.2.2.2.2.2.2.2.2.2.2.2.2.2.2.2.1 u.2.2.2.2.2.2.2.2.2.2.2.2.2.2.2.2.2.2.2.1 u.2.2.2.2.2.2.2.2.2.2.2.2.2.2.2.2.2.2.2.2.1 f_value u.2.2.2.2.2.2.2.2.2.2.2.2.2.2.2.2.2.2.2.2.2.1 u.2.2.2.2.2.2.2.2.2.2.2.2.2.2.2.2.2.2.2.2.2.2 z_from H) (wrA qr qt)) args s 0 0 (wrA qr qt)) (F0 m 78 ls []) := by
  have hx := zc.1
  have hb := zc.2.1
  refine lv_aload_n hx hb dX4_read_78 rfl (lv_at hl 0 rfl) ?_
  refine wrg_4_63_0 zc hK hM dX4_read_79 ?_
  refine lv_if_ne (tgt := 105) hx hb dX4_read_82 (by decide) (fun hc => ?_) (fun hc => ?_)
  · have hw := hw.1 hc
    exact zret_vw ⟨lf_huts, lf_singers, lf_villages, lf_dams, lf_echoes, lf_deep, lf_slide, la_ladders, la_minutes, la_known, vf_deeds, sf_facts, cf_voices, cf_step, f_fault, f_faultPlace, a_tape, f_length, f_behind, f_kind, f_first, f_hutsToldOf, f_singersToldOf⟩ zc hS hw hM dX4_read_105
  · have hw := hw.2 hc
    refine lv_iload_n hx hb dX4_read_85 rfl (lv_at hl 1 rfl) ?_
    refine lv_if_ne (tgt := 105) hx hb dX4_read_86 (by decide) (fun hc => ?_) (fun hc => ?_)
    · have hw := hw.1 hc
      exact zret_vw ⟨lf_huts, lf_singers, lf_villages, lf_dams, lf_echoes, lf_deep, lf_slide, la_ladders, la_minutes, la_known, vf_deeds, sf_facts, cf_voices, cf_step, f_fault, f_faultPlace, a_tape, f_length, f_behind, f_kind, f_first, f_hutsToldOf, f_singersToldOf⟩ zc hS hw hM dX4_read_105
    · have hw := hw.2 hc
      refine lv_aload_n hx hb dX4_read_89 rfl (lv_at hl 0 rfl) ?_
      refine zV_i [] [] zc ky_X4_tellsOfMissing kz_X4_tellsOfMissing km_4_79 (c_wr_X4_tellsOfMissing l hw) (wrPreV0 hK hM) rfl rfl hl.1 (Nat.le_of_ble_eq_true rfl) ⟨rfl, rfl⟩ ⟨Nat.le_of_ble_eq_true rfl, Nat.le_of_ble_eq_true rfl⟩ ⟨Nat.zero_le _, Nat.zero_le _⟩ dX4_read_90 (fun r_1 hw => ?_)
      refine lv_if_eq (tgt := 105) hx hb dX4_read_93 (by decide) (fun hc => ?_) (fun hc => ?_)
      · have hw := hw.1 hc
        exact zret_vw ⟨lf_huts, lf_singers, lf_villages, lf_dams, lf_echoes, lf_deep, lf_slide, la_ladders, la_minutes, la_known, vf_deeds, sf_facts, cf_voices, cf_step, f_fault, f_faultPlace, a_tape, f_length, f_behind, f_kind, f_first, f_hutsToldOf, f_singersToldOf⟩ zc hS hw hM dX4_read_105
      · have hw := hw.2 hc
        refine lv_aload_n hx hb dX4_read_96 rfl (lv_at hl 0 rfl) ?_
        refine lv_iconst (v := (4 : Int32)) hx hb dX4_read_97 (by decide) ?_
        refine lv_aload_n hx hb dX4_read_98 rfl (lv_at hl 0 rfl) ?_
        refine wrg_4_57_0 zc hK hM dX4_read_99 ?_
        exact hw.elim
set_option maxRecDepth 20000 in
theorem t_wr_X4_read_23_43 {p : Program} {l : Launch} {e : Env} {s : State} {m : MethodId} {args : Array Value} {below : List Frame} {meth : Method} {c : Code} {E : zE} {qr qt : Nat} {lf_huts : Int32} {lf_singers : Int32} {lf_villages : Int32} {lf_dams : Int32} {lf_echoes : Int32} {lf_deep : Int32} {lf_slide : Int32} {la_heights : Nat → Int32} {la_ladders : Nat → Int32} {la_minutes : Nat → Int32} {la_echoFrom : Nat → Int32} {la_echoTo : Nat → Int32} {la_homes : Nat → Int32} {la_talls : Nat → Int32} {la_known : Nat → Int32} {vf_deeds : Int32} {va_kinds : Nat → Int32} {va_firsts : Nat → Int32} {va_seconds : Nat → Int32} {sf_facts : Int32} {sa_heard : Nat → Int32} {sa_huts : Nat → Int32} {sa_minutes : Nat → Int32} {cf_voices : Int32} {cf_step : Int32} {ca_parts : Nat → Int32} {ca_heights : Nat → Int32} {f_fault : Int32} {f_faultPlace : Int32} {a_numbers : Nat → Int32} {a_tape : Nat → Int32} {f_length : Int32} {f_behind : Int32} {f_kind : Int32} {f_first : Int32} {f_value : Int32} {f_hutsToldOf : Int32} {f_singersToldOf : Int32} {z_from : Nat → Int32} {post : (Int32) → (Int32) → (Int32) → (Int32) → (Int32) → (Int32) → (Int32) → (Nat → Int32) → (Nat → Int32) → (Nat → Int32) → (Int32) → (Int32) → (Int32) → (Int32) → (Int32) → (Int32) → (Nat → Int32) → (Int32) → (Int32) → (Int32) → (Int32) → (Int32) → (Int32) → Prop} {x3 : Int32} {x4 : Int32} {ls : Array Slot} {H : Heap} {locs : List Loc}
    (zc : zC p s m args meth c cX4_read 5 RX4 none)
    (hK : zK E s)
    (hM : wrW E qr qt lf_huts lf_singers lf_villages lf_dams lf_echoes lf_deep lf_slide la_heights la_ladders la_minutes la_echoFrom la_echoTo la_homes la_talls la_known vf_deeds va_kinds va_firsts va_seconds sf_facts sa_heard sa_huts sa_minutes cf_voices cf_step ca_parts ca_heights f_fault f_faultPlace a_numbers a_tape f_length f_behind f_kind f_first f_value f_hutsToldOf f_singersToldOf z_from H)
    (hS : va_S (wrA qr qt) s.heap H locs)
    (hl : lv_has ls 5 [(0, .ref qr), (3, .int x3), (4, .int x4)])
    (hw : q_wr_X4_read_23_43 lf_huts lf_singers lf_villages lf_dams lf_echoes lf_deep lf_slide la_ladders la_minutes la_known vf_deeds sf_facts cf_voices cf_step f_fault f_faultPlace a_tape f_length f_behind f_kind f_first f_hutsToldOf f_singersToldOf z_from x3 x4 post) :
    W p l e rm_wr_X4_read_23 s m args below meth c H locs 0 0 (MQ below (zQv (S := (Int32) × (Int32) × (Int32) × (Int32) × (Int32) × (Int32) × (Int32) × (Nat → Int32) × (Nat → Int32) × (Nat → Int32) × (Int32) × (Int32) × (Int32) × (Int32) × (Int32) × (Int32) × (Nat → Int32) × (Int32) × (Int32) × (Int32) × (Int32) × (Int32) × (Int32)) (fun u => post u.1 u.2.1 u.2.2.1 u.2.2.2.1 u.2.2.2.2.1 u.2.2.2.2.2.1 u.2.2.2.2.2.2.1 u.2.2.2.2.2.2.2.1 u.2.2.2.2.2.2.2.2.1 u.2.2.2.2.2.2.2.2.2.1 u.2.2.2.2.2.2.2.2.2.2.1 u.2.2.2.2.2.2.2.2.2.2.2.1 u.2.2.2.2.2.2.2.2.2.2.2.2.1 u.2.2.2.2.2.2.2.2.2.2.2.2.2.1 u.2.2.2.2.2.2.2.2.2.2.2.2.2.2.1 u.2.2.2.2.2.2.2.2.2.2.2.2.2.2.2.1 u.2.2.2.2.2.2.2.2.2.2.2.2.2.2.2.2.1 u.2.2.2.2.2.2.2.2.2.2.2.2.2.2.2.2.2.1 u.2.2.2.2.2.2.2.2.2.2.2.2.2.2.2.2.2.2.1 u.2.2.2.2.2.2.2.2.2.2.2.2.2.2.2.2.2.2.2.1 u.2.2.2.2.2.2.2.2.2.2.2.2.2.2.2.2.2.2.2.2.1 u.2.2.2.2.2.2.2.2.2.2.2.2.2.2.2.2.2.2.2.2.2.1 u.2.2.2.2.2.2.2.2.2.2.2.2.2.2.2.2.2.2.2.2.2.2) (fun u H => wrW E qr qt u.1 u.2.1 u.2.2.1 u.2.2.2.1 u.2.2.2.2.1 u.2.2.2.2.2.1 u.2.2.2.2.2.2.1 la_heights u.2.2.2.2.2.2.2.1 u.2.2.2.2.2.2.2.2.1 la_echoFrom la_echoTo la_homes la_talls u.2.2.2.2.2.2.2.2.2.1 u.2.2.2.2.2.2.2.2.2.2.1 va_kinds va_firsts va_seconds u.2.2.2.2.2.2.2.2.2.2.2.1 sa_heard sa_huts sa_minutes u.2.2.2.2.2.2.2.2.2.2.2.2.1 u.2.2.2.2.2.2.2.2.2.2.2.2.2.1 ca_parts ca_heights u.2.2.2.2.2.2.2.2.2.2.2.2.2.2.1 u.2.2.2.2.2.2.2.2.2.2.2.2.2.2.2.1 a_numbers u.2.2.2.2.2.2.2.2.2.2.2.2.2.2.2.2.1 u.2.2.2.2.2.2.2.2.2.2.2.2.2.2.2.2.2.1 u.2.2.2.2.2.2.2.2.2.2.2.2.2.2.2.2.2.2.1 u.2.2.2.2.2.2.2.2.2.2.2.2.2.2.2.2.2.2.2.1 u.2.2.2.2.2.2.2.2.2.2.2.2.2.2.2.2.2.2.2.2.1 f_value u.2.2.2.2.2.2.2.2.2.2.2.2.2.2.2.2.2.2.2.2.2.1 u.2.2.2.2.2.2.2.2.2.2.2.2.2.2.2.2.2.2.2.2.2.2 z_from H) (wrA qr qt)) args s 0 0 (wrA qr qt)) (F0 m 43 ls []) := by
  have hx := zc.1
  have hb := zc.2.1
  refine lv_iload hx hb dX4_read_43 (lv_at hl 2 rfl) ?_
  refine lv_aload_n hx hb dX4_read_45 rfl (lv_at hl 0 rfl) ?_
  refine wrg_4_57_0 zc hK hM dX4_read_46 ?_
  refine lv_icmp_ge (tgt := 78) hx hb dX4_read_49 (by decide) (fun hc => ?_) (fun hc => ?_)
  · have hw := hw.1 hc
    exact t_wr_X4_read_23_78 zc hK hM hS  (lv_sub hl [0, 1] rfl) hw
  · have hw := hw.2 hc
    refine lv_aload_n hx hb dX4_read_52 rfl (lv_at hl 0 rfl) ?_
    refine wrg_4_73_0 zc hK hM dX4_read_53 ?_
    refine lv_if_eq (tgt := 78) hx hb dX4_read_56 (by decide) (fun hc => ?_) (fun hc => ?_)
    · have hw := hw.1 hc
      exact t_wr_X4_read_23_78 zc hK hM hS  (lv_sub hl [0, 1] rfl) hw
    · have hw := hw.2 hc
      refine lv_aload_n hx hb dX4_read_59 rfl (lv_at hl 0 rfl) ?_
      refine wrg_4_63_0 zc hK hM dX4_read_60 ?_
      refine lv_iconst (v := (1 : Int32)) hx hb dX4_read_63 (by decide) ?_
      refine lv_icmp_eq (tgt := 78) hx hb dX4_read_64 (by decide) (fun hc => ?_) (fun hc => ?_)
      · have hw := hw.1 hc
        exact t_wr_X4_read_23_78 zc hK hM hS  (lv_sub hl [0, 1] rfl) hw
      · have hw := hw.2 hc
        refine lv_aload_n hx hb dX4_read_67 rfl (lv_at hl 0 rfl) ?_
        refine lv_iload_n hx hb dX4_read_68 rfl (lv_at hl 1 rfl) ?_
        exact hw.elim
set_option maxRecDepth 20000 in
theorem t_wr_X4_read_23_0 {p : Program} {l : Launch} {e : Env} {s : State} {m : MethodId} {args : Array Value} {below : List Frame} {meth : Method} {c : Code} {E : zE} {qr qt : Nat} {lf_huts : Int32} {lf_singers : Int32} {lf_villages : Int32} {lf_dams : Int32} {lf_echoes : Int32} {lf_deep : Int32} {lf_slide : Int32} {la_heights : Nat → Int32} {la_ladders : Nat → Int32} {la_minutes : Nat → Int32} {la_echoFrom : Nat → Int32} {la_echoTo : Nat → Int32} {la_homes : Nat → Int32} {la_talls : Nat → Int32} {la_known : Nat → Int32} {vf_deeds : Int32} {va_kinds : Nat → Int32} {va_firsts : Nat → Int32} {va_seconds : Nat → Int32} {sf_facts : Int32} {sa_heard : Nat → Int32} {sa_huts : Nat → Int32} {sa_minutes : Nat → Int32} {cf_voices : Int32} {cf_step : Int32} {ca_parts : Nat → Int32} {ca_heights : Nat → Int32} {f_fault : Int32} {f_faultPlace : Int32} {a_numbers : Nat → Int32} {a_tape : Nat → Int32} {f_length : Int32} {f_behind : Int32} {f_kind : Int32} {f_first : Int32} {f_value : Int32} {f_hutsToldOf : Int32} {f_singersToldOf : Int32} {z_from : Nat → Int32} {post : (Int32) → (Int32) → (Int32) → (Int32) → (Int32) → (Int32) → (Int32) → (Nat → Int32) → (Nat → Int32) → (Nat → Int32) → (Int32) → (Int32) → (Int32) → (Int32) → (Int32) → (Int32) → (Nat → Int32) → (Int32) → (Int32) → (Int32) → (Int32) → (Int32) → (Int32) → Prop} {x2 : Int32} {x3 : Int32} {ls : Array Slot} {H : Heap} {locs : List Loc}
    (zc : zC p s m args meth c cX4_read 5 RX4 none)
    (hK : zK E s)
    (hM : wrW E qr qt lf_huts lf_singers lf_villages lf_dams lf_echoes lf_deep lf_slide la_heights la_ladders la_minutes la_echoFrom la_echoTo la_homes la_talls la_known vf_deeds va_kinds va_firsts va_seconds sf_facts sa_heard sa_huts sa_minutes cf_voices cf_step ca_parts ca_heights f_fault f_faultPlace a_numbers a_tape f_length f_behind f_kind f_first f_value f_hutsToldOf f_singersToldOf z_from H)
    (hS : va_S (wrA qr qt) s.heap H locs)
    (hl : lv_has ls 5 [(0, .ref qr), (1, .ref qt), (2, .int x2), (3, .int x3)])
    (hw : q_wr_X4_read_23_0 lf_huts lf_singers lf_villages lf_dams lf_echoes lf_deep lf_slide la_ladders la_minutes la_known vf_deeds sf_facts cf_voices cf_step f_fault f_faultPlace a_tape f_length f_behind f_kind f_first f_hutsToldOf f_singersToldOf z_from x2 x3 post) :
    W p l e rm_wr_X4_read_23 s m args below meth c H locs 0 0 (MQ below (zQv (S := (Int32) × (Int32) × (Int32) × (Int32) × (Int32) × (Int32) × (Int32) × (Nat → Int32) × (Nat → Int32) × (Nat → Int32) × (Int32) × (Int32) × (Int32) × (Int32) × (Int32) × (Int32) × (Nat → Int32) × (Int32) × (Int32) × (Int32) × (Int32) × (Int32) × (Int32)) (fun u => post u.1 u.2.1 u.2.2.1 u.2.2.2.1 u.2.2.2.2.1 u.2.2.2.2.2.1 u.2.2.2.2.2.2.1 u.2.2.2.2.2.2.2.1 u.2.2.2.2.2.2.2.2.1 u.2.2.2.2.2.2.2.2.2.1 u.2.2.2.2.2.2.2.2.2.2.1 u.2.2.2.2.2.2.2.2.2.2.2.1 u.2.2.2.2.2.2.2.2.2.2.2.2.1 u.2.2.2.2.2.2.2.2.2.2.2.2.2.1 u.2.2.2.2.2.2.2.2.2.2.2.2.2.2.1 u.2.2.2.2.2.2.2.2.2.2.2.2.2.2.2.1 u.2.2.2.2.2.2.2.2.2.2.2.2.2.2.2.2.1 u.2.2.2.2.2.2.2.2.2.2.2.2.2.2.2.2.2.1 u.2.2.2.2.2.2.2.2.2.2.2.2.2.2.2.2.2.2.1 u.2.2.2.2.2.2.2.2.2.2.2.2.2.2.2.2.2.2.2.1 u.2.2.2.2.2.2.2.2.2.2.2.2.2.2.2.2.2.2.2.2.1 u.2.2.2.2.2.2.2.2.2.2.2.2.2.2.2.2.2.2.2.2.2.1 u.2.2.2.2.2.2.2.2.2.2.2.2.2.2.2.2.2.2.2.2.2.2) (fun u H => wrW E qr qt u.1 u.2.1 u.2.2.1 u.2.2.2.1 u.2.2.2.2.1 u.2.2.2.2.2.1 u.2.2.2.2.2.2.1 la_heights u.2.2.2.2.2.2.2.1 u.2.2.2.2.2.2.2.2.1 la_echoFrom la_echoTo la_homes la_talls u.2.2.2.2.2.2.2.2.2.1 u.2.2.2.2.2.2.2.2.2.2.1 va_kinds va_firsts va_seconds u.2.2.2.2.2.2.2.2.2.2.2.1 sa_heard sa_huts sa_minutes u.2.2.2.2.2.2.2.2.2.2.2.2.1 u.2.2.2.2.2.2.2.2.2.2.2.2.2.1 ca_parts ca_heights u.2.2.2.2.2.2.2.2.2.2.2.2.2.2.1 u.2.2.2.2.2.2.2.2.2.2.2.2.2.2.2.1 a_numbers u.2.2.2.2.2.2.2.2.2.2.2.2.2.2.2.2.1 u.2.2.2.2.2.2.2.2.2.2.2.2.2.2.2.2.2.1 u.2.2.2.2.2.2.2.2.2.2.2.2.2.2.2.2.2.2.1 u.2.2.2.2.2.2.2.2.2.2.2.2.2.2.2.2.2.2.2.1 u.2.2.2.2.2.2.2.2.2.2.2.2.2.2.2.2.2.2.2.2.1 f_value u.2.2.2.2.2.2.2.2.2.2.2.2.2.2.2.2.2.2.2.2.2.1 u.2.2.2.2.2.2.2.2.2.2.2.2.2.2.2.2.2.2.2.2.2.2 z_from H) (wrA qr qt)) args s 0 0 (wrA qr qt)) (F0 m 0 ls []) := by
  have hx := zc.1
  have hb := zc.2.1
  refine lv_aload_n hx hb dX4_read_0 rfl (lv_at hl 1 rfl) ?_
  refine lv_iconst (v := (0 : Int32)) hx hb dX4_read_1 (by decide) ?_
  refine lv_aload_n hx hb dX4_read_2 rfl (lv_at hl 0 rfl) ?_
  refine wrg_4_47_0 zc hK hM dX4_read_3 ?_
  refine lv_iconst (v := (0 : Int32)) hx hb dX4_read_6 (by decide) ?_
  refine lv_iload_n hx hb dX4_read_7 rfl (lv_at hl 2 rfl) ?_
  have hs1 := hw.1
  have hw := hw.2
  have hs2 := hw.1
  have hw := hw.2
  have hs3 := hw.1
  have hw := hw.2
  have hs4 := hw.1
  have hw := hw.2
  refine wrcp_23_22 zc hK hM hS hl.1 (zc.2.2.2.2.1 _ km_4_51) (by decide) (by decide) hs1 hs2 hs3 hs4 (by decide) (by decide) dX4_read_8 (fun a_tape_1 H locs ea_tape_1 hM hS => ?_)
  have hw := hw a_tape_1 ea_tape_1
  refine lv_aload_n hx hb dX4_read_11 rfl (lv_at hl 0 rfl) ?_
  refine lv_iload_n hx hb dX4_read_12 rfl (lv_at hl 2 rfl) ?_
  refine wrp_4_57_0 zc hK hM hS dX4_read_13 (fun H locs hM hS => ?_)
  refine lv_aload_n hx hb dX4_read_16 rfl (lv_at hl 0 rfl) ?_
  refine lv_iconst (v := (0 : Int32)) hx hb dX4_read_17 (by decide) ?_
  refine wrp_4_60_0 zc hK hM hS dX4_read_18 (fun H locs hM hS => ?_)
  refine lv_aload_n hx hb dX4_read_21 rfl (lv_at hl 0 rfl) ?_
  refine lv_iconst (v := (0 : Int32)) hx hb dX4_read_22 (by decide) ?_
  refine wrp_4_63_0 zc hK hM hS dX4_read_23 (fun H locs hM hS => ?_)
  refine lv_aload_n hx hb dX4_read_26 rfl (lv_at hl 0 rfl) ?_
  refine lv_iconst (v := (-1 : Int32)) hx hb dX4_read_27 (by decide) ?_
  refine wrp_4_39_0 zc hK hM hS dX4_read_28 (fun H locs hM hS => ?_)
  refine lv_aload_n hx hb dX4_read_31 rfl (lv_at hl 0 rfl) ?_
  refine lv_iload_n hx hb dX4_read_32 rfl (lv_at hl 3 rfl) ?_
  refine zVw_v [.int x3] [] zc ky_X4_clearDraft kz_X4_clearDraft km_4_66 (c_wr_X4_clearDraft l hw) (wrPreV0 hK hM) hS rfl rfl hl.1 (Nat.le_of_ble_eq_true rfl) ⟨rfl, rfl⟩ ⟨Nat.le_of_ble_eq_true rfl, Nat.le_of_ble_eq_true rfl⟩ ⟨Nat.zero_le _, Nat.zero_le _⟩ dX4_read_33 (fun u H locs hw hM hS => ?_)
  obtain ⟨lf_huts_1, lf_singers_1, lf_villages_1, lf_dams_1, lf_echoes_1, lf_deep_1, lf_slide_1, la_ladders_1, la_minutes_1, la_known_1, vf_deeds_1, sf_facts_1, cf_voices_1, cf_step_1, f_hutsToldOf_1, f_singersToldOf_1⟩ := u
  refine lv_aload_n hx hb dX4_read_36 rfl (lv_at hl 0 rfl) ?_
  refine zVw_v [] [] zc ky_X4_advance kz_X4_advance km_4_70 (c_wr_X4_advance l hw) (wrPreV0 hK hM) hS rfl rfl hl.1 (Nat.le_of_ble_eq_true rfl) ⟨rfl, rfl⟩ ⟨Nat.le_of_ble_eq_true rfl, Nat.le_of_ble_eq_true rfl⟩ ⟨Nat.zero_le _, Nat.zero_le _⟩ dX4_read_37 (fun u H locs hw hM hS => ?_)
  obtain ⟨f_behind_1, f_kind_1, f_first_1⟩ := u
  refine lv_iconst (v := (0 : Int32)) hx hb dX4_read_40 (by decide) ?_
  refine lv_istore (lv' := [(4, .int (0 : Int32)), (0, .ref qr), (1, .ref qt), (2, .int x2), (3, .int x3)]) hx hb dX4_read_41 hl (by decide) rfl (fun ls hl => ?_)
  exact t_wr_X4_read_23_43 zc hK hM hS  (lv_sub hl [1, 4, 0] rfl) hw
set_option maxRecDepth 20000 in
theorem c_wr_X4_read_23 (l : Launch) {E : zE} {qr qt : Nat} {lf_huts : Int32} {lf_singers : Int32} {lf_villages : Int32} {lf_dams : Int32} {lf_echoes : Int32} {lf_deep : Int32} {lf_slide : Int32} {la_heights : Nat → Int32} {la_ladders : Nat → Int32} {la_minutes : Nat → Int32} {la_echoFrom : Nat → Int32} {la_echoTo : Nat → Int32} {la_homes : Nat → Int32} {la_talls : Nat → Int32} {la_known : Nat → Int32} {vf_deeds : Int32} {va_kinds : Nat → Int32} {va_firsts : Nat → Int32} {va_seconds : Nat → Int32} {sf_facts : Int32} {sa_heard : Nat → Int32} {sa_huts : Nat → Int32} {sa_minutes : Nat → Int32} {cf_voices : Int32} {cf_step : Int32} {ca_parts : Nat → Int32} {ca_heights : Nat → Int32} {f_fault : Int32} {f_faultPlace : Int32} {a_numbers : Nat → Int32} {a_tape : Nat → Int32} {f_length : Int32} {f_behind : Int32} {f_kind : Int32} {f_first : Int32} {f_value : Int32} {f_hutsToldOf : Int32} {f_singersToldOf : Int32} {z_from : Nat → Int32} {x2 : Int32} {x3 : Int32} {post : (Int32) → (Int32) → (Int32) → (Int32) → (Int32) → (Int32) → (Int32) → (Nat → Int32) → (Nat → Int32) → (Nat → Int32) → (Int32) → (Int32) → (Int32) → (Int32) → (Int32) → (Int32) → (Nat → Int32) → (Int32) → (Int32) → (Int32) → (Int32) → (Int32) → (Int32) → Prop} (hw : q_wr_X4_read_23_0 lf_huts lf_singers lf_villages lf_dams lf_echoes lf_deep lf_slide la_ladders la_minutes la_known vf_deeds sf_facts cf_voices cf_step f_fault f_faultPlace a_tape f_length f_behind f_kind f_first f_hutsToldOf f_singersToldOf z_from x2 x3 post) : Met l yX4_read (Cond.code yX4_read cX4_read 5 none :: zb) rm_wr_X4_read_23 (va_Pc [.ref qr, .ref qt, .int x2, .int x3] (fun U => wrW E qr qt lf_huts lf_singers lf_villages lf_dams lf_echoes lf_deep lf_slide la_heights la_ladders la_minutes la_echoFrom la_echoTo la_homes la_talls la_known vf_deeds va_kinds va_firsts va_seconds sf_facts sa_heard sa_huts sa_minutes cf_voices cf_step ca_parts ca_heights f_fault f_faultPlace a_numbers a_tape f_length f_behind f_kind f_first f_value f_hutsToldOf f_singersToldOf z_from U.heap ∧ zK E U)) (zQv (S := (Int32) × (Int32) × (Int32) × (Int32) × (Int32) × (Int32) × (Int32) × (Nat → Int32) × (Nat → Int32) × (Nat → Int32) × (Int32) × (Int32) × (Int32) × (Int32) × (Int32) × (Int32) × (Nat → Int32) × (Int32) × (Int32) × (Int32) × (Int32) × (Int32) × (Int32)) (fun u => post u.1 u.2.1 u.2.2.1 u.2.2.2.1 u.2.2.2.2.1 u.2.2.2.2.2.1 u.2.2.2.2.2.2.1 u.2.2.2.2.2.2.2.1 u.2.2.2.2.2.2.2.2.1 u.2.2.2.2.2.2.2.2.2.1 u.2.2.2.2.2.2.2.2.2.2.1 u.2.2.2.2.2.2.2.2.2.2.2.1 u.2.2.2.2.2.2.2.2.2.2.2.2.1 u.2.2.2.2.2.2.2.2.2.2.2.2.2.1 u.2.2.2.2.2.2.2.2.2.2.2.2.2.2.1 u.2.2.2.2.2.2.2.2.2.2.2.2.2.2.2.1 u.2.2.2.2.2.2.2.2.2.2.2.2.2.2.2.2.1 u.2.2.2.2.2.2.2.2.2.2.2.2.2.2.2.2.2.1 u.2.2.2.2.2.2.2.2.2.2.2.2.2.2.2.2.2.2.1 u.2.2.2.2.2.2.2.2.2.2.2.2.2.2.2.2.2.2.2.1 u.2.2.2.2.2.2.2.2.2.2.2.2.2.2.2.2.2.2.2.2.1 u.2.2.2.2.2.2.2.2.2.2.2.2.2.2.2.2.2.2.2.2.2.1 u.2.2.2.2.2.2.2.2.2.2.2.2.2.2.2.2.2.2.2.2.2.2) (fun u H => wrW E qr qt u.1 u.2.1 u.2.2.1 u.2.2.2.1 u.2.2.2.2.1 u.2.2.2.2.2.1 u.2.2.2.2.2.2.1 la_heights u.2.2.2.2.2.2.2.1 u.2.2.2.2.2.2.2.2.1 la_echoFrom la_echoTo la_homes la_talls u.2.2.2.2.2.2.2.2.2.1 u.2.2.2.2.2.2.2.2.2.2.1 va_kinds va_firsts va_seconds u.2.2.2.2.2.2.2.2.2.2.2.1 sa_heard sa_huts sa_minutes u.2.2.2.2.2.2.2.2.2.2.2.2.1 u.2.2.2.2.2.2.2.2.2.2.2.2.2.1 ca_parts ca_heights u.2.2.2.2.2.2.2.2.2.2.2.2.2.2.1 u.2.2.2.2.2.2.2.2.2.2.2.2.2.2.2.1 a_numbers u.2.2.2.2.2.2.2.2.2.2.2.2.2.2.2.2.1 u.2.2.2.2.2.2.2.2.2.2.2.2.2.2.2.2.2.1 u.2.2.2.2.2.2.2.2.2.2.2.2.2.2.2.2.2.2.1 u.2.2.2.2.2.2.2.2.2.2.2.2.2.2.2.2.2.2.2.1 u.2.2.2.2.2.2.2.2.2.2.2.2.2.2.2.2.2.2.2.2.1 f_value u.2.2.2.2.2.2.2.2.2.2.2.2.2.2.2.2.2.2.2.2.2.1 u.2.2.2.2.2.2.2.2.2.2.2.2.2.2.2.2.2.2.2.2.2.2 z_from H) (wrA qr qt)) 0 0 (wrA qr qt) := by
  refine Met.ofW (cc := cX4_read) (maxL := 5) (ret := none) (by decide) rfl ?_
  intro p e s m args below meth c s₁ B hml hv
  obtain ⟨rfl, hM, hK⟩ := hv
  have zc := zc_of B hml
  have hl := lv_entry ([.ref qr, .ref qt, .int x2, .int x3]) (n := 5) (Nat.le_of_ble_eq_true rfl)
  rw [lg_entry_eq]
  generalize (lg_sl ([.ref qr, .ref qt, .int x2, .int x3]) ++ List.replicate (5 - (lg_sl ([.ref qr, .ref qt, .int x2, .int x3])).length) Slot.unset).toArray = ls at hl ⊢
  have hl : lv_has ls 5 [(0, .ref qr), (1, .ref qt), (2, .int x2), (3, .int x3)] := hl
  exact t_wr_X4_read_23_0 zc hK hM va_S.rf (lv_sub hl [0, 1, 2, 3] rfl) hw
