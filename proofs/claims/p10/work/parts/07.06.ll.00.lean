-- wll_X2_copyFrom_9
abbrev rm_wll_X2_copyFrom_9 : Room := { frames := 1, cells := 0, slots := 0, locals := 40 }
def q_wll_X2_copyFrom_9_0 (f_huts : Int32) (f_singers : Int32) (f_villages : Int32) (f_dams : Int32) (f_echoes : Int32) (f_deep : Int32) (f_slide : Int32) (a_heights : Nat → Int32) (a_ladders : Nat → Int32) (a_minutes : Nat → Int32) (a_echoFrom : Nat → Int32) (a_echoTo : Nat → Int32) (a_homes : Nat → Int32) (a_talls : Nat → Int32) (a_known : Nat → Int32) (of_huts : Int32) (of_singers : Int32) (of_villages : Int32) (of_dams : Int32) (of_echoes : Int32) (of_deep : Int32) (of_slide : Int32) (oa_heights : Nat → Int32) (oa_ladders : Nat → Int32) (oa_minutes : Nat → Int32) (oa_echoFrom : Nat → Int32) (oa_echoTo : Nat → Int32) (oa_homes : Nat → Int32) (oa_talls : Nat → Int32) (oa_known : Nat → Int32) (post : (Int32) → (Int32) → (Int32) → (Int32) → (Int32) → (Int32) → (Int32) → (Nat → Int32) → (Nat → Int32) → (Nat → Int32) → (Nat → Int32) → (Nat → Int32) → (Nat → Int32) → (Nat → Int32) → (Nat → Int32) → Prop) : Prop :=
  ∀ a_heights_1 : Nat → Int32, a_heights_1 = va_cpy oa_heights a_heights (Int32.toNatClampNeg (0 : Int32)) (Int32.toNatClampNeg (0 : Int32)) (Int32.toNatClampNeg (9 : Int32)) → (∀ a_ladders_1 : Nat → Int32, a_ladders_1 = va_cpy oa_ladders a_ladders (Int32.toNatClampNeg (0 : Int32)) (Int32.toNatClampNeg (0 : Int32)) (Int32.toNatClampNeg (9 : Int32)) → (∀ a_minutes_1 : Nat → Int32, a_minutes_1 = va_cpy oa_minutes a_minutes (Int32.toNatClampNeg (0 : Int32)) (Int32.toNatClampNeg (0 : Int32)) (Int32.toNatClampNeg (81 : Int32)) → (∀ a_echoFrom_1 : Nat → Int32, a_echoFrom_1 = va_cpy oa_echoFrom a_echoFrom (Int32.toNatClampNeg (0 : Int32)) (Int32.toNatClampNeg (0 : Int32)) (Int32.toNatClampNeg (4 : Int32)) → (∀ a_echoTo_1 : Nat → Int32, a_echoTo_1 = va_cpy oa_echoTo a_echoTo (Int32.toNatClampNeg (0 : Int32)) (Int32.toNatClampNeg (0 : Int32)) (Int32.toNatClampNeg (4 : Int32)) → (∀ a_homes_1 : Nat → Int32, a_homes_1 = va_cpy oa_homes a_homes (Int32.toNatClampNeg (0 : Int32)) (Int32.toNatClampNeg (0 : Int32)) (Int32.toNatClampNeg (6 : Int32)) → (∀ a_talls_1 : Nat → Int32, a_talls_1 = va_cpy oa_talls a_talls (Int32.toNatClampNeg (0 : Int32)) (Int32.toNatClampNeg (0 : Int32)) (Int32.toNatClampNeg (6 : Int32)) → (∀ a_known_1 : Nat → Int32, a_known_1 = va_cpy oa_known a_known (Int32.toNatClampNeg (0 : Int32)) (Int32.toNatClampNeg (0 : Int32)) (Int32.toNatClampNeg (6 : Int32)) → (post of_huts of_singers of_villages of_dams of_echoes of_deep of_slide a_heights_1 a_ladders_1 a_minutes_1 a_echoFrom_1 a_echoTo_1 a_homes_1 a_talls_1 a_known_1))))))))
set_option maxRecDepth 20000 in
theorem t_wll_X2_copyFrom_9_0 {p : Program} {l : Launch} {e : Env} {s : State} {m : MethodId} {args : Array Value} {below : List Frame} {meth : Method} {c : Code} {E : zE} {ql qm : Nat} {f_huts : Int32} {f_singers : Int32} {f_villages : Int32} {f_dams : Int32} {f_echoes : Int32} {f_deep : Int32} {f_slide : Int32} {a_heights : Nat → Int32} {a_ladders : Nat → Int32} {a_minutes : Nat → Int32} {a_echoFrom : Nat → Int32} {a_echoTo : Nat → Int32} {a_homes : Nat → Int32} {a_talls : Nat → Int32} {a_known : Nat → Int32} {of_huts : Int32} {of_singers : Int32} {of_villages : Int32} {of_dams : Int32} {of_echoes : Int32} {of_deep : Int32} {of_slide : Int32} {oa_heights : Nat → Int32} {oa_ladders : Nat → Int32} {oa_minutes : Nat → Int32} {oa_echoFrom : Nat → Int32} {oa_echoTo : Nat → Int32} {oa_homes : Nat → Int32} {oa_talls : Nat → Int32} {oa_known : Nat → Int32} {post : (Int32) → (Int32) → (Int32) → (Int32) → (Int32) → (Int32) → (Int32) → (Nat → Int32) → (Nat → Int32) → (Nat → Int32) → (Nat → Int32) → (Nat → Int32) → (Nat → Int32) → (Nat → Int32) → (Nat → Int32) → Prop} {ls : Array Slot} {H : Heap} {locs : List Loc}
    (zc : zC p s m args meth c cX2_copyFrom 2 RX2 none)
    (hK : zK E s)
    (hM : wllW E ql qm f_huts f_singers f_villages f_dams f_echoes f_deep f_slide a_heights a_ladders a_minutes a_echoFrom a_echoTo a_homes a_talls a_known of_huts of_singers of_villages of_dams of_echoes of_deep of_slide oa_heights oa_ladders oa_minutes oa_echoFrom oa_echoTo oa_homes oa_talls oa_known H)
    (hS : va_S (wllA ql qm) s.heap H locs)
    (hl : lv_has ls 2 [(0, .ref ql), (1, .ref qm)])
    (hw : q_wll_X2_copyFrom_9_0 f_huts f_singers f_villages f_dams f_echoes f_deep f_slide a_heights a_ladders a_minutes a_echoFrom a_echoTo a_homes a_talls a_known of_huts of_singers of_villages of_dams of_echoes of_deep of_slide oa_heights oa_ladders oa_minutes oa_echoFrom oa_echoTo oa_homes oa_talls oa_known post) :
    W p l e rm_wll_X2_copyFrom_9 s m args below meth c H locs 0 0 (MQ below (zQv (S := (Int32) × (Int32) × (Int32) × (Int32) × (Int32) × (Int32) × (Int32) × (Nat → Int32) × (Nat → Int32) × (Nat → Int32) × (Nat → Int32) × (Nat → Int32) × (Nat → Int32) × (Nat → Int32) × (Nat → Int32)) (fun u => post u.1 u.2.1 u.2.2.1 u.2.2.2.1 u.2.2.2.2.1 u.2.2.2.2.2.1 u.2.2.2.2.2.2.1 u.2.2.2.2.2.2.2.1 u.2.2.2.2.2.2.2.2.1 u.2.2.2.2.2.2.2.2.2.1 u.2.2.2.2.2.2.2.2.2.2.1 u.2.2.2.2.2.2.2.2.2.2.2.1 u.2.2.2.2.2.2.2.2.2.2.2.2.1 u.2.2.2.2.2.2.2.2.2.2.2.2.2.1 u.2.2.2.2.2.2.2.2.2.2.2.2.2.2) (fun u H => wllW E ql qm u.1 u.2.1 u.2.2.1 u.2.2.2.1 u.2.2.2.2.1 u.2.2.2.2.2.1 u.2.2.2.2.2.2.1 u.2.2.2.2.2.2.2.1 u.2.2.2.2.2.2.2.2.1 u.2.2.2.2.2.2.2.2.2.1 u.2.2.2.2.2.2.2.2.2.2.1 u.2.2.2.2.2.2.2.2.2.2.2.1 u.2.2.2.2.2.2.2.2.2.2.2.2.1 u.2.2.2.2.2.2.2.2.2.2.2.2.2.1 u.2.2.2.2.2.2.2.2.2.2.2.2.2.2 of_huts of_singers of_villages of_dams of_echoes of_deep of_slide oa_heights oa_ladders oa_minutes oa_echoFrom oa_echoTo oa_homes oa_talls oa_known H) (wllA ql qm)) args s 0 0 (wllA ql qm)) (F0 m 0 ls []) := by
  have hx := zc.1
  have hb := zc.2.1
  refine lv_aload_n hx hb dX2_copyFrom_0 rfl (lv_at hl 0 rfl) ?_
  refine lv_aload_n hx hb dX2_copyFrom_1 rfl (lv_at hl 1 rfl) ?_
  refine wllg_2_43_9 zc hK hM dX2_copyFrom_2 ?_
  refine wllp_2_43_0 zc hK hM hS dX2_copyFrom_5 (fun H locs hM hS => ?_)
  refine lv_aload_n hx hb dX2_copyFrom_8 rfl (lv_at hl 0 rfl) ?_
  refine lv_aload_n hx hb dX2_copyFrom_9 rfl (lv_at hl 1 rfl) ?_
  refine wllg_2_46_9 zc hK hM dX2_copyFrom_10 ?_
  refine wllp_2_46_0 zc hK hM hS dX2_copyFrom_13 (fun H locs hM hS => ?_)
  refine lv_aload_n hx hb dX2_copyFrom_16 rfl (lv_at hl 0 rfl) ?_
  refine lv_aload_n hx hb dX2_copyFrom_17 rfl (lv_at hl 1 rfl) ?_
  refine wllg_2_49_9 zc hK hM dX2_copyFrom_18 ?_
  refine wllp_2_49_0 zc hK hM hS dX2_copyFrom_21 (fun H locs hM hS => ?_)
  refine lv_aload_n hx hb dX2_copyFrom_24 rfl (lv_at hl 0 rfl) ?_
  refine lv_aload_n hx hb dX2_copyFrom_25 rfl (lv_at hl 1 rfl) ?_
  refine wllg_2_52_9 zc hK hM dX2_copyFrom_26 ?_
  refine wllp_2_52_0 zc hK hM hS dX2_copyFrom_29 (fun H locs hM hS => ?_)
  refine lv_aload_n hx hb dX2_copyFrom_32 rfl (lv_at hl 0 rfl) ?_
  refine lv_aload_n hx hb dX2_copyFrom_33 rfl (lv_at hl 1 rfl) ?_
  refine wllg_2_55_9 zc hK hM dX2_copyFrom_34 ?_
  refine wllp_2_55_0 zc hK hM hS dX2_copyFrom_37 (fun H locs hM hS => ?_)
  refine lv_aload_n hx hb dX2_copyFrom_40 rfl (lv_at hl 0 rfl) ?_
  refine lv_aload_n hx hb dX2_copyFrom_41 rfl (lv_at hl 1 rfl) ?_
  refine wllg_2_9_9 zc hK hM dX2_copyFrom_42 ?_
  refine wllp_2_9_0 zc hK hM hS dX2_copyFrom_45 (fun H locs hM hS => ?_)
  refine lv_aload_n hx hb dX2_copyFrom_48 rfl (lv_at hl 0 rfl) ?_
  refine lv_aload_n hx hb dX2_copyFrom_49 rfl (lv_at hl 1 rfl) ?_
  refine wllg_2_15_9 zc hK hM dX2_copyFrom_50 ?_
  refine wllp_2_15_0 zc hK hM hS dX2_copyFrom_53 (fun H locs hM hS => ?_)
  refine lv_aload_n hx hb dX2_copyFrom_56 rfl (lv_at hl 1 rfl) ?_
  refine wllg_2_18_9 zc hK hM dX2_copyFrom_57 ?_
  refine lv_iconst (v := (0 : Int32)) hx hb dX2_copyFrom_60 (by decide) ?_
  refine lv_aload_n hx hb dX2_copyFrom_61 rfl (lv_at hl 0 rfl) ?_
  refine wllg_2_18_0 zc hK hM dX2_copyFrom_62 ?_
  refine lv_iconst (v := (0 : Int32)) hx hb dX2_copyFrom_65 (by decide) ?_
  refine lv_bipush (v := (9 : Int32)) hx hb dX2_copyFrom_66 (by decide) ?_
  refine wllcp_10_1 zc hK hM hS hl.1 (zc.2.2.2.2.1 _ km_2_64) (by decide) (by decide) (by decide) (by decide) (by decide) (fun _ _ => rfl) (by decide) (by decide) dX2_copyFrom_68 (fun a_heights_1 H locs ea_heights_1 hM hS => ?_)
  have hw := hw a_heights_1 ea_heights_1
  refine lv_aload_n hx hb dX2_copyFrom_71 rfl (lv_at hl 1 rfl) ?_
  refine wllg_2_22_9 zc hK hM dX2_copyFrom_72 ?_
  refine lv_iconst (v := (0 : Int32)) hx hb dX2_copyFrom_75 (by decide) ?_
  refine lv_aload_n hx hb dX2_copyFrom_76 rfl (lv_at hl 0 rfl) ?_
  refine wllg_2_22_0 zc hK hM dX2_copyFrom_77 ?_
  refine lv_iconst (v := (0 : Int32)) hx hb dX2_copyFrom_80 (by decide) ?_
  refine lv_bipush (v := (9 : Int32)) hx hb dX2_copyFrom_81 (by decide) ?_
  refine wllcp_11_2 zc hK hM hS hl.1 (zc.2.2.2.2.1 _ km_2_64) (by decide) (by decide) (by decide) (by decide) (by decide) (fun _ _ => rfl) (by decide) (by decide) dX2_copyFrom_83 (fun a_ladders_1 H locs ea_ladders_1 hM hS => ?_)
  have hw := hw a_ladders_1 ea_ladders_1
  refine lv_aload_n hx hb dX2_copyFrom_86 rfl (lv_at hl 1 rfl) ?_
  refine wllg_2_25_9 zc hK hM dX2_copyFrom_87 ?_
  refine lv_iconst (v := (0 : Int32)) hx hb dX2_copyFrom_90 (by decide) ?_
  refine lv_aload_n hx hb dX2_copyFrom_91 rfl (lv_at hl 0 rfl) ?_
  refine wllg_2_25_0 zc hK hM dX2_copyFrom_92 ?_
  refine lv_iconst (v := (0 : Int32)) hx hb dX2_copyFrom_95 (by decide) ?_
  refine lv_bipush (v := (81 : Int32)) hx hb dX2_copyFrom_96 (by decide) ?_
  refine wllcp_12_3 zc hK hM hS hl.1 (zc.2.2.2.2.1 _ km_2_64) (by decide) (by decide) (by decide) (by decide) (by decide) (fun _ _ => rfl) (by decide) (by decide) dX2_copyFrom_98 (fun a_minutes_1 H locs ea_minutes_1 hM hS => ?_)
  have hw := hw a_minutes_1 ea_minutes_1
  refine lv_aload_n hx hb dX2_copyFrom_101 rfl (lv_at hl 1 rfl) ?_
  refine wllg_2_28_9 zc hK hM dX2_copyFrom_102 ?_
  refine lv_iconst (v := (0 : Int32)) hx hb dX2_copyFrom_105 (by decide) ?_
  refine lv_aload_n hx hb dX2_copyFrom_106 rfl (lv_at hl 0 rfl) ?_
  refine wllg_2_28_0 zc hK hM dX2_copyFrom_107 ?_
  refine lv_iconst (v := (0 : Int32)) hx hb dX2_copyFrom_110 (by decide) ?_
  refine lv_iconst (v := (4 : Int32)) hx hb dX2_copyFrom_111 (by decide) ?_
  refine wllcp_13_4 zc hK hM hS hl.1 (zc.2.2.2.2.1 _ km_2_64) (by decide) (by decide) (by decide) (by decide) (by decide) (fun _ _ => rfl) (by decide) (by decide) dX2_copyFrom_112 (fun a_echoFrom_1 H locs ea_echoFrom_1 hM hS => ?_)
  have hw := hw a_echoFrom_1 ea_echoFrom_1
  refine lv_aload_n hx hb dX2_copyFrom_115 rfl (lv_at hl 1 rfl) ?_
  refine wllg_2_31_9 zc hK hM dX2_copyFrom_116 ?_
  refine lv_iconst (v := (0 : Int32)) hx hb dX2_copyFrom_119 (by decide) ?_
  refine lv_aload_n hx hb dX2_copyFrom_120 rfl (lv_at hl 0 rfl) ?_
  refine wllg_2_31_0 zc hK hM dX2_copyFrom_121 ?_
  refine lv_iconst (v := (0 : Int32)) hx hb dX2_copyFrom_124 (by decide) ?_
  refine lv_iconst (v := (4 : Int32)) hx hb dX2_copyFrom_125 (by decide) ?_
  refine wllcp_14_5 zc hK hM hS hl.1 (zc.2.2.2.2.1 _ km_2_64) (by decide) (by decide) (by decide) (by decide) (by decide) (fun _ _ => rfl) (by decide) (by decide) dX2_copyFrom_126 (fun a_echoTo_1 H locs ea_echoTo_1 hM hS => ?_)
  have hw := hw a_echoTo_1 ea_echoTo_1
  refine lv_aload_n hx hb dX2_copyFrom_129 rfl (lv_at hl 1 rfl) ?_
  refine wllg_2_34_9 zc hK hM dX2_copyFrom_130 ?_
  refine lv_iconst (v := (0 : Int32)) hx hb dX2_copyFrom_133 (by decide) ?_
  refine lv_aload_n hx hb dX2_copyFrom_134 rfl (lv_at hl 0 rfl) ?_
  refine wllg_2_34_0 zc hK hM dX2_copyFrom_135 ?_
  refine lv_iconst (v := (0 : Int32)) hx hb dX2_copyFrom_138 (by decide) ?_
  refine lv_bipush (v := (6 : Int32)) hx hb dX2_copyFrom_139 (by decide) ?_
  refine wllcp_15_6 zc hK hM hS hl.1 (zc.2.2.2.2.1 _ km_2_64) (by decide) (by decide) (by decide) (by decide) (by decide) (fun _ _ => rfl) (by decide) (by decide) dX2_copyFrom_141 (fun a_homes_1 H locs ea_homes_1 hM hS => ?_)
  have hw := hw a_homes_1 ea_homes_1
  refine lv_aload_n hx hb dX2_copyFrom_144 rfl (lv_at hl 1 rfl) ?_
  refine wllg_2_37_9 zc hK hM dX2_copyFrom_145 ?_
  refine lv_iconst (v := (0 : Int32)) hx hb dX2_copyFrom_148 (by decide) ?_
  refine lv_aload_n hx hb dX2_copyFrom_149 rfl (lv_at hl 0 rfl) ?_
  refine wllg_2_37_0 zc hK hM dX2_copyFrom_150 ?_
  refine lv_iconst (v := (0 : Int32)) hx hb dX2_copyFrom_153 (by decide) ?_
  refine lv_bipush (v := (6 : Int32)) hx hb dX2_copyFrom_154 (by decide) ?_
  refine wllcp_16_7 zc hK hM hS hl.1 (zc.2.2.2.2.1 _ km_2_64) (by decide) (by decide) (by decide) (by decide) (by decide) (fun _ _ => rfl) (by decide) (by decide) dX2_copyFrom_156 (fun a_talls_1 H locs ea_talls_1 hM hS => ?_)
  have hw := hw a_talls_1 ea_talls_1
  refine lv_aload_n hx hb dX2_copyFrom_159 rfl (lv_at hl 1 rfl) ?_
  refine wllg_2_40_9 zc hK hM dX2_copyFrom_160 ?_
  refine lv_iconst (v := (0 : Int32)) hx hb dX2_copyFrom_163 (by decide) ?_
  refine lv_aload_n hx hb dX2_copyFrom_164 rfl (lv_at hl 0 rfl) ?_
  refine wllg_2_40_0 zc hK hM dX2_copyFrom_165 ?_
  refine lv_iconst (v := (0 : Int32)) hx hb dX2_copyFrom_168 (by decide) ?_
  refine lv_bipush (v := (6 : Int32)) hx hb dX2_copyFrom_169 (by decide) ?_
  refine wllcp_17_8 zc hK hM hS hl.1 (zc.2.2.2.2.1 _ km_2_64) (by decide) (by decide) (by decide) (by decide) (by decide) (fun _ _ => rfl) (by decide) (by decide) dX2_copyFrom_171 (fun a_known_1 H locs ea_known_1 hM hS => ?_)
  have hw := hw a_known_1 ea_known_1
  exact zret_vw ⟨of_huts, of_singers, of_villages, of_dams, of_echoes, of_deep, of_slide, a_heights_1, a_ladders_1, a_minutes_1, a_echoFrom_1, a_echoTo_1, a_homes_1, a_talls_1, a_known_1⟩ zc hS hw hM dX2_copyFrom_174
set_option maxRecDepth 20000 in
theorem c_wll_X2_copyFrom_9 (l : Launch) {E : zE} {ql qm : Nat} {f_huts : Int32} {f_singers : Int32} {f_villages : Int32} {f_dams : Int32} {f_echoes : Int32} {f_deep : Int32} {f_slide : Int32} {a_heights : Nat → Int32} {a_ladders : Nat → Int32} {a_minutes : Nat → Int32} {a_echoFrom : Nat → Int32} {a_echoTo : Nat → Int32} {a_homes : Nat → Int32} {a_talls : Nat → Int32} {a_known : Nat → Int32} {of_huts : Int32} {of_singers : Int32} {of_villages : Int32} {of_dams : Int32} {of_echoes : Int32} {of_deep : Int32} {of_slide : Int32} {oa_heights : Nat → Int32} {oa_ladders : Nat → Int32} {oa_minutes : Nat → Int32} {oa_echoFrom : Nat → Int32} {oa_echoTo : Nat → Int32} {oa_homes : Nat → Int32} {oa_talls : Nat → Int32} {oa_known : Nat → Int32} {post : (Int32) → (Int32) → (Int32) → (Int32) → (Int32) → (Int32) → (Int32) → (Nat → Int32) → (Nat → Int32) → (Nat → Int32) → (Nat → Int32) → (Nat → Int32) → (Nat → Int32) → (Nat → Int32) → (Nat → Int32) → Prop} (hw : q_wll_X2_copyFrom_9_0 f_huts f_singers f_villages f_dams f_echoes f_deep f_slide a_heights a_ladders a_minutes a_echoFrom a_echoTo a_homes a_talls a_known of_huts of_singers of_villages of_dams of_echoes of_deep of_slide oa_heights oa_ladders oa_minutes oa_echoFrom oa_echoTo oa_homes oa_talls oa_known post) : Met l yX2_copyFrom (Cond.code yX2_copyFrom cX2_copyFrom 2 none :: zb) rm_wll_X2_copyFrom_9 (va_Pc [.ref ql, .ref qm] (fun U => wllW E ql qm f_huts f_singers f_villages f_dams f_echoes f_deep f_slide a_heights a_ladders a_minutes a_echoFrom a_echoTo a_homes a_talls a_known of_huts of_singers of_villages of_dams of_echoes of_deep of_slide oa_heights oa_ladders oa_minutes oa_echoFrom oa_echoTo oa_homes oa_talls oa_known U.heap ∧ zK E U)) (zQv (S := (Int32) × (Int32) × (Int32) × (Int32) × (Int32) × (Int32) × (Int32) × (Nat → Int32) × (Nat → Int32) × (Nat → Int32) × (Nat → Int32) × (Nat → Int32) × (Nat → Int32) × (Nat → Int32) × (Nat → Int32)) (fun u => post u.1 u.2.1 u.2.2.1 u.2.2.2.1 u.2.2.2.2.1 u.2.2.2.2.2.1 u.2.2.2.2.2.2.1 u.2.2.2.2.2.2.2.1 u.2.2.2.2.2.2.2.2.1 u.2.2.2.2.2.2.2.2.2.1 u.2.2.2.2.2.2.2.2.2.2.1 u.2.2.2.2.2.2.2.2.2.2.2.1 u.2.2.2.2.2.2.2.2.2.2.2.2.1 u.2.2.2.2.2.2.2.2.2.2.2.2.2.1 u.2.2.2.2.2.2.2.2.2.2.2.2.2.2) (fun u H => wllW E ql qm u.1 u.2.1 u.2.2.1 u.2.2.2.1 u.2.2.2.2.1 u.2.2.2.2.2.1 u.2.2.2.2.2.2.1 u.2.2.2.2.2.2.2.1 u.2.2.2.2.2.2.2.2.1 u.2.2.2.2.2.2.2.2.2.1 u.2.2.2.2.2.2.2.2.2.2.1 u.2.2.2.2.2.2.2.2.2.2.2.1 u.2.2.2.2.2.2.2.2.2.2.2.2.1 u.2.2.2.2.2.2.2.2.2.2.2.2.2.1 u.2.2.2.2.2.2.2.2.2.2.2.2.2.2 of_huts of_singers of_villages of_dams of_echoes of_deep of_slide oa_heights oa_ladders oa_minutes oa_echoFrom oa_echoTo oa_homes oa_talls oa_known H) (wllA ql qm)) 0 0 (wllA ql qm) := by
  refine Met.ofW (cc := cX2_copyFrom) (maxL := 2) (ret := none) (by decide) rfl ?_
  intro p e s m args below meth c s₁ B hml hv
  obtain ⟨rfl, hM, hK⟩ := hv
  have zc := zc_of B hml
  have hl := lv_entry ([.ref ql, .ref qm]) (n := 2) (Nat.le_of_ble_eq_true rfl)
  rw [lg_entry_eq]
  generalize (lg_sl ([.ref ql, .ref qm]) ++ List.replicate (2 - (lg_sl ([.ref ql, .ref qm])).length) Slot.unset).toArray = ls at hl ⊢
  have hl : lv_has ls 2 [(0, .ref ql), (1, .ref qm)] := hl
  exact t_wll_X2_copyFrom_9_0 zc hK hM va_S.rf (lv_sub hl [0, 1] rfl) hw
