-- wvv_X1_copyFrom_4
abbrev rm_wvv_X1_copyFrom_4 : Room := { frames := 1, cells := 0, slots := 0, locals := 40 }
def q_wvv_X1_copyFrom_4_0 (f_deeds : Int32) (a_kinds : Nat → Int32) (a_firsts : Nat → Int32) (a_seconds : Nat → Int32) (of_deeds : Int32) (oa_kinds : Nat → Int32) (oa_firsts : Nat → Int32) (oa_seconds : Nat → Int32) (post : (Int32) → (Nat → Int32) → (Nat → Int32) → (Nat → Int32) → Prop) : Prop :=
  (¬ of_deeds < 0) ∧ ((Int32.toNatClampNeg (0 : Int32) + Int32.toNatClampNeg of_deeds ≤ 40) ∧ ((Int32.toNatClampNeg (0 : Int32) + Int32.toNatClampNeg of_deeds ≤ 40) ∧ (∀ a_kinds_1 : Nat → Int32, a_kinds_1 = va_cpy oa_kinds a_kinds (Int32.toNatClampNeg (0 : Int32)) (Int32.toNatClampNeg (0 : Int32)) (Int32.toNatClampNeg of_deeds) → ((¬ of_deeds < 0) ∧ ((Int32.toNatClampNeg (0 : Int32) + Int32.toNatClampNeg of_deeds ≤ 40) ∧ ((Int32.toNatClampNeg (0 : Int32) + Int32.toNatClampNeg of_deeds ≤ 40) ∧ (∀ a_firsts_1 : Nat → Int32, a_firsts_1 = va_cpy oa_firsts a_firsts (Int32.toNatClampNeg (0 : Int32)) (Int32.toNatClampNeg (0 : Int32)) (Int32.toNatClampNeg of_deeds) → ((¬ of_deeds < 0) ∧ ((Int32.toNatClampNeg (0 : Int32) + Int32.toNatClampNeg of_deeds ≤ 40) ∧ ((Int32.toNatClampNeg (0 : Int32) + Int32.toNatClampNeg of_deeds ≤ 40) ∧ (∀ a_seconds_1 : Nat → Int32, a_seconds_1 = va_cpy oa_seconds a_seconds (Int32.toNatClampNeg (0 : Int32)) (Int32.toNatClampNeg (0 : Int32)) (Int32.toNatClampNeg of_deeds) → (post of_deeds a_kinds_1 a_firsts_1 a_seconds_1))))))))))))
set_option maxRecDepth 20000 in
theorem t_wvv_X1_copyFrom_4_0 {p : Program} {l : Launch} {e : Env} {s : State} {m : MethodId} {args : Array Value} {below : List Frame} {meth : Method} {c : Code} {E : zE} {qv qw : Nat} {f_deeds : Int32} {a_kinds : Nat → Int32} {a_firsts : Nat → Int32} {a_seconds : Nat → Int32} {of_deeds : Int32} {oa_kinds : Nat → Int32} {oa_firsts : Nat → Int32} {oa_seconds : Nat → Int32} {post : (Int32) → (Nat → Int32) → (Nat → Int32) → (Nat → Int32) → Prop} {ls : Array Slot} {H : Heap} {locs : List Loc}
    (zc : zC p s m args meth c cX1_copyFrom 2 RX1 none)
    (hK : zK E s)
    (hM : wvvW E qv qw f_deeds a_kinds a_firsts a_seconds of_deeds oa_kinds oa_firsts oa_seconds H)
    (hS : va_S (wvvA qv qw) s.heap H locs)
    (hl : lv_has ls 2 [(0, .ref qv), (1, .ref qw)])
    (hw : q_wvv_X1_copyFrom_4_0 f_deeds a_kinds a_firsts a_seconds of_deeds oa_kinds oa_firsts oa_seconds post) :
    W p l e rm_wvv_X1_copyFrom_4 s m args below meth c H locs 0 0 (MQ below (zQv (S := (Int32) × (Nat → Int32) × (Nat → Int32) × (Nat → Int32)) (fun u => post u.1 u.2.1 u.2.2.1 u.2.2.2) (fun u H => wvvW E qv qw u.1 u.2.1 u.2.2.1 u.2.2.2 of_deeds oa_kinds oa_firsts oa_seconds H) (wvvA qv qw)) args s 0 0 (wvvA qv qw)) (F0 m 0 ls []) := by
  have hx := zc.1
  have hb := zc.2.1
  refine lv_aload_n hx hb dX1_copyFrom_0 rfl (lv_at hl 0 rfl) ?_
  refine lv_aload_n hx hb dX1_copyFrom_1 rfl (lv_at hl 1 rfl) ?_
  refine wvvg_1_21_4 zc hK hM dX1_copyFrom_2 ?_
  refine wvvp_1_21_0 zc hK hM hS dX1_copyFrom_5 (fun H locs hM hS => ?_)
  refine lv_aload_n hx hb dX1_copyFrom_8 rfl (lv_at hl 1 rfl) ?_
  refine wvvg_1_9_4 zc hK hM dX1_copyFrom_9 ?_
  refine lv_iconst (v := (0 : Int32)) hx hb dX1_copyFrom_12 (by decide) ?_
  refine lv_aload_n hx hb dX1_copyFrom_13 rfl (lv_at hl 0 rfl) ?_
  refine wvvg_1_9_0 zc hK hM dX1_copyFrom_14 ?_
  refine lv_iconst (v := (0 : Int32)) hx hb dX1_copyFrom_17 (by decide) ?_
  refine lv_aload_n hx hb dX1_copyFrom_18 rfl (lv_at hl 0 rfl) ?_
  refine wvvg_1_21_0 zc hK hM dX1_copyFrom_19 ?_
  have hs1 := hw.1
  have hw := hw.2
  have hs2 := hw.1
  have hw := hw.2
  have hs3 := hw.1
  have hw := hw.2
  refine wvvcp_5_1 zc hK hM hS hl.1 (zc.2.2.2.2.1 _ km_1_25) (by decide) (by decide) hs1 hs2 hs3 (fun _ _ => rfl) (by decide) (by decide) dX1_copyFrom_22 (fun a_kinds_1 H locs ea_kinds_1 hM hS => ?_)
  have hw := hw a_kinds_1 ea_kinds_1
  refine lv_aload_n hx hb dX1_copyFrom_25 rfl (lv_at hl 1 rfl) ?_
  refine wvvg_1_15_4 zc hK hM dX1_copyFrom_26 ?_
  refine lv_iconst (v := (0 : Int32)) hx hb dX1_copyFrom_29 (by decide) ?_
  refine lv_aload_n hx hb dX1_copyFrom_30 rfl (lv_at hl 0 rfl) ?_
  refine wvvg_1_15_0 zc hK hM dX1_copyFrom_31 ?_
  refine lv_iconst (v := (0 : Int32)) hx hb dX1_copyFrom_34 (by decide) ?_
  refine lv_aload_n hx hb dX1_copyFrom_35 rfl (lv_at hl 0 rfl) ?_
  refine wvvg_1_21_0 zc hK hM dX1_copyFrom_36 ?_
  have hs4 := hw.1
  have hw := hw.2
  have hs5 := hw.1
  have hw := hw.2
  have hs6 := hw.1
  have hw := hw.2
  refine wvvcp_6_2 zc hK hM hS hl.1 (zc.2.2.2.2.1 _ km_1_25) (by decide) (by decide) hs4 hs5 hs6 (fun _ _ => rfl) (by decide) (by decide) dX1_copyFrom_39 (fun a_firsts_1 H locs ea_firsts_1 hM hS => ?_)
  have hw := hw a_firsts_1 ea_firsts_1
  refine lv_aload_n hx hb dX1_copyFrom_42 rfl (lv_at hl 1 rfl) ?_
  refine wvvg_1_18_4 zc hK hM dX1_copyFrom_43 ?_
  refine lv_iconst (v := (0 : Int32)) hx hb dX1_copyFrom_46 (by decide) ?_
  refine lv_aload_n hx hb dX1_copyFrom_47 rfl (lv_at hl 0 rfl) ?_
  refine wvvg_1_18_0 zc hK hM dX1_copyFrom_48 ?_
  refine lv_iconst (v := (0 : Int32)) hx hb dX1_copyFrom_51 (by decide) ?_
  refine lv_aload_n hx hb dX1_copyFrom_52 rfl (lv_at hl 0 rfl) ?_
  refine wvvg_1_21_0 zc hK hM dX1_copyFrom_53 ?_
  have hs7 := hw.1
  have hw := hw.2
  have hs8 := hw.1
  have hw := hw.2
  have hs9 := hw.1
  have hw := hw.2
  refine wvvcp_7_3 zc hK hM hS hl.1 (zc.2.2.2.2.1 _ km_1_25) (by decide) (by decide) hs7 hs8 hs9 (fun _ _ => rfl) (by decide) (by decide) dX1_copyFrom_56 (fun a_seconds_1 H locs ea_seconds_1 hM hS => ?_)
  have hw := hw a_seconds_1 ea_seconds_1
  exact zret_vw ⟨of_deeds, a_kinds_1, a_firsts_1, a_seconds_1⟩ zc hS hw hM dX1_copyFrom_59
set_option maxRecDepth 20000 in
theorem c_wvv_X1_copyFrom_4 (l : Launch) {E : zE} {qv qw : Nat} {f_deeds : Int32} {a_kinds : Nat → Int32} {a_firsts : Nat → Int32} {a_seconds : Nat → Int32} {of_deeds : Int32} {oa_kinds : Nat → Int32} {oa_firsts : Nat → Int32} {oa_seconds : Nat → Int32} {post : (Int32) → (Nat → Int32) → (Nat → Int32) → (Nat → Int32) → Prop} (hw : q_wvv_X1_copyFrom_4_0 f_deeds a_kinds a_firsts a_seconds of_deeds oa_kinds oa_firsts oa_seconds post) : Met l yX1_copyFrom (Cond.code yX1_copyFrom cX1_copyFrom 2 none :: zb) rm_wvv_X1_copyFrom_4 (va_Pc [.ref qv, .ref qw] (fun U => wvvW E qv qw f_deeds a_kinds a_firsts a_seconds of_deeds oa_kinds oa_firsts oa_seconds U.heap ∧ zK E U)) (zQv (S := (Int32) × (Nat → Int32) × (Nat → Int32) × (Nat → Int32)) (fun u => post u.1 u.2.1 u.2.2.1 u.2.2.2) (fun u H => wvvW E qv qw u.1 u.2.1 u.2.2.1 u.2.2.2 of_deeds oa_kinds oa_firsts oa_seconds H) (wvvA qv qw)) 0 0 (wvvA qv qw) := by
  refine Met.ofW (cc := cX1_copyFrom) (maxL := 2) (ret := none) (by decide) rfl ?_
  intro p e s m args below meth c s₁ B hml hv
  obtain ⟨rfl, hM, hK⟩ := hv
  have zc := zc_of B hml
  have hl := lv_entry ([.ref qv, .ref qw]) (n := 2) (Nat.le_of_ble_eq_true rfl)
  rw [lg_entry_eq]
  generalize (lg_sl ([.ref qv, .ref qw]) ++ List.replicate (2 - (lg_sl ([.ref qv, .ref qw])).length) Slot.unset).toArray = ls at hl ⊢
  have hl : lv_has ls 2 [(0, .ref qv), (1, .ref qw)] := hl
  exact t_wvv_X1_copyFrom_4_0 zc hK hM va_S.rf (lv_sub hl [0, 1] rfl) hw
