-- wcc_X0_copyFrom_3
abbrev rm_wcc_X0_copyFrom_3 : Room := { frames := 1, cells := 0, slots := 0, locals := 40 }
def q_wcc_X0_copyFrom_3_0 (f_voices : Int32) (f_step : Int32) (a_parts : Nat → Int32) (a_heights : Nat → Int32) (of_voices : Int32) (of_step : Int32) (oa_parts : Nat → Int32) (oa_heights : Nat → Int32) (post : (Int32) → (Int32) → (Nat → Int32) → (Nat → Int32) → Prop) : Prop :=
  (¬ of_voices < 0) ∧ ((Int32.toNatClampNeg (0 : Int32) + Int32.toNatClampNeg of_voices ≤ 9) ∧ ((Int32.toNatClampNeg (0 : Int32) + Int32.toNatClampNeg of_voices ≤ 9) ∧ (∀ a_parts_1 : Nat → Int32, a_parts_1 = va_cpy oa_parts a_parts (Int32.toNatClampNeg (0 : Int32)) (Int32.toNatClampNeg (0 : Int32)) (Int32.toNatClampNeg of_voices) → ((¬ of_voices < 0) ∧ ((Int32.toNatClampNeg (0 : Int32) + Int32.toNatClampNeg of_voices ≤ 9) ∧ ((Int32.toNatClampNeg (0 : Int32) + Int32.toNatClampNeg of_voices ≤ 9) ∧ (∀ a_heights_1 : Nat → Int32, a_heights_1 = va_cpy oa_heights a_heights (Int32.toNatClampNeg (0 : Int32)) (Int32.toNatClampNeg (0 : Int32)) (Int32.toNatClampNeg of_voices) → (post of_voices of_step a_parts_1 a_heights_1))))))))
set_option maxRecDepth 20000 in
theorem t_wcc_X0_copyFrom_3_0 {p : Program} {l : Launch} {e : Env} {s : State} {m : MethodId} {args : Array Value} {below : List Frame} {meth : Method} {c : Code} {E : zE} {qc qd : Nat} {f_voices : Int32} {f_step : Int32} {a_parts : Nat → Int32} {a_heights : Nat → Int32} {of_voices : Int32} {of_step : Int32} {oa_parts : Nat → Int32} {oa_heights : Nat → Int32} {post : (Int32) → (Int32) → (Nat → Int32) → (Nat → Int32) → Prop} {ls : Array Slot} {H : Heap} {locs : List Loc}
    (zc : zC p s m args meth c cX0_copyFrom 2 RX0 none)
    (hK : zK E s)
    (hM : wccW E qc qd f_voices f_step a_parts a_heights of_voices of_step oa_parts oa_heights H)
    (hS : va_S (wccA qc qd) s.heap H locs)
    (hl : lv_has ls 2 [(0, .ref qc), (1, .ref qd)])
    (hw : q_wcc_X0_copyFrom_3_0 f_voices f_step a_parts a_heights of_voices of_step oa_parts oa_heights post) :
    W p l e rm_wcc_X0_copyFrom_3 s m args below meth c H locs 0 0 (MQ below (zQv (S := (Int32) × (Int32) × (Nat → Int32) × (Nat → Int32)) (fun u => post u.1 u.2.1 u.2.2.1 u.2.2.2) (fun u H => wccW E qc qd u.1 u.2.1 u.2.2.1 u.2.2.2 of_voices of_step oa_parts oa_heights H) (wccA qc qd)) args s 0 0 (wccA qc qd)) (F0 m 0 ls []) := by
  have hx := zc.1
  have hb := zc.2.1
  refine lv_aload_n hx hb dX0_copyFrom_0 rfl (lv_at hl 0 rfl) ?_
  refine lv_aload_n hx hb dX0_copyFrom_1 rfl (lv_at hl 1 rfl) ?_
  refine wccg_0_18_3 zc hK hM dX0_copyFrom_2 ?_
  refine wccp_0_18_0 zc hK hM hS dX0_copyFrom_5 (fun H locs hM hS => ?_)
  refine lv_aload_n hx hb dX0_copyFrom_8 rfl (lv_at hl 0 rfl) ?_
  refine lv_aload_n hx hb dX0_copyFrom_9 rfl (lv_at hl 1 rfl) ?_
  refine wccg_0_22_3 zc hK hM dX0_copyFrom_10 ?_
  refine wccp_0_22_0 zc hK hM hS dX0_copyFrom_13 (fun H locs hM hS => ?_)
  refine lv_aload_n hx hb dX0_copyFrom_16 rfl (lv_at hl 1 rfl) ?_
  refine wccg_0_9_3 zc hK hM dX0_copyFrom_17 ?_
  refine lv_iconst (v := (0 : Int32)) hx hb dX0_copyFrom_20 (by decide) ?_
  refine lv_aload_n hx hb dX0_copyFrom_21 rfl (lv_at hl 0 rfl) ?_
  refine wccg_0_9_0 zc hK hM dX0_copyFrom_22 ?_
  refine lv_iconst (v := (0 : Int32)) hx hb dX0_copyFrom_25 (by decide) ?_
  refine lv_aload_n hx hb dX0_copyFrom_26 rfl (lv_at hl 0 rfl) ?_
  refine wccg_0_18_0 zc hK hM dX0_copyFrom_27 ?_
  have hs1 := hw.1
  have hw := hw.2
  have hs2 := hw.1
  have hw := hw.2
  have hs3 := hw.1
  have hw := hw.2
  refine wcccp_4_1 zc hK hM hS hl.1 (zc.2.2.2.2.1 _ km_0_25) (by decide) (by decide) hs1 hs2 hs3 (fun _ _ => rfl) (by decide) (by decide) dX0_copyFrom_30 (fun a_parts_1 H locs ea_parts_1 hM hS => ?_)
  have hw := hw a_parts_1 ea_parts_1
  refine lv_aload_n hx hb dX0_copyFrom_33 rfl (lv_at hl 1 rfl) ?_
  refine wccg_0_15_3 zc hK hM dX0_copyFrom_34 ?_
  refine lv_iconst (v := (0 : Int32)) hx hb dX0_copyFrom_37 (by decide) ?_
  refine lv_aload_n hx hb dX0_copyFrom_38 rfl (lv_at hl 0 rfl) ?_
  refine wccg_0_15_0 zc hK hM dX0_copyFrom_39 ?_
  refine lv_iconst (v := (0 : Int32)) hx hb dX0_copyFrom_42 (by decide) ?_
  refine lv_aload_n hx hb dX0_copyFrom_43 rfl (lv_at hl 0 rfl) ?_
  refine wccg_0_18_0 zc hK hM dX0_copyFrom_44 ?_
  have hs4 := hw.1
  have hw := hw.2
  have hs5 := hw.1
  have hw := hw.2
  have hs6 := hw.1
  have hw := hw.2
  refine wcccp_5_2 zc hK hM hS hl.1 (zc.2.2.2.2.1 _ km_0_25) (by decide) (by decide) hs4 hs5 hs6 (fun _ _ => rfl) (by decide) (by decide) dX0_copyFrom_47 (fun a_heights_1 H locs ea_heights_1 hM hS => ?_)
  have hw := hw a_heights_1 ea_heights_1
  exact zret_vw ⟨of_voices, of_step, a_parts_1, a_heights_1⟩ zc hS hw hM dX0_copyFrom_50
set_option maxRecDepth 20000 in
theorem c_wcc_X0_copyFrom_3 (l : Launch) {E : zE} {qc qd : Nat} {f_voices : Int32} {f_step : Int32} {a_parts : Nat → Int32} {a_heights : Nat → Int32} {of_voices : Int32} {of_step : Int32} {oa_parts : Nat → Int32} {oa_heights : Nat → Int32} {post : (Int32) → (Int32) → (Nat → Int32) → (Nat → Int32) → Prop} (hw : q_wcc_X0_copyFrom_3_0 f_voices f_step a_parts a_heights of_voices of_step oa_parts oa_heights post) : Met l yX0_copyFrom (Cond.code yX0_copyFrom cX0_copyFrom 2 none :: zb) rm_wcc_X0_copyFrom_3 (va_Pc [.ref qc, .ref qd] (fun U => wccW E qc qd f_voices f_step a_parts a_heights of_voices of_step oa_parts oa_heights U.heap ∧ zK E U)) (zQv (S := (Int32) × (Int32) × (Nat → Int32) × (Nat → Int32)) (fun u => post u.1 u.2.1 u.2.2.1 u.2.2.2) (fun u H => wccW E qc qd u.1 u.2.1 u.2.2.1 u.2.2.2 of_voices of_step oa_parts oa_heights H) (wccA qc qd)) 0 0 (wccA qc qd) := by
  refine Met.ofW (cc := cX0_copyFrom) (maxL := 2) (ret := none) (by decide) rfl ?_
  intro p e s m args below meth c s₁ B hml hv
  obtain ⟨rfl, hM, hK⟩ := hv
  have zc := zc_of B hml
  have hl := lv_entry ([.ref qc, .ref qd]) (n := 2) (Nat.le_of_ble_eq_true rfl)
  rw [lg_entry_eq]
  generalize (lg_sl ([.ref qc, .ref qd]) ++ List.replicate (2 - (lg_sl ([.ref qc, .ref qd])).length) Slot.unset).toArray = ls at hl ⊢
  have hl : lv_has ls 2 [(0, .ref qc), (1, .ref qd)] := hl
  exact t_wcc_X0_copyFrom_3_0 zc hK hM va_S.rf (lv_sub hl [0, 1] rfl) hw
