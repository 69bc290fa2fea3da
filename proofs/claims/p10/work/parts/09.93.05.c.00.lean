-- wc_X0_stepBetween
abbrev rm_wc_X0_stepBetween : Room := { frames := 1, cells := 0, slots := 0, locals := 40 }
def q_wc_X0_stepBetween_0 (a_parts : Nat → Int32) (a_heights : Nat → Int32) (x1 : Int32) (x2 : Int32) (post : Int32 → Prop) : Prop :=
  vp_in x1 9 ∧ (vp_in x2 9 ∧ ((¬ (a_parts (Int32.toNatClampNeg x1)) = (a_parts (Int32.toNatClampNeg x2)) → (vp_in x2 9 ∧ (vp_in x1 9 ∧ (post (if (0 : Int32) < ((a_heights (Int32.toNatClampNeg x2)) - (a_heights (Int32.toNatClampNeg x1))) then ((a_heights (Int32.toNatClampNeg x2)) - (a_heights (Int32.toNatClampNeg x1))) else (0 : Int32)))))) ∧ ((a_parts (Int32.toNatClampNeg x1)) = (a_parts (Int32.toNatClampNeg x2)) → (post (1000 : Int32)))))
set_option maxRecDepth 20000 in
theorem t_wc_X0_stepBetween_0 {p : Program} {l : Launch} {e : Env} {s : State} {m : MethodId} {args : Array Value} {below : List Frame} {meth : Method} {c : Code} {E : zE} {qc : Nat} {f_voices : Int32} {f_step : Int32} {a_parts : Nat → Int32} {a_heights : Nat → Int32} {post : Int32 → Prop} {x1 : Int32} {x2 : Int32} {ls : Array Slot}
    (zc : zC p s m args meth c cX0_stepBetween 3 RX0 (some .int))
    (hK : zK E s)
    (hM : wcW E qc f_voices f_step a_parts a_heights s.heap)
    (hl : lv_has ls 3 [(0, .ref qc), (1, .int x1), (2, .int x2)])
    (hw : q_wc_X0_stepBetween_0 a_parts a_heights x1 x2 post) :
    W p l e rm_wc_X0_stepBetween s m args below meth c s.heap [] 0 0 (MQ below (vp_Si post) args s 0 0 (fun _ => False)) (F0 m 0 ls []) := by
  have hx := zc.1
  have hb := zc.2.1
  refine lv_aload_n hx hb dX0_stepBetween_0 rfl (lv_at hl 0 rfl) ?_
  refine wcg_0_9_0 zc hK hM dX0_stepBetween_1 ?_
  refine lv_iload_n hx hb dX0_stepBetween_4 rfl (lv_at hl 1 rfl) ?_
  refine wcld_1 zc hK hM hw.1 dX0_stepBetween_5 ?_
  have hw := hw.2
  refine lv_aload_n hx hb dX0_stepBetween_6 rfl (lv_at hl 0 rfl) ?_
  refine wcg_0_9_0 zc hK hM dX0_stepBetween_7 ?_
  refine lv_iload_n hx hb dX0_stepBetween_10 rfl (lv_at hl 2 rfl) ?_
  refine wcld_1 zc hK hM hw.1 dX0_stepBetween_11 ?_
  have hw := hw.2
  refine lv_icmp_ne (tgt := 21) hx hb dX0_stepBetween_12 (by decide) (fun hc => ?_) (fun hc => ?_)
  · have hw := hw.1 hc
    refine lv_iconst (v := (0 : Int32)) hx hb dX0_stepBetween_21 (by decide) ?_
    refine lv_aload_n hx hb dX0_stepBetween_22 rfl (lv_at hl 0 rfl) ?_
    refine wcg_0_15_0 zc hK hM dX0_stepBetween_23 ?_
    refine lv_iload_n hx hb dX0_stepBetween_26 rfl (lv_at hl 2 rfl) ?_
    refine wcld_2 zc hK hM hw.1 dX0_stepBetween_27 ?_
    have hw := hw.2
    refine lv_aload_n hx hb dX0_stepBetween_28 rfl (lv_at hl 0 rfl) ?_
    refine wcg_0_15_0 zc hK hM dX0_stepBetween_29 ?_
    refine lv_iload_n hx hb dX0_stepBetween_32 rfl (lv_at hl 1 rfl) ?_
    refine wcld_2 zc hK hM hw.1 dX0_stepBetween_33 ?_
    have hw := hw.2
    refine lv_isub hx hb dX0_stepBetween_34 ?_
    refine va_mmax hx hb (zc.2.2.1.trans hl.1.symm) zc.2.2.2.1 (zc.2.2.2.2.1 _ km_0_31) (zc.2.2.2.2.1 _ k_mmaxs) (zc.2.2.2.2.1 _ k_mini) (zc.2.2.2.2.1 _ k_mmaxc) (Nat.le_of_ble_eq_true rfl) (Nat.le_of_ble_eq_true rfl) (Nat.zero_le _) (Nat.zero_le _) dX0_stepBetween_35 ?_
    exact zret_i zc hw dX0_stepBetween_38
  · have hw := hw.2 hc
    refine lv_sipush (v := (1000 : Int32)) hx hb dX0_stepBetween_15 (by decide) ?_
    refine lv_goto (tgt := 38) hx hb dX0_stepBetween_18 (by decide) ?_
    exact zret_i zc hw dX0_stepBetween_38
set_option maxRecDepth 20000 in
theorem c_wc_X0_stepBetween (l : Launch) {E : zE} {qc : Nat} {f_voices : Int32} {f_step : Int32} {a_parts : Nat → Int32} {a_heights : Nat → Int32} {x1 : Int32} {x2 : Int32} {post : Int32 → Prop} (hw : q_wc_X0_stepBetween_0 a_parts a_heights x1 x2 post) : Met l yX0_stepBetween (Cond.code yX0_stepBetween cX0_stepBetween 3 (some .int) :: zb) rm_wc_X0_stepBetween (va_Pc [.ref qc, .int x1, .int x2] (fun U => wcW E qc f_voices f_step a_parts a_heights U.heap ∧ zK E U)) (vp_Si post) 0 0 (fun _ => False) := by
  refine Met.ofW (cc := cX0_stepBetween) (maxL := 3) (ret := (some .int)) (by decide) rfl ?_
  intro p e s m args below meth c s₁ B hml hv
  obtain ⟨rfl, hM, hK⟩ := hv
  have zc := zc_of B hml
  have hl := lv_entry ([.ref qc, .int x1, .int x2]) (n := 3) (Nat.le_of_ble_eq_true rfl)
  rw [lg_entry_eq]
  generalize (lg_sl ([.ref qc, .int x1, .int x2]) ++ List.replicate (3 - (lg_sl ([.ref qc, .int x1, .int x2])).length) Slot.unset).toArray = ls at hl ⊢
  have hl : lv_has ls 3 [(0, .ref qc), (1, .int x1), (2, .int x2)] := hl
  exact t_wc_X0_stepBetween_0 zc hK hM (lv_sub hl [0, 1, 2] rfl) hw
