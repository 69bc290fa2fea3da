-- z_X10_has
abbrev rm_z_X10_has : Room := { frames := 0, cells := 0, slots := 0, locals := 0 }
def q_z_X10_has_0 (x0 : Int32) (x1 : Int32) (post : Int32 → Prop) : Prop :=
  (((x0 >>> (x1 &&& 31)) &&& (1 : Int32)) = 0 → (post (0 : Int32))) ∧ (¬ ((x0 >>> (x1 &&& 31)) &&& (1 : Int32)) = 0 → (post (1 : Int32)))
set_option maxRecDepth 20000 in
theorem t_z_X10_has_0 {p : Program} {l : Launch} {e : Env} {s : State} {m : MethodId} {args : Array Value} {below : List Frame} {meth : Method} {c : Code} {post : Int32 → Prop} {x0 : Int32} {x1 : Int32} {ls : Array Slot}
    (zc : zC p s m args meth c cX10_has 2 RX10 (some .boolean))
    (hl : lv_has ls 2 [(0, .int x0), (1, .int x1)])
    (hw : q_z_X10_has_0 x0 x1 post) :
    W p l e rm_z_X10_has s m args below meth c s.heap [] 0 0 (MQ below (vp_Si post) args s 0 0 (fun _ => False)) (F0 m 0 ls []) := by
  have hx := zc.1
  have hb := zc.2.1
  refine lv_iload_n hx hb dX10_has_0 rfl (lv_at hl 0 rfl) ?_
  refine lv_iload_n hx hb dX10_has_1 rfl (lv_at hl 1 rfl) ?_
  refine lv_ishr hx hb dX10_has_2 ?_
  refine lv_iconst (v := (1 : Int32)) hx hb dX10_has_3 (by decide) ?_
  refine lv_iand hx hb dX10_has_4 ?_
  refine lv_if_eq (tgt := 12) hx hb dX10_has_5 (by decide) (fun hc => ?_) (fun hc => ?_)
  · have hw := hw.1 hc
    refine lv_iconst (v := (0 : Int32)) hx hb dX10_has_12 (by decide) ?_
    exact zret_z zc rfl hw dX10_has_13
  · have hw := hw.2 hc
    refine lv_iconst (v := (1 : Int32)) hx hb dX10_has_8 (by decide) ?_
    refine lv_goto (tgt := 13) hx hb dX10_has_9 (by decide) ?_
    exact zret_z zc rfl hw dX10_has_13
set_option maxRecDepth 20000 in
theorem c_z_X10_has (l : Launch) {x0 : Int32} {x1 : Int32} {post : Int32 → Prop} (hw : q_z_X10_has_0 x0 x1 post) : Met l yX10_has (Cond.code yX10_has cX10_has 2 (some .boolean) :: zb) rm_z_X10_has (va_Pc [.int x0, .int x1] (fun _ => True)) (vp_Si post) 0 0 (fun _ => False) := by
  refine Met.ofW (cc := cX10_has) (maxL := 2) (ret := (some .boolean)) (by decide) rfl ?_
  intro p e s m args below meth c s₁ B hml hv
  obtain ⟨rfl, -⟩ := hv
  have zc := zc_of B hml
  have hl := lv_entry ([.int x0, .int x1]) (n := 2) (Nat.le_of_ble_eq_true rfl)
  rw [lg_entry_eq]
  generalize (lg_sl ([.int x0, .int x1]) ++ List.replicate (2 - (lg_sl ([.int x0, .int x1])).length) Slot.unset).toArray = ls at hl ⊢
  have hl : lv_has ls 2 [(0, .int x0), (1, .int x1)] := hl
  exact t_z_X10_has_0 zc (lv_sub hl [0, 1] rfl) hw
-- z_X3_isWrong
abbrev rm_z_X3_isWrong : Room := { frames := 0, cells := 0, slots := 0, locals := 0 }
def q_z_X3_isWrong_0 (x0 : Int32) (x1 : Int32) (x2 : Int32) (post : Int32 → Prop) : Prop :=
  (¬ x0 = (1 : Int32) → ((¬ x0 = (2 : Int32) → (post (0 : Int32))) ∧ (x0 = (2 : Int32) → ((x1 ≤ x2 → (post (0 : Int32))) ∧ (¬ x1 ≤ x2 → (post (1 : Int32))))))) ∧ (x0 = (1 : Int32) → ((x1 < x2 → (post (0 : Int32))) ∧ (¬ x1 < x2 → (post (1 : Int32)))))
set_option maxRecDepth 20000 in
theorem t_z_X3_isWrong_0 {p : Program} {l : Launch} {e : Env} {s : State} {m : MethodId} {args : Array Value} {below : List Frame} {meth : Method} {c : Code} {post : Int32 → Prop} {x0 : Int32} {x1 : Int32} {x2 : Int32} {ls : Array Slot}
    (zc : zC p s m args meth c cX3_isWrong 3 RX3 (some .boolean))
    (hl : lv_has ls 3 [(0, .int x0), (1, .int x1), (2, .int x2)])
    (hw : q_z_X3_isWrong_0 x0 x1 x2 post) :
    W p l e rm_z_X3_isWrong s m args below meth c s.heap [] 0 0 (MQ below (vp_Si post) args s 0 0 (fun _ => False)) (F0 m 0 ls []) := by
  have hx := zc.1
  have hb := zc.2.1
  refine lv_iload_n hx hb dX3_isWrong_0 rfl (lv_at hl 0 rfl) ?_
  refine lv_iconst (v := (1 : Int32)) hx hb dX3_isWrong_1 (by decide) ?_
  refine lv_icmp_ne (tgt := 16) hx hb dX3_isWrong_2 (by decide) (fun hc => ?_) (fun hc => ?_)
  · have hw := hw.1 hc
    refine lv_iload_n hx hb dX3_isWrong_16 rfl (lv_at hl 0 rfl) ?_
    refine lv_iconst (v := (2 : Int32)) hx hb dX3_isWrong_17 (by decide) ?_
    refine lv_icmp_ne (tgt := 30) hx hb dX3_isWrong_18 (by decide) (fun hc => ?_) (fun hc => ?_)
    · have hw := hw.1 hc
      refine lv_iconst (v := (0 : Int32)) hx hb dX3_isWrong_30 (by decide) ?_
      exact zret_z zc rfl hw dX3_isWrong_31
    · have hw := hw.2 hc
      refine lv_iload_n hx hb dX3_isWrong_21 rfl (lv_at hl 1 rfl) ?_
      refine lv_iload_n hx hb dX3_isWrong_22 rfl (lv_at hl 2 rfl) ?_
      refine lv_icmp_le (tgt := 30) hx hb dX3_isWrong_23 (by decide) (fun hc => ?_) (fun hc => ?_)
      · have hw := hw.1 hc
        refine lv_iconst (v := (0 : Int32)) hx hb dX3_isWrong_30 (by decide) ?_
        exact zret_z zc rfl hw dX3_isWrong_31
      · have hw := hw.2 hc
        refine lv_iconst (v := (1 : Int32)) hx hb dX3_isWrong_26 (by decide) ?_
        refine lv_goto (tgt := 31) hx hb dX3_isWrong_27 (by decide) ?_
        exact zret_z zc rfl hw dX3_isWrong_31
  · have hw := hw.2 hc
    refine lv_iload_n hx hb dX3_isWrong_5 rfl (lv_at hl 1 rfl) ?_
    refine lv_iload_n hx hb dX3_isWrong_6 rfl (lv_at hl 2 rfl) ?_
    refine lv_icmp_lt (tgt := 14) hx hb dX3_isWrong_7 (by decide) (fun hc => ?_) (fun hc => ?_)
    · have hw := hw.1 hc
      refine lv_iconst (v := (0 : Int32)) hx hb dX3_isWrong_14 (by decide) ?_
      exact zret_z zc rfl hw dX3_isWrong_15
    · have hw := hw.2 hc
      refine lv_iconst (v := (1 : Int32)) hx hb dX3_isWrong_10 (by decide) ?_
      refine lv_goto (tgt := 15) hx hb dX3_isWrong_11 (by decide) ?_
      exact zret_z zc rfl hw dX3_isWrong_15
set_option maxRecDepth 20000 in
theorem c_z_X3_isWrong (l : Launch) {x0 : Int32} {x1 : Int32} {x2 : Int32} {post : Int32 → Prop} (hw : q_z_X3_isWrong_0 x0 x1 x2 post) : Met l yX3_isWrong (Cond.code yX3_isWrong cX3_isWrong 3 (some .boolean) :: zb) rm_z_X3_isWrong (va_Pc [.int x0, .int x1, .int x2] (fun _ => True)) (vp_Si post) 0 0 (fun _ => False) := by
  refine Met.ofW (cc := cX3_isWrong) (maxL := 3) (ret := (some .boolean)) (by decide) rfl ?_
  intro p e s m args below meth c s₁ B hml hv
  obtain ⟨rfl, -⟩ := hv
  have zc := zc_of B hml
  have hl := lv_entry ([.int x0, .int x1, .int x2]) (n := 3) (Nat.le_of_ble_eq_true rfl)
  rw [lg_entry_eq]
  generalize (lg_sl ([.int x0, .int x1, .int x2]) ++ List.replicate (3 - (lg_sl ([.int x0, .int x1, .int x2])).length) Slot.unset).toArray = ls at hl ⊢
  have hl : lv_has ls 3 [(0, .int x0), (1, .int x1), (2, .int x2)] := hl
  exact t_z_X3_isWrong_0 zc (lv_sub hl [0, 1, 2] rfl) hw
-- z_J6_bitCount_0f7a4
abbrev rm_z_J6_bitCount_0f7a4 : Room := { frames := 0, cells := 0, slots := 0, locals := 0 }
def q_z_J6_bitCount_0f7a4_0 (x0 : Int32) (post : Int32 → Prop) : Prop :=
  ∀ v_1 : Int32, v_1 = (x0 - ((Int32.toUInt32 x0 >>> (Int32.toUInt32 (1 : Int32) &&& Int32.toUInt32 31)).toInt32 &&& (1431655765 : Int32))) → (∀ v_2 : Int32, v_2 = ((v_1 &&& (858993459 : Int32)) + ((Int32.toUInt32 v_1 >>> (Int32.toUInt32 (2 : Int32) &&& Int32.toUInt32 31)).toInt32 &&& (858993459 : Int32))) → (∀ v_3 : Int32, v_3 = ((v_2 + (Int32.toUInt32 v_2 >>> (Int32.toUInt32 (4 : Int32) &&& Int32.toUInt32 31)).toInt32) &&& (252645135 : Int32)) → (∀ v_4 : Int32, v_4 = (v_3 + (Int32.toUInt32 v_3 >>> (Int32.toUInt32 (8 : Int32) &&& Int32.toUInt32 31)).toInt32) → (∀ v_5 : Int32, v_5 = (v_4 + (Int32.toUInt32 v_4 >>> (Int32.toUInt32 (16 : Int32) &&& Int32.toUInt32 31)).toInt32) → (post (v_5 &&& (63 : Int32)))))))
set_option maxRecDepth 20000 in
theorem t_z_J6_bitCount_0f7a4_0 {p : Program} {l : Launch} {e : Env} {s : State} {m : MethodId} {args : Array Value} {below : List Frame} {meth : Method} {c : Code} {post : Int32 → Prop} {x0 : Int32} {ls : Array Slot}
    (zc : zC p s m args meth c cJ6_bitCount_0f7a4 1 RJ6 (some .int))
    (hl : lv_has ls 1 [(0, .int x0)])
    (hw : q_z_J6_bitCount_0f7a4_0 x0 post) :
    W p l e rm_z_J6_bitCount_0f7a4 s m args below meth c s.heap [] 0 0 (MQ below (vp_Si post) args s 0 0 (fun _ => False)) (F0 m 0 ls []) := by
  have hx := zc.1
  have hb := zc.2.1
  refine lv_iload_n hx hb dJ6_bitCount_0f7a4_0 rfl (lv_at hl 0 rfl) ?_
  refine lv_iload_n hx hb dJ6_bitCount_0f7a4_1 rfl (lv_at hl 0 rfl) ?_
  refine lv_iconst (v := (1 : Int32)) hx hb dJ6_bitCount_0f7a4_2 (by decide) ?_
  refine lv_iushr hx hb dJ6_bitCount_0f7a4_3 rfl ?_
  refine lv_ldcw (v := (1431655765 : Int32)) hx hb zc.2.2.2.1 (zc.2.2.2.2.1 _ kc_J6_265) dJ6_bitCount_0f7a4_4 ?_
  refine lv_iand hx hb dJ6_bitCount_0f7a4_7 ?_
  refine lv_isub hx hb dJ6_bitCount_0f7a4_8 ?_
  refine lv_topi (fun v_1 ev_1 => ?_)
  have hw := hw v_1 ev_1
  refine lv_istore_n (lv' := [(0, .int v_1)]) hx hb dJ6_bitCount_0f7a4_9 rfl hl (by decide) rfl (fun ls hl => ?_)
  refine lv_iload_n hx hb dJ6_bitCount_0f7a4_10 rfl (lv_at hl 0 rfl) ?_
  refine lv_ldcw (v := (858993459 : Int32)) hx hb zc.2.2.2.1 (zc.2.2.2.2.1 _ kc_J6_266) dJ6_bitCount_0f7a4_11 ?_
  refine lv_iand hx hb dJ6_bitCount_0f7a4_14 ?_
  refine lv_iload_n hx hb dJ6_bitCount_0f7a4_15 rfl (lv_at hl 0 rfl) ?_
  refine lv_iconst (v := (2 : Int32)) hx hb dJ6_bitCount_0f7a4_16 (by decide) ?_
  refine lv_iushr hx hb dJ6_bitCount_0f7a4_17 rfl ?_
  refine lv_ldcw (v := (858993459 : Int32)) hx hb zc.2.2.2.1 (zc.2.2.2.2.1 _ kc_J6_266) dJ6_bitCount_0f7a4_18 ?_
  refine lv_iand hx hb dJ6_bitCount_0f7a4_21 ?_
  refine lv_iadd hx hb dJ6_bitCount_0f7a4_22 ?_
  refine lv_topi (fun v_2 ev_2 => ?_)
  have hw := hw v_2 ev_2
  refine lv_istore_n (lv' := [(0, .int v_2)]) hx hb dJ6_bitCount_0f7a4_23 rfl hl (by decide) rfl (fun ls hl => ?_)
  refine lv_iload_n hx hb dJ6_bitCount_0f7a4_24 rfl (lv_at hl 0 rfl) ?_
  refine lv_iload_n hx hb dJ6_bitCount_0f7a4_25 rfl (lv_at hl 0 rfl) ?_
  refine lv_iconst (v := (4 : Int32)) hx hb dJ6_bitCount_0f7a4_26 (by decide) ?_
  refine lv_iushr hx hb dJ6_bitCount_0f7a4_27 rfl ?_
  refine lv_iadd hx hb dJ6_bitCount_0f7a4_28 ?_
  refine lv_ldcw (v := (252645135 : Int32)) hx hb zc.2.2.2.1 (zc.2.2.2.2.1 _ kc_J6_267) dJ6_bitCount_0f7a4_29 ?_
  refine lv_iand hx hb dJ6_bitCount_0f7a4_32 ?_
  refine lv_topi (fun v_3 ev_3 => ?_)
  have hw := hw v_3 ev_3
  refine lv_istore_n (lv' := [(0, .int v_3)]) hx hb dJ6_bitCount_0f7a4_33 rfl hl (by decide) rfl (fun ls hl => ?_)
  refine lv_iload_n hx hb dJ6_bitCount_0f7a4_34 rfl (lv_at hl 0 rfl) ?_
  refine lv_iload_n hx hb dJ6_bitCount_0f7a4_35 rfl (lv_at hl 0 rfl) ?_
  refine lv_bipush (v := (8 : Int32)) hx hb dJ6_bitCount_0f7a4_36 (by decide) ?_
  refine lv_iushr hx hb dJ6_bitCount_0f7a4_38 rfl ?_
  refine lv_iadd hx hb dJ6_bitCount_0f7a4_39 ?_
  refine lv_topi (fun v_4 ev_4 => ?_)
  have hw := hw v_4 ev_4
  refine lv_istore_n (lv' := [(0, .int v_4)]) hx hb dJ6_bitCount_0f7a4_40 rfl hl (by decide) rfl (fun ls hl => ?_)
  refine lv_iload_n hx hb dJ6_bitCount_0f7a4_41 rfl (lv_at hl 0 rfl) ?_
  refine lv_iload_n hx hb dJ6_bitCount_0f7a4_42 rfl (lv_at hl 0 rfl) ?_
  refine lv_bipush (v := (16 : Int32)) hx hb dJ6_bitCount_0f7a4_43 (by decide) ?_
  refine lv_iushr hx hb dJ6_bitCount_0f7a4_45 rfl ?_
  refine lv_iadd hx hb dJ6_bitCount_0f7a4_46 ?_
  refine lv_topi (fun v_5 ev_5 => ?_)
  have hw := hw v_5 ev_5
  refine lv_istore_n (lv' := [(0, .int v_5)]) hx hb dJ6_bitCount_0f7a4_47 rfl hl (by decide) rfl (fun ls hl => ?_)
  refine lv_iload_n hx hb dJ6_bitCount_0f7a4_48 rfl (lv_at hl 0 rfl) ?_
  refine lv_bipush (v := (63 : Int32)) hx hb dJ6_bitCount_0f7a4_49 (by decide) ?_
  refine lv_iand hx hb dJ6_bitCount_0f7a4_51 ?_
  exact zret_i zc hw dJ6_bitCount_0f7a4_52
set_option maxRecDepth 20000 in
theorem c_z_J6_bitCount_0f7a4 (l : Launch) {x0 : Int32} {post : Int32 → Prop} (hw : q_z_J6_bitCount_0f7a4_0 x0 post) : Met l yJ6_bitCount_0f7a4 (Cond.code yJ6_bitCount_0f7a4 cJ6_bitCount_0f7a4 1 (some .int) :: zb) rm_z_J6_bitCount_0f7a4 (va_Pc [.int x0] (fun _ => True)) (vp_Si post) 0 0 (fun _ => False) := by
  refine Met.ofW (cc := cJ6_bitCount_0f7a4) (maxL := 1) (ret := (some .int)) (by decide) rfl ?_
  intro p e s m args below meth c s₁ B hml hv
  obtain ⟨rfl, -⟩ := hv
  have zc := zc_of B hml
  have hl := lv_entry ([.int x0]) (n := 1) (Nat.le_of_ble_eq_true rfl)
  rw [lg_entry_eq]
  generalize (lg_sl ([.int x0]) ++ List.replicate (1 - (lg_sl ([.int x0])).length) Slot.unset).toArray = ls at hl ⊢
  have hl : lv_has ls 1 [(0, .int x0)] := hl
  exact t_z_J6_bitCount_0f7a4_0 zc (lv_sub hl [0] rfl) hw
