section
-- z_X10_has
abbrev rm_z_X10_has : Room := { frames := 0, cells := 0, slots := 0, locals := 0 }
def q_z_X10_has_0 (x0 : Int32) (x1 : Int32) (post : Int32 → Prop) : Prop :=
  (((x0 >>> (x1 &&& 31)) &&& (1 : Int32)) = 0 → (post (0 : Int32))) ∧ (¬ ((x0 >>> (x1 &&& 31)) &&& (1 : Int32)) = 0 → (post (1 : Int32)))
set_option maxRecDepth 20000 in
theorem t_z_X10_has_0 {p : Program} {l : Launch} {e : Env} {s : State} {m : MethodId} {args : Array Value} {below : List Frame} {meth : Method} {c : Code} {post : Int32 → Prop} {x0 : Int32} {x1 : Int32} {ls : Array Slot}
    (zc : zC p s m args meth c cX10_has 2 RX10 (some .boolean))
    (hl : lv_has ls 2 [(0, .int x0), (1, .int x1)])
    (hw : q_z_X10_has_0 x0 x1 post) :
    W p l e rm_z_X10_has s m args below meth c s.heap [] 0 0 (MQ below (vp_Si post) args s 0 0 (fun _ => False)) (F0 m 0 ls []) := by
  have hx := zc.1
  have hb := zc.2.1
  refine lv_iload_n hx hb dX10_has_0 rfl (lv_at hl 0 rfl) ?_
  refine lv_iload_n hx hb dX10_has_1 rfl (lv_at hl 1 rfl) ?_
  refine lv_ishr hx hb dX10_has_2 ?_
  refine lv_iconst (v := (1 : Int32)) hx hb dX10_has_3 (by decide) ?_
  refine lv_iand hx hb dX10_has_4 ?_
  refine lv_if_eq (tgt := 12) hx hb dX10_has_5 (by decide) (fun hc => ?_) (fun hc => ?_)
  · have hw := hw.1 hc
    refine lv_iconst (v := (0 : Int32)) hx hb dX10_has_12 (by decide) ?_
    exact zret_z zc rfl hw dX10_has_13
  · have hw := hw.2 hc
    refine lv_iconst (v := (1 : Int32)) hx hb dX10_has_8 (by decide) ?_
    refine lv_goto (tgt := 13) hx hb dX10_has_9 (by decide) ?_
    exact zret_z zc rfl hw dX10_has_13
set_option maxRecDepth 20000 in
theorem c_z_X10_has (l : Launch) {x0 : Int32} {x1 : Int32} {post : Int32 → Prop} (hw : q_z_X10_has_0 x0 x1 post) : Met l yX10_has (Cond.code yX10_has cX10_has 2 (some .boolean) :: zb) rm_z_X10_has (va_Pc [.int x0, .int x1] (fun _ => True)) (vp_Si post) 0 0 (fun _ => False) := by
  refine Met.ofW (cc := cX10_has) (maxL := 2) (ret := (some .boolean)) (by decide) rfl ?_
  intro p e s m args below meth c s₁ B hml hv
  obtain ⟨rfl, -⟩ := hv
  have zc := zc_of B hml
  have hl := lv_entry ([.int x0, .int x1]) (n := 2) (Nat.le_of_ble_eq_true rfl)
  rw [lg_entry_eq]
  generalize (lg_sl ([.int x0, .int x1]) ++ List.replicate (2 - (lg_sl ([.int x0, .int x1])).length) Slot.unset).toArray = ls at hl ⊢
  have hl : lv_has ls 2 [(0, .int x0), (1, .int x1)] := hl
  exact t_z_X10_has_0 zc (lv_sub hl [0, 1] rfl) hw
-- z_X3_isWrong
abbrev rm_z_X3_isWrong : Room := { frames := 0, cells := 0, slots := 0, locals := 0 }
def q_z_X3_isWrong_0 (x0 : Int32) (x1 : Int32) (x2 : Int32) (post : Int32 → Prop) : Prop :=
  (¬ x0 = (1 : Int32) → ((¬ x0 = (2 : Int32) → (post (0 : Int32))) ∧ (x0 = (2 : Int32) → ((x1 ≤ x2 → (post (0 : Int32))) ∧ (¬ x1 ≤ x2 → (post (1 : Int32))))))) ∧ (x0 = (1 : Int32) → ((x1 < x2 → (post (0 : Int32))) ∧ (¬ x1 < x2 → (post (1 : Int32)))))
set_option maxRecDepth 20000 in
theorem t_z_X3_isWrong_0 {p : Program} {l : Launch} {e : Env} {s : State} {m : MethodId} {args : Array Value} {below : List Frame} {meth : Method} {c : Code} {post : Int32 → Prop} {x0 : Int32} {x1 : Int32} {x2 : Int32} {ls : Array Slot}
    (zc : zC p s m args meth c cX3_isWrong 3 RX3 (some .boolean))
    (hl : lv_has ls 3 [(0, .int x0), (1, .int x1), (2, .int x2)])
    (hw : q_z_X3_isWrong_0 x0 x1 x2 post) :
    W p l e rm_z_X3_isWrong s m args below meth c s.heap [] 0 0 (MQ below (vp_Si post) args s 0 0 (fun _ => False)) (F0 m 0 ls []) := by
  have hx := zc.1
  have hb := zc.2.1
  refine lv_iload_n hx hb dX3_isWrong_0 rfl (lv_at hl 0 rfl) ?_
  refine lv_iconst (v := (1 : Int32)) hx hb dX3_isWrong_1 (by decide) ?_
  refine lv_icmp_ne (tgt := 16) hx hb dX3_isWrong_2 (by decide) (fun hc => ?_) (fun hc => ?_)
  · have hw := hw.1 hc
    refine lv_iload_n hx hb dX3_isWrong_16 rfl (lv_at hl 0 rfl) ?_
    refine lv_iconst (v := (2 : Int32)) hx hb dX3_isWrong_17 (by decide) ?_
    refine lv_icmp_ne (tgt := 30) hx hb dX3_isWrong_18 (by decide) (fun hc => ?_) (fun hc => ?_)
    · have hw := hw.1 hc
      refine lv_iconst (v := (0 : Int32)) hx hb dX3_isWrong_30 (by decide) ?_
      exact zret_z zc rfl hw dX3_isWrong_31
    · have hw := hw.2 hc
      refine lv_iload_n hx hb dX3_isWrong_21 rfl (lv_at hl 1 rfl) ?_
      refine lv_iload_n hx hb dX3_isWrong_22 rfl (lv_at hl 2 rfl) ?_
      refine lv_icmp_le (tgt := 30) hx hb dX3_isWrong_23 (by decide) (fun hc => ?_) (fun hc => ?_)
      · have hw := hw.1 hc
        refine lv_iconst (v := (0 : Int32)) hx hb dX3_isWrong_30 (by decide) ?_
        exact zret_z zc rfl hw dX3_isWrong_31
      · have hw := hw.2 hc
        refine lv_iconst (v := (1 : Int32)) hx hb dX3_isWrong_26 (by decide) ?_
        refine lv_goto (tgt := 31) hx hb dX3_isWrong_27 (by decide) ?_
        exact zret_z zc rfl hw dX3_isWrong_31
  · have hw := hw.2 hc
    refine lv_iload_n hx hb dX3_isWrong_5 rfl (lv_at hl 1 rfl) ?_
    refine lv_iload_n hx hb dX3_isWrong_6 rfl (lv_at hl 2 rfl) ?_
    refine lv_icmp_lt (tgt := 14) hx hb dX3_isWrong_7 (by decide) (fun hc => ?_) (fun hc => ?_)
    · have hw := hw.1 hc
      refine lv_iconst (v := (0 : Int32)) hx hb dX3_isWrong_14 (by decide) ?_
      exact zret_z zc rfl hw dX3_isWrong_15
    · have hw := hw.2 hc
      refine lv_iconst (v := (1 : Int32)) hx hb dX3_isWrong_10 (by decide) ?_
      refine lv_goto (tgt := 15) hx hb dX3_isWrong_11 (by decide) ?_
      exact zret_z zc rfl hw dX3_isWrong_15
set_option maxRecDepth 20000 in
theorem c_z_X3_isWrong (l : Launch) {x0 : Int32} {x1 : Int32} {x2 : Int32} {post : Int32 → Prop} (hw : q_z_X3_isWrong_0 x0 x1 x2 post) : Met l yX3_isWrong (Cond.code yX3_isWrong cX3_isWrong 3 (some .boolean) :: zb) rm_z_X3_isWrong (va_Pc [.int x0, .int x1, .int x2] (fun _ => True)) (vp_Si post) 0 0 (fun _ => False) := by
  refine Met.ofW (cc := cX3_isWrong) (maxL := 3) (ret := (some .boolean)) (by decide) rfl ?_
  intro p e s m args below meth c s₁ B hml hv
  obtain ⟨rfl, -⟩ := hv
  have zc := zc_of B hml
  have hl := lv_entry ([.int x0, .int x1, .int x2]) (n := 3) (Nat.le_of_ble_eq_true rfl)
  rw [lg_entry_eq]
  generalize (lg_sl ([.int x0, .int x1, .int x2]) ++ List.replicate (3 - (lg_sl ([.int x0, .int x1, .int x2])).length) Slot.unset).toArray = ls at hl ⊢
  have hl : lv_has ls 3 [(0, .int x0), (1, .int x1), (2, .int x2)] := hl
  exact t_z_X3_isWrong_0 zc (lv_sub hl [0, 1, 2] rfl) hw
-- z_J6_bitCount_0f7a4
abbrev rm_z_J6_bitCount_0f7a4 : Room := { frames := 0, cells := 0, slots := 0, locals := 0 }
def q_z_J6_bitCount_0f7a4_0 (x0 : Int32) (post : Int32 → Prop) : Prop :=
  ∀ v_1 : Int32, v_1 = (x0 - ((Int32.toUInt32 x0 >>> (Int32.toUInt32 (1 : Int32) &&& Int32.toUInt32 31)).toInt32 &&& (1431655765 : Int32))) → (∀ v_2 : Int32, v_2 = ((v_1 &&& (858993459 : Int32)) + ((Int32.toUInt32 v_1 >>> (Int32.toUInt32 (2 : Int32) &&& Int32.toUInt32 31)).toInt32 &&& (858993459 : Int32))) → (∀ v_3 : Int32, v_3 = ((v_2 + (Int32.toUInt32 v_2 >>> (Int32.toUInt32 (4 : Int32) &&& Int32.toUInt32 31)).toInt32) &&& (252645135 : Int32)) → (∀ v_4 : Int32, v_4 = (v_3 + (Int32.toUInt32 v_3 >>> (Int32.toUInt32 (8 : Int32) &&& Int32.toUInt32 31)).toInt32) → (∀ v_5 : Int32, v_5 = (v_4 + (Int32.toUInt32 v_4 >>> (Int32.toUInt32 (16 : Int32) &&& Int32.toUInt32 31)).toInt32) → (post (v_5 &&& (63 : Int32)))))))
set_option maxRecDepth 20000 in
theorem t_z_J6_bitCount_0f7a4_0 {p : Program} {l : Launch} {e : Env} {s : State} {m : MethodId} {args : Array Value} {below : List Frame} {meth : Method} {c : Code} {post : Int32 → Prop} {x0 : Int32} {ls : Array Slot}
    (zc : zC p s m args meth c cJ6_bitCount_0f7a4 1 RJ6 (some .int))
    (hl : lv_has ls 1 [(0, .int x0)])
    (hw : q_z_J6_bitCount_0f7a4_0 x0 post) :
    W p l e rm_z_J6_bitCount_0f7a4 s m args below meth c s.heap [] 0 0 (MQ below (vp_Si post) args s 0 0 (fun _ => False)) (F0 m 0 ls []) := by
  have hx := zc.1
  have hb := zc.2.1
  refine lv_iload_n hx hb dJ6_bitCount_0f7a4_0 rfl (lv_at hl 0 rfl) ?_
  refine lv_iload_n hx hb dJ6_bitCount_0f7a4_1 rfl (lv_at hl 0 rfl) ?_
  refine lv_iconst (v := (1 : Int32)) hx hb dJ6_bitCount_0f7a4_2 (by decide) ?_
  refine lv_iushr hx hb dJ6_bitCount_0f7a4_3 rfl ?_
  refine lv_ldcw (v := (1431655765 : Int32)) hx hb zc.2.2.2.1 (zc.2.2.2.2.1 _ kc_J6_265) dJ6_bitCount_0f7a4_4 ?_
  refine lv_iand hx hb dJ6_bitCount_0f7a4_7 ?_
  refine lv_isub hx hb dJ6_bitCount_0f7a4_8 ?_
  refine lv_topi (fun v_1 ev_1 => ?_)
  have hw := hw v_1 ev_1
  refine lv_istore_n (lv' := [(0, .int v_1)]) hx hb dJ6_bitCount_0f7a4_9 rfl hl (by decide) rfl (fun ls hl => ?_)
  refine lv_iload_n hx hb dJ6_bitCount_0f7a4_10 rfl (lv_at hl 0 rfl) ?_
  refine lv_ldcw (v := (858993459 : Int32)) hx hb zc.2.2.2.1 (zc.2.2.2.2.1 _ kc_J6_266) dJ6_bitCount_0f7a4_11 ?_
  refine lv_iand hx hb dJ6_bitCount_0f7a4_14 ?_
  refine lv_iload_n hx hb dJ6_bitCount_0f7a4_15 rfl (lv_at hl 0 rfl) ?_
  refine lv_iconst (v := (2 : Int32)) hx hb dJ6_bitCount_0f7a4_16 (by decide) ?_
  refine lv_iushr hx hb dJ6_bitCount_0f7a4_17 rfl ?_
  refine lv_ldcw (v := (858993459 : Int32)) hx hb zc.2.2.2.1 (zc.2.2.2.2.1 _ kc_J6_266) dJ6_bitCount_0f7a4_18 ?_
  refine lv_iand hx hb dJ6_bitCount_0f7a4_21 ?_
  refine lv_iadd hx hb dJ6_bitCount_0f7a4_22 ?_
  refine lv_topi (fun v_2 ev_2 => ?_)
  have hw := hw v_2 ev_2
  refine lv_istore_n (lv' := [(0, .int v_2)]) hx hb dJ6_bitCount_0f7a4_23 rfl hl (by decide) rfl (fun ls hl => ?_)
  refine lv_iload_n hx hb dJ6_bitCount_0f7a4_24 rfl (lv_at hl 0 rfl) ?_
  refine lv_iload_n hx hb dJ6_bitCount_0f7a4_25 rfl (lv_at hl 0 rfl) ?_
  refine lv_iconst (v := (4 : Int32)) hx hb dJ6_bitCount_0f7a4_26 (by decide) ?_
  refine lv_iushr hx hb dJ6_bitCount_0f7a4_27 rfl ?_
  refine lv_iadd hx hb dJ6_bitCount_0f7a4_28 ?_
  refine lv_ldcw (v := (252645135 : Int32)) hx hb zc.2.2.2.1 (zc.2.2.2.2.1 _ kc_J6_267) dJ6_bitCount_0f7a4_29 ?_
  refine lv_iand hx hb dJ6_bitCount_0f7a4_32 ?_
  refine lv_topi (fun v_3 ev_3 => ?_)
  have hw := hw v_3 ev_3
  refine lv_istore_n (lv' := [(0, .int v_3)]) hx hb dJ6_bitCount_0f7a4_33 rfl hl (by decide) rfl (fun ls hl => ?_)
  refine lv_iload_n hx hb dJ6_bitCount_0f7a4_34 rfl (lv_at hl 0 rfl) ?_
  refine lv_iload_n hx hb dJ6_bitCount_0f7a4_35 rfl (lv_at hl 0 rfl) ?_
  refine lv_bipush (v := (8 : Int32)) hx hb dJ6_bitCount_0f7a4_36 (by decide) ?_
  refine lv_iushr hx hb dJ6_bitCount_0f7a4_38 rfl ?_
  refine lv_iadd hx hb dJ6_bitCount_0f7a4_39 ?_
  refine lv_topi (fun v_4 ev_4 => ?_)
  have hw := hw v_4 ev_4
  refine lv_istore_n (lv' := [(0, .int v_4)]) hx hb dJ6_bitCount_0f7a4_40 rfl hl (by decide) rfl (fun ls hl => ?_)
  refine lv_iload_n hx hb dJ6_bitCount_0f7a4_41 rfl (lv_at hl 0 rfl) ?_
  refine lv_iload_n hx hb dJ6_bitCount_0f7a4_42 rfl (lv_at hl 0 rfl) ?_
  refine lv_bipush (v := (16 : Int32)) hx hb dJ6_bitCount_0f7a4_43 (by decide) ?_
  refine lv_iushr hx hb dJ6_bitCount_0f7a4_45 rfl ?_
  refine lv_iadd hx hb dJ6_bitCount_0f7a4_46 ?_
  refine lv_topi (fun v_5 ev_5 => ?_)
  have hw := hw v_5 ev_5
  refine lv_istore_n (lv' := [(0, .int v_5)]) hx hb dJ6_bitCount_0f7a4_47 rfl hl (by decide) rfl (fun ls hl => ?_)
  refine lv_iload_n hx hb dJ6_bitCount_0f7a4_48 rfl (lv_at hl 0 rfl) ?_
  refine lv_bipush (v := (63 : Int32)) hx hb dJ6_bitCount_0f7a4_49 (by decide) ?_
  refine lv_iand hx hb dJ6_bitCount_0f7a4_51 ?_
  exact zret_i zc hw dJ6_bitCount_0f7a4_52
set_option maxRecDepth 20000 in
theorem c_z_J6_bitCount_0f7a4 (l : Launch) {x0 : Int32} {post : Int32 → Prop} (hw : q_z_J6_bitCount_0f7a4_0 x0 post) : Met l yJ6_bitCount_0f7a4 (Cond.code yJ6_bitCount_0f7a4 cJ6_bitCount_0f7a4 1 (some .int) :: zb) rm_z_J6_bitCount_0f7a4 (va_Pc [.int x0] (fun _ => True)) (vp_Si post) 0 0 (fun _ => False) := by
  refine Met.ofW (cc := cJ6_bitCount_0f7a4) (maxL := 1) (ret := (some .int)) (by decide) rfl ?_
  intro p e s m args below meth c s₁ B hml hv
  obtain ⟨rfl, -⟩ := hv
  have zc := zc_of B hml
  have hl := lv_entry ([.int x0]) (n := 1) (Nat.le_of_ble_eq_true rfl)
  rw [lg_entry_eq]
  generalize (lg_sl ([.int x0]) ++ List.replicate (1 - (lg_sl ([.int x0])).length) Slot.unset).toArray = ls at hl ⊢
  have hl : lv_has ls 1 [(0, .int x0)] := hl
  exact t_z_J6_bitCount_0f7a4_0 zc (lv_sub hl [0] rfl) hw
end
section
-- m_in
abbrev rm_m_in : Room := { frames := 0, cells := 0, slots := 0, locals := 0 }
def q_m_in_0 (x0 : Int32) (x1 : Int32) (x2 : Int32) (post : Int32 → Prop) : Prop :=
  (x0 < x1 → (post (0 : Int32))) ∧ (¬ x0 < x1 → ((x2 < x0 → (post (0 : Int32))) ∧ (¬ x2 < x0 → (post (1 : Int32)))))
set_option maxRecDepth 20000 in
theorem t_m_in_0 {p : Program} {l : Launch} {e : Env} {s : State} {m : MethodId} {args : Array Value} {below : List Frame} {meth : Method} {c : Code} {post : Int32 → Prop} {x0 : Int32} {x1 : Int32} {x2 : Int32} {ls : Array Slot}
    (zc : zC p s m args meth c cX11_in 3 RX11 (some .boolean))
    (hl : lv_has ls 3 [(0, .int x0), (1, .int x1), (2, .int x2)])
    (hw : q_m_in_0 x0 x1 x2 post) :
    W p l e rm_m_in s m args below meth c s.heap [] 0 0 (MQ below (vp_Si post) args s 0 0 (fun _ => False)) (F0 m 0 ls []) := by
  have hx := zc.1
  have hb := zc.2.1
  refine lv_iload_n hx hb dX11_in_0 rfl (lv_at hl 0 rfl) ?_
  refine lv_iload_n hx hb dX11_in_1 rfl (lv_at hl 1 rfl) ?_
  refine lv_icmp_lt (tgt := 14) hx hb dX11_in_2 (by decide) (fun hc => ?_) (fun hc => ?_)
  · have hw := hw.1 hc
    refine lv_iconst (v := (0 : Int32)) hx hb dX11_in_14 (by decide) ?_
    exact zret_z zc rfl hw dX11_in_15
  · have hw := hw.2 hc
    refine lv_iload_n hx hb dX11_in_5 rfl (lv_at hl 0 rfl) ?_
    refine lv_iload_n hx hb dX11_in_6 rfl (lv_at hl 2 rfl) ?_
    refine lv_icmp_gt (tgt := 14) hx hb dX11_in_7 (by decide) (fun hc => ?_) (fun hc => ?_)
    · have hw := hw.1 hc
      refine lv_iconst (v := (0 : Int32)) hx hb dX11_in_14 (by decide) ?_
      exact zret_z zc rfl hw dX11_in_15
    · have hw := hw.2 hc
      refine lv_iconst (v := (1 : Int32)) hx hb dX11_in_10 (by decide) ?_
      refine lv_goto (tgt := 15) hx hb dX11_in_11 (by decide) ?_
      exact zret_z zc rfl hw dX11_in_15
set_option maxRecDepth 20000 in
theorem c_m_in (l : Launch) {x0 : Int32} {x1 : Int32} {x2 : Int32} {post : Int32 → Prop} (hw : q_m_in_0 x0 x1 x2 post) : Met l yX11_in (Cond.code yX11_in cX11_in 3 (some .boolean) :: zb) rm_m_in (va_Pc [.int x0, .int x1, .int x2] (fun _ => True)) (vp_Si post) 0 0 (fun _ => False) := by
  refine Met.ofW (cc := cX11_in) (maxL := 3) (ret := (some .boolean)) (by decide) rfl ?_
  intro p e s m args below meth c s₁ B hml hv
  obtain ⟨rfl, -⟩ := hv
  have zc := zc_of B hml
  have hl := lv_entry ([.int x0, .int x1, .int x2]) (n := 3) (Nat.le_of_ble_eq_true rfl)
  rw [lg_entry_eq]
  generalize (lg_sl ([.int x0, .int x1, .int x2]) ++ List.replicate (3 - (lg_sl ([.int x0, .int x1, .int x2])).length) Slot.unset).toArray = ls at hl ⊢
  have hl : lv_has ls 3 [(0, .int x0), (1, .int x1), (2, .int x2)] := hl
  exact t_m_in_0 zc (lv_sub hl [0, 1, 2] rfl) hw
-- m_has
abbrev rm_m_has : Room := { frames := 0, cells := 0, slots := 0, locals := 0 }
def q_m_has_0 (x0 : Int32) (x1 : Int32) (post : Int32 → Prop) : Prop :=
  (¬ ((x0 >>> (x1 &&& 31)) &&& (1 : Int32)) = (1 : Int32) → (post (0 : Int32))) ∧ (((x0 >>> (x1 &&& 31)) &&& (1 : Int32)) = (1 : Int32) → (post (1 : Int32)))
set_option maxRecDepth 20000 in
theorem t_m_has_0 {p : Program} {l : Launch} {e : Env} {s : State} {m : MethodId} {args : Array Value} {below : List Frame} {meth : Method} {c : Code} {post : Int32 → Prop} {x0 : Int32} {x1 : Int32} {ls : Array Slot}
    (zc : zC p s m args meth c cX11_has 2 RX11 (some .boolean))
    (hl : lv_has ls 2 [(0, .int x0), (1, .int x1)])
    (hw : q_m_has_0 x0 x1 post) :
    W p l e rm_m_has s m args below meth c s.heap [] 0 0 (MQ below (vp_Si post) args s 0 0 (fun _ => False)) (F0 m 0 ls []) := by
  have hx := zc.1
  have hb := zc.2.1
  refine lv_iload_n hx hb dX11_has_0 rfl (lv_at hl 0 rfl) ?_
  refine lv_iload_n hx hb dX11_has_1 rfl (lv_at hl 1 rfl) ?_
  refine lv_ishr hx hb dX11_has_2 ?_
  refine lv_iconst (v := (1 : Int32)) hx hb dX11_has_3 (by decide) ?_
  refine lv_iand hx hb dX11_has_4 ?_
  refine lv_iconst (v := (1 : Int32)) hx hb dX11_has_5 (by decide) ?_
  refine lv_icmp_ne (tgt := 13) hx hb dX11_has_6 (by decide) (fun hc => ?_) (fun hc => ?_)
  · have hw := hw.1 hc
    refine lv_iconst (v := (0 : Int32)) hx hb dX11_has_13 (by decide) ?_
    exact zret_z zc rfl hw dX11_has_14
  · have hw := hw.2 hc
    refine lv_iconst (v := (1 : Int32)) hx hb dX11_has_9 (by decide) ?_
    refine lv_goto (tgt := 14) hx hb dX11_has_10 (by decide) ?_
    exact zret_z zc rfl hw dX11_has_14
set_option maxRecDepth 20000 in
theorem c_m_has (l : Launch) {x0 : Int32} {x1 : Int32} {post : Int32 → Prop} (hw : q_m_has_0 x0 x1 post) : Met l yX11_has (Cond.code yX11_has cX11_has 2 (some .boolean) :: zb) rm_m_has (va_Pc [.int x0, .int x1] (fun _ => True)) (vp_Si post) 0 0 (fun _ => False) := by
  refine Met.ofW (cc := cX11_has) (maxL := 2) (ret := (some .boolean)) (by decide) rfl ?_
  intro p e s m args below meth c s₁ B hml hv
  obtain ⟨rfl, -⟩ := hv
  have zc := zc_of B hml
  have hl := lv_entry ([.int x0, .int x1]) (n := 2) (Nat.le_of_ble_eq_true rfl)
  rw [lg_entry_eq]
  generalize (lg_sl ([.int x0, .int x1]) ++ List.replicate (2 - (lg_sl ([.int x0, .int x1])).length) Slot.unset).toArray = ls at hl ⊢
  have hl : lv_has ls 2 [(0, .int x0), (1, .int x1)] := hl
  exact t_m_has_0 zc (lv_sub hl [0, 1] rfl) hw
-- m_greater
abbrev rm_m_greater : Room := { frames := 0, cells := 0, slots := 0, locals := 0 }
def q_m_greater_0 (x0 : Int32) (x1 : Int32) (post : Int32 → Prop) : Prop :=
  (x0 ≤ x1 → (post x1)) ∧ (¬ x0 ≤ x1 → (post x0))
set_option maxRecDepth 20000 in
theorem t_m_greater_0 {p : Program} {l : Launch} {e : Env} {s : State} {m : MethodId} {args : Array Value} {below : List Frame} {meth : Method} {c : Code} {post : Int32 → Prop} {x0 : Int32} {x1 : Int32} {ls : Array Slot}
    (zc : zC p s m args meth c cX11_greater 2 RX11 (some .int))
    (hl : lv_has ls 2 [(0, .int x0), (1, .int x1)])
    (hw : q_m_greater_0 x0 x1 post) :
    W p l e rm_m_greater s m args below meth c s.heap [] 0 0 (MQ below (vp_Si post) args s 0 0 (fun _ => False)) (F0 m 0 ls []) := by
  have hx := zc.1
  have hb := zc.2.1
  refine lv_iload_n hx hb dX11_greater_0 rfl (lv_at hl 0 rfl) ?_
  refine lv_iload_n hx hb dX11_greater_1 rfl (lv_at hl 1 rfl) ?_
  refine lv_icmp_le (tgt := 9) hx hb dX11_greater_2 (by decide) (fun hc => ?_) (fun hc => ?_)
  · have hw := hw.1 hc
    refine lv_iload_n hx hb dX11_greater_9 rfl (lv_at hl 1 rfl) ?_
    exact zret_i zc hw dX11_greater_10
  · have hw := hw.2 hc
    refine lv_iload_n hx hb dX11_greater_5 rfl (lv_at hl 0 rfl) ?_
    refine lv_goto (tgt := 10) hx hb dX11_greater_6 (by decide) ?_
    exact zret_i zc hw dX11_greater_10
set_option maxRecDepth 20000 in
theorem c_m_greater (l : Launch) {x0 : Int32} {x1 : Int32} {post : Int32 → Prop} (hw : q_m_greater_0 x0 x1 post) : Met l yX11_greater (Cond.code yX11_greater cX11_greater 2 (some .int) :: zb) rm_m_greater (va_Pc [.int x0, .int x1] (fun _ => True)) (vp_Si post) 0 0 (fun _ => False) := by
  refine Met.ofW (cc := cX11_greater) (maxL := 2) (ret := (some .int)) (by decide) rfl ?_
  intro p e s m args below meth c s₁ B hml hv
  obtain ⟨rfl, -⟩ := hv
  have zc := zc_of B hml
  have hl := lv_entry ([.int x0, .int x1]) (n := 2) (Nat.le_of_ble_eq_true rfl)
  rw [lg_entry_eq]
  generalize (lg_sl ([.int x0, .int x1]) ++ List.replicate (2 - (lg_sl ([.int x0, .int x1])).length) Slot.unset).toArray = ls at hl ⊢
  have hl : lv_has ls 2 [(0, .int x0), (1, .int x1)] := hl
  exact t_m_greater_0 zc (lv_sub hl [0, 1] rfl) hw
-- m_lesser
abbrev rm_m_lesser : Room := { frames := 0, cells := 0, slots := 0, locals := 0 }
def q_m_lesser_0 (x0 : Int32) (x1 : Int32) (post : Int32 → Prop) : Prop :=
  (x1 ≤ x0 → (post x1)) ∧ (¬ x1 ≤ x0 → (post x0))
set_option maxRecDepth 20000 in
theorem t_m_lesser_0 {p : Program} {l : Launch} {e : Env} {s : State} {m : MethodId} {args : Array Value} {below : List Frame} {meth : Method} {c : Code} {post : Int32 → Prop} {x0 : Int32} {x1 : Int32} {ls : Array Slot}
    (zc : zC p s m args meth c cX11_lesser 2 RX11 (some .int))
    (hl : lv_has ls 2 [(0, .int x0), (1, .int x1)])
    (hw : q_m_lesser_0 x0 x1 post) :
    W p l e rm_m_lesser s m args below meth c s.heap [] 0 0 (MQ below (vp_Si post) args s 0 0 (fun _ => False)) (F0 m 0 ls []) := by
  have hx := zc.1
  have hb := zc.2.1
  refine lv_iload_n hx hb dX11_lesser_0 rfl (lv_at hl 0 rfl) ?_
  refine lv_iload_n hx hb dX11_lesser_1 rfl (lv_at hl 1 rfl) ?_
  refine lv_icmp_ge (tgt := 9) hx hb dX11_lesser_2 (by decide) (fun hc => ?_) (fun hc => ?_)
  · have hw := hw.1 hc
    refine lv_iload_n hx hb dX11_lesser_9 rfl (lv_at hl 1 rfl) ?_
    exact zret_i zc hw dX11_lesser_10
  · have hw := hw.2 hc
    refine lv_iload_n hx hb dX11_lesser_5 rfl (lv_at hl 0 rfl) ?_
    refine lv_goto (tgt := 10) hx hb dX11_lesser_6 (by decide) ?_
    exact zret_i zc hw dX11_lesser_10
set_option maxRecDepth 20000 in
theorem c_m_lesser (l : Launch) {x0 : Int32} {x1 : Int32} {post : Int32 → Prop} (hw : q_m_lesser_0 x0 x1 post) : Met l yX11_lesser (Cond.code yX11_lesser cX11_lesser 2 (some .int) :: zb) rm_m_lesser (va_Pc [.int x0, .int x1] (fun _ => True)) (vp_Si post) 0 0 (fun _ => False) := by
  refine Met.ofW (cc := cX11_lesser) (maxL := 2) (ret := (some .int)) (by decide) rfl ?_
  intro p e s m args below meth c s₁ B hml hv
  obtain ⟨rfl, -⟩ := hv
  have zc := zc_of B hml
  have hl := lv_entry ([.int x0, .int x1]) (n := 2) (Nat.le_of_ble_eq_true rfl)
  rw [lg_entry_eq]
  generalize (lg_sl ([.int x0, .int x1]) ++ List.replicate (2 - (lg_sl ([.int x0, .int x1])).length) Slot.unset).toArray = ls at hl ⊢
  have hl : lv_has ls 2 [(0, .int x0), (1, .int x1)] := hl
  exact t_m_lesser_0 zc (lv_sub hl [0, 1] rfl) hw
-- m_ones
abbrev rm_m_ones : Room := { frames := 1, cells := 0, slots := 0, locals := 21 }
def q_m_ones_24 (P4 : Int32 → Int32 → Prop) (x0 : Int32) (x2 : Int32) (y0 : Int32) (y1 : Int32) (post : Int32 → Prop) : Prop :=
  ∀ v_1 : Int32, v_1 = (y0 + y1) → (∀ v_2 : Int32, v_2 = x2 + (1 : Int32) → (P4 v_1 v_2))
def q_m_ones_4 (x0 : Int32) (x1 : Int32) (x2 : Int32) (post : Int32 → Prop) : Prop :=
  ∀ P4 : Int32 → Int32 → Prop, (∀ (x1 : Int32) (x2 : Int32), (((9 : Int32) ≤ x2 → (post x1)) ∧ (¬ (9 : Int32) ≤ x2 → (q_m_has_0 x0 x2 (fun r_1 => (r_1 = 0 → (q_m_ones_24 P4 x0 x2 x1 (0 : Int32) post)) ∧ (¬ r_1 = 0 → (q_m_ones_24 P4 x0 x2 x1 (1 : Int32) post)))))) → P4 x1 x2) → P4 x1 x2
def q_m_ones_0 (x0 : Int32) (post : Int32 → Prop) : Prop :=
  q_m_ones_4 x0 (0 : Int32) (0 : Int32) post
set_option maxRecDepth 20000 in
theorem t_m_ones_24 {p : Program} {l : Launch} {e : Env} {s : State} {m : MethodId} {args : Array Value} {below : List Frame} {meth : Method} {c : Code} {P4 : Int32 → Int32 → Prop} {post : Int32 → Prop} {x0 : Int32} {x2 : Int32} {y0 : Int32} {y1 : Int32} {ls : Array Slot}
    (zc : zC p s m args meth c cX11_ones 3 RX11 (some .int))
    (hP4 : ∀ (x1 : Int32) (x2 : Int32) (ls : Array Slot), P4 x1 x2 → lv_has ls 3 [(0, .int x0), (1, .int x1), (2, .int x2)] → W p l e rm_m_ones s m args below meth c s.heap [] 0 0 (MQ below (vp_Si post) args s 0 0 (fun _ => False)) (F0 m 4 ls []))
    (hl : lv_has ls 3 [(0, .int x0), (2, .int x2)])
    (hw : q_m_ones_24 P4 x0 x2 y0 y1 post) :
    W p l e rm_m_ones s m args below meth c s.heap [] 0 0 (MQ below (vp_Si post) args s 0 0 (fun _ => False)) (F0 m 24 ls [.int y1, .int y0]) := by
  have hx := zc.1
  have hb := zc.2.1
  refine lv_iadd hx hb dX11_ones_24 ?_
  refine lv_topi (fun v_1 ev_1 => ?_)
  have hw := hw v_1 ev_1
  refine lv_istore_n (lv' := [(1, .int v_1), (0, .int x0), (2, .int x2)]) hx hb dX11_ones_25 rfl hl (by decide) rfl (fun ls hl => ?_)
  obtain ⟨v_2, ev_2⟩ : ∃ y : Int32, y = x2 + (1 : Int32) := ⟨_, rfl⟩
  have hw := hw v_2 ev_2
  refine lv_iinc (v := v_2) (k := 2) (lv' := [(2, .int v_2), (1, .int v_1), (0, .int x0)]) hx hb dX11_ones_26 hl rfl (by rw [ev_2]; rfl) (by decide) rfl (fun ls hl => ?_)
  refine lv_goto (tgt := 4) hx hb dX11_ones_29 (by decide) ?_
  exact hP4 _ _ _ hw (lv_sub hl [2, 1, 0] rfl)
set_option maxRecDepth 20000 in
theorem t_m_ones_4 {p : Program} {l : Launch} {e : Env} {s : State} {m : MethodId} {args : Array Value} {below : List Frame} {meth : Method} {c : Code} {post : Int32 → Prop} {x0 : Int32} {x1 : Int32} {x2 : Int32} {ls : Array Slot}
    (zc : zC p s m args meth c cX11_ones 3 RX11 (some .int))
    (hl : lv_has ls 3 [(0, .int x0), (1, .int x1), (2, .int x2)])
    (hw : q_m_ones_4 x0 x1 x2 post) :
    W p l e rm_m_ones s m args below meth c s.heap [] 0 0 (MQ below (vp_Si post) args s 0 0 (fun _ => False)) (F0 m 4 ls []) := by
  have hx := zc.1
  have hb := zc.2.1
  refine hw (fun x1 x2 => ∀ (ls : Array Slot), lv_has ls 3 [(0, .int x0), (1, .int x1), (2, .int x2)] → W p l e rm_m_ones s m args below meth c s.heap [] 0 0 (MQ below (vp_Si post) args s 0 0 (fun _ => False)) (F0 m 4 ls [])) ?_ _ hl
  intro x1 x2 hw ls hl
  refine lv_iload_n hx hb dX11_ones_4 rfl (lv_at hl 2 rfl) ?_
  refine lv_bipush (v := (9 : Int32)) hx hb dX11_ones_5 (by decide) ?_
  refine lv_icmp_ge (tgt := 32) hx hb dX11_ones_7 (by decide) (fun hc => ?_) (fun hc => ?_)
  · have hw := hw.1 hc
    refine lv_iload_n hx hb dX11_ones_32 rfl (lv_at hl 1 rfl) ?_
    exact zret_i zc hw dX11_ones_33
  · have hw := hw.2 hc
    refine lv_iload_n hx hb dX11_ones_10 rfl (lv_at hl 1 rfl) ?_
    refine lv_iload_n hx hb dX11_ones_11 rfl (lv_at hl 0 rfl) ?_
    refine lv_iload_n hx hb dX11_ones_12 rfl (lv_at hl 2 rfl) ?_
    refine zS_i [.int x0, .int x2] [.int x1] zc ky_X11_has kz_X11_has km_11_101 (c_m_has l hw) (zPre0 _) rfl rfl hl.1 (Nat.le_of_ble_eq_true rfl) ⟨rfl, rfl⟩ ⟨Nat.le_of_ble_eq_true rfl, Nat.le_of_ble_eq_true rfl⟩ ⟨(Nat.zero_le _), (Nat.zero_le _)⟩ dX11_ones_13 (fun r_1 hw => ?_)
    refine lv_if_eq (tgt := 23) hx hb dX11_ones_16 (by decide) (fun hc => ?_) (fun hc => ?_)
    · have hw := hw.1 hc
      refine lv_iconst (v := (0 : Int32)) hx hb dX11_ones_23 (by decide) ?_
      exact t_m_ones_24 zc (fun _ _ ls h hl => h ls hl) (lv_sub hl [0, 2] rfl) hw
    · have hw := hw.2 hc
      refine lv_iconst (v := (1 : Int32)) hx hb dX11_ones_19 (by decide) ?_
      refine lv_goto (tgt := 24) hx hb dX11_ones_20 (by decide) ?_
      exact t_m_ones_24 zc (fun _ _ ls h hl => h ls hl) (lv_sub hl [0, 2] rfl) hw
set_option maxRecDepth 20000 in
theorem t_m_ones_0 {p : Program} {l : Launch} {e : Env} {s : State} {m : MethodId} {args : Array Value} {below : List Frame} {meth : Method} {c : Code} {post : Int32 → Prop} {x0 : Int32} {ls : Array Slot}
    (zc : zC p s m args meth c cX11_ones 3 RX11 (some .int))
    (hl : lv_has ls 3 [(0, .int x0)])
    (hw : q_m_ones_0 x0 post) :
    W p l e rm_m_ones s m args below meth c s.heap [] 0 0 (MQ below (vp_Si post) args s 0 0 (fun _ => False)) (F0 m 0 ls []) := by
  have hx := zc.1
  have hb := zc.2.1
  refine lv_iconst (v := (0 : Int32)) hx hb dX11_ones_0 (by decide) ?_
  refine lv_istore_n (lv' := [(1, .int (0 : Int32)), (0, .int x0)]) hx hb dX11_ones_1 rfl hl (by decide) rfl (fun ls hl => ?_)
  refine lv_iconst (v := (0 : Int32)) hx hb dX11_ones_2 (by decide) ?_
  refine lv_istore_n (lv' := [(2, .int (0 : Int32)), (1, .int (0 : Int32)), (0, .int x0)]) hx hb dX11_ones_3 rfl hl (by decide) rfl (fun ls hl => ?_)
  exact t_m_ones_4 zc  (lv_sub hl [2, 1, 0] rfl) hw
set_option maxRecDepth 20000 in
theorem c_m_ones (l : Launch) {x0 : Int32} {post : Int32 → Prop} (hw : q_m_ones_0 x0 post) : Met l yX11_ones (Cond.code yX11_ones cX11_ones 3 (some .int) :: zb) rm_m_ones (va_Pc [.int x0] (fun _ => True)) (vp_Si post) 0 0 (fun _ => False) := by
  refine Met.ofW (cc := cX11_ones) (maxL := 3) (ret := (some .int)) (by decide) rfl ?_
  intro p e s m args below meth c s₁ B hml hv
  obtain ⟨rfl, -⟩ := hv
  have zc := zc_of B hml
  have hl := lv_entry ([.int x0]) (n := 3) (Nat.le_of_ble_eq_true rfl)
  rw [lg_entry_eq]
  generalize (lg_sl ([.int x0]) ++ List.replicate (3 - (lg_sl ([.int x0])).length) Slot.unset).toArray = ls at hl ⊢
  have hl : lv_has ls 3 [(0, .int x0)] := hl
  exact t_m_ones_0 zc (lv_sub hl [0] rfl) hw
-- m_copyRow_2
abbrev rm_m_copyRow_2 : Room := { frames := 0, cells := 0, slots := 0, locals := 0 }
def q_m_copyRow_2_3 (a_size : Nat → Int32) (x1 : Int32) (x2 : Int32) (x3 : Int32) (x4 : Int32) (post : (Nat → Int32) → Prop) : Prop :=
  ∀ P3 : Int32 → (Nat → Int32) → Prop, (∀ (x4 : Int32) (a_size : Nat → Int32), ((x1 ≤ x4 → (post a_size)) ∧ (¬ x1 ≤ x4 → (vp_in ((x1 * x2) + x4) 4 ∧ (∀ v_1 : Int32, v_1 = (a_size (Int32.toNatClampNeg ((x1 * x2) + x4))) → (vp_in ((x1 * x3) + x4) 4 ∧ (∀ a_size_1 : Nat → Int32, a_size_1 = upd a_size (Int32.toNatClampNeg ((x1 * x3) + x4)) v_1 → (∀ v_2 : Int32, v_2 = x4 + (1 : Int32) → (P3 v_2 a_size_1)))))))) → P3 x4 a_size) → P3 x4 a_size
def q_m_copyRow_2_0 (a_size : Nat → Int32) (x1 : Int32) (x2 : Int32) (x3 : Int32) (post : (Nat → Int32) → Prop) : Prop :=
  q_m_copyRow_2_3 a_size x1 x2 x3 (0 : Int32) post
set_option maxRecDepth 20000 in
theorem t_m_copyRow_2_3 {p : Program} {l : Launch} {e : Env} {s : State} {m : MethodId} {args : Array Value} {below : List Frame} {meth : Method} {c : Code} {E : zE} {q : Nat} {f_code : Int32} {a_tape : Nat → Int32} {a_size : Nat → Int32} {a_fault : Nat → Int32} {a_faultPlace : Nat → Int32} {a_many : Nat → Int32} {a_lands : Nat → Int32} {a_evenings : Nat → Int32} {a_sights : Nat → Int32} {a_choirs : Nat → Int32} {f_reached : Int32} {f_length : Int32} {f_begins : Int32} {f_sort : Int32} {f_value : Int32} {f_word : Int64} {f_wrongAt : Int32} {f_laterFault : Int32} {f_laterPlace : Int32} {a_told : Nat → Int32} {a_read : Nat → Int32} {f_farHut : Int32} {f_farSinger : Int32} {f_good : Int32} {f_land : Int32} {f_huts : Int32} {f_singers : Int32} {f_evening : Int32} {a_at : Nat → Int32} {a_knows : Nat → Int32} {a_climbed : Nat → Int32} {a_snow : Nat → Int32} {a_level : Nat → Int32} {f_begun : Int32} {f_minute : Int32} {f_avalanches : Int32} {a_run : Nat → Int32} {a_covers : Nat → Int32} {a_routes : Nat → Int32} {a_longest : Nat → Int32} {a_steep : Nat → Int32} {a_laid : Nat → Int32} {a_far : Nat → Int32} {f_sight : Int32} {a_runs : Nat → Int32} {f_choir : Int32} {f_voices : Int32} {a_rest : Nat → Int64} {a_wins : Nat → Int32} {f_seed : Int32} {a_other : Nat → Int32} {a_kept : Nat → Int32} {post : (Nat → Int32) → Prop} {x1 : Int32} {x2 : Int32} {x3 : Int32} {x4 : Int32} {ls : Array Slot} {H : Heap} {locs : List Loc}
    (zc : zC p s m args meth c cX11_copyRow 5 RX11 none)
    (hK : zK E s)
    (hM : mW E q f_code a_tape a_size a_fault a_faultPlace a_many a_lands a_evenings a_sights a_choirs f_reached f_length f_begins f_sort f_value f_word f_wrongAt f_laterFault f_laterPlace a_told a_read f_farHut f_farSinger f_good f_land f_huts f_singers f_evening a_at a_knows a_climbed a_snow a_level f_begun f_minute f_avalanches a_run a_covers a_routes a_longest a_steep a_laid a_far f_sight a_runs f_choir f_voices a_rest a_wins f_seed a_other a_kept H)
    (hS : va_S (mA q) s.heap H locs)
    (hl : lv_has ls 5 [(0, .ref (q + 2)), (1, .int x1), (2, .int x2), (3, .int x3), (4, .int x4)])
    (hw : q_m_copyRow_2_3 a_size x1 x2 x3 x4 post) :
    W p l e rm_m_copyRow_2 s m args below meth c H locs 0 0 (MQ below (zQv (S := (Nat → Int32)) (fun u => post u) (fun u H => mW E q f_code a_tape u a_fault a_faultPlace a_many a_lands a_evenings a_sights a_choirs f_reached f_length f_begins f_sort f_value f_word f_wrongAt f_laterFault f_laterPlace a_told a_read f_farHut f_farSinger f_good f_land f_huts f_singers f_evening a_at a_knows a_climbed a_snow a_level f_begun f_minute f_avalanches a_run a_covers a_routes a_longest a_steep a_laid a_far f_sight a_runs f_choir f_voices a_rest a_wins f_seed a_other a_kept H) (mA q)) args s 0 0 (mA q)) (F0 m 3 ls []) := by
  have hx := zc.1
  have hb := zc.2.1
  refine hw (fun x4 a_size => ∀ (H : Heap) (locs : List Loc) (ls : Array Slot), lv_has ls 5 [(0, .ref (q + 2)), (1, .int x1), (2, .int x2), (3, .int x3), (4, .int x4)] → mW E q f_code a_tape a_size a_fault a_faultPlace a_many a_lands a_evenings a_sights a_choirs f_reached f_length f_begins f_sort f_value f_word f_wrongAt f_laterFault f_laterPlace a_told a_read f_farHut f_farSinger f_good f_land f_huts f_singers f_evening a_at a_knows a_climbed a_snow a_level f_begun f_minute f_avalanches a_run a_covers a_routes a_longest a_steep a_laid a_far f_sight a_runs f_choir f_voices a_rest a_wins f_seed a_other a_kept H → va_S (mA q) s.heap H locs → W p l e rm_m_copyRow_2 s m args below meth c H locs 0 0 (MQ below (zQv (S := (Nat → Int32)) (fun u => post u) (fun u H => mW E q f_code a_tape u a_fault a_faultPlace a_many a_lands a_evenings a_sights a_choirs f_reached f_length f_begins f_sort f_value f_word f_wrongAt f_laterFault f_laterPlace a_told a_read f_farHut f_farSinger f_good f_land f_huts f_singers f_evening a_at a_knows a_climbed a_snow a_level f_begun f_minute f_avalanches a_run a_covers a_routes a_longest a_steep a_laid a_far f_sight a_runs f_choir f_voices a_rest a_wins f_seed a_other a_kept H) (mA q)) args s 0 0 (mA q)) (F0 m 3 ls [])) ?_ _ _ _ hl hM hS
  intro x4 a_size hw H locs ls hl hM hS
  refine lv_iload hx hb dX11_copyRow_3 (lv_at hl 4 rfl) ?_
  refine lv_iload_n hx hb dX11_copyRow_5 rfl (lv_at hl 1 rfl) ?_
  refine lv_icmp_ge (tgt := 31) hx hb dX11_copyRow_6 (by decide) (fun hc => ?_) (fun hc => ?_)
  · have hw := hw.1 hc
    exact zret_vw a_size zc hS hw hM dX11_copyRow_31
  · have hw := hw.2 hc
    refine lv_aload_n hx hb dX11_copyRow_9 rfl (lv_at hl 0 rfl) ?_
    refine lv_iload_n hx hb dX11_copyRow_10 rfl (lv_at hl 1 rfl) ?_
    refine lv_iload_n hx hb dX11_copyRow_11 rfl (lv_at hl 3 rfl) ?_
    refine lv_imul hx hb dX11_copyRow_12 ?_
    refine lv_iload hx hb dX11_copyRow_13 (lv_at hl 4 rfl) ?_
    refine lv_iadd hx hb dX11_copyRow_15 ?_
    refine lv_aload_n hx hb dX11_copyRow_16 rfl (lv_at hl 0 rfl) ?_
    refine lv_iload_n hx hb dX11_copyRow_17 rfl (lv_at hl 1 rfl) ?_
    refine lv_iload_n hx hb dX11_copyRow_18 rfl (lv_at hl 2 rfl) ?_
    refine lv_imul hx hb dX11_copyRow_19 ?_
    refine lv_iload hx hb dX11_copyRow_20 (lv_at hl 4 rfl) ?_
    refine lv_iadd hx hb dX11_copyRow_22 ?_
    refine mld_2 zc hK hM hw.1 dX11_copyRow_23 ?_
    have hw := hw.2
    refine lv_topi (fun v_1 ev_1 => ?_)
    have hw := hw v_1 ev_1
    refine mst_2 zc hK hM hS hw.1 dX11_copyRow_24 (fun a_size_1 H locs ea_size_1 hM hS => ?_)
    have hw := hw.2 a_size_1 ea_size_1
    obtain ⟨v_2, ev_2⟩ : ∃ y : Int32, y = x4 + (1 : Int32) := ⟨_, rfl⟩
    have hw := hw v_2 ev_2
    refine lv_iinc (v := v_2) (k := 4) (lv' := [(4, .int v_2), (0, .ref (q + 2)), (1, .int x1), (2, .int x2), (3, .int x3)]) hx hb dX11_copyRow_25 hl rfl (by rw [ev_2]; rfl) (by decide) rfl (fun ls hl => ?_)
    refine lv_goto (tgt := 3) hx hb dX11_copyRow_28 (by decide) ?_
    exact hw _ _ _ (lv_sub hl [1, 2, 3, 4, 0] rfl) hM hS
set_option maxRecDepth 20000 in
theorem t_m_copyRow_2_0 {p : Program} {l : Launch} {e : Env} {s : State} {m : MethodId} {args : Array Value} {below : List Frame} {meth : Method} {c : Code} {E : zE} {q : Nat} {f_code : Int32} {a_tape : Nat → Int32} {a_size : Nat → Int32} {a_fault : Nat → Int32} {a_faultPlace : Nat → Int32} {a_many : Nat → Int32} {a_lands : Nat → Int32} {a_evenings : Nat → Int32} {a_sights : Nat → Int32} {a_choirs : Nat → Int32} {f_reached : Int32} {f_length : Int32} {f_begins : Int32} {f_sort : Int32} {f_value : Int32} {f_word : Int64} {f_wrongAt : Int32} {f_laterFault : Int32} {f_laterPlace : Int32} {a_told : Nat → Int32} {a_read : Nat → Int32} {f_farHut : Int32} {f_farSinger : Int32} {f_good : Int32} {f_land : Int32} {f_huts : Int32} {f_singers : Int32} {f_evening : Int32} {a_at : Nat → Int32} {a_knows : Nat → Int32} {a_climbed : Nat → Int32} {a_snow : Nat → Int32} {a_level : Nat → Int32} {f_begun : Int32} {f_minute : Int32} {f_avalanches : Int32} {a_run : Nat → Int32} {a_covers : Nat → Int32} {a_routes : Nat → Int32} {a_longest : Nat → Int32} {a_steep : Nat → Int32} {a_laid : Nat → Int32} {a_far : Nat → Int32} {f_sight : Int32} {a_runs : Nat → Int32} {f_choir : Int32} {f_voices : Int32} {a_rest : Nat → Int64} {a_wins : Nat → Int32} {f_seed : Int32} {a_other : Nat → Int32} {a_kept : Nat → Int32} {post : (Nat → Int32) → Prop} {x1 : Int32} {x2 : Int32} {x3 : Int32} {ls : Array Slot} {H : Heap} {locs : List Loc}
    (zc : zC p s m args meth c cX11_copyRow 5 RX11 none)
    (hK : zK E s)
    (hM : mW E q f_code a_tape a_size a_fault a_faultPlace a_many a_lands a_evenings a_sights a_choirs f_reached f_length f_begins f_sort f_value f_word f_wrongAt f_laterFault f_laterPlace a_told a_read f_farHut f_farSinger f_good f_land f_huts f_singers f_evening a_at a_knows a_climbed a_snow a_level f_begun f_minute f_avalanches a_run a_covers a_routes a_longest a_steep a_laid a_far f_sight a_runs f_choir f_voices a_rest a_wins f_seed a_other a_kept H)
    (hS : va_S (mA q) s.heap H locs)
    (hl : lv_has ls 5 [(0, .ref (q + 2)), (1, .int x1), (2, .int x2), (3, .int x3)])
    (hw : q_m_copyRow_2_0 a_size x1 x2 x3 post) :
    W p l e rm_m_copyRow_2 s m args below meth c H locs 0 0 (MQ below (zQv (S := (Nat → Int32)) (fun u => post u) (fun u H => mW E q f_code a_tape u a_fault a_faultPlace a_many a_lands a_evenings a_sights a_choirs f_reached f_length f_begins f_sort f_value f_word f_wrongAt f_laterFault f_laterPlace a_told a_read f_farHut f_farSinger f_good f_land f_huts f_singers f_evening a_at a_knows a_climbed a_snow a_level f_begun f_minute f_avalanches a_run a_covers a_routes a_longest a_steep a_laid a_far f_sight a_runs f_choir f_voices a_rest a_wins f_seed a_other a_kept H) (mA q)) args s 0 0 (mA q)) (F0 m 0 ls []) := by
  have hx := zc.1
  have hb := zc.2.1
  refine lv_iconst (v := (0 : Int32)) hx hb dX11_copyRow_0 (by decide) ?_
  refine lv_istore (lv' := [(4, .int (0 : Int32)), (0, .ref (q + 2)), (1, .int x1), (2, .int x2), (3, .int x3)]) hx hb dX11_copyRow_1 hl (by decide) rfl (fun ls hl => ?_)
  exact t_m_copyRow_2_3 zc hK hM hS  (lv_sub hl [1, 2, 3, 4, 0] rfl) hw
set_option maxRecDepth 20000 in
theorem c_m_copyRow_2 (l : Launch) {E : zE} {q : Nat} {f_code : Int32} {a_tape : Nat → Int32} {a_size : Nat → Int32} {a_fault : Nat → Int32} {a_faultPlace : Nat → Int32} {a_many : Nat → Int32} {a_lands : Nat → Int32} {a_evenings : Nat → Int32} {a_sights : Nat → Int32} {a_choirs : Nat → Int32} {f_reached : Int32} {f_length : Int32} {f_begins : Int32} {f_sort : Int32} {f_value : Int32} {f_word : Int64} {f_wrongAt : Int32} {f_laterFault : Int32} {f_laterPlace : Int32} {a_told : Nat → Int32} {a_read : Nat → Int32} {f_farHut : Int32} {f_farSinger : Int32} {f_good : Int32} {f_land : Int32} {f_huts : Int32} {f_singers : Int32} {f_evening : Int32} {a_at : Nat → Int32} {a_knows : Nat → Int32} {a_climbed : Nat → Int32} {a_snow : Nat → Int32} {a_level : Nat → Int32} {f_begun : Int32} {f_minute : Int32} {f_avalanches : Int32} {a_run : Nat → Int32} {a_covers : Nat → Int32} {a_routes : Nat → Int32} {a_longest : Nat → Int32} {a_steep : Nat → Int32} {a_laid : Nat → Int32} {a_far : Nat → Int32} {f_sight : Int32} {a_runs : Nat → Int32} {f_choir : Int32} {f_voices : Int32} {a_rest : Nat → Int64} {a_wins : Nat → Int32} {f_seed : Int32} {a_other : Nat → Int32} {a_kept : Nat → Int32} {x1 : Int32} {x2 : Int32} {x3 : Int32} {post : (Nat → Int32) → Prop} (hw : q_m_copyRow_2_0 a_size x1 x2 x3 post) : Met l yX11_copyRow (Cond.code yX11_copyRow cX11_copyRow 5 none :: zb) rm_m_copyRow_2 (va_Pc [.ref (q + 2), .int x1, .int x2, .int x3] (fun U => mW E q f_code a_tape a_size a_fault a_faultPlace a_many a_lands a_evenings a_sights a_choirs f_reached f_length f_begins f_sort f_value f_word f_wrongAt f_laterFault f_laterPlace a_told a_read f_farHut f_farSinger f_good f_land f_huts f_singers f_evening a_at a_knows a_climbed a_snow a_level f_begun f_minute f_avalanches a_run a_covers a_routes a_longest a_steep a_laid a_far f_sight a_runs f_choir f_voices a_rest a_wins f_seed a_other a_kept U.heap ∧ zK E U)) (zQv (S := (Nat → Int32)) (fun u => post u) (fun u H => mW E q f_code a_tape u a_fault a_faultPlace a_many a_lands a_evenings a_sights a_choirs f_reached f_length f_begins f_sort f_value f_word f_wrongAt f_laterFault f_laterPlace a_told a_read f_farHut f_farSinger f_good f_land f_huts f_singers f_evening a_at a_knows a_climbed a_snow a_level f_begun f_minute f_avalanches a_run a_covers a_routes a_longest a_steep a_laid a_far f_sight a_runs f_choir f_voices a_rest a_wins f_seed a_other a_kept H) (mA q)) 0 0 (mA q) := by
  refine Met.ofW (cc := cX11_copyRow) (maxL := 5) (ret := none) (by decide) rfl ?_
  intro p e s m args below meth c s₁ B hml hv
  obtain ⟨rfl, hM, hK⟩ := hv
  have zc := zc_of B hml
  have hl := lv_entry ([.ref (q + 2), .int x1, .int x2, .int x3]) (n := 5) (Nat.le_of_ble_eq_true rfl)
  rw [lg_entry_eq]
  generalize (lg_sl ([.ref (q + 2), .int x1, .int x2, .int x3]) ++ List.replicate (5 - (lg_sl ([.ref (q + 2), .int x1, .int x2, .int x3])).length) Slot.unset).toArray = ls at hl ⊢
  have hl : lv_has ls 5 [(0, .ref (q + 2)), (1, .int x1), (2, .int x2), (3, .int x3)] := hl
  exact t_m_copyRow_2_0 zc hK hM va_S.rf (lv_sub hl [0, 1, 2, 3] rfl) hw
-- m_copyRow_3
abbrev rm_m_copyRow_3 : Room := { frames := 0, cells := 0, slots := 0, locals := 0 }
def q_m_copyRow_3_3 (a_fault : Nat → Int32) (x1 : Int32) (x2 : Int32) (x3 : Int32) (x4 : Int32) (post : (Nat → Int32) → Prop) : Prop :=
  ∀ P3 : Int32 → (Nat → Int32) → Prop, (∀ (x4 : Int32) (a_fault : Nat → Int32), ((x1 ≤ x4 → (post a_fault)) ∧ (¬ x1 ≤ x4 → (vp_in ((x1 * x2) + x4) 4 ∧ (∀ v_1 : Int32, v_1 = (a_fault (Int32.toNatClampNeg ((x1 * x2) + x4))) → (vp_in ((x1 * x3) + x4) 4 ∧ (∀ a_fault_1 : Nat → Int32, a_fault_1 = upd a_fault (Int32.toNatClampNeg ((x1 * x3) + x4)) v_1 → (∀ v_2 : Int32, v_2 = x4 + (1 : Int32) → (P3 v_2 a_fault_1)))))))) → P3 x4 a_fault) → P3 x4 a_fault
def q_m_copyRow_3_0 (a_fault : Nat → Int32) (x1 : Int32) (x2 : Int32) (x3 : Int32) (post : (Nat → Int32) → Prop) : Prop :=
  q_m_copyRow_3_3 a_fault x1 x2 x3 (0 : Int32) post
set_option maxRecDepth 20000 in
theorem t_m_copyRow_3_3 {p : Program} {l : Launch} {e : Env} {s : State} {m : MethodId} {args : Array Value} {below : List Frame} {meth : Method} {c : Code} {E : zE} {q : Nat} {f_code : Int32} {a_tape : Nat → Int32} {a_size : Nat → Int32} {a_fault : Nat → Int32} {a_faultPlace : Nat → Int32} {a_many : Nat → Int32} {a_lands : Nat → Int32} {a_evenings : Nat → Int32} {a_sights : Nat → Int32} {a_choirs : Nat → Int32} {f_reached : Int32} {f_length : Int32} {f_begins : Int32} {f_sort : Int32} {f_value : Int32} {f_word : Int64} {f_wrongAt : Int32} {f_laterFault : Int32} {f_laterPlace : Int32} {a_told : Nat → Int32} {a_read : Nat → Int32} {f_farHut : Int32} {f_farSinger : Int32} {f_good : Int32} {f_land : Int32} {f_huts : Int32} {f_singers : Int32} {f_evening : Int32} {a_at : Nat → Int32} {a_knows : Nat → Int32} {a_climbed : Nat → Int32} {a_snow : Nat → Int32} {a_level : Nat → Int32} {f_begun : Int32} {f_minute : Int32} {f_avalanches : Int32} {a_run : Nat → Int32} {a_covers : Nat → Int32} {a_routes : Nat → Int32} {a_longest : Nat → Int32} {a_steep : Nat → Int32} {a_laid : Nat → Int32} {a_far : Nat → Int32} {f_sight : Int32} {a_runs : Nat → Int32} {f_choir : Int32} {f_voices : Int32} {a_rest : Nat → Int64} {a_wins : Nat → Int32} {f_seed : Int32} {a_other : Nat → Int32} {a_kept : Nat → Int32} {post : (Nat → Int32) → Prop} {x1 : Int32} {x2 : Int32} {x3 : Int32} {x4 : Int32} {ls : Array Slot} {H : Heap} {locs : List Loc}
    (zc : zC p s m args meth c cX11_copyRow 5 RX11 none)
    (hK : zK E s)
    (hM : mW E q f_code a_tape a_size a_fault a_faultPlace a_many a_lands a_evenings a_sights a_choirs f_reached f_length f_begins f_sort f_value f_word f_wrongAt f_laterFault f_laterPlace a_told a_read f_farHut f_farSinger f_good f_land f_huts f_singers f_evening a_at a_knows a_climbed a_snow a_level f_begun f_minute f_avalanches a_run a_covers a_routes a_longest a_steep a_laid a_far f_sight a_runs f_choir f_voices a_rest a_wins f_seed a_other a_kept H)
    (hS : va_S (mA q) s.heap H locs)
    (hl : lv_has ls 5 [(0, .ref (q + 3)), (1, .int x1), (2, .int x2), (3, .int x3), (4, .int x4)])
    (hw : q_m_copyRow_3_3 a_fault x1 x2 x3 x4 post) :
    W p l e rm_m_copyRow_3 s m args below meth c H locs 0 0 (MQ below (zQv (S := (Nat → Int32)) (fun u => post u) (fun u H => mW E q f_code a_tape a_size u a_faultPlace a_many a_lands a_evenings a_sights a_choirs f_reached f_length f_begins f_sort f_value f_word f_wrongAt f_laterFault f_laterPlace a_told a_read f_farHut f_farSinger f_good f_land f_huts f_singers f_evening a_at a_knows a_climbed a_snow a_level f_begun f_minute f_avalanches a_run a_covers a_routes a_longest a_steep a_laid a_far f_sight a_runs f_choir f_voices a_rest a_wins f_seed a_other a_kept H) (mA q)) args s 0 0 (mA q)) (F0 m 3 ls []) := by
  have hx := zc.1
  have hb := zc.2.1
  refine hw (fun x4 a_fault => ∀ (H : Heap) (locs : List Loc) (ls : Array Slot), lv_has ls 5 [(0, .ref (q + 3)), (1, .int x1), (2, .int x2), (3, .int x3), (4, .int x4)] → mW E q f_code a_tape a_size a_fault a_faultPlace a_many a_lands a_evenings a_sights a_choirs f_reached f_length f_begins f_sort f_value f_word f_wrongAt f_laterFault f_laterPlace a_told a_read f_farHut f_farSinger f_good f_land f_huts f_singers f_evening a_at a_knows a_climbed a_snow a_level f_begun f_minute f_avalanches a_run a_covers a_routes a_longest a_steep a_laid a_far f_sight a_runs f_choir f_voices a_rest a_wins f_seed a_other a_kept H → va_S (mA q) s.heap H locs → W p l e rm_m_copyRow_3 s m args below meth c H locs 0 0 (MQ below (zQv (S := (Nat → Int32)) (fun u => post u) (fun u H => mW E q f_code a_tape a_size u a_faultPlace a_many a_lands a_evenings a_sights a_choirs f_reached f_length f_begins f_sort f_value f_word f_wrongAt f_laterFault f_laterPlace a_told a_read f_farHut f_farSinger f_good f_land f_huts f_singers f_evening a_at a_knows a_climbed a_snow a_level f_begun f_minute f_avalanches a_run a_covers a_routes a_longest a_steep a_laid a_far f_sight a_runs f_choir f_voices a_rest a_wins f_seed a_other a_kept H) (mA q)) args s 0 0 (mA q)) (F0 m 3 ls [])) ?_ _ _ _ hl hM hS
  intro x4 a_fault hw H locs ls hl hM hS
  refine lv_iload hx hb dX11_copyRow_3 (lv_at hl 4 rfl) ?_
  refine lv_iload_n hx hb dX11_copyRow_5 rfl (lv_at hl 1 rfl) ?_
  refine lv_icmp_ge (tgt := 31) hx hb dX11_copyRow_6 (by decide) (fun hc => ?_) (fun hc => ?_)
  · have hw := hw.1 hc
    exact zret_vw a_fault zc hS hw hM dX11_copyRow_31
  · have hw := hw.2 hc
    refine lv_aload_n hx hb dX11_copyRow_9 rfl (lv_at hl 0 rfl) ?_
    refine lv_iload_n hx hb dX11_copyRow_10 rfl (lv_at hl 1 rfl) ?_
    refine lv_iload_n hx hb dX11_copyRow_11 rfl (lv_at hl 3 rfl) ?_
    refine lv_imul hx hb dX11_copyRow_12 ?_
    refine lv_iload hx hb dX11_copyRow_13 (lv_at hl 4 rfl) ?_
    refine lv_iadd hx hb dX11_copyRow_15 ?_
    refine lv_aload_n hx hb dX11_copyRow_16 rfl (lv_at hl 0 rfl) ?_
    refine lv_iload_n hx hb dX11_copyRow_17 rfl (lv_at hl 1 rfl) ?_
    refine lv_iload_n hx hb dX11_copyRow_18 rfl (lv_at hl 2 rfl) ?_
    refine lv_imul hx hb dX11_copyRow_19 ?_
    refine lv_iload hx hb dX11_copyRow_20 (lv_at hl 4 rfl) ?_
    refine lv_iadd hx hb dX11_copyRow_22 ?_
    refine mld_3 zc hK hM hw.1 dX11_copyRow_23 ?_
    have hw := hw.2
    refine lv_topi (fun v_1 ev_1 => ?_)
    have hw := hw v_1 ev_1
    refine mst_3 zc hK hM hS hw.1 dX11_copyRow_24 (fun a_fault_1 H locs ea_fault_1 hM hS => ?_)
    have hw := hw.2 a_fault_1 ea_fault_1
    obtain ⟨v_2, ev_2⟩ : ∃ y : Int32, y = x4 + (1 : Int32) := ⟨_, rfl⟩
    have hw := hw v_2 ev_2
    refine lv_iinc (v := v_2) (k := 4) (lv' := [(4, .int v_2), (0, .ref (q + 3)), (1, .int x1), (2, .int x2), (3, .int x3)]) hx hb dX11_copyRow_25 hl rfl (by rw [ev_2]; rfl) (by decide) rfl (fun ls hl => ?_)
    refine lv_goto (tgt := 3) hx hb dX11_copyRow_28 (by decide) ?_
    exact hw _ _ _ (lv_sub hl [1, 2, 3, 4, 0] rfl) hM hS
set_option maxRecDepth 20000 in
theorem t_m_copyRow_3_0 {p : Program} {l : Launch} {e : Env} {s : State} {m : MethodId} {args : Array Value} {below : List Frame} {meth : Method} {c : Code} {E : zE} {q : Nat} {f_code : Int32} {a_tape : Nat → Int32} {a_size : Nat → Int32} {a_fault : Nat → Int32} {a_faultPlace : Nat → Int32} {a_many : Nat → Int32} {a_lands : Nat → Int32} {a_evenings : Nat → Int32} {a_sights : Nat → Int32} {a_choirs : Nat → Int32} {f_reached : Int32} {f_length : Int32} {f_begins : Int32} {f_sort : Int32} {f_value : Int32} {f_word : Int64} {f_wrongAt : Int32} {f_laterFault : Int32} {f_laterPlace : Int32} {a_told : Nat → Int32} {a_read : Nat → Int32} {f_farHut : Int32} {f_farSinger : Int32} {f_good : Int32} {f_land : Int32} {f_huts : Int32} {f_singers : Int32} {f_evening : Int32} {a_at : Nat → Int32} {a_knows : Nat → Int32} {a_climbed : Nat → Int32} {a_snow : Nat → Int32} {a_level : Nat → Int32} {f_begun : Int32} {f_minute : Int32} {f_avalanches : Int32} {a_run : Nat → Int32} {a_covers : Nat → Int32} {a_routes : Nat → Int32} {a_longest : Nat → Int32} {a_steep : Nat → Int32} {a_laid : Nat → Int32} {a_far : Nat → Int32} {f_sight : Int32} {a_runs : Nat → Int32} {f_choir : Int32} {f_voices : Int32} {a_rest : Nat → Int64} {a_wins : Nat → Int32} {f_seed : Int32} {a_other : Nat → Int32} {a_kept : Nat → Int32} {post : (Nat → Int32) → Prop} {x1 : Int32} {x2 : Int32} {x3 : Int32} {ls : Array Slot} {H : Heap} {locs : List Loc}
    (zc : zC p s m args meth c cX11_copyRow 5 RX11 none)
    (hK : zK E s)
    (hM : mW E q f_code a_tape a_size a_fault a_faultPlace a_many a_lands a_evenings a_sights a_choirs f_reached f_length f_begins f_sort f_value f_word f_wrongAt f_laterFault f_laterPlace a_told a_read f_farHut f_farSinger f_good f_land f_huts f_singers f_evening a_at a_knows a_climbed a_snow a_level f_begun f_minute f_avalanches a_run a_covers a_routes a_longest a_steep a_laid a_far f_sight a_runs f_choir f_voices a_rest a_wins f_seed a_other a_kept H)
    (hS : va_S (mA q) s.heap H locs)
    (hl : lv_has ls 5 [(0, .ref (q + 3)), (1, .int x1), (2, .int x2), (3, .int x3)])
    (hw : q_m_copyRow_3_0 a_fault x1 x2 x3 post) :
    W p l e rm_m_copyRow_3 s m args below meth c H locs 0 0 (MQ below (zQv (S := (Nat → Int32)) (fun u => post u) (fun u H => mW E q f_code a_tape a_size u a_faultPlace a_many a_lands a_evenings a_sights a_choirs f_reached f_length f_begins f_sort f_value f_word f_wrongAt f_laterFault f_laterPlace a_told a_read f_farHut f_farSinger f_good f_land f_huts f_singers f_evening a_at a_knows a_climbed a_snow a_level f_begun f_minute f_avalanches a_run a_covers a_routes a_longest a_steep a_laid a_far f_sight a_runs f_choir f_voices a_rest a_wins f_seed a_other a_kept H) (mA q)) args s 0 0 (mA q)) (F0 m 0 ls []) := by
  have hx := zc.1
  have hb := zc.2.1
  refine lv_iconst (v := (0 : Int32)) hx hb dX11_copyRow_0 (by decide) ?_
  refine lv_istore (lv' := [(4, .int (0 : Int32)), (0, .ref (q + 3)), (1, .int x1), (2, .int x2), (3, .int x3)]) hx hb dX11_copyRow_1 hl (by decide) rfl (fun ls hl => ?_)
  exact t_m_copyRow_3_3 zc hK hM hS  (lv_sub hl [1, 2, 3, 4, 0] rfl) hw
set_option maxRecDepth 20000 in
theorem c_m_copyRow_3 (l : Launch) {E : zE} {q : Nat} {f_code : Int32} {a_tape : Nat → Int32} {a_size : Nat → Int32} {a_fault : Nat → Int32} {a_faultPlace : Nat → Int32} {a_many : Nat → Int32} {a_lands : Nat → Int32} {a_evenings : Nat → Int32} {a_sights : Nat → Int32} {a_choirs : Nat → Int32} {f_reached : Int32} {f_length : Int32} {f_begins : Int32} {f_sort : Int32} {f_value : Int32} {f_word : Int64} {f_wrongAt : Int32} {f_laterFault : Int32} {f_laterPlace : Int32} {a_told : Nat → Int32} {a_read : Nat → Int32} {f_farHut : Int32} {f_farSinger : Int32} {f_good : Int32} {f_land : Int32} {f_huts : Int32} {f_singers : Int32} {f_evening : Int32} {a_at : Nat → Int32} {a_knows : Nat → Int32} {a_climbed : Nat → Int32} {a_snow : Nat → Int32} {a_level : Nat → Int32} {f_begun : Int32} {f_minute : Int32} {f_avalanches : Int32} {a_run : Nat → Int32} {a_covers : Nat → Int32} {a_routes : Nat → Int32} {a_longest : Nat → Int32} {a_steep : Nat → Int32} {a_laid : Nat → Int32} {a_far : Nat → Int32} {f_sight : Int32} {a_runs : Nat → Int32} {f_choir : Int32} {f_voices : Int32} {a_rest : Nat → Int64} {a_wins : Nat → Int32} {f_seed : Int32} {a_other : Nat → Int32} {a_kept : Nat → Int32} {x1 : Int32} {x2 : Int32} {x3 : Int32} {post : (Nat → Int32) → Prop} (hw : q_m_copyRow_3_0 a_fault x1 x2 x3 post) : Met l yX11_copyRow (Cond.code yX11_copyRow cX11_copyRow 5 none :: zb) rm_m_copyRow_3 (va_Pc [.ref (q + 3), .int x1, .int x2, .int x3] (fun U => mW E q f_code a_tape a_size a_fault a_faultPlace a_many a_lands a_evenings a_sights a_choirs f_reached f_length f_begins f_sort f_value f_word f_wrongAt f_laterFault f_laterPlace a_told a_read f_farHut f_farSinger f_good f_land f_huts f_singers f_evening a_at a_knows a_climbed a_snow a_level f_begun f_minute f_avalanches a_run a_covers a_routes a_longest a_steep a_laid a_far f_sight a_runs f_choir f_voices a_rest a_wins f_seed a_other a_kept U.heap ∧ zK E U)) (zQv (S := (Nat → Int32)) (fun u => post u) (fun u H => mW E q f_code a_tape a_size u a_faultPlace a_many a_lands a_evenings a_sights a_choirs f_reached f_length f_begins f_sort f_value f_word f_wrongAt f_laterFault f_laterPlace a_told a_read f_farHut f_farSinger f_good f_land f_huts f_singers f_evening a_at a_knows a_climbed a_snow a_level f_begun f_minute f_avalanches a_run a_covers a_routes a_longest a_steep a_laid a_far f_sight a_runs f_choir f_voices a_rest a_wins f_seed a_other a_kept H) (mA q)) 0 0 (mA q) := by
  refine Met.ofW (cc := cX11_copyRow) (maxL := 5) (ret := none) (by decide) rfl ?_
  intro p e s m args below meth c s₁ B hml hv
  obtain ⟨rfl, hM, hK⟩ := hv
  have zc := zc_of B hml
  have hl := lv_entry ([.ref (q + 3), .int x1, .int x2, .int x3]) (n := 5) (Nat.le_of_ble_eq_true rfl)
  rw [lg_entry_eq]
  generalize (lg_sl ([.ref (q + 3), .int x1, .int x2, .int x3]) ++ List.replicate (5 - (lg_sl ([.ref (q + 3), .int x1, .int x2, .int x3])).length) Slot.unset).toArray = ls at hl ⊢
  have hl : lv_has ls 5 [(0, .ref (q + 3)), (1, .int x1), (2, .int x2), (3, .int x3)] := hl
  exact t_m_copyRow_3_0 zc hK hM va_S.rf (lv_sub hl [0, 1, 2, 3] rfl) hw
-- m_copyRow_4
abbrev rm_m_copyRow_4 : Room := { frames := 0, cells := 0, slots := 0, locals := 0 }
def q_m_copyRow_4_3 (a_faultPlace : Nat → Int32) (x1 : Int32) (x2 : Int32) (x3 : Int32) (x4 : Int32) (post : (Nat → Int32) → Prop) : Prop :=
  ∀ P3 : Int32 → (Nat → Int32) → Prop, (∀ (x4 : Int32) (a_faultPlace : Nat → Int32), ((x1 ≤ x4 → (post a_faultPlace)) ∧ (¬ x1 ≤ x4 → (vp_in ((x1 * x2) + x4) 4 ∧ (∀ v_1 : Int32, v_1 = (a_faultPlace (Int32.toNatClampNeg ((x1 * x2) + x4))) → (vp_in ((x1 * x3) + x4) 4 ∧ (∀ a_faultPlace_1 : Nat → Int32, a_faultPlace_1 = upd a_faultPlace (Int32.toNatClampNeg ((x1 * x3) + x4)) v_1 → (∀ v_2 : Int32, v_2 = x4 + (1 : Int32) → (P3 v_2 a_faultPlace_1)))))))) → P3 x4 a_faultPlace) → P3 x4 a_faultPlace
def q_m_copyRow_4_0 (a_faultPlace : Nat → Int32) (x1 : Int32) (x2 : Int32) (x3 : Int32) (post : (Nat → Int32) → Prop) : Prop :=
  q_m_copyRow_4_3 a_faultPlace x1 x2 x3 (0 : Int32) post
set_option maxRecDepth 20000 in
theorem t_m_copyRow_4_3 {p : Program} {l : Launch} {e : Env} {s : State} {m : MethodId} {args : Array Value} {below : List Frame} {meth : Method} {c : Code} {E : zE} {q : Nat} {f_code : Int32} {a_tape : Nat → Int32} {a_size : Nat → Int32} {a_fault : Nat → Int32} {a_faultPlace : Nat → Int32} {a_many : Nat → Int32} {a_lands : Nat → Int32} {a_evenings : Nat → Int32} {a_sights : Nat → Int32} {a_choirs : Nat → Int32} {f_reached : Int32} {f_length : Int32} {f_begins : Int32} {f_sort : Int32} {f_value : Int32} {f_word : Int64} {f_wrongAt : Int32} {f_laterFault : Int32} {f_laterPlace : Int32} {a_told : Nat → Int32} {a_read : Nat → Int32} {f_farHut : Int32} {f_farSinger : Int32} {f_good : Int32} {f_land : Int32} {f_huts : Int32} {f_singers : Int32} {f_evening : Int32} {a_at : Nat → Int32} {a_knows : Nat → Int32} {a_climbed : Nat → Int32} {a_snow : Nat → Int32} {a_level : Nat → Int32} {f_begun : Int32} {f_minute : Int32} {f_avalanches : Int32} {a_run : Nat → Int32} {a_covers : Nat → Int32} {a_routes : Nat → Int32} {a_longest : Nat → Int32} {a_steep : Nat → Int32} {a_laid : Nat → Int32} {a_far : Nat → Int32} {f_sight : Int32} {a_runs : Nat → Int32} {f_choir : Int32} {f_voices : Int32} {a_rest : Nat → Int64} {a_wins : Nat → Int32} {f_seed : Int32} {a_other : Nat → Int32} {a_kept : Nat → Int32} {post : (Nat → Int32) → Prop} {x1 : Int32} {x2 : Int32} {x3 : Int32} {x4 : Int32} {ls : Array Slot} {H : Heap} {locs : List Loc}
    (zc : zC p s m args meth c cX11_copyRow 5 RX11 none)
    (hK : zK E s)
    (hM : mW E q f_code a_tape a_size a_fault a_faultPlace a_many a_lands a_evenings a_sights a_choirs f_reached f_length f_begins f_sort f_value f_word f_wrongAt f_laterFault f_laterPlace a_told a_read f_farHut f_farSinger f_good f_land f_huts f_singers f_evening a_at a_knows a_climbed a_snow a_level f_begun f_minute f_avalanches a_run a_covers a_routes a_longest a_steep a_laid a_far f_sight a_runs f_choir f_voices a_rest a_wins f_seed a_other a_kept H)
    (hS : va_S (mA q) s.heap H locs)
    (hl : lv_has ls 5 [(0, .ref (q + 4)), (1, .int x1), (2, .int x2), (3, .int x3), (4, .int x4)])
    (hw : q_m_copyRow_4_3 a_faultPlace x1 x2 x3 x4 post) :
    W p l e rm_m_copyRow_4 s m args below meth c H locs 0 0 (MQ below (zQv (S := (Nat → Int32)) (fun u => post u) (fun u H => mW E q f_code a_tape a_size a_fault u a_many a_lands a_evenings a_sights a_choirs f_reached f_length f_begins f_sort f_value f_word f_wrongAt f_laterFault f_laterPlace a_told a_read f_farHut f_farSinger f_good f_land f_huts f_singers f_evening a_at a_knows a_climbed a_snow a_level f_begun f_minute f_avalanches a_run a_covers a_routes a_longest a_steep a_laid a_far f_sight a_runs f_choir f_voices a_rest a_wins f_seed a_other a_kept H) (mA q)) args s 0 0 (mA q)) (F0 m 3 ls []) := by
  have hx := zc.1
  have hb := zc.2.1
  refine hw (fun x4 a_faultPlace => ∀ (H : Heap) (locs : List Loc) (ls : Array Slot), lv_has ls 5 [(0, .ref (q + 4)), (1, .int x1), (2, .int x2), (3, .int x3), (4, .int x4)] → mW E q f_code a_tape a_size a_fault a_faultPlace a_many a_lands a_evenings a_sights a_choirs f_reached f_length f_begins f_sort f_value f_word f_wrongAt f_laterFault f_laterPlace a_told a_read f_farHut f_farSinger f_good f_land f_huts f_singers f_evening a_at a_knows a_climbed a_snow a_level f_begun f_minute f_avalanches a_run a_covers a_routes a_longest a_steep a_laid a_far f_sight a_runs f_choir f_voices a_rest a_wins f_seed a_other a_kept H → va_S (mA q) s.heap H locs → W p l e rm_m_copyRow_4 s m args below meth c H locs 0 0 (MQ below (zQv (S := (Nat → Int32)) (fun u => post u) (fun u H => mW E q f_code a_tape a_size a_fault u a_many a_lands a_evenings a_sights a_choirs f_reached f_length f_begins f_sort f_value f_word f_wrongAt f_laterFault f_laterPlace a_told a_read f_farHut f_farSinger f_good f_land f_huts f_singers f_evening a_at a_knows a_climbed a_snow a_level f_begun f_minute f_avalanches a_run a_covers a_routes a_longest a_steep a_laid a_far f_sight a_runs f_choir f_voices a_rest a_wins f_seed a_other a_kept H) (mA q)) args s 0 0 (mA q)) (F0 m 3 ls [])) ?_ _ _ _ hl hM hS
  intro x4 a_faultPlace hw H locs ls hl hM hS
  refine lv_iload hx hb dX11_copyRow_3 (lv_at hl 4 rfl) ?_
  refine lv_iload_n hx hb dX11_copyRow_5 rfl (lv_at hl 1 rfl) ?_
  refine lv_icmp_ge (tgt := 31) hx hb dX11_copyRow_6 (by decide) (fun hc => ?_) (fun hc => ?_)
  · have hw := hw.1 hc
    exact zret_vw a_faultPlace zc hS hw hM dX11_copyRow_31
  · have hw := hw.2 hc
    refine lv_aload_n hx hb dX11_copyRow_9 rfl (lv_at hl 0 rfl) ?_
    refine lv_iload_n hx hb dX11_copyRow_10 rfl (lv_at hl 1 rfl) ?_
    refine lv_iload_n hx hb dX11_copyRow_11 rfl (lv_at hl 3 rfl) ?_
    refine lv_imul hx hb dX11_copyRow_12 ?_
    refine lv_iload hx hb dX11_copyRow_13 (lv_at hl 4 rfl) ?_
    refine lv_iadd hx hb dX11_copyRow_15 ?_
    refine lv_aload_n hx hb dX11_copyRow_16 rfl (lv_at hl 0 rfl) ?_
    refine lv_iload_n hx hb dX11_copyRow_17 rfl (lv_at hl 1 rfl) ?_
    refine lv_iload_n hx hb dX11_copyRow_18 rfl (lv_at hl 2 rfl) ?_
    refine lv_imul hx hb dX11_copyRow_19 ?_
    refine lv_iload hx hb dX11_copyRow_20 (lv_at hl 4 rfl) ?_
    refine lv_iadd hx hb dX11_copyRow_22 ?_
    refine mld_4 zc hK hM hw.1 dX11_copyRow_23 ?_
    have hw := hw.2
    refine lv_topi (fun v_1 ev_1 => ?_)
    have hw := hw v_1 ev_1
    refine mst_4 zc hK hM hS hw.1 dX11_copyRow_24 (fun a_faultPlace_1 H locs ea_faultPlace_1 hM hS => ?_)
    have hw := hw.2 a_faultPlace_1 ea_faultPlace_1
    obtain ⟨v_2, ev_2⟩ : ∃ y : Int32, y = x4 + (1 : Int32) := ⟨_, rfl⟩
    have hw := hw v_2 ev_2
    refine lv_iinc (v := v_2) (k := 4) (lv' := [(4, .int v_2), (0, .ref (q + 4)), (1, .int x1), (2, .int x2), (3, .int x3)]) hx hb dX11_copyRow_25 hl rfl (by rw [ev_2]; rfl) (by decide) rfl (fun ls hl => ?_)
    refine lv_goto (tgt := 3) hx hb dX11_copyRow_28 (by decide) ?_
    exact hw _ _ _ (lv_sub hl [1, 2, 3, 4, 0] rfl) hM hS
set_option maxRecDepth 20000 in
theorem t_m_copyRow_4_0 {p : Program} {l : Launch} {e : Env} {s : State} {m : MethodId} {args : Array Value} {below : List Frame} {meth : Method} {c : Code} {E : zE} {q : Nat} {f_code : Int32} {a_tape : Nat → Int32} {a_size : Nat → Int32} {a_fault : Nat → Int32} {a_faultPlace : Nat → Int32} {a_many : Nat → Int32} {a_lands : Nat → Int32} {a_evenings : Nat → Int32} {a_sights : Nat → Int32} {a_choirs : Nat → Int32} {f_reached : Int32} {f_length : Int32} {f_begins : Int32} {f_sort : Int32} {f_value : Int32} {f_word : Int64} {f_wrongAt : Int32} {f_laterFault : Int32} {f_laterPlace : Int32} {a_told : Nat → Int32} {a_read : Nat → Int32} {f_farHut : Int32} {f_farSinger : Int32} {f_good : Int32} {f_land : Int32} {f_huts : Int32} {f_singers : Int32} {f_evening : Int32} {a_at : Nat → Int32} {a_knows : Nat → Int32} {a_climbed : Nat → Int32} {a_snow : Nat → Int32} {a_level : Nat → Int32} {f_begun : Int32} {f_minute : Int32} {f_avalanches : Int32} {a_run : Nat → Int32} {a_covers : Nat → Int32} {a_routes : Nat → Int32} {a_longest : Nat → Int32} {a_steep : Nat → Int32} {a_laid : Nat → Int32} {a_far : Nat → Int32} {f_sight : Int32} {a_runs : Nat → Int32} {f_choir : Int32} {f_voices : Int32} {a_rest : Nat → Int64} {a_wins : Nat → Int32} {f_seed : Int32} {a_other : Nat → Int32} {a_kept : Nat → Int32} {post : (Nat → Int32) → Prop} {x1 : Int32} {x2 : Int32} {x3 : Int32} {ls : Array Slot} {H : Heap} {locs : List Loc}
    (zc : zC p s m args meth c cX11_copyRow 5 RX11 none)
    (hK : zK E s)
    (hM : mW E q f_code a_tape a_size a_fault a_faultPlace a_many a_lands a_evenings a_sights a_choirs f_reached f_length f_begins f_sort f_value f_word f_wrongAt f_laterFault f_laterPlace a_told a_read f_farHut f_farSinger f_good f_land f_huts f_singers f_evening a_at a_knows a_climbed a_snow a_level f_begun f_minute f_avalanches a_run a_covers a_routes a_longest a_steep a_laid a_far f_sight a_runs f_choir f_voices a_rest a_wins f_seed a_other a_kept H)
    (hS : va_S (mA q) s.heap H locs)
    (hl : lv_has ls 5 [(0, .ref (q + 4)), (1, .int x1), (2, .int x2), (3, .int x3)])
    (hw : q_m_copyRow_4_0 a_faultPlace x1 x2 x3 post) :
    W p l e rm_m_copyRow_4 s m args below meth c H locs 0 0 (MQ below (zQv (S := (Nat → Int32)) (fun u => post u) (fun u H => mW E q f_code a_tape a_size a_fault u a_many a_lands a_evenings a_sights a_choirs f_reached f_length f_begins f_sort f_value f_word f_wrongAt f_laterFault f_laterPlace a_told a_read f_farHut f_farSinger f_good f_land f_huts f_singers f_evening a_at a_knows a_climbed a_snow a_level f_begun f_minute f_avalanches a_run a_covers a_routes a_longest a_steep a_laid a_far f_sight a_runs f_choir f_voices a_rest a_wins f_seed a_other a_kept H) (mA q)) args s 0 0 (mA q)) (F0 m 0 ls []) := by
  have hx := zc.1
  have hb := zc.2.1
  refine lv_iconst (v := (0 : Int32)) hx hb dX11_copyRow_0 (by decide) ?_
  refine lv_istore (lv' := [(4, .int (0 : Int32)), (0, .ref (q + 4)), (1, .int x1), (2, .int x2), (3, .int x3)]) hx hb dX11_copyRow_1 hl (by decide) rfl (fun ls hl => ?_)
  exact t_m_copyRow_4_3 zc hK hM hS  (lv_sub hl [1, 2, 3, 4, 0] rfl) hw
set_option maxRecDepth 20000 in
theorem c_m_copyRow_4 (l : Launch) {E : zE} {q : Nat} {f_code : Int32} {a_tape : Nat → Int32} {a_size : Nat → Int32} {a_fault : Nat → Int32} {a_faultPlace : Nat → Int32} {a_many : Nat → Int32} {a_lands : Nat → Int32} {a_evenings : Nat → Int32} {a_sights : Nat → Int32} {a_choirs : Nat → Int32} {f_reached : Int32} {f_length : Int32} {f_begins : Int32} {f_sort : Int32} {f_value : Int32} {f_word : Int64} {f_wrongAt : Int32} {f_laterFault : Int32} {f_laterPlace : Int32} {a_told : Nat → Int32} {a_read : Nat → Int32} {f_farHut : Int32} {f_farSinger : Int32} {f_good : Int32} {f_land : Int32} {f_huts : Int32} {f_singers : Int32} {f_evening : Int32} {a_at : Nat → Int32} {a_knows : Nat → Int32} {a_climbed : Nat → Int32} {a_snow : Nat → Int32} {a_level : Nat → Int32} {f_begun : Int32} {f_minute : Int32} {f_avalanches : Int32} {a_run : Nat → Int32} {a_covers : Nat → Int32} {a_routes : Nat → Int32} {a_longest : Nat → Int32} {a_steep : Nat → Int32} {a_laid : Nat → Int32} {a_far : Nat → Int32} {f_sight : Int32} {a_runs : Nat → Int32} {f_choir : Int32} {f_voices : Int32} {a_rest : Nat → Int64} {a_wins : Nat → Int32} {f_seed : Int32} {a_other : Nat → Int32} {a_kept : Nat → Int32} {x1 : Int32} {x2 : Int32} {x3 : Int32} {post : (Nat → Int32) → Prop} (hw : q_m_copyRow_4_0 a_faultPlace x1 x2 x3 post) : Met l yX11_copyRow (Cond.code yX11_copyRow cX11_copyRow 5 none :: zb) rm_m_copyRow_4 (va_Pc [.ref (q + 4), .int x1, .int x2, .int x3] (fun U => mW E q f_code a_tape a_size a_fault a_faultPlace a_many a_lands a_evenings a_sights a_choirs f_reached f_length f_begins f_sort f_value f_word f_wrongAt f_laterFault f_laterPlace a_told a_read f_farHut f_farSinger f_good f_land f_huts f_singers f_evening a_at a_knows a_climbed a_snow a_level f_begun f_minute f_avalanches a_run a_covers a_routes a_longest a_steep a_laid a_far f_sight a_runs f_choir f_voices a_rest a_wins f_seed a_other a_kept U.heap ∧ zK E U)) (zQv (S := (Nat → Int32)) (fun u => post u) (fun u H => mW E q f_code a_tape a_size a_fault u a_many a_lands a_evenings a_sights a_choirs f_reached f_length f_begins f_sort f_value f_word f_wrongAt f_laterFault f_laterPlace a_told a_read f_farHut f_farSinger f_good f_land f_huts f_singers f_evening a_at a_knows a_climbed a_snow a_level f_begun f_minute f_avalanches a_run a_covers a_routes a_longest a_steep a_laid a_far f_sight a_runs f_choir f_voices a_rest a_wins f_seed a_other a_kept H) (mA q)) 0 0 (mA q) := by
  refine Met.ofW (cc := cX11_copyRow) (maxL := 5) (ret := none) (by decide) rfl ?_
  intro p e s m args below meth c s₁ B hml hv
  obtain ⟨rfl, hM, hK⟩ := hv
  have zc := zc_of B hml
  have hl := lv_entry ([.ref (q + 4), .int x1, .int x2, .int x3]) (n := 5) (Nat.le_of_ble_eq_true rfl)
  rw [lg_entry_eq]
  generalize (lg_sl ([.ref (q + 4), .int x1, .int x2, .int x3]) ++ List.replicate (5 - (lg_sl ([.ref (q + 4), .int x1, .int x2, .int x3])).length) Slot.unset).toArray = ls at hl ⊢
  have hl : lv_has ls 5 [(0, .ref (q + 4)), (1, .int x1), (2, .int x2), (3, .int x3)] := hl
  exact t_m_copyRow_4_0 zc hK hM va_S.rf (lv_sub hl [0, 1, 2, 3] rfl) hw
-- m_copyRow_5
abbrev rm_m_copyRow_5 : Room := { frames := 0, cells := 0, slots := 0, locals := 0 }
def q_m_copyRow_5_3 (a_many : Nat → Int32) (x1 : Int32) (x2 : Int32) (x3 : Int32) (x4 : Int32) (post : (Nat → Int32) → Prop) : Prop :=
  ∀ P3 : Int32 → (Nat → Int32) → Prop, (∀ (x4 : Int32) (a_many : Nat → Int32), ((x1 ≤ x4 → (post a_many)) ∧ (¬ x1 ≤ x4 → (vp_in ((x1 * x2) + x4) 16 ∧ (∀ v_1 : Int32, v_1 = (a_many (Int32.toNatClampNeg ((x1 * x2) + x4))) → (vp_in ((x1 * x3) + x4) 16 ∧ (∀ a_many_1 : Nat → Int32, a_many_1 = upd a_many (Int32.toNatClampNeg ((x1 * x3) + x4)) v_1 → (∀ v_2 : Int32, v_2 = x4 + (1 : Int32) → (P3 v_2 a_many_1)))))))) → P3 x4 a_many) → P3 x4 a_many
def q_m_copyRow_5_0 (a_many : Nat → Int32) (x1 : Int32) (x2 : Int32) (x3 : Int32) (post : (Nat → Int32) → Prop) : Prop :=
  q_m_copyRow_5_3 a_many x1 x2 x3 (0 : Int32) post
set_option maxRecDepth 20000 in
theorem t_m_copyRow_5_3 {p : Program} {l : Launch} {e : Env} {s : State} {m : MethodId} {args : Array Value} {below : List Frame} {meth : Method} {c : Code} {E : zE} {q : Nat} {f_code : Int32} {a_tape : Nat → Int32} {a_size : Nat → Int32} {a_fault : Nat → Int32} {a_faultPlace : Nat → Int32} {a_many : Nat → Int32} {a_lands : Nat → Int32} {a_evenings : Nat → Int32} {a_sights : Nat → Int32} {a_choirs : Nat → Int32} {f_reached : Int32} {f_length : Int32} {f_begins : Int32} {f_sort : Int32} {f_value : Int32} {f_word : Int64} {f_wrongAt : Int32} {f_laterFault : Int32} {f_laterPlace : Int32} {a_told : Nat → Int32} {a_read : Nat → Int32} {f_farHut : Int32} {f_farSinger : Int32} {f_good : Int32} {f_land : Int32} {f_huts : Int32} {f_singers : Int32} {f_evening : Int32} {a_at : Nat → Int32} {a_knows : Nat → Int32} {a_climbed : Nat → Int32} {a_snow : Nat → Int32} {a_level : Nat → Int32} {f_begun : Int32} {f_minute : Int32} {f_avalanches : Int32} {a_run : Nat → Int32} {a_covers : Nat → Int32} {a_routes : Nat → Int32} {a_longest : Nat → Int32} {a_steep : Nat → Int32} {a_laid : Nat → Int32} {a_far : Nat → Int32} {f_sight : Int32} {a_runs : Nat → Int32} {f_choir : Int32} {f_voices : Int32} {a_rest : Nat → Int64} {a_wins : Nat → Int32} {f_seed : Int32} {a_other : Nat → Int32} {a_kept : Nat → Int32} {post : (Nat → Int32) → Prop} {x1 : Int32} {x2 : Int32} {x3 : Int32} {x4 : Int32} {ls : Array Slot} {H : Heap} {locs : List Loc}
    (zc : zC p s m args meth c cX11_copyRow 5 RX11 none)
    (hK : zK E s)
    (hM : mW E q f_code a_tape a_size a_fault a_faultPlace a_many a_lands a_evenings a_sights a_choirs f_reached f_length f_begins f_sort f_value f_word f_wrongAt f_laterFault f_laterPlace a_told a_read f_farHut f_farSinger f_good f_land f_huts f_singers f_evening a_at a_knows a_climbed a_snow a_level f_begun f_minute f_avalanches a_run a_covers a_routes a_longest a_steep a_laid a_far f_sight a_runs f_choir f_voices a_rest a_wins f_seed a_other a_kept H)
    (hS : va_S (mA q) s.heap H locs)
    (hl : lv_has ls 5 [(0, .ref (q + 5)), (1, .int x1), (2, .int x2), (3, .int x3), (4, .int x4)])
    (hw : q_m_copyRow_5_3 a_many x1 x2 x3 x4 post) :
    W p l e rm_m_copyRow_5 s m args below meth c H locs 0 0 (MQ below (zQv (S := (Nat → Int32)) (fun u => post u) (fun u H => mW E q f_code a_tape a_size a_fault a_faultPlace u a_lands a_evenings a_sights a_choirs f_reached f_length f_begins f_sort f_value f_word f_wrongAt f_laterFault f_laterPlace a_told a_read f_farHut f_farSinger f_good f_land f_huts f_singers f_evening a_at a_knows a_climbed a_snow a_level f_begun f_minute f_avalanches a_run a_covers a_routes a_longest a_steep a_laid a_far f_sight a_runs f_choir f_voices a_rest a_wins f_seed a_other a_kept H) (mA q)) args s 0 0 (mA q)) (F0 m 3 ls []) := by
  have hx := zc.1
  have hb := zc.2.1
  refine hw (fun x4 a_many => ∀ (H : Heap) (locs : List Loc) (ls : Array Slot), lv_has ls 5 [(0, .ref (q + 5)), (1, .int x1), (2, .int x2), (3, .int x3), (4, .int x4)] → mW E q f_code a_tape a_size a_fault a_faultPlace a_many a_lands a_evenings a_sights a_choirs f_reached f_length f_begins f_sort f_value f_word f_wrongAt f_laterFault f_laterPlace a_told a_read f_farHut f_farSinger f_good f_land f_huts f_singers f_evening a_at a_knows a_climbed a_snow a_level f_begun f_minute f_avalanches a_run a_covers a_routes a_longest a_steep a_laid a_far f_sight a_runs f_choir f_voices a_rest a_wins f_seed a_other a_kept H → va_S (mA q) s.heap H locs → W p l e rm_m_copyRow_5 s m args below meth c H locs 0 0 (MQ below (zQv (S := (Nat → Int32)) (fun u => post u) (fun u H => mW E q f_code a_tape a_size a_fault a_faultPlace u a_lands a_evenings a_sights a_choirs f_reached f_length f_begins f_sort f_value f_word f_wrongAt f_laterFault f_laterPlace a_told a_read f_farHut f_farSinger f_good f_land f_huts f_singers f_evening a_at a_knows a_climbed a_snow a_level f_begun f_minute f_avalanches a_run a_covers a_routes a_longest a_steep a_laid a_far f_sight a_runs f_choir f_voices a_rest a_wins f_seed a_other a_kept H) (mA q)) args s 0 0 (mA q)) (F0 m 3 ls [])) ?_ _ _ _ hl hM hS
  intro x4 a_many hw H locs ls hl hM hS
  refine lv_iload hx hb dX11_copyRow_3 (lv_at hl 4 rfl) ?_
  refine lv_iload_n hx hb dX11_copyRow_5 rfl (lv_at hl 1 rfl) ?_
  refine lv_icmp_ge (tgt := 31) hx hb dX11_copyRow_6 (by decide) (fun hc => ?_) (fun hc => ?_)
  · have hw := hw.1 hc
    exact zret_vw a_many zc hS hw hM dX11_copyRow_31
  · have hw := hw.2 hc
    refine lv_aload_n hx hb dX11_copyRow_9 rfl (lv_at hl 0 rfl) ?_
    refine lv_iload_n hx hb dX11_copyRow_10 rfl (lv_at hl 1 rfl) ?_
    refine lv_iload_n hx hb dX11_copyRow_11 rfl (lv_at hl 3 rfl) ?_
    refine lv_imul hx hb dX11_copyRow_12 ?_
    refine lv_iload hx hb dX11_copyRow_13 (lv_at hl 4 rfl) ?_
    refine lv_iadd hx hb dX11_copyRow_15 ?_
    refine lv_aload_n hx hb dX11_copyRow_16 rfl (lv_at hl 0 rfl) ?_
    refine lv_iload_n hx hb dX11_copyRow_17 rfl (lv_at hl 1 rfl) ?_
    refine lv_iload_n hx hb dX11_copyRow_18 rfl (lv_at hl 2 rfl) ?_
    refine lv_imul hx hb dX11_copyRow_19 ?_
    refine lv_iload hx hb dX11_copyRow_20 (lv_at hl 4 rfl) ?_
    refine lv_iadd hx hb dX11_copyRow_22 ?_
    refine mld_5 zc hK hM hw.1 dX11_copyRow_23 ?_
    have hw := hw.2
    refine lv_topi (fun v_1 ev_1 => ?_)
    have hw := hw v_1 ev_1
    refine mst_5 zc hK hM hS hw.1 dX11_copyRow_24 (fun a_many_1 H locs ea_many_1 hM hS => ?_)
    have hw := hw.2 a_many_1 ea_many_1
    obtain ⟨v_2, ev_2⟩ : ∃ y : Int32, y = x4 + (1 : Int32) := ⟨_, rfl⟩
    have hw := hw v_2 ev_2
    refine lv_iinc (v := v_2) (k := 4) (lv' := [(4, .int v_2), (0, .ref (q + 5)), (1, .int x1), (2, .int x2), (3, .int x3)]) hx hb dX11_copyRow_25 hl rfl (by rw [ev_2]; rfl) (by decide) rfl (fun ls hl => ?_)
    refine lv_goto (tgt := 3) hx hb dX11_copyRow_28 (by decide) ?_
    exact hw _ _ _ (lv_sub hl [1, 2, 3, 4, 0] rfl) hM hS
set_option maxRecDepth 20000 in
theorem t_m_copyRow_5_0 {p : Program} {l : Launch} {e : Env} {s : State} {m : MethodId} {args : Array Value} {below : List Frame} {meth : Method} {c : Code} {E : zE} {q : Nat} {f_code : Int32} {a_tape : Nat → Int32} {a_size : Nat → Int32} {a_fault : Nat → Int32} {a_faultPlace : Nat → Int32} {a_many : Nat → Int32} {a_lands : Nat → Int32} {a_evenings : Nat → Int32} {a_sights : Nat → Int32} {a_choirs : Nat → Int32} {f_reached : Int32} {f_length : Int32} {f_begins : Int32} {f_sort : Int32} {f_value : Int32} {f_word : Int64} {f_wrongAt : Int32} {f_laterFault : Int32} {f_laterPlace : Int32} {a_told : Nat → Int32} {a_read : Nat → Int32} {f_farHut : Int32} {f_farSinger : Int32} {f_good : Int32} {f_land : Int32} {f_huts : Int32} {f_singers : Int32} {f_evening : Int32} {a_at : Nat → Int32} {a_knows : Nat → Int32} {a_climbed : Nat → Int32} {a_snow : Nat → Int32} {a_level : Nat → Int32} {f_begun : Int32} {f_minute : Int32} {f_avalanches : Int32} {a_run : Nat → Int32} {a_covers : Nat → Int32} {a_routes : Nat → Int32} {a_longest : Nat → Int32} {a_steep : Nat → Int32} {a_laid : Nat → Int32} {a_far : Nat → Int32} {f_sight : Int32} {a_runs : Nat → Int32} {f_choir : Int32} {f_voices : Int32} {a_rest : Nat → Int64} {a_wins : Nat → Int32} {f_seed : Int32} {a_other : Nat → Int32} {a_kept : Nat → Int32} {post : (Nat → Int32) → Prop} {x1 : Int32} {x2 : Int32} {x3 : Int32} {ls : Array Slot} {H : Heap} {locs : List Loc}
    (zc : zC p s m args meth c cX11_copyRow 5 RX11 none)
    (hK : zK E s)
    (hM : mW E q f_code a_tape a_size a_fault a_faultPlace a_many a_lands a_evenings a_sights a_choirs f_reached f_length f_begins f_sort f_value f_word f_wrongAt f_laterFault f_laterPlace a_told a_read f_farHut f_farSinger f_good f_land f_huts f_singers f_evening a_at a_knows a_climbed a_snow a_level f_begun f_minute f_avalanches a_run a_covers a_routes a_longest a_steep a_laid a_far f_sight a_runs f_choir f_voices a_rest a_wins f_seed a_other a_kept H)
    (hS : va_S (mA q) s.heap H locs)
    (hl : lv_has ls 5 [(0, .ref (q + 5)), (1, .int x1), (2, .int x2), (3, .int x3)])
    (hw : q_m_copyRow_5_0 a_many x1 x2 x3 post) :
    W p l e rm_m_copyRow_5 s m args below meth c H locs 0 0 (MQ below (zQv (S := (Nat → Int32)) (fun u => post u) (fun u H => mW E q f_code a_tape a_size a_fault a_faultPlace u a_lands a_evenings a_sights a_choirs f_reached f_length f_begins f_sort f_value f_word f_wrongAt f_laterFault f_laterPlace a_told a_read f_farHut f_farSinger f_good f_land f_huts f_singers f_evening a_at a_knows a_climbed a_snow a_level f_begun f_minute f_avalanches a_run a_covers a_routes a_longest a_steep a_laid a_far f_sight a_runs f_choir f_voices a_rest a_wins f_seed a_other a_kept H) (mA q)) args s 0 0 (mA q)) (F0 m 0 ls []) := by
  have hx := zc.1
  have hb := zc.2.1
  refine lv_iconst (v := (0 : Int32)) hx hb dX11_copyRow_0 (by decide) ?_
  refine lv_istore (lv' := [(4, .int (0 : Int32)), (0, .ref (q + 5)), (1, .int x1), (2, .int x2), (3, .int x3)]) hx hb dX11_copyRow_1 hl (by decide) rfl (fun ls hl => ?_)
  exact t_m_copyRow_5_3 zc hK hM hS  (lv_sub hl [1, 2, 3, 4, 0] rfl) hw
set_option maxRecDepth 20000 in
theorem c_m_copyRow_5 (l : Launch) {E : zE} {q : Nat} {f_code : Int32} {a_tape : Nat → Int32} {a_size : Nat → Int32} {a_fault : Nat → Int32} {a_faultPlace : Nat → Int32} {a_many : Nat → Int32} {a_lands : Nat → Int32} {a_evenings : Nat → Int32} {a_sights : Nat → Int32} {a_choirs : Nat → Int32} {f_reached : Int32} {f_length : Int32} {f_begins : Int32} {f_sort : Int32} {f_value : Int32} {f_word : Int64} {f_wrongAt : Int32} {f_laterFault : Int32} {f_laterPlace : Int32} {a_told : Nat → Int32} {a_read : Nat → Int32} {f_farHut : Int32} {f_farSinger : Int32} {f_good : Int32} {f_land : Int32} {f_huts : Int32} {f_singers : Int32} {f_evening : Int32} {a_at : Nat → Int32} {a_knows : Nat → Int32} {a_climbed : Nat → Int32} {a_snow : Nat → Int32} {a_level : Nat → Int32} {f_begun : Int32} {f_minute : Int32} {f_avalanches : Int32} {a_run : Nat → Int32} {a_covers : Nat → Int32} {a_routes : Nat → Int32} {a_longest : Nat → Int32} {a_steep : Nat → Int32} {a_laid : Nat → Int32} {a_far : Nat → Int32} {f_sight : Int32} {a_runs : Nat → Int32} {f_choir : Int32} {f_voices : Int32} {a_rest : Nat → Int64} {a_wins : Nat → Int32} {f_seed : Int32} {a_other : Nat → Int32} {a_kept : Nat → Int32} {x1 : Int32} {x2 : Int32} {x3 : Int32} {post : (Nat → Int32) → Prop} (hw : q_m_copyRow_5_0 a_many x1 x2 x3 post) : Met l yX11_copyRow (Cond.code yX11_copyRow cX11_copyRow 5 none :: zb) rm_m_copyRow_5 (va_Pc [.ref (q + 5), .int x1, .int x2, .int x3] (fun U => mW E q f_code a_tape a_size a_fault a_faultPlace a_many a_lands a_evenings a_sights a_choirs f_reached f_length f_begins f_sort f_value f_word f_wrongAt f_laterFault f_laterPlace a_told a_read f_farHut f_farSinger f_good f_land f_huts f_singers f_evening a_at a_knows a_climbed a_snow a_level f_begun f_minute f_avalanches a_run a_covers a_routes a_longest a_steep a_laid a_far f_sight a_runs f_choir f_voices a_rest a_wins f_seed a_other a_kept U.heap ∧ zK E U)) (zQv (S := (Nat → Int32)) (fun u => post u) (fun u H => mW E q f_code a_tape a_size a_fault a_faultPlace u a_lands a_evenings a_sights a_choirs f_reached f_length f_begins f_sort f_value f_word f_wrongAt f_laterFault f_laterPlace a_told a_read f_farHut f_farSinger f_good f_land f_huts f_singers f_evening a_at a_knows a_climbed a_snow a_level f_begun f_minute f_avalanches a_run a_covers a_routes a_longest a_steep a_laid a_far f_sight a_runs f_choir f_voices a_rest a_wins f_seed a_other a_kept H) (mA q)) 0 0 (mA q) := by
  refine Met.ofW (cc := cX11_copyRow) (maxL := 5) (ret := none) (by decide) rfl ?_
  intro p e s m args below meth c s₁ B hml hv
  obtain ⟨rfl, hM, hK⟩ := hv
  have zc := zc_of B hml
  have hl := lv_entry ([.ref (q + 5), .int x1, .int x2, .int x3]) (n := 5) (Nat.le_of_ble_eq_true rfl)
  rw [lg_entry_eq]
  generalize (lg_sl ([.ref (q + 5), .int x1, .int x2, .int x3]) ++ List.replicate (5 - (lg_sl ([.ref (q + 5), .int x1, .int x2, .int x3])).length) Slot.unset).toArray = ls at hl ⊢
  have hl : lv_has ls 5 [(0, .ref (q + 5)), (1, .int x1), (2, .int x2), (3, .int x3)] := hl
  exact t_m_copyRow_5_0 zc hK hM va_S.rf (lv_sub hl [0, 1, 2, 3] rfl) hw
-- m_copyRow_6
abbrev rm_m_copyRow_6 : Room := { frames := 0, cells := 0, slots := 0, locals := 0 }
def q_m_copyRow_6_3 (a_lands : Nat → Int32) (x1 : Int32) (x2 : Int32) (x3 : Int32) (x4 : Int32) (post : (Nat → Int32) → Prop) : Prop :=
  ∀ P3 : Int32 → (Nat → Int32) → Prop, (∀ (x4 : Int32) (a_lands : Nat → Int32), ((x1 ≤ x4 → (post a_lands)) ∧ (¬ x1 ≤ x4 → (vp_in ((x1 * x2) + x4) 1056 ∧ (∀ v_1 : Int32, v_1 = (a_lands (Int32.toNatClampNeg ((x1 * x2) + x4))) → (vp_in ((x1 * x3) + x4) 1056 ∧ (∀ a_lands_1 : Nat → Int32, a_lands_1 = upd a_lands (Int32.toNatClampNeg ((x1 * x3) + x4)) v_1 → (∀ v_2 : Int32, v_2 = x4 + (1 : Int32) → (P3 v_2 a_lands_1)))))))) → P3 x4 a_lands) → P3 x4 a_lands
def q_m_copyRow_6_0 (a_lands : Nat → Int32) (x1 : Int32) (x2 : Int32) (x3 : Int32) (post : (Nat → Int32) → Prop) : Prop :=
  q_m_copyRow_6_3 a_lands x1 x2 x3 (0 : Int32) post
set_option maxRecDepth 20000 in
theorem t_m_copyRow_6_3 {p : Program} {l : Launch} {e : Env} {s : State} {m : MethodId} {args : Array Value} {below : List Frame} {meth : Method} {c : Code} {E : zE} {q : Nat} {f_code : Int32} {a_tape : Nat → Int32} {a_size : Nat → Int32} {a_fault : Nat → Int32} {a_faultPlace : Nat → Int32} {a_many : Nat → Int32} {a_lands : Nat → Int32} {a_evenings : Nat → Int32} {a_sights : Nat → Int32} {a_choirs : Nat → Int32} {f_reached : Int32} {f_length : Int32} {f_begins : Int32} {f_sort : Int32} {f_value : Int32} {f_word : Int64} {f_wrongAt : Int32} {f_laterFault : Int32} {f_laterPlace : Int32} {a_told : Nat → Int32} {a_read : Nat → Int32} {f_farHut : Int32} {f_farSinger : Int32} {f_good : Int32} {f_land : Int32} {f_huts : Int32} {f_singers : Int32} {f_evening : Int32} {a_at : Nat → Int32} {a_knows : Nat → Int32} {a_climbed : Nat → Int32} {a_snow : Nat → Int32} {a_level : Nat → Int32} {f_begun : Int32} {f_minute : Int32} {f_avalanches : Int32} {a_run : Nat → Int32} {a_covers : Nat → Int32} {a_routes : Nat → Int32} {a_longest : Nat → Int32} {a_steep : Nat → Int32} {a_laid : Nat → Int32} {a_far : Nat → Int32} {f_sight : Int32} {a_runs : Nat → Int32} {f_choir : Int32} {f_voices : Int32} {a_rest : Nat → Int64} {a_wins : Nat → Int32} {f_seed : Int32} {a_other : Nat → Int32} {a_kept : Nat → Int32} {post : (Nat → Int32) → Prop} {x1 : Int32} {x2 : Int32} {x3 : Int32} {x4 : Int32} {ls : Array Slot} {H : Heap} {locs : List Loc}
    (zc : zC p s m args meth c cX11_copyRow 5 RX11 none)
    (hK : zK E s)
    (hM : mW E q f_code a_tape a_size a_fault a_faultPlace a_many a_lands a_evenings a_sights a_choirs f_reached f_length f_begins f_sort f_value f_word f_wrongAt f_laterFault f_laterPlace a_told a_read f_farHut f_farSinger f_good f_land f_huts f_singers f_evening a_at a_knows a_climbed a_snow a_level f_begun f_minute f_avalanches a_run a_covers a_routes a_longest a_steep a_laid a_far f_sight a_runs f_choir f_voices a_rest a_wins f_seed a_other a_kept H)
    (hS : va_S (mA q) s.heap H locs)
    (hl : lv_has ls 5 [(0, .ref (q + 6)), (1, .int x1), (2, .int x2), (3, .int x3), (4, .int x4)])
    (hw : q_m_copyRow_6_3 a_lands x1 x2 x3 x4 post) :
    W p l e rm_m_copyRow_6 s m args below meth c H locs 0 0 (MQ below (zQv (S := (Nat → Int32)) (fun u => post u) (fun u H => mW E q f_code a_tape a_size a_fault a_faultPlace a_many u a_evenings a_sights a_choirs f_reached f_length f_begins f_sort f_value f_word f_wrongAt f_laterFault f_laterPlace a_told a_read f_farHut f_farSinger f_good f_land f_huts f_singers f_evening a_at a_knows a_climbed a_snow a_level f_begun f_minute f_avalanches a_run a_covers a_routes a_longest a_steep a_laid a_far f_sight a_runs f_choir f_voices a_rest a_wins f_seed a_other a_kept H) (mA q)) args s 0 0 (mA q)) (F0 m 3 ls []) := by
  have hx := zc.1
  have hb := zc.2.1
  refine hw (fun x4 a_lands => ∀ (H : Heap) (locs : List Loc) (ls : Array Slot), lv_has ls 5 [(0, .ref (q + 6)), (1, .int x1), (2, .int x2), (3, .int x3), (4, .int x4)] → mW E q f_code a_tape a_size a_fault a_faultPlace a_many a_lands a_evenings a_sights a_choirs f_reached f_length f_begins f_sort f_value f_word f_wrongAt f_laterFault f_laterPlace a_told a_read f_farHut f_farSinger f_good f_land f_huts f_singers f_evening a_at a_knows a_climbed a_snow a_level f_begun f_minute f_avalanches a_run a_covers a_routes a_longest a_steep a_laid a_far f_sight a_runs f_choir f_voices a_rest a_wins f_seed a_other a_kept H → va_S (mA q) s.heap H locs → W p l e rm_m_copyRow_6 s m args below meth c H locs 0 0 (MQ below (zQv (S := (Nat → Int32)) (fun u => post u) (fun u H => mW E q f_code a_tape a_size a_fault a_faultPlace a_many u a_evenings a_sights a_choirs f_reached f_length f_begins f_sort f_value f_word f_wrongAt f_laterFault f_laterPlace a_told a_read f_farHut f_farSinger f_good f_land f_huts f_singers f_evening a_at a_knows a_climbed a_snow a_level f_begun f_minute f_avalanches a_run a_covers a_routes a_longest a_steep a_laid a_far f_sight a_runs f_choir f_voices a_rest a_wins f_seed a_other a_kept H) (mA q)) args s 0 0 (mA q)) (F0 m 3 ls [])) ?_ _ _ _ hl hM hS
  intro x4 a_lands hw H locs ls hl hM hS
  refine lv_iload hx hb dX11_copyRow_3 (lv_at hl 4 rfl) ?_
  refine lv_iload_n hx hb dX11_copyRow_5 rfl (lv_at hl 1 rfl) ?_
  refine lv_icmp_ge (tgt := 31) hx hb dX11_copyRow_6 (by decide) (fun hc => ?_) (fun hc => ?_)
  · have hw := hw.1 hc
    exact zret_vw a_lands zc hS hw hM dX11_copyRow_31
  · have hw := hw.2 hc
    refine lv_aload_n hx hb dX11_copyRow_9 rfl (lv_at hl 0 rfl) ?_
    refine lv_iload_n hx hb dX11_copyRow_10 rfl (lv_at hl 1 rfl) ?_
    refine lv_iload_n hx hb dX11_copyRow_11 rfl (lv_at hl 3 rfl) ?_
    refine lv_imul hx hb dX11_copyRow_12 ?_
    refine lv_iload hx hb dX11_copyRow_13 (lv_at hl 4 rfl) ?_
    refine lv_iadd hx hb dX11_copyRow_15 ?_
    refine lv_aload_n hx hb dX11_copyRow_16 rfl (lv_at hl 0 rfl) ?_
    refine lv_iload_n hx hb dX11_copyRow_17 rfl (lv_at hl 1 rfl) ?_
    refine lv_iload_n hx hb dX11_copyRow_18 rfl (lv_at hl 2 rfl) ?_
    refine lv_imul hx hb dX11_copyRow_19 ?_
    refine lv_iload hx hb dX11_copyRow_20 (lv_at hl 4 rfl) ?_
    refine lv_iadd hx hb dX11_copyRow_22 ?_
    refine mld_6 zc hK hM hw.1 dX11_copyRow_23 ?_
    have hw := hw.2
    refine lv_topi (fun v_1 ev_1 => ?_)
    have hw := hw v_1 ev_1
    refine mst_6 zc hK hM hS hw.1 dX11_copyRow_24 (fun a_lands_1 H locs ea_lands_1 hM hS => ?_)
    have hw := hw.2 a_lands_1 ea_lands_1
    obtain ⟨v_2, ev_2⟩ : ∃ y : Int32, y = x4 + (1 : Int32) := ⟨_, rfl⟩
    have hw := hw v_2 ev_2
    refine lv_iinc (v := v_2) (k := 4) (lv' := [(4, .int v_2), (0, .ref (q + 6)), (1, .int x1), (2, .int x2), (3, .int x3)]) hx hb dX11_copyRow_25 hl rfl (by rw [ev_2]; rfl) (by decide) rfl (fun ls hl => ?_)
    refine lv_goto (tgt := 3) hx hb dX11_copyRow_28 (by decide) ?_
    exact hw _ _ _ (lv_sub hl [1, 2, 3, 4, 0] rfl) hM hS
set_option maxRecDepth 20000 in
theorem t_m_copyRow_6_0 {p : Program} {l : Launch} {e : Env} {s : State} {m : MethodId} {args : Array Value} {below : List Frame} {meth : Method} {c : Code} {E : zE} {q : Nat} {f_code : Int32} {a_tape : Nat → Int32} {a_size : Nat → Int32} {a_fault : Nat → Int32} {a_faultPlace : Nat → Int32} {a_many : Nat → Int32} {a_lands : Nat → Int32} {a_evenings : Nat → Int32} {a_sights : Nat → Int32} {a_choirs : Nat → Int32} {f_reached : Int32} {f_length : Int32} {f_begins : Int32} {f_sort : Int32} {f_value : Int32} {f_word : Int64} {f_wrongAt : Int32} {f_laterFault : Int32} {f_laterPlace : Int32} {a_told : Nat → Int32} {a_read : Nat → Int32} {f_farHut : Int32} {f_farSinger : Int32} {f_good : Int32} {f_land : Int32} {f_huts : Int32} {f_singers : Int32} {f_evening : Int32} {a_at : Nat → Int32} {a_knows : Nat → Int32} {a_climbed : Nat → Int32} {a_snow : Nat → Int32} {a_level : Nat → Int32} {f_begun : Int32} {f_minute : Int32} {f_avalanches : Int32} {a_run : Nat → Int32} {a_covers : Nat → Int32} {a_routes : Nat → Int32} {a_longest : Nat → Int32} {a_steep : Nat → Int32} {a_laid : Nat → Int32} {a_far : Nat → Int32} {f_sight : Int32} {a_runs : Nat → Int32} {f_choir : Int32} {f_voices : Int32} {a_rest : Nat → Int64} {a_wins : Nat → Int32} {f_seed : Int32} {a_other : Nat → Int32} {a_kept : Nat → Int32} {post : (Nat → Int32) → Prop} {x1 : Int32} {x2 : Int32} {x3 : Int32} {ls : Array Slot} {H : Heap} {locs : List Loc}
    (zc : zC p s m args meth c cX11_copyRow 5 RX11 none)
    (hK : zK E s)
    (hM : mW E q f_code a_tape a_size a_fault a_faultPlace a_many a_lands a_evenings a_sights a_choirs f_reached f_length f_begins f_sort f_value f_word f_wrongAt f_laterFault f_laterPlace a_told a_read f_farHut f_farSinger f_good f_land f_huts f_singers f_evening a_at a_knows a_climbed a_snow a_level f_begun f_minute f_avalanches a_run a_covers a_routes a_longest a_steep a_laid a_far f_sight a_runs f_choir f_voices a_rest a_wins f_seed a_other a_kept H)
    (hS : va_S (mA q) s.heap H locs)
    (hl : lv_has ls 5 [(0, .ref (q + 6)), (1, .int x1), (2, .int x2), (3, .int x3)])
    (hw : q_m_copyRow_6_0 a_lands x1 x2 x3 post) :
    W p l e rm_m_copyRow_6 s m args below meth c H locs 0 0 (MQ below (zQv (S := (Nat → Int32)) (fun u => post u) (fun u H => mW E q f_code a_tape a_size a_fault a_faultPlace a_many u a_evenings a_sights a_choirs f_reached f_length f_begins f_sort f_value f_word f_wrongAt f_laterFault f_laterPlace a_told a_read f_farHut f_farSinger f_good f_land f_huts f_singers f_evening a_at a_knows a_climbed a_snow a_level f_begun f_minute f_avalanches a_run a_covers a_routes a_longest a_steep a_laid a_far f_sight a_runs f_choir f_voices a_rest a_wins f_seed a_other a_kept H) (mA q)) args s 0 0 (mA q)) (F0 m 0 ls []) := by
  have hx := zc.1
  have hb := zc.2.1
  refine lv_iconst (v := (0 : Int32)) hx hb dX11_copyRow_0 (by decide) ?_
  refine lv_istore (lv' := [(4, .int (0 : Int32)), (0, .ref (q + 6)), (1, .int x1), (2, .int x2), (3, .int x3)]) hx hb dX11_copyRow_1 hl (by decide) rfl (fun ls hl => ?_)
  exact t_m_copyRow_6_3 zc hK hM hS  (lv_sub hl [1, 2, 3, 4, 0] rfl) hw
set_option maxRecDepth 20000 in
theorem c_m_copyRow_6 (l : Launch) {E : zE} {q : Nat} {f_code : Int32} {a_tape : Nat → Int32} {a_size : Nat → Int32} {a_fault : Nat → Int32} {a_faultPlace : Nat → Int32} {a_many : Nat → Int32} {a_lands : Nat → Int32} {a_evenings : Nat → Int32} {a_sights : Nat → Int32} {a_choirs : Nat → Int32} {f_reached : Int32} {f_length : Int32} {f_begins : Int32} {f_sort : Int32} {f_value : Int32} {f_word : Int64} {f_wrongAt : Int32} {f_laterFault : Int32} {f_laterPlace : Int32} {a_told : Nat → Int32} {a_read : Nat → Int32} {f_farHut : Int32} {f_farSinger : Int32} {f_good : Int32} {f_land : Int32} {f_huts : Int32} {f_singers : Int32} {f_evening : Int32} {a_at : Nat → Int32} {a_knows : Nat → Int32} {a_climbed : Nat → Int32} {a_snow : Nat → Int32} {a_level : Nat → Int32} {f_begun : Int32} {f_minute : Int32} {f_avalanches : Int32} {a_run : Nat → Int32} {a_covers : Nat → Int32} {a_routes : Nat → Int32} {a_longest : Nat → Int32} {a_steep : Nat → Int32} {a_laid : Nat → Int32} {a_far : Nat → Int32} {f_sight : Int32} {a_runs : Nat → Int32} {f_choir : Int32} {f_voices : Int32} {a_rest : Nat → Int64} {a_wins : Nat → Int32} {f_seed : Int32} {a_other : Nat → Int32} {a_kept : Nat → Int32} {x1 : Int32} {x2 : Int32} {x3 : Int32} {post : (Nat → Int32) → Prop} (hw : q_m_copyRow_6_0 a_lands x1 x2 x3 post) : Met l yX11_copyRow (Cond.code yX11_copyRow cX11_copyRow 5 none :: zb) rm_m_copyRow_6 (va_Pc [.ref (q + 6), .int x1, .int x2, .int x3] (fun U => mW E q f_code a_tape a_size a_fault a_faultPlace a_many a_lands a_evenings a_sights a_choirs f_reached f_length f_begins f_sort f_value f_word f_wrongAt f_laterFault f_laterPlace a_told a_read f_farHut f_farSinger f_good f_land f_huts f_singers f_evening a_at a_knows a_climbed a_snow a_level f_begun f_minute f_avalanches a_run a_covers a_routes a_longest a_steep a_laid a_far f_sight a_runs f_choir f_voices a_rest a_wins f_seed a_other a_kept U.heap ∧ zK E U)) (zQv (S := (Nat → Int32)) (fun u => post u) (fun u H => mW E q f_code a_tape a_size a_fault a_faultPlace a_many u a_evenings a_sights a_choirs f_reached f_length f_begins f_sort f_value f_word f_wrongAt f_laterFault f_laterPlace a_told a_read f_farHut f_farSinger f_good f_land f_huts f_singers f_evening a_at a_knows a_climbed a_snow a_level f_begun f_minute f_avalanches a_run a_covers a_routes a_longest a_steep a_laid a_far f_sight a_runs f_choir f_voices a_rest a_wins f_seed a_other a_kept H) (mA q)) 0 0 (mA q) := by
  refine Met.ofW (cc := cX11_copyRow) (maxL := 5) (ret := none) (by decide) rfl ?_
  intro p e s m args below meth c s₁ B hml hv
  obtain ⟨rfl, hM, hK⟩ := hv
  have zc := zc_of B hml
  have hl := lv_entry ([.ref (q + 6), .int x1, .int x2, .int x3]) (n := 5) (Nat.le_of_ble_eq_true rfl)
  rw [lg_entry_eq]
  generalize (lg_sl ([.ref (q + 6), .int x1, .int x2, .int x3]) ++ List.replicate (5 - (lg_sl ([.ref (q + 6), .int x1, .int x2, .int x3])).length) Slot.unset).toArray = ls at hl ⊢
  have hl : lv_has ls 5 [(0, .ref (q + 6)), (1, .int x1), (2, .int x2), (3, .int x3)] := hl
  exact t_m_copyRow_6_0 zc hK hM va_S.rf (lv_sub hl [0, 1, 2, 3] rfl) hw
-- m_copyRow_7
abbrev rm_m_copyRow_7 : Room := { frames := 0, cells := 0, slots := 0, locals := 0 }
def q_m_copyRow_7_3 (a_evenings : Nat → Int32) (x1 : Int32) (x2 : Int32) (x3 : Int32) (x4 : Int32) (post : (Nat → Int32) → Prop) : Prop :=
  ∀ P3 : Int32 → (Nat → Int32) → Prop, (∀ (x4 : Int32) (a_evenings : Nat → Int32), ((x1 ≤ x4 → (post a_evenings)) ∧ (¬ x1 ≤ x4 → (vp_in ((x1 * x2) + x4) 968 ∧ (∀ v_1 : Int32, v_1 = (a_evenings (Int32.toNatClampNeg ((x1 * x2) + x4))) → (vp_in ((x1 * x3) + x4) 968 ∧ (∀ a_evenings_1 : Nat → Int32, a_evenings_1 = upd a_evenings (Int32.toNatClampNeg ((x1 * x3) + x4)) v_1 → (∀ v_2 : Int32, v_2 = x4 + (1 : Int32) → (P3 v_2 a_evenings_1)))))))) → P3 x4 a_evenings) → P3 x4 a_evenings
def q_m_copyRow_7_0 (a_evenings : Nat → Int32) (x1 : Int32) (x2 : Int32) (x3 : Int32) (post : (Nat → Int32) → Prop) : Prop :=
  q_m_copyRow_7_3 a_evenings x1 x2 x3 (0 : Int32) post
set_option maxRecDepth 20000 in
theorem t_m_copyRow_7_3 {p : Program} {l : Launch} {e : Env} {s : State} {m : MethodId} {args : Array Value} {below : List Frame} {meth : Method} {c : Code} {E : zE} {q : Nat} {f_code : Int32} {a_tape : Nat → Int32} {a_size : Nat → Int32} {a_fault : Nat → Int32} {a_faultPlace : Nat → Int32} {a_many : Nat → Int32} {a_lands : Nat → Int32} {a_evenings : Nat → Int32} {a_sights : Nat → Int32} {a_choirs : Nat → Int32} {f_reached : Int32} {f_length : Int32} {f_begins : Int32} {f_sort : Int32} {f_value : Int32} {f_word : Int64} {f_wrongAt : Int32} {f_laterFault : Int32} {f_laterPlace : Int32} {a_told : Nat → Int32} {a_read : Nat → Int32} {f_farHut : Int32} {f_farSinger : Int32} {f_good : Int32} {f_land : Int32} {f_huts : Int32} {f_singers : Int32} {f_evening : Int32} {a_at : Nat → Int32} {a_knows : Nat → Int32} {a_climbed : Nat → Int32} {a_snow : Nat → Int32} {a_level : Nat → Int32} {f_begun : Int32} {f_minute : Int32} {f_avalanches : Int32} {a_run : Nat → Int32} {a_covers : Nat → Int32} {a_routes : Nat → Int32} {a_longest : Nat → Int32} {a_steep : Nat → Int32} {a_laid : Nat → Int32} {a_far : Nat → Int32} {f_sight : Int32} {a_runs : Nat → Int32} {f_choir : Int32} {f_voices : Int32} {a_rest : Nat → Int64} {a_wins : Nat → Int32} {f_seed : Int32} {a_other : Nat → Int32} {a_kept : Nat → Int32} {post : (Nat → Int32) → Prop} {x1 : Int32} {x2 : Int32} {x3 : Int32} {x4 : Int32} {ls : Array Slot} {H : Heap} {locs : List Loc}
    (zc : zC p s m args meth c cX11_copyRow 5 RX11 none)
    (hK : zK E s)
    (hM : mW E q f_code a_tape a_size a_fault a_faultPlace a_many a_lands a_evenings a_sights a_choirs f_reached f_length f_begins f_sort f_value f_word f_wrongAt f_laterFault f_laterPlace a_told a_read f_farHut f_farSinger f_good f_land f_huts f_singers f_evening a_at a_knows a_climbed a_snow a_level f_begun f_minute f_avalanches a_run a_covers a_routes a_longest a_steep a_laid a_far f_sight a_runs f_choir f_voices a_rest a_wins f_seed a_other a_kept H)
    (hS : va_S (mA q) s.heap H locs)
    (hl : lv_has ls 5 [(0, .ref (q + 7)), (1, .int x1), (2, .int x2), (3, .int x3), (4, .int x4)])
    (hw : q_m_copyRow_7_3 a_evenings x1 x2 x3 x4 post) :
    W p l e rm_m_copyRow_7 s m args below meth c H locs 0 0 (MQ below (zQv (S := (Nat → Int32)) (fun u => post u) (fun u H => mW E q f_code a_tape a_size a_fault a_faultPlace a_many a_lands u a_sights a_choirs f_reached f_length f_begins f_sort f_value f_word f_wrongAt f_laterFault f_laterPlace a_told a_read f_farHut f_farSinger f_good f_land f_huts f_singers f_evening a_at a_knows a_climbed a_snow a_level f_begun f_minute f_avalanches a_run a_covers a_routes a_longest a_steep a_laid a_far f_sight a_runs f_choir f_voices a_rest a_wins f_seed a_other a_kept H) (mA q)) args s 0 0 (mA q)) (F0 m 3 ls []) := by
  have hx := zc.1
  have hb := zc.2.1
  refine hw (fun x4 a_evenings => ∀ (H : Heap) (locs : List Loc) (ls : Array Slot), lv_has ls 5 [(0, .ref (q + 7)), (1, .int x1), (2, .int x2), (3, .int x3), (4, .int x4)] → mW E q f_code a_tape a_size a_fault a_faultPlace a_many a_lands a_evenings a_sights a_choirs f_reached f_length f_begins f_sort f_value f_word f_wrongAt f_laterFault f_laterPlace a_told a_read f_farHut f_farSinger f_good f_land f_huts f_singers f_evening a_at a_knows a_climbed a_snow a_level f_begun f_minute f_avalanches a_run a_covers a_routes a_longest a_steep a_laid a_far f_sight a_runs f_choir f_voices a_rest a_wins f_seed a_other a_kept H → va_S (mA q) s.heap H locs → W p l e rm_m_copyRow_7 s m args below meth c H locs 0 0 (MQ below (zQv (S := (Nat → Int32)) (fun u => post u) (fun u H => mW E q f_code a_tape a_size a_fault a_faultPlace a_many a_lands u a_sights a_choirs f_reached f_length f_begins f_sort f_value f_word f_wrongAt f_laterFault f_laterPlace a_told a_read f_farHut f_farSinger f_good f_land f_huts f_singers f_evening a_at a_knows a_climbed a_snow a_level f_begun f_minute f_avalanches a_run a_covers a_routes a_longest a_steep a_laid a_far f_sight a_runs f_choir f_voices a_rest a_wins f_seed a_other a_kept H) (mA q)) args s 0 0 (mA q)) (F0 m 3 ls [])) ?_ _ _ _ hl hM hS
  intro x4 a_evenings hw H locs ls hl hM hS
  refine lv_iload hx hb dX11_copyRow_3 (lv_at hl 4 rfl) ?_
  refine lv_iload_n hx hb dX11_copyRow_5 rfl (lv_at hl 1 rfl) ?_
  refine lv_icmp_ge (tgt := 31) hx hb dX11_copyRow_6 (by decide) (fun hc => ?_) (fun hc => ?_)
  · have hw := hw.1 hc
    exact zret_vw a_evenings zc hS hw hM dX11_copyRow_31
  · have hw := hw.2 hc
    refine lv_aload_n hx hb dX11_copyRow_9 rfl (lv_at hl 0 rfl) ?_
    refine lv_iload_n hx hb dX11_copyRow_10 rfl (lv_at hl 1 rfl) ?_
    refine lv_iload_n hx hb dX11_copyRow_11 rfl (lv_at hl 3 rfl) ?_
    refine lv_imul hx hb dX11_copyRow_12 ?_
    refine lv_iload hx hb dX11_copyRow_13 (lv_at hl 4 rfl) ?_
    refine lv_iadd hx hb dX11_copyRow_15 ?_
    refine lv_aload_n hx hb dX11_copyRow_16 rfl (lv_at hl 0 rfl) ?_
    refine lv_iload_n hx hb dX11_copyRow_17 rfl (lv_at hl 1 rfl) ?_
    refine lv_iload_n hx hb dX11_copyRow_18 rfl (lv_at hl 2 rfl) ?_
    refine lv_imul hx hb dX11_copyRow_19 ?_
    refine lv_iload hx hb dX11_copyRow_20 (lv_at hl 4 rfl) ?_
    refine lv_iadd hx hb dX11_copyRow_22 ?_
    refine mld_7 zc hK hM hw.1 dX11_copyRow_23 ?_
    have hw := hw.2
    refine lv_topi (fun v_1 ev_1 => ?_)
    have hw := hw v_1 ev_1
    refine mst_7 zc hK hM hS hw.1 dX11_copyRow_24 (fun a_evenings_1 H locs ea_evenings_1 hM hS => ?_)
    have hw := hw.2 a_evenings_1 ea_evenings_1
    obtain ⟨v_2, ev_2⟩ : ∃ y : Int32, y = x4 + (1 : Int32) := ⟨_, rfl⟩
    have hw := hw v_2 ev_2
    refine lv_iinc (v := v_2) (k := 4) (lv' := [(4, .int v_2), (0, .ref (q + 7)), (1, .int x1), (2, .int x2), (3, .int x3)]) hx hb dX11_copyRow_25 hl rfl (by rw [ev_2]; rfl) (by decide) rfl (fun ls hl => ?_)
    refine lv_goto (tgt := 3) hx hb dX11_copyRow_28 (by decide) ?_
    exact hw _ _ _ (lv_sub hl [1, 2, 3, 4, 0] rfl) hM hS
set_option maxRecDepth 20000 in
theorem t_m_copyRow_7_0 {p : Program} {l : Launch} {e : Env} {s : State} {m : MethodId} {args : Array Value} {below : List Frame} {meth : Method} {c : Code} {E : zE} {q : Nat} {f_code : Int32} {a_tape : Nat → Int32} {a_size : Nat → Int32} {a_fault : Nat → Int32} {a_faultPlace : Nat → Int32} {a_many : Nat → Int32} {a_lands : Nat → Int32} {a_evenings : Nat → Int32} {a_sights : Nat → Int32} {a_choirs : Nat → Int32} {f_reached : Int32} {f_length : Int32} {f_begins : Int32} {f_sort : Int32} {f_value : Int32} {f_word : Int64} {f_wrongAt : Int32} {f_laterFault : Int32} {f_laterPlace : Int32} {a_told : Nat → Int32} {a_read : Nat → Int32} {f_farHut : Int32} {f_farSinger : Int32} {f_good : Int32} {f_land : Int32} {f_huts : Int32} {f_singers : Int32} {f_evening : Int32} {a_at : Nat → Int32} {a_knows : Nat → Int32} {a_climbed : Nat → Int32} {a_snow : Nat → Int32} {a_level : Nat → Int32} {f_begun : Int32} {f_minute : Int32} {f_avalanches : Int32} {a_run : Nat → Int32} {a_covers : Nat → Int32} {a_routes : Nat → Int32} {a_longest : Nat → Int32} {a_steep : Nat → Int32} {a_laid : Nat → Int32} {a_far : Nat → Int32} {f_sight : Int32} {a_runs : Nat → Int32} {f_choir : Int32} {f_voices : Int32} {a_rest : Nat → Int64} {a_wins : Nat → Int32} {f_seed : Int32} {a_other : Nat → Int32} {a_kept : Nat → Int32} {post : (Nat → Int32) → Prop} {x1 : Int32} {x2 : Int32} {x3 : Int32} {ls : Array Slot} {H : Heap} {locs : List Loc}
    (zc : zC p s m args meth c cX11_copyRow 5 RX11 none)
    (hK : zK E s)
    (hM : mW E q f_code a_tape a_size a_fault a_faultPlace a_many a_lands a_evenings a_sights a_choirs f_reached f_length f_begins f_sort f_value f_word f_wrongAt f_laterFault f_laterPlace a_told a_read f_farHut f_farSinger f_good f_land f_huts f_singers f_evening a_at a_knows a_climbed a_snow a_level f_begun f_minute f_avalanches a_run a_covers a_routes a_longest a_steep a_laid a_far f_sight a_runs f_choir f_voices a_rest a_wins f_seed a_other a_kept H)
    (hS : va_S (mA q) s.heap H locs)
    (hl : lv_has ls 5 [(0, .ref (q + 7)), (1, .int x1), (2, .int x2), (3, .int x3)])
    (hw : q_m_copyRow_7_0 a_evenings x1 x2 x3 post) :
    W p l e rm_m_copyRow_7 s m args below meth c H locs 0 0 (MQ below (zQv (S := (Nat → Int32)) (fun u => post u) (fun u H => mW E q f_code a_tape a_size a_fault a_faultPlace a_many a_lands u a_sights a_choirs f_reached f_length f_begins f_sort f_value f_word f_wrongAt f_laterFault f_laterPlace a_told a_read f_farHut f_farSinger f_good f_land f_huts f_singers f_evening a_at a_knows a_climbed a_snow a_level f_begun f_minute f_avalanches a_run a_covers a_routes a_longest a_steep a_laid a_far f_sight a_runs f_choir f_voices a_rest a_wins f_seed a_other a_kept H) (mA q)) args s 0 0 (mA q)) (F0 m 0 ls []) := by
  have hx := zc.1
  have hb := zc.2.1
  refine lv_iconst (v := (0 : Int32)) hx hb dX11_copyRow_0 (by decide) ?_
  refine lv_istore (lv' := [(4, .int (0 : Int32)), (0, .ref (q + 7)), (1, .int x1), (2, .int x2), (3, .int x3)]) hx hb dX11_copyRow_1 hl (by decide) rfl (fun ls hl => ?_)
  exact t_m_copyRow_7_3 zc hK hM hS  (lv_sub hl [1, 2, 3, 4, 0] rfl) hw
set_option maxRecDepth 20000 in
theorem c_m_copyRow_7 (l : Launch) {E : zE} {q : Nat} {f_code : Int32} {a_tape : Nat → Int32} {a_size : Nat → Int32} {a_fault : Nat → Int32} {a_faultPlace : Nat → Int32} {a_many : Nat → Int32} {a_lands : Nat → Int32} {a_evenings : Nat → Int32} {a_sights : Nat → Int32} {a_choirs : Nat → Int32} {f_reached : Int32} {f_length : Int32} {f_begins : Int32} {f_sort : Int32} {f_value : Int32} {f_word : Int64} {f_wrongAt : Int32} {f_laterFault : Int32} {f_laterPlace : Int32} {a_told : Nat → Int32} {a_read : Nat → Int32} {f_farHut : Int32} {f_farSinger : Int32} {f_good : Int32} {f_land : Int32} {f_huts : Int32} {f_singers : Int32} {f_evening : Int32} {a_at : Nat → Int32} {a_knows : Nat → Int32} {a_climbed : Nat → Int32} {a_snow : Nat → Int32} {a_level : Nat → Int32} {f_begun : Int32} {f_minute : Int32} {f_avalanches : Int32} {a_run : Nat → Int32} {a_covers : Nat → Int32} {a_routes : Nat → Int32} {a_longest : Nat → Int32} {a_steep : Nat → Int32} {a_laid : Nat → Int32} {a_far : Nat → Int32} {f_sight : Int32} {a_runs : Nat → Int32} {f_choir : Int32} {f_voices : Int32} {a_rest : Nat → Int64} {a_wins : Nat → Int32} {f_seed : Int32} {a_other : Nat → Int32} {a_kept : Nat → Int32} {x1 : Int32} {x2 : Int32} {x3 : Int32} {post : (Nat → Int32) → Prop} (hw : q_m_copyRow_7_0 a_evenings x1 x2 x3 post) : Met l yX11_copyRow (Cond.code yX11_copyRow cX11_copyRow 5 none :: zb) rm_m_copyRow_7 (va_Pc [.ref (q + 7), .int x1, .int x2, .int x3] (fun U => mW E q f_code a_tape a_size a_fault a_faultPlace a_many a_lands a_evenings a_sights a_choirs f_reached f_length f_begins f_sort f_value f_word f_wrongAt f_laterFault f_laterPlace a_told a_read f_farHut f_farSinger f_good f_land f_huts f_singers f_evening a_at a_knows a_climbed a_snow a_level f_begun f_minute f_avalanches a_run a_covers a_routes a_longest a_steep a_laid a_far f_sight a_runs f_choir f_voices a_rest a_wins f_seed a_other a_kept U.heap ∧ zK E U)) (zQv (S := (Nat → Int32)) (fun u => post u) (fun u H => mW E q f_code a_tape a_size a_fault a_faultPlace a_many a_lands u a_sights a_choirs f_reached f_length f_begins f_sort f_value f_word f_wrongAt f_laterFault f_laterPlace a_told a_read f_farHut f_farSinger f_good f_land f_huts f_singers f_evening a_at a_knows a_climbed a_snow a_level f_begun f_minute f_avalanches a_run a_covers a_routes a_longest a_steep a_laid a_far f_sight a_runs f_choir f_voices a_rest a_wins f_seed a_other a_kept H) (mA q)) 0 0 (mA q) := by
  refine Met.ofW (cc := cX11_copyRow) (maxL := 5) (ret := none) (by decide) rfl ?_
  intro p e s m args below meth c s₁ B hml hv
  obtain ⟨rfl, hM, hK⟩ := hv
  have zc := zc_of B hml
  have hl := lv_entry ([.ref (q + 7), .int x1, .int x2, .int x3]) (n := 5) (Nat.le_of_ble_eq_true rfl)
  rw [lg_entry_eq]
  generalize (lg_sl ([.ref (q + 7), .int x1, .int x2, .int x3]) ++ List.replicate (5 - (lg_sl ([.ref (q + 7), .int x1, .int x2, .int x3])).length) Slot.unset).toArray = ls at hl ⊢
  have hl : lv_has ls 5 [(0, .ref (q + 7)), (1, .int x1), (2, .int x2), (3, .int x3)] := hl
  exact t_m_copyRow_7_0 zc hK hM va_S.rf (lv_sub hl [0, 1, 2, 3] rfl) hw
-- m_copyRow_8
abbrev rm_m_copyRow_8 : Room := { frames := 0, cells := 0, slots := 0, locals := 0 }
def q_m_copyRow_8_3 (a_sights : Nat → Int32) (x1 : Int32) (x2 : Int32) (x3 : Int32) (x4 : Int32) (post : (Nat → Int32) → Prop) : Prop :=
  ∀ P3 : Int32 → (Nat → Int32) → Prop, (∀ (x4 : Int32) (a_sights : Nat → Int32), ((x1 ≤ x4 → (post a_sights)) ∧ (¬ x1 ≤ x4 → (vp_in ((x1 * x2) + x4) 248 ∧ (∀ v_1 : Int32, v_1 = (a_sights (Int32.toNatClampNeg ((x1 * x2) + x4))) → (vp_in ((x1 * x3) + x4) 248 ∧ (∀ a_sights_1 : Nat → Int32, a_sights_1 = upd a_sights (Int32.toNatClampNeg ((x1 * x3) + x4)) v_1 → (∀ v_2 : Int32, v_2 = x4 + (1 : Int32) → (P3 v_2 a_sights_1)))))))) → P3 x4 a_sights) → P3 x4 a_sights
def q_m_copyRow_8_0 (a_sights : Nat → Int32) (x1 : Int32) (x2 : Int32) (x3 : Int32) (post : (Nat → Int32) → Prop) : Prop :=
  q_m_copyRow_8_3 a_sights x1 x2 x3 (0 : Int32) post
set_option maxRecDepth 20000 in
theorem t_m_copyRow_8_3 {p : Program} {l : Launch} {e : Env} {s : State} {m : MethodId} {args : Array Value} {below : List Frame} {meth : Method} {c : Code} {E : zE} {q : Nat} {f_code : Int32} {a_tape : Nat → Int32} {a_size : Nat → Int32} {a_fault : Nat → Int32} {a_faultPlace : Nat → Int32} {a_many : Nat → Int32} {a_lands : Nat → Int32} {a_evenings : Nat → Int32} {a_sights : Nat → Int32} {a_choirs : Nat → Int32} {f_reached : Int32} {f_length : Int32} {f_begins : Int32} {f_sort : Int32} {f_value : Int32} {f_word : Int64} {f_wrongAt : Int32} {f_laterFault : Int32} {f_laterPlace : Int32} {a_told : Nat → Int32} {a_read : Nat → Int32} {f_farHut : Int32} {f_farSinger : Int32} {f_good : Int32} {f_land : Int32} {f_huts : Int32} {f_singers : Int32} {f_evening : Int32} {a_at : Nat → Int32} {a_knows : Nat → Int32} {a_climbed : Nat → Int32} {a_snow : Nat → Int32} {a_level : Nat → Int32} {f_begun : Int32} {f_minute : Int32} {f_avalanches : Int32} {a_run : Nat → Int32} {a_covers : Nat → Int32} {a_routes : Nat → Int32} {a_longest : Nat → Int32} {a_steep : Nat → Int32} {a_laid : Nat → Int32} {a_far : Nat → Int32} {f_sight : Int32} {a_runs : Nat → Int32} {f_choir : Int32} {f_voices : Int32} {a_rest : Nat → Int64} {a_wins : Nat → Int32} {f_seed : Int32} {a_other : Nat → Int32} {a_kept : Nat → Int32} {post : (Nat → Int32) → Prop} {x1 : Int32} {x2 : Int32} {x3 : Int32} {x4 : Int32} {ls : Array Slot} {H : Heap} {locs : List Loc}
    (zc : zC p s m args meth c cX11_copyRow 5 RX11 none)
    (hK : zK E s)
    (hM : mW E q f_code a_tape a_size a_fault a_faultPlace a_many a_lands a_evenings a_sights a_choirs f_reached f_length f_begins f_sort f_value f_word f_wrongAt f_laterFault f_laterPlace a_told a_read f_farHut f_farSinger f_good f_land f_huts f_singers f_evening a_at a_knows a_climbed a_snow a_level f_begun f_minute f_avalanches a_run a_covers a_routes a_longest a_steep a_laid a_far f_sight a_runs f_choir f_voices a_rest a_wins f_seed a_other a_kept H)
    (hS : va_S (mA q) s.heap H locs)
    (hl : lv_has ls 5 [(0, .ref (q + 8)), (1, .int x1), (2, .int x2), (3, .int x3), (4, .int x4)])
    (hw : q_m_copyRow_8_3 a_sights x1 x2 x3 x4 post) :
    W p l e rm_m_copyRow_8 s m args below meth c H locs 0 0 (MQ below (zQv (S := (Nat → Int32)) (fun u => post u) (fun u H => mW E q f_code a_tape a_size a_fault a_faultPlace a_many a_lands a_evenings u a_choirs f_reached f_length f_begins f_sort f_value f_word f_wrongAt f_laterFault f_laterPlace a_told a_read f_farHut f_farSinger f_good f_land f_huts f_singers f_evening a_at a_knows a_climbed a_snow a_level f_begun f_minute f_avalanches a_run a_covers a_routes a_longest a_steep a_laid a_far f_sight a_runs f_choir f_voices a_rest a_wins f_seed a_other a_kept H) (mA q)) args s 0 0 (mA q)) (F0 m 3 ls []) := by
  have hx := zc.1
  have hb := zc.2.1
  refine hw (fun x4 a_sights => ∀ (H : Heap) (locs : List Loc) (ls : Array Slot), lv_has ls 5 [(0, .ref (q + 8)), (1, .int x1), (2, .int x2), (3, .int x3), (4, .int x4)] → mW E q f_code a_tape a_size a_fault a_faultPlace a_many a_lands a_evenings a_sights a_choirs f_reached f_length f_begins f_sort f_value f_word f_wrongAt f_laterFault f_laterPlace a_told a_read f_farHut f_farSinger f_good f_land f_huts f_singers f_evening a_at a_knows a_climbed a_snow a_level f_begun f_minute f_avalanches a_run a_covers a_routes a_longest a_steep a_laid a_far f_sight a_runs f_choir f_voices a_rest a_wins f_seed a_other a_kept H → va_S (mA q) s.heap H locs → W p l e rm_m_copyRow_8 s m args below meth c H locs 0 0 (MQ below (zQv (S := (Nat → Int32)) (fun u => post u) (fun u H => mW E q f_code a_tape a_size a_fault a_faultPlace a_many a_lands a_evenings u a_choirs f_reached f_length f_begins f_sort f_value f_word f_wrongAt f_laterFault f_laterPlace a_told a_read f_farHut f_farSinger f_good f_land f_huts f_singers f_evening a_at a_knows a_climbed a_snow a_level f_begun f_minute f_avalanches a_run a_covers a_routes a_longest a_steep a_laid a_far f_sight a_runs f_choir f_voices a_rest a_wins f_seed a_other a_kept H) (mA q)) args s 0 0 (mA q)) (F0 m 3 ls [])) ?_ _ _ _ hl hM hS
  intro x4 a_sights hw H locs ls hl hM hS
  refine lv_iload hx hb dX11_copyRow_3 (lv_at hl 4 rfl) ?_
  refine lv_iload_n hx hb dX11_copyRow_5 rfl (lv_at hl 1 rfl) ?_
  refine lv_icmp_ge (tgt := 31) hx hb dX11_copyRow_6 (by decide) (fun hc => ?_) (fun hc => ?_)
  · have hw := hw.1 hc
    exact zret_vw a_sights zc hS hw hM dX11_copyRow_31
  · have hw := hw.2 hc
    refine lv_aload_n hx hb dX11_copyRow_9 rfl (lv_at hl 0 rfl) ?_
    refine lv_iload_n hx hb dX11_copyRow_10 rfl (lv_at hl 1 rfl) ?_
    refine lv_iload_n hx hb dX11_copyRow_11 rfl (lv_at hl 3 rfl) ?_
    refine lv_imul hx hb dX11_copyRow_12 ?_
    refine lv_iload hx hb dX11_copyRow_13 (lv_at hl 4 rfl) ?_
    refine lv_iadd hx hb dX11_copyRow_15 ?_
    refine lv_aload_n hx hb dX11_copyRow_16 rfl (lv_at hl 0 rfl) ?_
    refine lv_iload_n hx hb dX11_copyRow_17 rfl (lv_at hl 1 rfl) ?_
    refine lv_iload_n hx hb dX11_copyRow_18 rfl (lv_at hl 2 rfl) ?_
    refine lv_imul hx hb dX11_copyRow_19 ?_
    refine lv_iload hx hb dX11_copyRow_20 (lv_at hl 4 rfl) ?_
    refine lv_iadd hx hb dX11_copyRow_22 ?_
    refine mld_8 zc hK hM hw.1 dX11_copyRow_23 ?_
    have hw := hw.2
    refine lv_topi (fun v_1 ev_1 => ?_)
    have hw := hw v_1 ev_1
    refine mst_8 zc hK hM hS hw.1 dX11_copyRow_24 (fun a_sights_1 H locs ea_sights_1 hM hS => ?_)
    have hw := hw.2 a_sights_1 ea_sights_1
    obtain ⟨v_2, ev_2⟩ : ∃ y : Int32, y = x4 + (1 : Int32) := ⟨_, rfl⟩
    have hw := hw v_2 ev_2
    refine lv_iinc (v := v_2) (k := 4) (lv' := [(4, .int v_2), (0, .ref (q + 8)), (1, .int x1), (2, .int x2), (3, .int x3)]) hx hb dX11_copyRow_25 hl rfl (by rw [ev_2]; rfl) (by decide) rfl (fun ls hl => ?_)
    refine lv_goto (tgt := 3) hx hb dX11_copyRow_28 (by decide) ?_
    exact hw _ _ _ (lv_sub hl [1, 2, 3, 4, 0] rfl) hM hS
set_option maxRecDepth 20000 in
theorem t_m_copyRow_8_0 {p : Program} {l : Launch} {e : Env} {s : State} {m : MethodId} {args : Array Value} {below : List Frame} {meth : Method} {c : Code} {E : zE} {q : Nat} {f_code : Int32} {a_tape : Nat → Int32} {a_size : Nat → Int32} {a_fault : Nat → Int32} {a_faultPlace : Nat → Int32} {a_many : Nat → Int32} {a_lands : Nat → Int32} {a_evenings : Nat → Int32} {a_sights : Nat → Int32} {a_choirs : Nat → Int32} {f_reached : Int32} {f_length : Int32} {f_begins : Int32} {f_sort : Int32} {f_value : Int32} {f_word : Int64} {f_wrongAt : Int32} {f_laterFault : Int32} {f_laterPlace : Int32} {a_told : Nat → Int32} {a_read : Nat → Int32} {f_farHut : Int32} {f_farSinger : Int32} {f_good : Int32} {f_land : Int32} {f_huts : Int32} {f_singers : Int32} {f_evening : Int32} {a_at : Nat → Int32} {a_knows : Nat → Int32} {a_climbed : Nat → Int32} {a_snow : Nat → Int32} {a_level : Nat → Int32} {f_begun : Int32} {f_minute : Int32} {f_avalanches : Int32} {a_run : Nat → Int32} {a_covers : Nat → Int32} {a_routes : Nat → Int32} {a_longest : Nat → Int32} {a_steep : Nat → Int32} {a_laid : Nat → Int32} {a_far : Nat → Int32} {f_sight : Int32} {a_runs : Nat → Int32} {f_choir : Int32} {f_voices : Int32} {a_rest : Nat → Int64} {a_wins : Nat → Int32} {f_seed : Int32} {a_other : Nat → Int32} {a_kept : Nat → Int32} {post : (Nat → Int32) → Prop} {x1 : Int32} {x2 : Int32} {x3 : Int32} {ls : Array Slot} {H : Heap} {locs : List Loc}
    (zc : zC p s m args meth c cX11_copyRow 5 RX11 none)
    (hK : zK E s)
    (hM : mW E q f_code a_tape a_size a_fault a_faultPlace a_many a_lands a_evenings a_sights a_choirs f_reached f_length f_begins f_sort f_value f_word f_wrongAt f_laterFault f_laterPlace a_told a_read f_farHut f_farSinger f_good f_land f_huts f_singers f_evening a_at a_knows a_climbed a_snow a_level f_begun f_minute f_avalanches a_run a_covers a_routes a_longest a_steep a_laid a_far f_sight a_runs f_choir f_voices a_rest a_wins f_seed a_other a_kept H)
    (hS : va_S (mA q) s.heap H locs)
    (hl : lv_has ls 5 [(0, .ref (q + 8)), (1, .int x1), (2, .int x2), (3, .int x3)])
    (hw : q_m_copyRow_8_0 a_sights x1 x2 x3 post) :
    W p l e rm_m_copyRow_8 s m args below meth c H locs 0 0 (MQ below (zQv (S := (Nat → Int32)) (fun u => post u) (fun u H => mW E q f_code a_tape a_size a_fault a_faultPlace a_many a_lands a_evenings u a_choirs f_reached f_length f_begins f_sort f_value f_word f_wrongAt f_laterFault f_laterPlace a_told a_read f_farHut f_farSinger f_good f_land f_huts f_singers f_evening a_at a_knows a_climbed a_snow a_level f_begun f_minute f_avalanches a_run a_covers a_routes a_longest a_steep a_laid a_far f_sight a_runs f_choir f_voices a_rest a_wins f_seed a_other a_kept H) (mA q)) args s 0 0 (mA q)) (F0 m 0 ls []) := by
  have hx := zc.1
  have hb := zc.2.1
  refine lv_iconst (v := (0 : Int32)) hx hb dX11_copyRow_0 (by decide) ?_
  refine lv_istore (lv' := [(4, .int (0 : Int32)), (0, .ref (q + 8)), (1, .int x1), (2, .int x2), (3, .int x3)]) hx hb dX11_copyRow_1 hl (by decide) rfl (fun ls hl => ?_)
  exact t_m_copyRow_8_3 zc hK hM hS  (lv_sub hl [1, 2, 3, 4, 0] rfl) hw
set_option maxRecDepth 20000 in
theorem c_m_copyRow_8 (l : Launch) {E : zE} {q : Nat} {f_code : Int32} {a_tape : Nat → Int32} {a_size : Nat → Int32} {a_fault : Nat → Int32} {a_faultPlace : Nat → Int32} {a_many : Nat → Int32} {a_lands : Nat → Int32} {a_evenings : Nat → Int32} {a_sights : Nat → Int32} {a_choirs : Nat → Int32} {f_reached : Int32} {f_length : Int32} {f_begins : Int32} {f_sort : Int32} {f_value : Int32} {f_word : Int64} {f_wrongAt : Int32} {f_laterFault : Int32} {f_laterPlace : Int32} {a_told : Nat → Int32} {a_read : Nat → Int32} {f_farHut : Int32} {f_farSinger : Int32} {f_good : Int32} {f_land : Int32} {f_huts : Int32} {f_singers : Int32} {f_evening : Int32} {a_at : Nat → Int32} {a_knows : Nat → Int32} {a_climbed : Nat → Int32} {a_snow : Nat → Int32} {a_level : Nat → Int32} {f_begun : Int32} {f_minute : Int32} {f_avalanches : Int32} {a_run : Nat → Int32} {a_covers : Nat → Int32} {a_routes : Nat → Int32} {a_longest : Nat → Int32} {a_steep : Nat → Int32} {a_laid : Nat → Int32} {a_far : Nat → Int32} {f_sight : Int32} {a_runs : Nat → Int32} {f_choir : Int32} {f_voices : Int32} {a_rest : Nat → Int64} {a_wins : Nat → Int32} {f_seed : Int32} {a_other : Nat → Int32} {a_kept : Nat → Int32} {x1 : Int32} {x2 : Int32} {x3 : Int32} {post : (Nat → Int32) → Prop} (hw : q_m_copyRow_8_0 a_sights x1 x2 x3 post) : Met l yX11_copyRow (Cond.code yX11_copyRow cX11_copyRow 5 none :: zb) rm_m_copyRow_8 (va_Pc [.ref (q + 8), .int x1, .int x2, .int x3] (fun U => mW E q f_code a_tape a_size a_fault a_faultPlace a_many a_lands a_evenings a_sights a_choirs f_reached f_length f_begins f_sort f_value f_word f_wrongAt f_laterFault f_laterPlace a_told a_read f_farHut f_farSinger f_good f_land f_huts f_singers f_evening a_at a_knows a_climbed a_snow a_level f_begun f_minute f_avalanches a_run a_covers a_routes a_longest a_steep a_laid a_far f_sight a_runs f_choir f_voices a_rest a_wins f_seed a_other a_kept U.heap ∧ zK E U)) (zQv (S := (Nat → Int32)) (fun u => post u) (fun u H => mW E q f_code a_tape a_size a_fault a_faultPlace a_many a_lands a_evenings u a_choirs f_reached f_length f_begins f_sort f_value f_word f_wrongAt f_laterFault f_laterPlace a_told a_read f_farHut f_farSinger f_good f_land f_huts f_singers f_evening a_at a_knows a_climbed a_snow a_level f_begun f_minute f_avalanches a_run a_covers a_routes a_longest a_steep a_laid a_far f_sight a_runs f_choir f_voices a_rest a_wins f_seed a_other a_kept H) (mA q)) 0 0 (mA q) := by
  refine Met.ofW (cc := cX11_copyRow) (maxL := 5) (ret := none) (by decide) rfl ?_
  intro p e s m args below meth c s₁ B hml hv
  obtain ⟨rfl, hM, hK⟩ := hv
  have zc := zc_of B hml
  have hl := lv_entry ([.ref (q + 8), .int x1, .int x2, .int x3]) (n := 5) (Nat.le_of_ble_eq_true rfl)
  rw [lg_entry_eq]
  generalize (lg_sl ([.ref (q + 8), .int x1, .int x2, .int x3]) ++ List.replicate (5 - (lg_sl ([.ref (q + 8), .int x1, .int x2, .int x3])).length) Slot.unset).toArray = ls at hl ⊢
  have hl : lv_has ls 5 [(0, .ref (q + 8)), (1, .int x1), (2, .int x2), (3, .int x3)] := hl
  exact t_m_copyRow_8_0 zc hK hM va_S.rf (lv_sub hl [0, 1, 2, 3] rfl) hw
-- m_copyRow_9
abbrev rm_m_copyRow_9 : Room := { frames := 0, cells := 0, slots := 0, locals := 0 }
def q_m_copyRow_9_3 (a_choirs : Nat → Int32) (x1 : Int32) (x2 : Int32) (x3 : Int32) (x4 : Int32) (post : (Nat → Int32) → Prop) : Prop :=
  ∀ P3 : Int32 → (Nat → Int32) → Prop, (∀ (x4 : Int32) (a_choirs : Nat → Int32), ((x1 ≤ x4 → (post a_choirs)) ∧ (¬ x1 ≤ x4 → (vp_in ((x1 * x2) + x4) 160 ∧ (∀ v_1 : Int32, v_1 = (a_choirs (Int32.toNatClampNeg ((x1 * x2) + x4))) → (vp_in ((x1 * x3) + x4) 160 ∧ (∀ a_choirs_1 : Nat → Int32, a_choirs_1 = upd a_choirs (Int32.toNatClampNeg ((x1 * x3) + x4)) v_1 → (∀ v_2 : Int32, v_2 = x4 + (1 : Int32) → (P3 v_2 a_choirs_1)))))))) → P3 x4 a_choirs) → P3 x4 a_choirs
def q_m_copyRow_9_0 (a_choirs : Nat → Int32) (x1 : Int32) (x2 : Int32) (x3 : Int32) (post : (Nat → Int32) → Prop) : Prop :=
  q_m_copyRow_9_3 a_choirs x1 x2 x3 (0 : Int32) post
set_option maxRecDepth 20000 in
theorem t_m_copyRow_9_3 {p : Program} {l : Launch} {e : Env} {s : State} {m : MethodId} {args : Array Value} {below : List Frame} {meth : Method} {c : Code} {E : zE} {q : Nat} {f_code : Int32} {a_tape : Nat → Int32} {a_size : Nat → Int32} {a_fault : Nat → Int32} {a_faultPlace : Nat → Int32} {a_many : Nat → Int32} {a_lands : Nat → Int32} {a_evenings : Nat → Int32} {a_sights : Nat → Int32} {a_choirs : Nat → Int32} {f_reached : Int32} {f_length : Int32} {f_begins : Int32} {f_sort : Int32} {f_value : Int32} {f_word : Int64} {f_wrongAt : Int32} {f_laterFault : Int32} {f_laterPlace : Int32} {a_told : Nat → Int32} {a_read : Nat → Int32} {f_farHut : Int32} {f_farSinger : Int32} {f_good : Int32} {f_land : Int32} {f_huts : Int32} {f_singers : Int32} {f_evening : Int32} {a_at : Nat → Int32} {a_knows : Nat → Int32} {a_climbed : Nat → Int32} {a_snow : Nat → Int32} {a_level : Nat → Int32} {f_begun : Int32} {f_minute : Int32} {f_avalanches : Int32} {a_run : Nat → Int32} {a_covers : Nat → Int32} {a_routes : Nat → Int32} {a_longest : Nat → Int32} {a_steep : Nat → Int32} {a_laid : Nat → Int32} {a_far : Nat → Int32} {f_sight : Int32} {a_runs : Nat → Int32} {f_choir : Int32} {f_voices : Int32} {a_rest : Nat → Int64} {a_wins : Nat → Int32} {f_seed : Int32} {a_other : Nat → Int32} {a_kept : Nat → Int32} {post : (Nat → Int32) → Prop} {x1 : Int32} {x2 : Int32} {x3 : Int32} {x4 : Int32} {ls : Array Slot} {H : Heap} {locs : List Loc}
    (zc : zC p s m args meth c cX11_copyRow 5 RX11 none)
    (hK : zK E s)
    (hM : mW E q f_code a_tape a_size a_fault a_faultPlace a_many a_lands a_evenings a_sights a_choirs f_reached f_length f_begins f_sort f_value f_word f_wrongAt f_laterFault f_laterPlace a_told a_read f_farHut f_farSinger f_good f_land f_huts f_singers f_evening a_at a_knows a_climbed a_snow a_level f_begun f_minute f_avalanches a_run a_covers a_routes a_longest a_steep a_laid a_far f_sight a_runs f_choir f_voices a_rest a_wins f_seed a_other a_kept H)
    (hS : va_S (mA q) s.heap H locs)
    (hl : lv_has ls 5 [(0, .ref (q + 9)), (1, .int x1), (2, .int x2), (3, .int x3), (4, .int x4)])
    (hw : q_m_copyRow_9_3 a_choirs x1 x2 x3 x4 post) :
    W p l e rm_m_copyRow_9 s m args below meth c H locs 0 0 (MQ below (zQv (S := (Nat → Int32)) (fun u => post u) (fun u H => mW E q f_code a_tape a_size a_fault a_faultPlace a_many a_lands a_evenings a_sights u f_reached f_length f_begins f_sort f_value f_word f_wrongAt f_laterFault f_laterPlace a_told a_read f_farHut f_farSinger f_good f_land f_huts f_singers f_evening a_at a_knows a_climbed a_snow a_level f_begun f_minute f_avalanches a_run a_covers a_routes a_longest a_steep a_laid a_far f_sight a_runs f_choir f_voices a_rest a_wins f_seed a_other a_kept H) (mA q)) args s 0 0 (mA q)) (F0 m 3 ls []) := by
  have hx := zc.1
  have hb := zc.2.1
  refine hw (fun x4 a_choirs => ∀ (H : Heap) (locs : List Loc) (ls : Array Slot), lv_has ls 5 [(0, .ref (q + 9)), (1, .int x1), (2, .int x2), (3, .int x3), (4, .int x4)] → mW E q f_code a_tape a_size a_fault a_faultPlace a_many a_lands a_evenings a_sights a_choirs f_reached f_length f_begins f_sort f_value f_word f_wrongAt f_laterFault f_laterPlace a_told a_read f_farHut f_farSinger f_good f_land f_huts f_singers f_evening a_at a_knows a_climbed a_snow a_level f_begun f_minute f_avalanches a_run a_covers a_routes a_longest a_steep a_laid a_far f_sight a_runs f_choir f_voices a_rest a_wins f_seed a_other a_kept H → va_S (mA q) s.heap H locs → W p l e rm_m_copyRow_9 s m args below meth c H locs 0 0 (MQ below (zQv (S := (Nat → Int32)) (fun u => post u) (fun u H => mW E q f_code a_tape a_size a_fault a_faultPlace a_many a_lands a_evenings a_sights u f_reached f_length f_begins f_sort f_value f_word f_wrongAt f_laterFault f_laterPlace a_told a_read f_farHut f_farSinger f_good f_land f_huts f_singers f_evening a_at a_knows a_climbed a_snow a_level f_begun f_minute f_avalanches a_run a_covers a_routes a_longest a_steep a_laid a_far f_sight a_runs f_choir f_voices a_rest a_wins f_seed a_other a_kept H) (mA q)) args s 0 0 (mA q)) (F0 m 3 ls [])) ?_ _ _ _ hl hM hS
  intro x4 a_choirs hw H locs ls hl hM hS
  refine lv_iload hx hb dX11_copyRow_3 (lv_at hl 4 rfl) ?_
  refine lv_iload_n hx hb dX11_copyRow_5 rfl (lv_at hl 1 rfl) ?_
  refine lv_icmp_ge (tgt := 31) hx hb dX11_copyRow_6 (by decide) (fun hc => ?_) (fun hc => ?_)
  · have hw := hw.1 hc
    exact zret_vw a_choirs zc hS hw hM dX11_copyRow_31
  · have hw := hw.2 hc
    refine lv_aload_n hx hb dX11_copyRow_9 rfl (lv_at hl 0 rfl) ?_
    refine lv_iload_n hx hb dX11_copyRow_10 rfl (lv_at hl 1 rfl) ?_
    refine lv_iload_n hx hb dX11_copyRow_11 rfl (lv_at hl 3 rfl) ?_
    refine lv_imul hx hb dX11_copyRow_12 ?_
    refine lv_iload hx hb dX11_copyRow_13 (lv_at hl 4 rfl) ?_
    refine lv_iadd hx hb dX11_copyRow_15 ?_
    refine lv_aload_n hx hb dX11_copyRow_16 rfl (lv_at hl 0 rfl) ?_
    refine lv_iload_n hx hb dX11_copyRow_17 rfl (lv_at hl 1 rfl) ?_
    refine lv_iload_n hx hb dX11_copyRow_18 rfl (lv_at hl 2 rfl) ?_
    refine lv_imul hx hb dX11_copyRow_19 ?_
    refine lv_iload hx hb dX11_copyRow_20 (lv_at hl 4 rfl) ?_
    refine lv_iadd hx hb dX11_copyRow_22 ?_
    refine mld_9 zc hK hM hw.1 dX11_copyRow_23 ?_
    have hw := hw.2
    refine lv_topi (fun v_1 ev_1 => ?_)
    have hw := hw v_1 ev_1
    refine mst_9 zc hK hM hS hw.1 dX11_copyRow_24 (fun a_choirs_1 H locs ea_choirs_1 hM hS => ?_)
    have hw := hw.2 a_choirs_1 ea_choirs_1
    obtain ⟨v_2, ev_2⟩ : ∃ y : Int32, y = x4 + (1 : Int32) := ⟨_, rfl⟩
    have hw := hw v_2 ev_2
    refine lv_iinc (v := v_2) (k := 4) (lv' := [(4, .int v_2), (0, .ref (q + 9)), (1, .int x1), (2, .int x2), (3, .int x3)]) hx hb dX11_copyRow_25 hl rfl (by rw [ev_2]; rfl) (by decide) rfl (fun ls hl => ?_)
    refine lv_goto (tgt := 3) hx hb dX11_copyRow_28 (by decide) ?_
    exact hw _ _ _ (lv_sub hl [1, 2, 3, 4, 0] rfl) hM hS
set_option maxRecDepth 20000 in
theorem t_m_copyRow_9_0 {p : Program} {l : Launch} {e : Env} {s : State} {m : MethodId} {args : Array Value} {below : List Frame} {meth : Method} {c : Code} {E : zE} {q : Nat} {f_code : Int32} {a_tape : Nat → Int32} {a_size : Nat → Int32} {a_fault : Nat → Int32} {a_faultPlace : Nat → Int32} {a_many : Nat → Int32} {a_lands : Nat → Int32} {a_evenings : Nat → Int32} {a_sights : Nat → Int32} {a_choirs : Nat → Int32} {f_reached : Int32} {f_length : Int32} {f_begins : Int32} {f_sort : Int32} {f_value : Int32} {f_word : Int64} {f_wrongAt : Int32} {f_laterFault : Int32} {f_laterPlace : Int32} {a_told : Nat → Int32} {a_read : Nat → Int32} {f_farHut : Int32} {f_farSinger : Int32} {f_good : Int32} {f_land : Int32} {f_huts : Int32} {f_singers : Int32} {f_evening : Int32} {a_at : Nat → Int32} {a_knows : Nat → Int32} {a_climbed : Nat → Int32} {a_snow : Nat → Int32} {a_level : Nat → Int32} {f_begun : Int32} {f_minute : Int32} {f_avalanches : Int32} {a_run : Nat → Int32} {a_covers : Nat → Int32} {a_routes : Nat → Int32} {a_longest : Nat → Int32} {a_steep : Nat → Int32} {a_laid : Nat → Int32} {a_far : Nat → Int32} {f_sight : Int32} {a_runs : Nat → Int32} {f_choir : Int32} {f_voices : Int32} {a_rest : Nat → Int64} {a_wins : Nat → Int32} {f_seed : Int32} {a_other : Nat → Int32} {a_kept : Nat → Int32} {post : (Nat → Int32) → Prop} {x1 : Int32} {x2 : Int32} {x3 : Int32} {ls : Array Slot} {H : Heap} {locs : List Loc}
    (zc : zC p s m args meth c cX11_copyRow 5 RX11 none)
    (hK : zK E s)
    (hM : mW E q f_code a_tape a_size a_fault a_faultPlace a_many a_lands a_evenings a_sights a_choirs f_reached f_length f_begins f_sort f_value f_word f_wrongAt f_laterFault f_laterPlace a_told a_read f_farHut f_farSinger f_good f_land f_huts f_singers f_evening a_at a_knows a_climbed a_snow a_level f_begun f_minute f_avalanches a_run a_covers a_routes a_longest a_steep a_laid a_far f_sight a_runs f_choir f_voices a_rest a_wins f_seed a_other a_kept H)
    (hS : va_S (mA q) s.heap H locs)
    (hl : lv_has ls 5 [(0, .ref (q + 9)), (1, .int x1), (2, .int x2), (3, .int x3)])
    (hw : q_m_copyRow_9_0 a_choirs x1 x2 x3 post) :
    W p l e rm_m_copyRow_9 s m args below meth c H locs 0 0 (MQ below (zQv (S := (Nat → Int32)) (fun u => post u) (fun u H => mW E q f_code a_tape a_size a_fault a_faultPlace a_many a_lands a_evenings a_sights u f_reached f_length f_begins f_sort f_value f_word f_wrongAt f_laterFault f_laterPlace a_told a_read f_farHut f_farSinger f_good f_land f_huts f_singers f_evening a_at a_knows a_climbed a_snow a_level f_begun f_minute f_avalanches a_run a_covers a_routes a_longest a_steep a_laid a_far f_sight a_runs f_choir f_voices a_rest a_wins f_seed a_other a_kept H) (mA q)) args s 0 0 (mA q)) (F0 m 0 ls []) := by
  have hx := zc.1
  have hb := zc.2.1
  refine lv_iconst (v := (0 : Int32)) hx hb dX11_copyRow_0 (by decide) ?_
  refine lv_istore (lv' := [(4, .int (0 : Int32)), (0, .ref (q + 9)), (1, .int x1), (2, .int x2), (3, .int x3)]) hx hb dX11_copyRow_1 hl (by decide) rfl (fun ls hl => ?_)
  exact t_m_copyRow_9_3 zc hK hM hS  (lv_sub hl [1, 2, 3, 4, 0] rfl) hw
set_option maxRecDepth 20000 in
theorem c_m_copyRow_9 (l : Launch) {E : zE} {q : Nat} {f_code : Int32} {a_tape : Nat → Int32} {a_size : Nat → Int32} {a_fault : Nat → Int32} {a_faultPlace : Nat → Int32} {a_many : Nat → Int32} {a_lands : Nat → Int32} {a_evenings : Nat → Int32} {a_sights : Nat → Int32} {a_choirs : Nat → Int32} {f_reached : Int32} {f_length : Int32} {f_begins : Int32} {f_sort : Int32} {f_value : Int32} {f_word : Int64} {f_wrongAt : Int32} {f_laterFault : Int32} {f_laterPlace : Int32} {a_told : Nat → Int32} {a_read : Nat → Int32} {f_farHut : Int32} {f_farSinger : Int32} {f_good : Int32} {f_land : Int32} {f_huts : Int32} {f_singers : Int32} {f_evening : Int32} {a_at : Nat → Int32} {a_knows : Nat → Int32} {a_climbed : Nat → Int32} {a_snow : Nat → Int32} {a_level : Nat → Int32} {f_begun : Int32} {f_minute : Int32} {f_avalanches : Int32} {a_run : Nat → Int32} {a_covers : Nat → Int32} {a_routes : Nat → Int32} {a_longest : Nat → Int32} {a_steep : Nat → Int32} {a_laid : Nat → Int32} {a_far : Nat → Int32} {f_sight : Int32} {a_runs : Nat → Int32} {f_choir : Int32} {f_voices : Int32} {a_rest : Nat → Int64} {a_wins : Nat → Int32} {f_seed : Int32} {a_other : Nat → Int32} {a_kept : Nat → Int32} {x1 : Int32} {x2 : Int32} {x3 : Int32} {post : (Nat → Int32) → Prop} (hw : q_m_copyRow_9_0 a_choirs x1 x2 x3 post) : Met l yX11_copyRow (Cond.code yX11_copyRow cX11_copyRow 5 none :: zb) rm_m_copyRow_9 (va_Pc [.ref (q + 9), .int x1, .int x2, .int x3] (fun U => mW E q f_code a_tape a_size a_fault a_faultPlace a_many a_lands a_evenings a_sights a_choirs f_reached f_length f_begins f_sort f_value f_word f_wrongAt f_laterFault f_laterPlace a_told a_read f_farHut f_farSinger f_good f_land f_huts f_singers f_evening a_at a_knows a_climbed a_snow a_level f_begun f_minute f_avalanches a_run a_covers a_routes a_longest a_steep a_laid a_far f_sight a_runs f_choir f_voices a_rest a_wins f_seed a_other a_kept U.heap ∧ zK E U)) (zQv (S := (Nat → Int32)) (fun u => post u) (fun u H => mW E q f_code a_tape a_size a_fault a_faultPlace a_many a_lands a_evenings a_sights u f_reached f_length f_begins f_sort f_value f_word f_wrongAt f_laterFault f_laterPlace a_told a_read f_farHut f_farSinger f_good f_land f_huts f_singers f_evening a_at a_knows a_climbed a_snow a_level f_begun f_minute f_avalanches a_run a_covers a_routes a_longest a_steep a_laid a_far f_sight a_runs f_choir f_voices a_rest a_wins f_seed a_other a_kept H) (mA q)) 0 0 (mA q) := by
  refine Met.ofW (cc := cX11_copyRow) (maxL := 5) (ret := none) (by decide) rfl ?_
  intro p e s m args below meth c s₁ B hml hv
  obtain ⟨rfl, hM, hK⟩ := hv
  have zc := zc_of B hml
  have hl := lv_entry ([.ref (q + 9), .int x1, .int x2, .int x3]) (n := 5) (Nat.le_of_ble_eq_true rfl)
  rw [lg_entry_eq]
  generalize (lg_sl ([.ref (q + 9), .int x1, .int x2, .int x3]) ++ List.replicate (5 - (lg_sl ([.ref (q + 9), .int x1, .int x2, .int x3])).length) Slot.unset).toArray = ls at hl ⊢
  have hl : lv_has ls 5 [(0, .ref (q + 9)), (1, .int x1), (2, .int x2), (3, .int x3)] := hl
  exact t_m_copyRow_9_0 zc hK hM va_S.rf (lv_sub hl [0, 1, 2, 3] rfl) hw
-- m_copyAll
abbrev rm_m_copyAll : Room := { frames := 1, cells := 0, slots := 0, locals := 24 }
def q_m_copyAll_2 (a_tape : Nat → Int32) (a_size : Nat → Int32) (a_fault : Nat → Int32) (a_faultPlace : Nat → Int32) (a_many : Nat → Int32) (a_lands : Nat → Int32) (a_evenings : Nat → Int32) (a_sights : Nat → Int32) (a_choirs : Nat → Int32) (x1 : Int32) (x2 : Int32) (x3 : Int32) (post : (Nat → Int32) → (Nat → Int32) → (Nat → Int32) → (Nat → Int32) → (Nat → Int32) → (Nat → Int32) → (Nat → Int32) → (Nat → Int32) → (Nat → Int32) → Prop) : Prop :=
  ∀ P2 : Int32 → (Nat → Int32) → Prop, (∀ (x3 : Int32) (a_tape : Nat → Int32), (((600 : Int32) ≤ x3 → (q_m_copyRow_2_0 a_size (1 : Int32) x1 x2 (fun a_size_1 => q_m_copyRow_3_0 a_fault (1 : Int32) x1 x2 (fun a_fault_1 => q_m_copyRow_4_0 a_faultPlace (1 : Int32) x1 x2 (fun a_faultPlace_1 => q_m_copyRow_5_0 a_many (4 : Int32) x1 x2 (fun a_many_1 => q_m_copyRow_6_0 a_lands (264 : Int32) x1 x2 (fun a_lands_1 => q_m_copyRow_7_0 a_evenings (242 : Int32) x1 x2 (fun a_evenings_1 => q_m_copyRow_8_0 a_sights (62 : Int32) x1 x2 (fun a_sights_1 => q_m_copyRow_9_0 a_choirs (40 : Int32) x1 x2 (fun a_choirs_1 => post a_tape a_size_1 a_fault_1 a_faultPlace_1 a_many_1 a_lands_1 a_evenings_1 a_sights_1 a_choirs_1)))))))))) ∧ (¬ (600 : Int32) ≤ x3 → (vp_in (((600 : Int32) * x1) + x3) 2400 ∧ (∀ v_1 : Int32, v_1 = (a_tape (Int32.toNatClampNeg (((600 : Int32) * x1) + x3))) → (vp_in (((600 : Int32) * x2) + x3) 2400 ∧ (∀ a_tape_1 : Nat → Int32, a_tape_1 = upd a_tape (Int32.toNatClampNeg (((600 : Int32) * x2) + x3)) (vp_nar .byte v_1) → (∀ v_2 : Int32, v_2 = x3 + (1 : Int32) → (P2 v_2 a_tape_1)))))))) → P2 x3 a_tape) → P2 x3 a_tape
def q_m_copyAll_0 (a_tape : Nat → Int32) (a_size : Nat → Int32) (a_fault : Nat → Int32) (a_faultPlace : Nat → Int32) (a_many : Nat → Int32) (a_lands : Nat → Int32) (a_evenings : Nat → Int32) (a_sights : Nat → Int32) (a_choirs : Nat → Int32) (x1 : Int32) (x2 : Int32) (post : (Nat → Int32) → (Nat → Int32) → (Nat → Int32) → (Nat → Int32) → (Nat → Int32) → (Nat → Int32) → (Nat → Int32) → (Nat → Int32) → (Nat → Int32) → Prop) : Prop :=
  q_m_copyAll_2 a_tape a_size a_fault a_faultPlace a_many a_lands a_evenings a_sights a_choirs x1 x2 (0 : Int32) post
set_option maxRecDepth 20000 in
theorem t_m_copyAll_2 {p : Program} {l : Launch} {e : Env} {s : State} {m : MethodId} {args : Array Value} {below : List Frame} {meth : Method} {c : Code} {E : zE} {q : Nat} {f_code : Int32} {a_tape : Nat → Int32} {a_size : Nat → Int32} {a_fault : Nat → Int32} {a_faultPlace : Nat → Int32} {a_many : Nat → Int32} {a_lands : Nat → Int32} {a_evenings : Nat → Int32} {a_sights : Nat → Int32} {a_choirs : Nat → Int32} {f_reached : Int32} {f_length : Int32} {f_begins : Int32} {f_sort : Int32} {f_value : Int32} {f_word : Int64} {f_wrongAt : Int32} {f_laterFault : Int32} {f_laterPlace : Int32} {a_told : Nat → Int32} {a_read : Nat → Int32} {f_farHut : Int32} {f_farSinger : Int32} {f_good : Int32} {f_land : Int32} {f_huts : Int32} {f_singers : Int32} {f_evening : Int32} {a_at : Nat → Int32} {a_knows : Nat → Int32} {a_climbed : Nat → Int32} {a_snow : Nat → Int32} {a_level : Nat → Int32} {f_begun : Int32} {f_minute : Int32} {f_avalanches : Int32} {a_run : Nat → Int32} {a_covers : Nat → Int32} {a_routes : Nat → Int32} {a_longest : Nat → Int32} {a_steep : Nat → Int32} {a_laid : Nat → Int32} {a_far : Nat → Int32} {f_sight : Int32} {a_runs : Nat → Int32} {f_choir : Int32} {f_voices : Int32} {a_rest : Nat → Int64} {a_wins : Nat → Int32} {f_seed : Int32} {a_other : Nat → Int32} {a_kept : Nat → Int32} {post : (Nat → Int32) → (Nat → Int32) → (Nat → Int32) → (Nat → Int32) → (Nat → Int32) → (Nat → Int32) → (Nat → Int32) → (Nat → Int32) → (Nat → Int32) → Prop} {x1 : Int32} {x2 : Int32} {x3 : Int32} {ls : Array Slot} {H : Heap} {locs : List Loc}
    (zc : zC p s m args meth c cX11_copyAll 4 RX11 none)
    (hK : zK E s)
    (hM : mW E q f_code a_tape a_size a_fault a_faultPlace a_many a_lands a_evenings a_sights a_choirs f_reached f_length f_begins f_sort f_value f_word f_wrongAt f_laterFault f_laterPlace a_told a_read f_farHut f_farSinger f_good f_land f_huts f_singers f_evening a_at a_knows a_climbed a_snow a_level f_begun f_minute f_avalanches a_run a_covers a_routes a_longest a_steep a_laid a_far f_sight a_runs f_choir f_voices a_rest a_wins f_seed a_other a_kept H)
    (hS : va_S (mA q) s.heap H locs)
    (hl : lv_has ls 4 [(0, .ref q), (1, .int x1), (2, .int x2), (3, .int x3)])
    (hw : q_m_copyAll_2 a_tape a_size a_fault a_faultPlace a_many a_lands a_evenings a_sights a_choirs x1 x2 x3 post) :
    W p l e rm_m_copyAll s m args below meth c H locs 0 0 (MQ below (zQv (S := (Nat → Int32) × (Nat → Int32) × (Nat → Int32) × (Nat → Int32) × (Nat → Int32) × (Nat → Int32) × (Nat → Int32) × (Nat → Int32) × (Nat → Int32)) (fun u => post u.1 u.2.1 u.2.2.1 u.2.2.2.1 u.2.2.2.2.1 u.2.2.2.2.2.1 u.2.2.2.2.2.2.1 u.2.2.2.2.2.2.2.1 u.2.2.2.2.2.2.2.2) (fun u H => mW E q f_code u.1 u.2.1 u.2.2.1 u.2.2.2.1 u.2.2.2.2.1 u.2.2.2.2.2.1 u.2.2.2.2.2.2.1 u.2.2.2.2.2.2.2.1 u.2.2.2.2.2.2.2.2 f_reached f_length f_begins f_sort f_value f_word f_wrongAt f_laterFault f_laterPlace a_told a_read f_farHut f_farSinger f_good f_land f_huts f_singers f_evening a_at a_knows a_climbed a_snow a_level f_begun f_minute f_avalanches a_run a_covers a_routes a_longest a_steep a_laid a_far f_sight a_runs f_choir f_voices a_rest a_wins f_seed a_other a_kept H) (mA q)) args s 0 0 (mA q)) (F0 m 2 ls []) := by
  have hx := zc.1
  have hb := zc.2.1
  refine hw (fun x3 a_tape => ∀ (H : Heap) (locs : List Loc) (ls : Array Slot), lv_has ls 4 [(0, .ref q), (1, .int x1), (2, .int x2), (3, .int x3)] → mW E q f_code a_tape a_size a_fault a_faultPlace a_many a_lands a_evenings a_sights a_choirs f_reached f_length f_begins f_sort f_value f_word f_wrongAt f_laterFault f_laterPlace a_told a_read f_farHut f_farSinger f_good f_land f_huts f_singers f_evening a_at a_knows a_climbed a_snow a_level f_begun f_minute f_avalanches a_run a_covers a_routes a_longest a_steep a_laid a_far f_sight a_runs f_choir f_voices a_rest a_wins f_seed a_other a_kept H → va_S (mA q) s.heap H locs → W p l e rm_m_copyAll s m args below meth c H locs 0 0 (MQ below (zQv (S := (Nat → Int32) × (Nat → Int32) × (Nat → Int32) × (Nat → Int32) × (Nat → Int32) × (Nat → Int32) × (Nat → Int32) × (Nat → Int32) × (Nat → Int32)) (fun u => post u.1 u.2.1 u.2.2.1 u.2.2.2.1 u.2.2.2.2.1 u.2.2.2.2.2.1 u.2.2.2.2.2.2.1 u.2.2.2.2.2.2.2.1 u.2.2.2.2.2.2.2.2) (fun u H => mW E q f_code u.1 u.2.1 u.2.2.1 u.2.2.2.1 u.2.2.2.2.1 u.2.2.2.2.2.1 u.2.2.2.2.2.2.1 u.2.2.2.2.2.2.2.1 u.2.2.2.2.2.2.2.2 f_reached f_length f_begins f_sort f_value f_word f_wrongAt f_laterFault f_laterPlace a_told a_read f_farHut f_farSinger f_good f_land f_huts f_singers f_evening a_at a_knows a_climbed a_snow a_level f_begun f_minute f_avalanches a_run a_covers a_routes a_longest a_steep a_laid a_far f_sight a_runs f_choir f_voices a_rest a_wins f_seed a_other a_kept H) (mA q)) args s 0 0 (mA q)) (F0 m 2 ls [])) ?_ _ _ _ hl hM hS
  intro x3 a_tape hw H locs ls hl hM hS
  refine lv_iload_n hx hb dX11_copyAll_2 rfl (lv_at hl 3 rfl) ?_
  refine lv_sipush (v := (600 : Int32)) hx hb dX11_copyAll_3 (by decide) ?_
  refine lv_icmp_ge (tgt := 39) hx hb dX11_copyAll_6 (by decide) (fun hc => ?_) (fun hc => ?_)
  · have hw := hw.1 hc
    refine lv_aload_n hx hb dX11_copyAll_39 rfl (lv_at hl 0 rfl) ?_
    refine mg_11_13_0 zc hK hM dX11_copyAll_40 ?_
    refine lv_iconst (v := (1 : Int32)) hx hb dX11_copyAll_43 (by decide) ?_
    refine lv_iload_n hx hb dX11_copyAll_44 rfl (lv_at hl 1 rfl) ?_
    refine lv_iload_n hx hb dX11_copyAll_45 rfl (lv_at hl 2 rfl) ?_
    refine zSw_v [.ref (q + 2), .int (1 : Int32), .int x1, .int x2] [] zc ky_X11_copyRow kz_X11_copyRow km_11_105 (c_m_copyRow_2 l hw) (mPreS hK hM) hS rfl rfl hl.1 (Nat.le_of_ble_eq_true rfl) ⟨rfl, rfl⟩ ⟨Nat.le_of_ble_eq_true rfl, Nat.le_of_ble_eq_true rfl⟩ ⟨(Nat.zero_le _), (Nat.zero_le _)⟩ dX11_copyAll_46 (fun a_size_1 H locs hw hM hS => ?_)
    refine lv_aload_n hx hb dX11_copyAll_49 rfl (lv_at hl 0 rfl) ?_
    refine mg_11_17_0 zc hK hM dX11_copyAll_50 ?_
    refine lv_iconst (v := (1 : Int32)) hx hb dX11_copyAll_53 (by decide) ?_
    refine lv_iload_n hx hb dX11_copyAll_54 rfl (lv_at hl 1 rfl) ?_
    refine lv_iload_n hx hb dX11_copyAll_55 rfl (lv_at hl 2 rfl) ?_
    refine zSw_v [.ref (q + 3), .int (1 : Int32), .int x1, .int x2] [] zc ky_X11_copyRow kz_X11_copyRow km_11_105 (c_m_copyRow_3 l hw) (mPreS hK hM) hS rfl rfl hl.1 (Nat.le_of_ble_eq_true rfl) ⟨rfl, rfl⟩ ⟨Nat.le_of_ble_eq_true rfl, Nat.le_of_ble_eq_true rfl⟩ ⟨(Nat.zero_le _), (Nat.zero_le _)⟩ dX11_copyAll_56 (fun a_fault_1 H locs hw hM hS => ?_)
    refine lv_aload_n hx hb dX11_copyAll_59 rfl (lv_at hl 0 rfl) ?_
    refine mg_11_20_0 zc hK hM dX11_copyAll_60 ?_
    refine lv_iconst (v := (1 : Int32)) hx hb dX11_copyAll_63 (by decide) ?_
    refine lv_iload_n hx hb dX11_copyAll_64 rfl (lv_at hl 1 rfl) ?_
    refine lv_iload_n hx hb dX11_copyAll_65 rfl (lv_at hl 2 rfl) ?_
    refine zSw_v [.ref (q + 4), .int (1 : Int32), .int x1, .int x2] [] zc ky_X11_copyRow kz_X11_copyRow km_11_105 (c_m_copyRow_4 l hw) (mPreS hK hM) hS rfl rfl hl.1 (Nat.le_of_ble_eq_true rfl) ⟨rfl, rfl⟩ ⟨Nat.le_of_ble_eq_true rfl, Nat.le_of_ble_eq_true rfl⟩ ⟨(Nat.zero_le _), (Nat.zero_le _)⟩ dX11_copyAll_66 (fun a_faultPlace_1 H locs hw hM hS => ?_)
    refine lv_aload_n hx hb dX11_copyAll_69 rfl (lv_at hl 0 rfl) ?_
    refine mg_11_23_0 zc hK hM dX11_copyAll_70 ?_
    refine lv_iconst (v := (4 : Int32)) hx hb dX11_copyAll_73 (by decide) ?_
    refine lv_iload_n hx hb dX11_copyAll_74 rfl (lv_at hl 1 rfl) ?_
    refine lv_iload_n hx hb dX11_copyAll_75 rfl (lv_at hl 2 rfl) ?_
    refine zSw_v [.ref (q + 5), .int (4 : Int32), .int x1, .int x2] [] zc ky_X11_copyRow kz_X11_copyRow km_11_105 (c_m_copyRow_5 l hw) (mPreS hK hM) hS rfl rfl hl.1 (Nat.le_of_ble_eq_true rfl) ⟨rfl, rfl⟩ ⟨Nat.le_of_ble_eq_true rfl, Nat.le_of_ble_eq_true rfl⟩ ⟨(Nat.zero_le _), (Nat.zero_le _)⟩ dX11_copyAll_76 (fun a_many_1 H locs hw hM hS => ?_)
    refine lv_aload_n hx hb dX11_copyAll_79 rfl (lv_at hl 0 rfl) ?_
    refine mg_11_26_0 zc hK hM dX11_copyAll_80 ?_
    refine lv_sipush (v := (264 : Int32)) hx hb dX11_copyAll_83 (by decide) ?_
    refine lv_iload_n hx hb dX11_copyAll_86 rfl (lv_at hl 1 rfl) ?_
    refine lv_iload_n hx hb dX11_copyAll_87 rfl (lv_at hl 2 rfl) ?_
    refine zSw_v [.ref (q + 6), .int (264 : Int32), .int x1, .int x2] [] zc ky_X11_copyRow kz_X11_copyRow km_11_105 (c_m_copyRow_6 l hw) (mPreS hK hM) hS rfl rfl hl.1 (Nat.le_of_ble_eq_true rfl) ⟨rfl, rfl⟩ ⟨Nat.le_of_ble_eq_true rfl, Nat.le_of_ble_eq_true rfl⟩ ⟨(Nat.zero_le _), (Nat.zero_le _)⟩ dX11_copyAll_88 (fun a_lands_1 H locs hw hM hS => ?_)
    refine lv_aload_n hx hb dX11_copyAll_91 rfl (lv_at hl 0 rfl) ?_
    refine mg_11_29_0 zc hK hM dX11_copyAll_92 ?_
    refine lv_sipush (v := (242 : Int32)) hx hb dX11_copyAll_95 (by decide) ?_
    refine lv_iload_n hx hb dX11_copyAll_98 rfl (lv_at hl 1 rfl) ?_
    refine lv_iload_n hx hb dX11_copyAll_99 rfl (lv_at hl 2 rfl) ?_
    refine zSw_v [.ref (q + 7), .int (242 : Int32), .int x1, .int x2] [] zc ky_X11_copyRow kz_X11_copyRow km_11_105 (c_m_copyRow_7 l hw) (mPreS hK hM) hS rfl rfl hl.1 (Nat.le_of_ble_eq_true rfl) ⟨rfl, rfl⟩ ⟨Nat.le_of_ble_eq_true rfl, Nat.le_of_ble_eq_true rfl⟩ ⟨(Nat.zero_le _), (Nat.zero_le _)⟩ dX11_copyAll_100 (fun a_evenings_1 H locs hw hM hS => ?_)
    refine lv_aload_n hx hb dX11_copyAll_103 rfl (lv_at hl 0 rfl) ?_
    refine mg_11_32_0 zc hK hM dX11_copyAll_104 ?_
    refine lv_bipush (v := (62 : Int32)) hx hb dX11_copyAll_107 (by decide) ?_
    refine lv_iload_n hx hb dX11_copyAll_109 rfl (lv_at hl 1 rfl) ?_
    refine lv_iload_n hx hb dX11_copyAll_110 rfl (lv_at hl 2 rfl) ?_
    refine zSw_v [.ref (q + 8), .int (62 : Int32), .int x1, .int x2] [] zc ky_X11_copyRow kz_X11_copyRow km_11_105 (c_m_copyRow_8 l hw) (mPreS hK hM) hS rfl rfl hl.1 (Nat.le_of_ble_eq_true rfl) ⟨rfl, rfl⟩ ⟨Nat.le_of_ble_eq_true rfl, Nat.le_of_ble_eq_true rfl⟩ ⟨(Nat.zero_le _), (Nat.zero_le _)⟩ dX11_copyAll_111 (fun a_sights_1 H locs hw hM hS => ?_)
    refine lv_aload_n hx hb dX11_copyAll_114 rfl (lv_at hl 0 rfl) ?_
    refine mg_11_35_0 zc hK hM dX11_copyAll_115 ?_
    refine lv_bipush (v := (40 : Int32)) hx hb dX11_copyAll_118 (by decide) ?_
    refine lv_iload_n hx hb dX11_copyAll_120 rfl (lv_at hl 1 rfl) ?_
    refine lv_iload_n hx hb dX11_copyAll_121 rfl (lv_at hl 2 rfl) ?_
    refine zSw_v [.ref (q + 9), .int (40 : Int32), .int x1, .int x2] [] zc ky_X11_copyRow kz_X11_copyRow km_11_105 (c_m_copyRow_9 l hw) (mPreS hK hM) hS rfl rfl hl.1 (Nat.le_of_ble_eq_true rfl) ⟨rfl, rfl⟩ ⟨Nat.le_of_ble_eq_true rfl, Nat.le_of_ble_eq_true rfl⟩ ⟨(Nat.zero_le _), (Nat.zero_le _)⟩ dX11_copyAll_122 (fun a_choirs_1 H locs hw hM hS => ?_)
    exact zret_vw ⟨a_tape, a_size_1, a_fault_1, a_faultPlace_1, a_many_1, a_lands_1, a_evenings_1, a_sights_1, a_choirs_1⟩ zc hS hw hM dX11_copyAll_125
  · have hw := hw.2 hc
    refine lv_aload_n hx hb dX11_copyAll_9 rfl (lv_at hl 0 rfl) ?_
    refine mg_11_7_0 zc hK hM dX11_copyAll_10 ?_
    refine lv_sipush (v := (600 : Int32)) hx hb dX11_copyAll_13 (by decide) ?_
    refine lv_iload_n hx hb dX11_copyAll_16 rfl (lv_at hl 2 rfl) ?_
    refine lv_imul hx hb dX11_copyAll_17 ?_
    refine lv_iload_n hx hb dX11_copyAll_18 rfl (lv_at hl 3 rfl) ?_
    refine lv_iadd hx hb dX11_copyAll_19 ?_
    refine lv_aload_n hx hb dX11_copyAll_20 rfl (lv_at hl 0 rfl) ?_
    refine mg_11_7_0 zc hK hM dX11_copyAll_21 ?_
    refine lv_sipush (v := (600 : Int32)) hx hb dX11_copyAll_24 (by decide) ?_
    refine lv_iload_n hx hb dX11_copyAll_27 rfl (lv_at hl 1 rfl) ?_
    refine lv_imul hx hb dX11_copyAll_28 ?_
    refine lv_iload_n hx hb dX11_copyAll_29 rfl (lv_at hl 3 rfl) ?_
    refine lv_iadd hx hb dX11_copyAll_30 ?_
    refine mld_1 zc hK hM hw.1 dX11_copyAll_31 ?_
    have hw := hw.2
    refine lv_topi (fun v_1 ev_1 => ?_)
    have hw := hw v_1 ev_1
    refine mst_1 zc hK hM hS hw.1 dX11_copyAll_32 (fun a_tape_1 H locs ea_tape_1 hM hS => ?_)
    have hw := hw.2 a_tape_1 ea_tape_1
    obtain ⟨v_2, ev_2⟩ : ∃ y : Int32, y = x3 + (1 : Int32) := ⟨_, rfl⟩
    have hw := hw v_2 ev_2
    refine lv_iinc (v := v_2) (k := 3) (lv' := [(3, .int v_2), (0, .ref q), (1, .int x1), (2, .int x2)]) hx hb dX11_copyAll_33 hl rfl (by rw [ev_2]; rfl) (by decide) rfl (fun ls hl => ?_)
    refine lv_goto (tgt := 2) hx hb dX11_copyAll_36 (by decide) ?_
    exact hw _ _ _ (lv_sub hl [1, 2, 3, 0] rfl) hM hS
set_option maxRecDepth 20000 in
theorem t_m_copyAll_0 {p : Program} {l : Launch} {e : Env} {s : State} {m : MethodId} {args : Array Value} {below : List Frame} {meth : Method} {c : Code} {E : zE} {q : Nat} {f_code : Int32} {a_tape : Nat → Int32} {a_size : Nat → Int32} {a_fault : Nat → Int32} {a_faultPlace : Nat → Int32} {a_many : Nat → Int32} {a_lands : Nat → Int32} {a_evenings : Nat → Int32} {a_sights : Nat → Int32} {a_choirs : Nat → Int32} {f_reached : Int32} {f_length : Int32} {f_begins : Int32} {f_sort : Int32} {f_value : Int32} {f_word : Int64} {f_wrongAt : Int32} {f_laterFault : Int32} {f_laterPlace : Int32} {a_told : Nat → Int32} {a_read : Nat → Int32} {f_farHut : Int32} {f_farSinger : Int32} {f_good : Int32} {f_land : Int32} {f_huts : Int32} {f_singers : Int32} {f_evening : Int32} {a_at : Nat → Int32} {a_knows : Nat → Int32} {a_climbed : Nat → Int32} {a_snow : Nat → Int32} {a_level : Nat → Int32} {f_begun : Int32} {f_minute : Int32} {f_avalanches : Int32} {a_run : Nat → Int32} {a_covers : Nat → Int32} {a_routes : Nat → Int32} {a_longest : Nat → Int32} {a_steep : Nat → Int32} {a_laid : Nat → Int32} {a_far : Nat → Int32} {f_sight : Int32} {a_runs : Nat → Int32} {f_choir : Int32} {f_voices : Int32} {a_rest : Nat → Int64} {a_wins : Nat → Int32} {f_seed : Int32} {a_other : Nat → Int32} {a_kept : Nat → Int32} {post : (Nat → Int32) → (Nat → Int32) → (Nat → Int32) → (Nat → Int32) → (Nat → Int32) → (Nat → Int32) → (Nat → Int32) → (Nat → Int32) → (Nat → Int32) → Prop} {x1 : Int32} {x2 : Int32} {ls : Array Slot} {H : Heap} {locs : List Loc}
    (zc : zC p s m args meth c cX11_copyAll 4 RX11 none)
    (hK : zK E s)
    (hM : mW E q f_code a_tape a_size a_fault a_faultPlace a_many a_lands a_evenings a_sights a_choirs f_reached f_length f_begins f_sort f_value f_word f_wrongAt f_laterFault f_laterPlace a_told a_read f_farHut f_farSinger f_good f_land f_huts f_singers f_evening a_at a_knows a_climbed a_snow a_level f_begun f_minute f_avalanches a_run a_covers a_routes a_longest a_steep a_laid a_far f_sight a_runs f_choir f_voices a_rest a_wins f_seed a_other a_kept H)
    (hS : va_S (mA q) s.heap H locs)
    (hl : lv_has ls 4 [(0, .ref q), (1, .int x1), (2, .int x2)])
    (hw : q_m_copyAll_0 a_tape a_size a_fault a_faultPlace a_many a_lands a_evenings a_sights a_choirs x1 x2 post) :
    W p l e rm_m_copyAll s m args below meth c H locs 0 0 (MQ below (zQv (S := (Nat → Int32) × (Nat → Int32) × (Nat → Int32) × (Nat → Int32) × (Nat → Int32) × (Nat → Int32) × (Nat → Int32) × (Nat → Int32) × (Nat → Int32)) (fun u => post u.1 u.2.1 u.2.2.1 u.2.2.2.1 u.2.2.2.2.1 u.2.2.2.2.2.1 u.2.2.2.2.2.2.1 u.2.2.2.2.2.2.2.1 u.2.2.2.2.2.2.2.2) (fun u H => mW E q f_code u.1 u.2.1 u.2.2.1 u.2.2.2.1 u.2.2.2.2.1 u.2.2.2.2.2.1 u.2.2.2.2.2.2.1 u.2.2.2.2.2.2.2.1 u.2.2.2.2.2.2.2.2 f_reached f_length f_begins f_sort f_value f_word f_wrongAt f_laterFault f_laterPlace a_told a_read f_farHut f_farSinger f_good f_land f_huts f_singers f_evening a_at a_knows a_climbed a_snow a_level f_begun f_minute f_avalanches a_run a_covers a_routes a_longest a_steep a_laid a_far f_sight a_runs f_choir f_voices a_rest a_wins f_seed a_other a_kept H) (mA q)) args s 0 0 (mA q)) (F0 m 0 ls []) := by
  have hx := zc.1
  have hb := zc.2.1
  refine lv_iconst (v := (0 : Int32)) hx hb dX11_copyAll_0 (by decide) ?_
  refine lv_istore_n (lv' := [(3, .int (0 : Int32)), (0, .ref q), (1, .int x1), (2, .int x2)]) hx hb dX11_copyAll_1 rfl hl (by decide) rfl (fun ls hl => ?_)
  exact t_m_copyAll_2 zc hK hM hS  (lv_sub hl [1, 2, 3, 0] rfl) hw
set_option maxRecDepth 20000 in
theorem c_m_copyAll (l : Launch) {E : zE} {q : Nat} {f_code : Int32} {a_tape : Nat → Int32} {a_size : Nat → Int32} {a_fault : Nat → Int32} {a_faultPlace : Nat → Int32} {a_many : Nat → Int32} {a_lands : Nat → Int32} {a_evenings : Nat → Int32} {a_sights : Nat → Int32} {a_choirs : Nat → Int32} {f_reached : Int32} {f_length : Int32} {f_begins : Int32} {f_sort : Int32} {f_value : Int32} {f_word : Int64} {f_wrongAt : Int32} {f_laterFault : Int32} {f_laterPlace : Int32} {a_told : Nat → Int32} {a_read : Nat → Int32} {f_farHut : Int32} {f_farSinger : Int32} {f_good : Int32} {f_land : Int32} {f_huts : Int32} {f_singers : Int32} {f_evening : Int32} {a_at : Nat → Int32} {a_knows : Nat → Int32} {a_climbed : Nat → Int32} {a_snow : Nat → Int32} {a_level : Nat → Int32} {f_begun : Int32} {f_minute : Int32} {f_avalanches : Int32} {a_run : Nat → Int32} {a_covers : Nat → Int32} {a_routes : Nat → Int32} {a_longest : Nat → Int32} {a_steep : Nat → Int32} {a_laid : Nat → Int32} {a_far : Nat → Int32} {f_sight : Int32} {a_runs : Nat → Int32} {f_choir : Int32} {f_voices : Int32} {a_rest : Nat → Int64} {a_wins : Nat → Int32} {f_seed : Int32} {a_other : Nat → Int32} {a_kept : Nat → Int32} {x1 : Int32} {x2 : Int32} {post : (Nat → Int32) → (Nat → Int32) → (Nat → Int32) → (Nat → Int32) → (Nat → Int32) → (Nat → Int32) → (Nat → Int32) → (Nat → Int32) → (Nat → Int32) → Prop} (hw : q_m_copyAll_0 a_tape a_size a_fault a_faultPlace a_many a_lands a_evenings a_sights a_choirs x1 x2 post) : Met l yX11_copyAll (Cond.code yX11_copyAll cX11_copyAll 4 none :: zb) rm_m_copyAll (va_Pc [.ref q, .int x1, .int x2] (fun U => mW E q f_code a_tape a_size a_fault a_faultPlace a_many a_lands a_evenings a_sights a_choirs f_reached f_length f_begins f_sort f_value f_word f_wrongAt f_laterFault f_laterPlace a_told a_read f_farHut f_farSinger f_good f_land f_huts f_singers f_evening a_at a_knows a_climbed a_snow a_level f_begun f_minute f_avalanches a_run a_covers a_routes a_longest a_steep a_laid a_far f_sight a_runs f_choir f_voices a_rest a_wins f_seed a_other a_kept U.heap ∧ zK E U)) (zQv (S := (Nat → Int32) × (Nat → Int32) × (Nat → Int32) × (Nat → Int32) × (Nat → Int32) × (Nat → Int32) × (Nat → Int32) × (Nat → Int32) × (Nat → Int32)) (fun u => post u.1 u.2.1 u.2.2.1 u.2.2.2.1 u.2.2.2.2.1 u.2.2.2.2.2.1 u.2.2.2.2.2.2.1 u.2.2.2.2.2.2.2.1 u.2.2.2.2.2.2.2.2) (fun u H => mW E q f_code u.1 u.2.1 u.2.2.1 u.2.2.2.1 u.2.2.2.2.1 u.2.2.2.2.2.1 u.2.2.2.2.2.2.1 u.2.2.2.2.2.2.2.1 u.2.2.2.2.2.2.2.2 f_reached f_length f_begins f_sort f_value f_word f_wrongAt f_laterFault f_laterPlace a_told a_read f_farHut f_farSinger f_good f_land f_huts f_singers f_evening a_at a_knows a_climbed a_snow a_level f_begun f_minute f_avalanches a_run a_covers a_routes a_longest a_steep a_laid a_far f_sight a_runs f_choir f_voices a_rest a_wins f_seed a_other a_kept H) (mA q)) 0 0 (mA q) := by
  refine Met.ofW (cc := cX11_copyAll) (maxL := 4) (ret := none) (by decide) rfl ?_
  intro p e s m args below meth c s₁ B hml hv
  obtain ⟨rfl, hM, hK⟩ := hv
  have zc := zc_of B hml
  have hl := lv_entry ([.ref q, .int x1, .int x2]) (n := 4) (Nat.le_of_ble_eq_true rfl)
  rw [lg_entry_eq]
  generalize (lg_sl ([.ref q, .int x1, .int x2]) ++ List.replicate (4 - (lg_sl ([.ref q, .int x1, .int x2])).length) Slot.unset).toArray = ls at hl ⊢
  have hl : lv_has ls 4 [(0, .ref q), (1, .int x1), (2, .int x2)] := hl
  exact t_m_copyAll_0 zc hK hM va_S.rf (lv_sub hl [0, 1, 2] rfl) hw
-- m_is
abbrev rm_m_is : Room := { frames := 1, cells := 0, slots := 0, locals := 22 }
def q_m_is_0 (a_many : Nat → Int32) (x1 : Int32) (x2 : Int32) (post : Int32 → Prop) : Prop :=
  vp_in x1 16 ∧ (q_m_in_0 x2 (0 : Int32) ((a_many (Int32.toNatClampNeg x1)) - (1 : Int32)) (fun r_1 => narrow .boolean (.int r_1) = .int r_1 ∧ post r_1))
set_option maxRecDepth 20000 in
theorem t_m_is_0 {p : Program} {l : Launch} {e : Env} {s : State} {m : MethodId} {args : Array Value} {below : List Frame} {meth : Method} {c : Code} {E : zE} {q : Nat} {f_code : Int32} {a_tape : Nat → Int32} {a_size : Nat → Int32} {a_fault : Nat → Int32} {a_faultPlace : Nat → Int32} {a_many : Nat → Int32} {a_lands : Nat → Int32} {a_evenings : Nat → Int32} {a_sights : Nat → Int32} {a_choirs : Nat → Int32} {f_reached : Int32} {f_length : Int32} {f_begins : Int32} {f_sort : Int32} {f_value : Int32} {f_word : Int64} {f_wrongAt : Int32} {f_laterFault : Int32} {f_laterPlace : Int32} {a_told : Nat → Int32} {a_read : Nat → Int32} {f_farHut : Int32} {f_farSinger : Int32} {f_good : Int32} {f_land : Int32} {f_huts : Int32} {f_singers : Int32} {f_evening : Int32} {a_at : Nat → Int32} {a_knows : Nat → Int32} {a_climbed : Nat → Int32} {a_snow : Nat → Int32} {a_level : Nat → Int32} {f_begun : Int32} {f_minute : Int32} {f_avalanches : Int32} {a_run : Nat → Int32} {a_covers : Nat → Int32} {a_routes : Nat → Int32} {a_longest : Nat → Int32} {a_steep : Nat → Int32} {a_laid : Nat → Int32} {a_far : Nat → Int32} {f_sight : Int32} {a_runs : Nat → Int32} {f_choir : Int32} {f_voices : Int32} {a_rest : Nat → Int64} {a_wins : Nat → Int32} {f_seed : Int32} {a_other : Nat → Int32} {a_kept : Nat → Int32} {post : Int32 → Prop} {x1 : Int32} {x2 : Int32} {ls : Array Slot}
    (zc : zC p s m args meth c cX11_is 3 RX11 (some .boolean))
    (hK : zK E s)
    (hM : mW E q f_code a_tape a_size a_fault a_faultPlace a_many a_lands a_evenings a_sights a_choirs f_reached f_length f_begins f_sort f_value f_word f_wrongAt f_laterFault f_laterPlace a_told a_read f_farHut f_farSinger f_good f_land f_huts f_singers f_evening a_at a_knows a_climbed a_snow a_level f_begun f_minute f_avalanches a_run a_covers a_routes a_longest a_steep a_laid a_far f_sight a_runs f_choir f_voices a_rest a_wins f_seed a_other a_kept s.heap)
    (hl : lv_has ls 3 [(0, .ref q), (1, .int x1), (2, .int x2)])
    (hw : q_m_is_0 a_many x1 x2 post) :
    W p l e rm_m_is s m args below meth c s.heap [] 0 0 (MQ below (vp_Si post) args s 0 0 (fun _ => False)) (F0 m 0 ls []) := by
  have hx := zc.1
  have hb := zc.2.1
  refine lv_iload_n hx hb dX11_is_0 rfl (lv_at hl 2 rfl) ?_
  refine lv_iconst (v := (0 : Int32)) hx hb dX11_is_1 (by decide) ?_
  refine lv_aload_n hx hb dX11_is_2 rfl (lv_at hl 0 rfl) ?_
  refine mg_11_23_0 zc hK hM dX11_is_3 ?_
  refine lv_iload_n hx hb dX11_is_6 rfl (lv_at hl 1 rfl) ?_
  refine mld_5 zc hK hM hw.1 dX11_is_7 ?_
  have hw := hw.2
  refine lv_iconst (v := (1 : Int32)) hx hb dX11_is_8 (by decide) ?_
  refine lv_isub hx hb dX11_is_9 ?_
  refine zS_i [.int x2, .int (0 : Int32), .int ((a_many (Int32.toNatClampNeg x1)) - (1 : Int32))] [] zc ky_X11_in kz_X11_in km_11_109 (c_m_in l hw) (zPre0 _) rfl rfl hl.1 (Nat.le_of_ble_eq_true rfl) ⟨rfl, rfl⟩ ⟨Nat.le_of_ble_eq_true rfl, Nat.le_of_ble_eq_true rfl⟩ ⟨(Nat.zero_le _), (Nat.zero_le _)⟩ dX11_is_10 (fun r_1 hw => ?_)
  exact zret_z zc hw.1 hw.2 dX11_is_13
set_option maxRecDepth 20000 in
theorem c_m_is (l : Launch) {E : zE} {q : Nat} {f_code : Int32} {a_tape : Nat → Int32} {a_size : Nat → Int32} {a_fault : Nat → Int32} {a_faultPlace : Nat → Int32} {a_many : Nat → Int32} {a_lands : Nat → Int32} {a_evenings : Nat → Int32} {a_sights : Nat → Int32} {a_choirs : Nat → Int32} {f_reached : Int32} {f_length : Int32} {f_begins : Int32} {f_sort : Int32} {f_value : Int32} {f_word : Int64} {f_wrongAt : Int32} {f_laterFault : Int32} {f_laterPlace : Int32} {a_told : Nat → Int32} {a_read : Nat → Int32} {f_farHut : Int32} {f_farSinger : Int32} {f_good : Int32} {f_land : Int32} {f_huts : Int32} {f_singers : Int32} {f_evening : Int32} {a_at : Nat → Int32} {a_knows : Nat → Int32} {a_climbed : Nat → Int32} {a_snow : Nat → Int32} {a_level : Nat → Int32} {f_begun : Int32} {f_minute : Int32} {f_avalanches : Int32} {a_run : Nat → Int32} {a_covers : Nat → Int32} {a_routes : Nat → Int32} {a_longest : Nat → Int32} {a_steep : Nat → Int32} {a_laid : Nat → Int32} {a_far : Nat → Int32} {f_sight : Int32} {a_runs : Nat → Int32} {f_choir : Int32} {f_voices : Int32} {a_rest : Nat → Int64} {a_wins : Nat → Int32} {f_seed : Int32} {a_other : Nat → Int32} {a_kept : Nat → Int32} {x1 : Int32} {x2 : Int32} {post : Int32 → Prop} (hw : q_m_is_0 a_many x1 x2 post) : Met l yX11_is (Cond.code yX11_is cX11_is 3 (some .boolean) :: zb) rm_m_is (va_Pc [.ref q, .int x1, .int x2] (fun U => mW E q f_code a_tape a_size a_fault a_faultPlace a_many a_lands a_evenings a_sights a_choirs f_reached f_length f_begins f_sort f_value f_word f_wrongAt f_laterFault f_laterPlace a_told a_read f_farHut f_farSinger f_good f_land f_huts f_singers f_evening a_at a_knows a_climbed a_snow a_level f_begun f_minute f_avalanches a_run a_covers a_routes a_longest a_steep a_laid a_far f_sight a_runs f_choir f_voices a_rest a_wins f_seed a_other a_kept U.heap ∧ zK E U)) (vp_Si post) 0 0 (fun _ => False) := by
  refine Met.ofW (cc := cX11_is) (maxL := 3) (ret := (some .boolean)) (by decide) rfl ?_
  intro p e s m args below meth c s₁ B hml hv
  obtain ⟨rfl, hM, hK⟩ := hv
  have zc := zc_of B hml
  have hl := lv_entry ([.ref q, .int x1, .int x2]) (n := 3) (Nat.le_of_ble_eq_true rfl)
  rw [lg_entry_eq]
  generalize (lg_sl ([.ref q, .int x1, .int x2]) ++ List.replicate (3 - (lg_sl ([.ref q, .int x1, .int x2])).length) Slot.unset).toArray = ls at hl ⊢
  have hl : lv_has ls 3 [(0, .ref q), (1, .int x1), (2, .int x2)] := hl
  exact t_m_is_0 zc hK hM (lv_sub hl [0, 1, 2] rfl) hw
-- m_four
abbrev rm_m_four : Room := { frames := 0, cells := 0, slots := 0, locals := 0 }
def q_m_four_3 (a_tape : Nat → Int32) (a_size : Nat → Int32) (x1 : Int32) (x2 : Int32) (post : (Nat → Int32) → (Nat → Int32) → Prop) : Prop :=
  ∀ P3 : Int32 → (Nat → Int32) → (Nat → Int32) → Prop, (∀ (x2 : Int32) (a_tape : Nat → Int32) (a_size : Nat → Int32), ((x2 < 0 → (post a_tape a_size)) ∧ (¬ x2 < 0 → (∀ v_1 : Int32, v_1 = (Int32.toInt8 (x1 >>> (x2 &&& 31))).toInt32 → (vp_in (a_size (Int32.toNatClampNeg (0 : Int32))) 2400 ∧ (∀ a_tape_1 : Nat → Int32, a_tape_1 = upd a_tape (Int32.toNatClampNeg (a_size (Int32.toNatClampNeg (0 : Int32)))) (vp_nar .byte v_1) → (∀ v_2 : Int32, v_2 = ((a_size (Int32.toNatClampNeg (0 : Int32))) + (1 : Int32)) → (∀ a_size_1 : Nat → Int32, a_size_1 = upd a_size (Int32.toNatClampNeg (0 : Int32)) v_2 → (∀ v_3 : Int32, v_3 = x2 + (-8 : Int32) → (P3 v_3 a_tape_1 a_size_1))))))))) → P3 x2 a_tape a_size) → P3 x2 a_tape a_size
def q_m_four_0 (a_tape : Nat → Int32) (a_size : Nat → Int32) (x1 : Int32) (post : (Nat → Int32) → (Nat → Int32) → Prop) : Prop :=
  q_m_four_3 a_tape a_size x1 (24 : Int32) post
set_option maxRecDepth 20000 in
theorem t_m_four_3 {p : Program} {l : Launch} {e : Env} {s : State} {m : MethodId} {args : Array Value} {below : List Frame} {meth : Method} {c : Code} {E : zE} {q : Nat} {f_code : Int32} {a_tape : Nat → Int32} {a_size : Nat → Int32} {a_fault : Nat → Int32} {a_faultPlace : Nat → Int32} {a_many : Nat → Int32} {a_lands : Nat → Int32} {a_evenings : Nat → Int32} {a_sights : Nat → Int32} {a_choirs : Nat → Int32} {f_reached : Int32} {f_length : Int32} {f_begins : Int32} {f_sort : Int32} {f_value : Int32} {f_word : Int64} {f_wrongAt : Int32} {f_laterFault : Int32} {f_laterPlace : Int32} {a_told : Nat → Int32} {a_read : Nat → Int32} {f_farHut : Int32} {f_farSinger : Int32} {f_good : Int32} {f_land : Int32} {f_huts : Int32} {f_singers : Int32} {f_evening : Int32} {a_at : Nat → Int32} {a_knows : Nat → Int32} {a_climbed : Nat → Int32} {a_snow : Nat → Int32} {a_level : Nat → Int32} {f_begun : Int32} {f_minute : Int32} {f_avalanches : Int32} {a_run : Nat → Int32} {a_covers : Nat → Int32} {a_routes : Nat → Int32} {a_longest : Nat → Int32} {a_steep : Nat → Int32} {a_laid : Nat → Int32} {a_far : Nat → Int32} {f_sight : Int32} {a_runs : Nat → Int32} {f_choir : Int32} {f_voices : Int32} {a_rest : Nat → Int64} {a_wins : Nat → Int32} {f_seed : Int32} {a_other : Nat → Int32} {a_kept : Nat → Int32} {post : (Nat → Int32) → (Nat → Int32) → Prop} {x1 : Int32} {x2 : Int32} {ls : Array Slot} {H : Heap} {locs : List Loc}
    (zc : zC p s m args meth c cX11_four 3 RX11 none)
    (hK : zK E s)
    (hM : mW E q f_code a_tape a_size a_fault a_faultPlace a_many a_lands a_evenings a_sights a_choirs f_reached f_length f_begins f_sort f_value f_word f_wrongAt f_laterFault f_laterPlace a_told a_read f_farHut f_farSinger f_good f_land f_huts f_singers f_evening a_at a_knows a_climbed a_snow a_level f_begun f_minute f_avalanches a_run a_covers a_routes a_longest a_steep a_laid a_far f_sight a_runs f_choir f_voices a_rest a_wins f_seed a_other a_kept H)
    (hS : va_S (mA q) s.heap H locs)
    (hl : lv_has ls 3 [(0, .ref q), (1, .int x1), (2, .int x2)])
    (hw : q_m_four_3 a_tape a_size x1 x2 post) :
    W p l e rm_m_four s m args below meth c H locs 0 0 (MQ below (zQv (S := (Nat → Int32) × (Nat → Int32)) (fun u => post u.1 u.2) (fun u H => mW E q f_code u.1 u.2 a_fault a_faultPlace a_many a_lands a_evenings a_sights a_choirs f_reached f_length f_begins f_sort f_value f_word f_wrongAt f_laterFault f_laterPlace a_told a_read f_farHut f_farSinger f_good f_land f_huts f_singers f_evening a_at a_knows a_climbed a_snow a_level f_begun f_minute f_avalanches a_run a_covers a_routes a_longest a_steep a_laid a_far f_sight a_runs f_choir f_voices a_rest a_wins f_seed a_other a_kept H) (mA q)) args s 0 0 (mA q)) (F0 m 3 ls []) := by
  have hx := zc.1
  have hb := zc.2.1
  refine hw (fun x2 a_tape a_size => ∀ (H : Heap) (locs : List Loc) (ls : Array Slot), lv_has ls 3 [(0, .ref q), (1, .int x1), (2, .int x2)] → mW E q f_code a_tape a_size a_fault a_faultPlace a_many a_lands a_evenings a_sights a_choirs f_reached f_length f_begins f_sort f_value f_word f_wrongAt f_laterFault f_laterPlace a_told a_read f_farHut f_farSinger f_good f_land f_huts f_singers f_evening a_at a_knows a_climbed a_snow a_level f_begun f_minute f_avalanches a_run a_covers a_routes a_longest a_steep a_laid a_far f_sight a_runs f_choir f_voices a_rest a_wins f_seed a_other a_kept H → va_S (mA q) s.heap H locs → W p l e rm_m_four s m args below meth c H locs 0 0 (MQ below (zQv (S := (Nat → Int32) × (Nat → Int32)) (fun u => post u.1 u.2) (fun u H => mW E q f_code u.1 u.2 a_fault a_faultPlace a_many a_lands a_evenings a_sights a_choirs f_reached f_length f_begins f_sort f_value f_word f_wrongAt f_laterFault f_laterPlace a_told a_read f_farHut f_farSinger f_good f_land f_huts f_singers f_evening a_at a_knows a_climbed a_snow a_level f_begun f_minute f_avalanches a_run a_covers a_routes a_longest a_steep a_laid a_far f_sight a_runs f_choir f_voices a_rest a_wins f_seed a_other a_kept H) (mA q)) args s 0 0 (mA q)) (F0 m 3 ls [])) ?_ _ _ _ hl hM hS
  intro x2 a_tape a_size hw H locs ls hl hM hS
  refine lv_iload_n hx hb dX11_four_3 rfl (lv_at hl 2 rfl) ?_
  refine lv_if_lt (tgt := 38) hx hb dX11_four_4 (by decide) (fun hc => ?_) (fun hc => ?_)
  · have hw := hw.1 hc
    exact zret_vw ⟨a_tape, a_size⟩ zc hS hw hM dX11_four_38
  · have hw := hw.2 hc
    refine lv_aload_n hx hb dX11_four_7 rfl (lv_at hl 0 rfl) ?_
    refine mg_11_7_0 zc hK hM dX11_four_8 ?_
    refine lv_aload_n hx hb dX11_four_11 rfl (lv_at hl 0 rfl) ?_
    refine mg_11_13_0 zc hK hM dX11_four_12 ?_
    refine lv_iconst (v := (0 : Int32)) hx hb dX11_four_15 (by decide) ?_
    refine mld_2 zc hK hM (by unfold vp_in; decide) dX11_four_16 ?_
    refine lv_iload_n hx hb dX11_four_17 rfl (lv_at hl 1 rfl) ?_
    refine lv_iload_n hx hb dX11_four_18 rfl (lv_at hl 2 rfl) ?_
    refine lv_ishr hx hb dX11_four_19 ?_
    refine lv_i2b hx hb dX11_four_20 rfl ?_
    refine lv_topi (fun v_1 ev_1 => ?_)
    have hw := hw v_1 ev_1
    refine mst_1 zc hK hM hS hw.1 dX11_four_21 (fun a_tape_1 H locs ea_tape_1 hM hS => ?_)
    have hw := hw.2 a_tape_1 ea_tape_1
    refine lv_aload_n hx hb dX11_four_22 rfl (lv_at hl 0 rfl) ?_
    refine mg_11_13_0 zc hK hM dX11_four_23 ?_
    refine lv_iconst (v := (0 : Int32)) hx hb dX11_four_26 (by decide) ?_
    refine lv_dup2_11 hx hb dX11_four_27 rfl rfl ?_
    refine mld_2 zc hK hM (by unfold vp_in; decide) dX11_four_28 ?_
    refine lv_iconst (v := (1 : Int32)) hx hb dX11_four_29 (by decide) ?_
    refine lv_iadd hx hb dX11_four_30 ?_
    refine lv_topi (fun v_2 ev_2 => ?_)
    have hw := hw v_2 ev_2
    refine mst_2 zc hK hM hS (by unfold vp_in; decide) dX11_four_31 (fun a_size_1 H locs ea_size_1 hM hS => ?_)
    have hw := hw a_size_1 ea_size_1
    obtain ⟨v_3, ev_3⟩ : ∃ y : Int32, y = x2 + (-8 : Int32) := ⟨_, rfl⟩
    have hw := hw v_3 ev_3
    refine lv_iinc (v := v_3) (k := 2) (lv' := [(2, .int v_3), (0, .ref q), (1, .int x1)]) hx hb dX11_four_32 hl rfl (by rw [ev_3]; rfl) (by decide) rfl (fun ls hl => ?_)
    refine lv_goto (tgt := 3) hx hb dX11_four_35 (by decide) ?_
    exact hw _ _ _ (lv_sub hl [1, 2, 0] rfl) hM hS
set_option maxRecDepth 20000 in
theorem t_m_four_0 {p : Program} {l : Launch} {e : Env} {s : State} {m : MethodId} {args : Array Value} {below : List Frame} {meth : Method} {c : Code} {E : zE} {q : Nat} {f_code : Int32} {a_tape : Nat → Int32} {a_size : Nat → Int32} {a_fault : Nat → Int32} {a_faultPlace : Nat → Int32} {a_many : Nat → Int32} {a_lands : Nat → Int32} {a_evenings : Nat → Int32} {a_sights : Nat → Int32} {a_choirs : Nat → Int32} {f_reached : Int32} {f_length : Int32} {f_begins : Int32} {f_sort : Int32} {f_value : Int32} {f_word : Int64} {f_wrongAt : Int32} {f_laterFault : Int32} {f_laterPlace : Int32} {a_told : Nat → Int32} {a_read : Nat → Int32} {f_farHut : Int32} {f_farSinger : Int32} {f_good : Int32} {f_land : Int32} {f_huts : Int32} {f_singers : Int32} {f_evening : Int32} {a_at : Nat → Int32} {a_knows : Nat → Int32} {a_climbed : Nat → Int32} {a_snow : Nat → Int32} {a_level : Nat → Int32} {f_begun : Int32} {f_minute : Int32} {f_avalanches : Int32} {a_run : Nat → Int32} {a_covers : Nat → Int32} {a_routes : Nat → Int32} {a_longest : Nat → Int32} {a_steep : Nat → Int32} {a_laid : Nat → Int32} {a_far : Nat → Int32} {f_sight : Int32} {a_runs : Nat → Int32} {f_choir : Int32} {f_voices : Int32} {a_rest : Nat → Int64} {a_wins : Nat → Int32} {f_seed : Int32} {a_other : Nat → Int32} {a_kept : Nat → Int32} {post : (Nat → Int32) → (Nat → Int32) → Prop} {x1 : Int32} {ls : Array Slot} {H : Heap} {locs : List Loc}
    (zc : zC p s m args meth c cX11_four 3 RX11 none)
    (hK : zK E s)
    (hM : mW E q f_code a_tape a_size a_fault a_faultPlace a_many a_lands a_evenings a_sights a_choirs f_reached f_length f_begins f_sort f_value f_word f_wrongAt f_laterFault f_laterPlace a_told a_read f_farHut f_farSinger f_good f_land f_huts f_singers f_evening a_at a_knows a_climbed a_snow a_level f_begun f_minute f_avalanches a_run a_covers a_routes a_longest a_steep a_laid a_far f_sight a_runs f_choir f_voices a_rest a_wins f_seed a_other a_kept H)
    (hS : va_S (mA q) s.heap H locs)
    (hl : lv_has ls 3 [(0, .ref q), (1, .int x1)])
    (hw : q_m_four_0 a_tape a_size x1 post) :
    W p l e rm_m_four s m args below meth c H locs 0 0 (MQ below (zQv (S := (Nat → Int32) × (Nat → Int32)) (fun u => post u.1 u.2) (fun u H => mW E q f_code u.1 u.2 a_fault a_faultPlace a_many a_lands a_evenings a_sights a_choirs f_reached f_length f_begins f_sort f_value f_word f_wrongAt f_laterFault f_laterPlace a_told a_read f_farHut f_farSinger f_good f_land f_huts f_singers f_evening a_at a_knows a_climbed a_snow a_level f_begun f_minute f_avalanches a_run a_covers a_routes a_longest a_steep a_laid a_far f_sight a_runs f_choir f_voices a_rest a_wins f_seed a_other a_kept H) (mA q)) args s 0 0 (mA q)) (F0 m 0 ls []) := by
  have hx := zc.1
  have hb := zc.2.1
  refine lv_bipush (v := (24 : Int32)) hx hb dX11_four_0 (by decide) ?_
  refine lv_istore_n (lv' := [(2, .int (24 : Int32)), (0, .ref q), (1, .int x1)]) hx hb dX11_four_2 rfl hl (by decide) rfl (fun ls hl => ?_)
  exact t_m_four_3 zc hK hM hS  (lv_sub hl [1, 2, 0] rfl) hw
set_option maxRecDepth 20000 in
theorem c_m_four (l : Launch) {E : zE} {q : Nat} {f_code : Int32} {a_tape : Nat → Int32} {a_size : Nat → Int32} {a_fault : Nat → Int32} {a_faultPlace : Nat → Int32} {a_many : Nat → Int32} {a_lands : Nat → Int32} {a_evenings : Nat → Int32} {a_sights : Nat → Int32} {a_choirs : Nat → Int32} {f_reached : Int32} {f_length : Int32} {f_begins : Int32} {f_sort : Int32} {f_value : Int32} {f_word : Int64} {f_wrongAt : Int32} {f_laterFault : Int32} {f_laterPlace : Int32} {a_told : Nat → Int32} {a_read : Nat → Int32} {f_farHut : Int32} {f_farSinger : Int32} {f_good : Int32} {f_land : Int32} {f_huts : Int32} {f_singers : Int32} {f_evening : Int32} {a_at : Nat → Int32} {a_knows : Nat → Int32} {a_climbed : Nat → Int32} {a_snow : Nat → Int32} {a_level : Nat → Int32} {f_begun : Int32} {f_minute : Int32} {f_avalanches : Int32} {a_run : Nat → Int32} {a_covers : Nat → Int32} {a_routes : Nat → Int32} {a_longest : Nat → Int32} {a_steep : Nat → Int32} {a_laid : Nat → Int32} {a_far : Nat → Int32} {f_sight : Int32} {a_runs : Nat → Int32} {f_choir : Int32} {f_voices : Int32} {a_rest : Nat → Int64} {a_wins : Nat → Int32} {f_seed : Int32} {a_other : Nat → Int32} {a_kept : Nat → Int32} {x1 : Int32} {post : (Nat → Int32) → (Nat → Int32) → Prop} (hw : q_m_four_0 a_tape a_size x1 post) : Met l yX11_four (Cond.code yX11_four cX11_four 3 none :: zb) rm_m_four (va_Pc [.ref q, .int x1] (fun U => mW E q f_code a_tape a_size a_fault a_faultPlace a_many a_lands a_evenings a_sights a_choirs f_reached f_length f_begins f_sort f_value f_word f_wrongAt f_laterFault f_laterPlace a_told a_read f_farHut f_farSinger f_good f_land f_huts f_singers f_evening a_at a_knows a_climbed a_snow a_level f_begun f_minute f_avalanches a_run a_covers a_routes a_longest a_steep a_laid a_far f_sight a_runs f_choir f_voices a_rest a_wins f_seed a_other a_kept U.heap ∧ zK E U)) (zQv (S := (Nat → Int32) × (Nat → Int32)) (fun u => post u.1 u.2) (fun u H => mW E q f_code u.1 u.2 a_fault a_faultPlace a_many a_lands a_evenings a_sights a_choirs f_reached f_length f_begins f_sort f_value f_word f_wrongAt f_laterFault f_laterPlace a_told a_read f_farHut f_farSinger f_good f_land f_huts f_singers f_evening a_at a_knows a_climbed a_snow a_level f_begun f_minute f_avalanches a_run a_covers a_routes a_longest a_steep a_laid a_far f_sight a_runs f_choir f_voices a_rest a_wins f_seed a_other a_kept H) (mA q)) 0 0 (mA q) := by
  refine Met.ofW (cc := cX11_four) (maxL := 3) (ret := none) (by decide) rfl ?_
  intro p e s m args below meth c s₁ B hml hv
  obtain ⟨rfl, hM, hK⟩ := hv
  have zc := zc_of B hml
  have hl := lv_entry ([.ref q, .int x1]) (n := 3) (Nat.le_of_ble_eq_true rfl)
  rw [lg_entry_eq]
  generalize (lg_sl ([.ref q, .int x1]) ++ List.replicate (3 - (lg_sl ([.ref q, .int x1])).length) Slot.unset).toArray = ls at hl ⊢
  have hl : lv_has ls 3 [(0, .ref q), (1, .int x1)] := hl
  exact t_m_four_0 zc hK hM va_S.rf (lv_sub hl [0, 1] rfl) hw
-- m_feed
abbrev rm_m_feed : Room := { frames := 1, cells := 0, slots := 0, locals := 22 }
def q_m_feed_0 (f_code : Int32) (a_tape : Nat → Int32) (a_size : Nat → Int32) (x1 : Int32) (x2 : Int32) (x3 : Int32) (x4 : Int32) (x5 : Int32) (post : Int32 → (Int32) → (Nat → Int32) → (Nat → Int32) → Prop) : Prop :=
  (((a_size (Int32.toNatClampNeg (0 : Int32))) + (20 : Int32)) ≤ (600 : Int32) → (q_m_four_0 a_tape a_size x1 (fun a_tape_1 a_size_1 => q_m_four_0 a_tape_1 a_size_1 x2 (fun a_tape_2 a_size_2 => q_m_four_0 a_tape_2 a_size_2 x3 (fun a_tape_3 a_size_3 => q_m_four_0 a_tape_3 a_size_3 x4 (fun a_tape_4 a_size_4 => q_m_four_0 a_tape_4 a_size_4 x5 (fun a_tape_5 a_size_5 => post (a_size_5 (Int32.toNatClampNeg (0 : Int32))) (0 : Int32) a_tape_5 a_size_5))))))) ∧ (¬ ((a_size (Int32.toNatClampNeg (0 : Int32))) + (20 : Int32)) ≤ (600 : Int32) → (post (-1 : Int32) (0 : Int32) a_tape a_size))
set_option maxRecDepth 20000 in
theorem t_m_feed_0 {p : Program} {l : Launch} {e : Env} {s : State} {m : MethodId} {args : Array Value} {below : List Frame} {meth : Method} {c : Code} {E : zE} {q : Nat} {f_code : Int32} {a_tape : Nat → Int32} {a_size : Nat → Int32} {a_fault : Nat → Int32} {a_faultPlace : Nat → Int32} {a_many : Nat → Int32} {a_lands : Nat → Int32} {a_evenings : Nat → Int32} {a_sights : Nat → Int32} {a_choirs : Nat → Int32} {f_reached : Int32} {f_length : Int32} {f_begins : Int32} {f_sort : Int32} {f_value : Int32} {f_word : Int64} {f_wrongAt : Int32} {f_laterFault : Int32} {f_laterPlace : Int32} {a_told : Nat → Int32} {a_read : Nat → Int32} {f_farHut : Int32} {f_farSinger : Int32} {f_good : Int32} {f_land : Int32} {f_huts : Int32} {f_singers : Int32} {f_evening : Int32} {a_at : Nat → Int32} {a_knows : Nat → Int32} {a_climbed : Nat → Int32} {a_snow : Nat → Int32} {a_level : Nat → Int32} {f_begun : Int32} {f_minute : Int32} {f_avalanches : Int32} {a_run : Nat → Int32} {a_covers : Nat → Int32} {a_routes : Nat → Int32} {a_longest : Nat → Int32} {a_steep : Nat → Int32} {a_laid : Nat → Int32} {a_far : Nat → Int32} {f_sight : Int32} {a_runs : Nat → Int32} {f_choir : Int32} {f_voices : Int32} {a_rest : Nat → Int64} {a_wins : Nat → Int32} {f_seed : Int32} {a_other : Nat → Int32} {a_kept : Nat → Int32} {post : Int32 → (Int32) → (Nat → Int32) → (Nat → Int32) → Prop} {x1 : Int32} {x2 : Int32} {x3 : Int32} {x4 : Int32} {x5 : Int32} {ls : Array Slot} {H : Heap} {locs : List Loc}
    (zc : zC p s m args meth c cX11_feed 6 RX11 (some .int))
    (hK : zK E s)
    (hM : mW E q f_code a_tape a_size a_fault a_faultPlace a_many a_lands a_evenings a_sights a_choirs f_reached f_length f_begins f_sort f_value f_word f_wrongAt f_laterFault f_laterPlace a_told a_read f_farHut f_farSinger f_good f_land f_huts f_singers f_evening a_at a_knows a_climbed a_snow a_level f_begun f_minute f_avalanches a_run a_covers a_routes a_longest a_steep a_laid a_far f_sight a_runs f_choir f_voices a_rest a_wins f_seed a_other a_kept H)
    (hS : va_S (mA q) s.heap H locs)
    (hl : lv_has ls 6 [(0, .ref q), (1, .int x1), (2, .int x2), (3, .int x3), (4, .int x4), (5, .int x5)])
    (hw : q_m_feed_0 f_code a_tape a_size x1 x2 x3 x4 x5 post) :
    W p l e rm_m_feed s m args below meth c H locs 0 0 (MQ below (zQi (S := (Int32) × (Nat → Int32) × (Nat → Int32)) (fun r u => post r u.1 u.2.1 u.2.2) (fun u H => mW E q u.1 u.2.1 u.2.2 a_fault a_faultPlace a_many a_lands a_evenings a_sights a_choirs f_reached f_length f_begins f_sort f_value f_word f_wrongAt f_laterFault f_laterPlace a_told a_read f_farHut f_farSinger f_good f_land f_huts f_singers f_evening a_at a_knows a_climbed a_snow a_level f_begun f_minute f_avalanches a_run a_covers a_routes a_longest a_steep a_laid a_far f_sight a_runs f_choir f_voices a_rest a_wins f_seed a_other a_kept H) (mA q)) args s 0 0 (mA q)) (F0 m 0 ls []) := by
  have hx := zc.1
  have hb := zc.2.1
  refine lv_aload_n hx hb dX11_feed_0 rfl (lv_at hl 0 rfl) ?_
  refine lv_iconst (v := (0 : Int32)) hx hb dX11_feed_1 (by decide) ?_
  refine mp_11_97_0 zc hK hM hS dX11_feed_2 (fun H locs hM hS => ?_)
  refine lv_aload_n hx hb dX11_feed_5 rfl (lv_at hl 0 rfl) ?_
  refine mg_11_13_0 zc hK hM dX11_feed_6 ?_
  refine lv_iconst (v := (0 : Int32)) hx hb dX11_feed_9 (by decide) ?_
  refine mld_2 zc hK hM (by unfold vp_in; decide) dX11_feed_10 ?_
  refine lv_bipush (v := (20 : Int32)) hx hb dX11_feed_11 (by decide) ?_
  refine lv_iadd hx hb dX11_feed_13 ?_
  refine lv_sipush (v := (600 : Int32)) hx hb dX11_feed_14 (by decide) ?_
  refine lv_icmp_le (tgt := 22) hx hb dX11_feed_17 (by decide) (fun hc => ?_) (fun hc => ?_)
  · have hw := hw.1 hc
    refine lv_aload_n hx hb dX11_feed_22 rfl (lv_at hl 0 rfl) ?_
    refine lv_iload_n hx hb dX11_feed_23 rfl (lv_at hl 1 rfl) ?_
    refine zVw_v [.int x1] [] zc ky_X11_four kz_X11_four km_11_113 (c_m_four l hw) (mPreV0 hK hM) hS rfl rfl hl.1 (Nat.le_of_ble_eq_true rfl) ⟨rfl, rfl⟩ ⟨Nat.le_of_ble_eq_true rfl, Nat.le_of_ble_eq_true rfl⟩ ⟨(Nat.zero_le _), (Nat.zero_le _)⟩ dX11_feed_24 (fun u H locs hw hM hS => ?_)
    obtain ⟨a_tape_1, a_size_1⟩ := u
    refine lv_aload_n hx hb dX11_feed_27 rfl (lv_at hl 0 rfl) ?_
    refine lv_iload_n hx hb dX11_feed_28 rfl (lv_at hl 2 rfl) ?_
    refine zVw_v [.int x2] [] zc ky_X11_four kz_X11_four km_11_113 (c_m_four l hw) (mPreV0 hK hM) hS rfl rfl hl.1 (Nat.le_of_ble_eq_true rfl) ⟨rfl, rfl⟩ ⟨Nat.le_of_ble_eq_true rfl, Nat.le_of_ble_eq_true rfl⟩ ⟨(Nat.zero_le _), (Nat.zero_le _)⟩ dX11_feed_29 (fun u H locs hw hM hS => ?_)
    obtain ⟨a_tape_2, a_size_2⟩ := u
    refine lv_aload_n hx hb dX11_feed_32 rfl (lv_at hl 0 rfl) ?_
    refine lv_iload_n hx hb dX11_feed_33 rfl (lv_at hl 3 rfl) ?_
    refine zVw_v [.int x3] [] zc ky_X11_four kz_X11_four km_11_113 (c_m_four l hw) (mPreV0 hK hM) hS rfl rfl hl.1 (Nat.le_of_ble_eq_true rfl) ⟨rfl, rfl⟩ ⟨Nat.le_of_ble_eq_true rfl, Nat.le_of_ble_eq_true rfl⟩ ⟨(Nat.zero_le _), (Nat.zero_le _)⟩ dX11_feed_34 (fun u H locs hw hM hS => ?_)
    obtain ⟨a_tape_3, a_size_3⟩ := u
    refine lv_aload_n hx hb dX11_feed_37 rfl (lv_at hl 0 rfl) ?_
    refine lv_iload hx hb dX11_feed_38 (lv_at hl 4 rfl) ?_
    refine zVw_v [.int x4] [] zc ky_X11_four kz_X11_four km_11_113 (c_m_four l hw) (mPreV0 hK hM) hS rfl rfl hl.1 (Nat.le_of_ble_eq_true rfl) ⟨rfl, rfl⟩ ⟨Nat.le_of_ble_eq_true rfl, Nat.le_of_ble_eq_true rfl⟩ ⟨(Nat.zero_le _), (Nat.zero_le _)⟩ dX11_feed_40 (fun u H locs hw hM hS => ?_)
    obtain ⟨a_tape_4, a_size_4⟩ := u
    refine lv_aload_n hx hb dX11_feed_43 rfl (lv_at hl 0 rfl) ?_
    refine lv_iload hx hb dX11_feed_44 (lv_at hl 5 rfl) ?_
    refine zVw_v [.int x5] [] zc ky_X11_four kz_X11_four km_11_113 (c_m_four l hw) (mPreV0 hK hM) hS rfl rfl hl.1 (Nat.le_of_ble_eq_true rfl) ⟨rfl, rfl⟩ ⟨Nat.le_of_ble_eq_true rfl, Nat.le_of_ble_eq_true rfl⟩ ⟨(Nat.zero_le _), (Nat.zero_le _)⟩ dX11_feed_46 (fun u H locs hw hM hS => ?_)
    obtain ⟨a_tape_5, a_size_5⟩ := u
    refine lv_aload_n hx hb dX11_feed_49 rfl (lv_at hl 0 rfl) ?_
    refine mg_11_13_0 zc hK hM dX11_feed_50 ?_
    refine lv_iconst (v := (0 : Int32)) hx hb dX11_feed_53 (by decide) ?_
    refine mld_2 zc hK hM (by unfold vp_in; decide) dX11_feed_54 ?_
    exact zret_iw ⟨(0 : Int32), a_tape_5, a_size_5⟩ zc hS hw hM dX11_feed_55
  · have hw := hw.2 hc
    refine lv_iconst (v := (-1 : Int32)) hx hb dX11_feed_20 (by decide) ?_
    exact zret_iw ⟨(0 : Int32), a_tape, a_size⟩ zc hS hw hM dX11_feed_21
set_option maxRecDepth 20000 in
theorem c_m_feed (l : Launch) {E : zE} {q : Nat} {f_code : Int32} {a_tape : Nat → Int32} {a_size : Nat → Int32} {a_fault : Nat → Int32} {a_faultPlace : Nat → Int32} {a_many : Nat → Int32} {a_lands : Nat → Int32} {a_evenings : Nat → Int32} {a_sights : Nat → Int32} {a_choirs : Nat → Int32} {f_reached : Int32} {f_length : Int32} {f_begins : Int32} {f_sort : Int32} {f_value : Int32} {f_word : Int64} {f_wrongAt : Int32} {f_laterFault : Int32} {f_laterPlace : Int32} {a_told : Nat → Int32} {a_read : Nat → Int32} {f_farHut : Int32} {f_farSinger : Int32} {f_good : Int32} {f_land : Int32} {f_huts : Int32} {f_singers : Int32} {f_evening : Int32} {a_at : Nat → Int32} {a_knows : Nat → Int32} {a_climbed : Nat → Int32} {a_snow : Nat → Int32} {a_level : Nat → Int32} {f_begun : Int32} {f_minute : Int32} {f_avalanches : Int32} {a_run : Nat → Int32} {a_covers : Nat → Int32} {a_routes : Nat → Int32} {a_longest : Nat → Int32} {a_steep : Nat → Int32} {a_laid : Nat → Int32} {a_far : Nat → Int32} {f_sight : Int32} {a_runs : Nat → Int32} {f_choir : Int32} {f_voices : Int32} {a_rest : Nat → Int64} {a_wins : Nat → Int32} {f_seed : Int32} {a_other : Nat → Int32} {a_kept : Nat → Int32} {x1 : Int32} {x2 : Int32} {x3 : Int32} {x4 : Int32} {x5 : Int32} {post : Int32 → (Int32) → (Nat → Int32) → (Nat → Int32) → Prop} (hw : q_m_feed_0 f_code a_tape a_size x1 x2 x3 x4 x5 post) : Met l yX11_feed (Cond.code yX11_feed cX11_feed 6 (some .int) :: zb) rm_m_feed (va_Pc [.ref q, .int x1, .int x2, .int x3, .int x4, .int x5] (fun U => mW E q f_code a_tape a_size a_fault a_faultPlace a_many a_lands a_evenings a_sights a_choirs f_reached f_length f_begins f_sort f_value f_word f_wrongAt f_laterFault f_laterPlace a_told a_read f_farHut f_farSinger f_good f_land f_huts f_singers f_evening a_at a_knows a_climbed a_snow a_level f_begun f_minute f_avalanches a_run a_covers a_routes a_longest a_steep a_laid a_far f_sight a_runs f_choir f_voices a_rest a_wins f_seed a_other a_kept U.heap ∧ zK E U)) (zQi (S := (Int32) × (Nat → Int32) × (Nat → Int32)) (fun r u => post r u.1 u.2.1 u.2.2) (fun u H => mW E q u.1 u.2.1 u.2.2 a_fault a_faultPlace a_many a_lands a_evenings a_sights a_choirs f_reached f_length f_begins f_sort f_value f_word f_wrongAt f_laterFault f_laterPlace a_told a_read f_farHut f_farSinger f_good f_land f_huts f_singers f_evening a_at a_knows a_climbed a_snow a_level f_begun f_minute f_avalanches a_run a_covers a_routes a_longest a_steep a_laid a_far f_sight a_runs f_choir f_voices a_rest a_wins f_seed a_other a_kept H) (mA q)) 0 0 (mA q) := by
  refine Met.ofW (cc := cX11_feed) (maxL := 6) (ret := (some .int)) (by decide) rfl ?_
  intro p e s m args below meth c s₁ B hml hv
  obtain ⟨rfl, hM, hK⟩ := hv
  have zc := zc_of B hml
  have hl := lv_entry ([.ref q, .int x1, .int x2, .int x3, .int x4, .int x5]) (n := 6) (Nat.le_of_ble_eq_true rfl)
  rw [lg_entry_eq]
  generalize (lg_sl ([.ref q, .int x1, .int x2, .int x3, .int x4, .int x5]) ++ List.replicate (6 - (lg_sl ([.ref q, .int x1, .int x2, .int x3, .int x4, .int x5])).length) Slot.unset).toArray = ls at hl ⊢
  have hl : lv_has ls 6 [(0, .ref q), (1, .int x1), (2, .int x2), (3, .int x3), (4, .int x4), (5, .int x5)] := hl
  exact t_m_feed_0 zc hK hM va_S.rf (lv_sub hl [0, 1, 2, 3, 4, 5] rfl) hw
end
section
-- m_end
abbrev rm_m_end : Room := { frames := 1, cells := 0, slots := 0, locals := 22 }
def q_m_end_0 (f_code : Int32) (a_size : Nat → Int32) (x1 : Int32) (post : Int32 → (Int32) → (Nat → Int32) → Prop) : Prop :=
  q_m_in_0 x1 (0 : Int32) (a_size (Int32.toNatClampNeg (0 : Int32))) (fun r_1 => (¬ r_1 = 0 → (∀ a_size_1 : Nat → Int32, a_size_1 = upd a_size (Int32.toNatClampNeg (0 : Int32)) x1 → (post x1 (0 : Int32) a_size_1))) ∧ (r_1 = 0 → (post (-1 : Int32) (0 : Int32) a_size)))
set_option maxRecDepth 20000 in
theorem t_m_end_0 {p : Program} {l : Launch} {e : Env} {s : State} {m : MethodId} {args : Array Value} {below : List Frame} {meth : Method} {c : Code} {E : zE} {q : Nat} {f_code : Int32} {a_tape : Nat → Int32} {a_size : Nat → Int32} {a_fault : Nat → Int32} {a_faultPlace : Nat → Int32} {a_many : Nat → Int32} {a_lands : Nat → Int32} {a_evenings : Nat → Int32} {a_sights : Nat → Int32} {a_choirs : Nat → Int32} {f_reached : Int32} {f_length : Int32} {f_begins : Int32} {f_sort : Int32} {f_value : Int32} {f_word : Int64} {f_wrongAt : Int32} {f_laterFault : Int32} {f_laterPlace : Int32} {a_told : Nat → Int32} {a_read : Nat → Int32} {f_farHut : Int32} {f_farSinger : Int32} {f_good : Int32} {f_land : Int32} {f_huts : Int32} {f_singers : Int32} {f_evening : Int32} {a_at : Nat → Int32} {a_knows : Nat → Int32} {a_climbed : Nat → Int32} {a_snow : Nat → Int32} {a_level : Nat → Int32} {f_begun : Int32} {f_minute : Int32} {f_avalanches : Int32} {a_run : Nat → Int32} {a_covers : Nat → Int32} {a_routes : Nat → Int32} {a_longest : Nat → Int32} {a_steep : Nat → Int32} {a_laid : Nat → Int32} {a_far : Nat → Int32} {f_sight : Int32} {a_runs : Nat → Int32} {f_choir : Int32} {f_voices : Int32} {a_rest : Nat → Int64} {a_wins : Nat → Int32} {f_seed : Int32} {a_other : Nat → Int32} {a_kept : Nat → Int32} {post : Int32 → (Int32) → (Nat → Int32) → Prop} {x1 : Int32} {ls : Array Slot} {H : Heap} {locs : List Loc}
    (zc : zC p s m args meth c cX11_end 2 RX11 (some .int))
    (hK : zK E s)
    (hM : mW E q f_code a_tape a_size a_fault a_faultPlace a_many a_lands a_evenings a_sights a_choirs f_reached f_length f_begins f_sort f_value f_word f_wrongAt f_laterFault f_laterPlace a_told a_read f_farHut f_farSinger f_good f_land f_huts f_singers f_evening a_at a_knows a_climbed a_snow a_level f_begun f_minute f_avalanches a_run a_covers a_routes a_longest a_steep a_laid a_far f_sight a_runs f_choir f_voices a_rest a_wins f_seed a_other a_kept H)
    (hS : va_S (mA q) s.heap H locs)
    (hl : lv_has ls 2 [(0, .ref q), (1, .int x1)])
    (hw : q_m_end_0 f_code a_size x1 post) :
    W p l e rm_m_end s m args below meth c H locs 0 0 (MQ below (zQi (S := (Int32) × (Nat → Int32)) (fun r u => post r u.1 u.2) (fun u H => mW E q u.1 a_tape u.2 a_fault a_faultPlace a_many a_lands a_evenings a_sights a_choirs f_reached f_length f_begins f_sort f_value f_word f_wrongAt f_laterFault f_laterPlace a_told a_read f_farHut f_farSinger f_good f_land f_huts f_singers f_evening a_at a_knows a_climbed a_snow a_level f_begun f_minute f_avalanches a_run a_covers a_routes a_longest a_steep a_laid a_far f_sight a_runs f_choir f_voices a_rest a_wins f_seed a_other a_kept H) (mA q)) args s 0 0 (mA q)) (F0 m 0 ls []) := by
  have hx := zc.1
  have hb := zc.2.1
  refine lv_aload_n hx hb dX11_end_0 rfl (lv_at hl 0 rfl) ?_
  refine lv_iconst (v := (0 : Int32)) hx hb dX11_end_1 (by decide) ?_
  refine mp_11_97_0 zc hK hM hS dX11_end_2 (fun H locs hM hS => ?_)
  refine lv_iload_n hx hb dX11_end_5 rfl (lv_at hl 1 rfl) ?_
  refine lv_iconst (v := (0 : Int32)) hx hb dX11_end_6 (by decide) ?_
  refine lv_aload_n hx hb dX11_end_7 rfl (lv_at hl 0 rfl) ?_
  refine mg_11_13_0 zc hK hM dX11_end_8 ?_
  refine lv_iconst (v := (0 : Int32)) hx hb dX11_end_11 (by decide) ?_
  refine mld_2 zc hK hM (by unfold vp_in; decide) dX11_end_12 ?_
  refine zS_i [.int x1, .int (0 : Int32), .int (a_size (Int32.toNatClampNeg (0 : Int32)))] [] zc ky_X11_in kz_X11_in km_11_109 (c_m_in l hw) (zPre0 _) rfl rfl hl.1 (Nat.le_of_ble_eq_true rfl) ⟨rfl, rfl⟩ ⟨Nat.le_of_ble_eq_true rfl, Nat.le_of_ble_eq_true rfl⟩ ⟨(Nat.zero_le _), (Nat.zero_le _)⟩ dX11_end_13 (fun r_1 hw => ?_)
  refine lv_if_ne (tgt := 21) hx hb dX11_end_16 (by decide) (fun hc => ?_) (fun hc => ?_)
  · have hw := hw.1 hc
    refine lv_aload_n hx hb dX11_end_21 rfl (lv_at hl 0 rfl) ?_
    refine mg_11_13_0 zc hK hM dX11_end_22 ?_
    refine lv_iconst (v := (0 : Int32)) hx hb dX11_end_25 (by decide) ?_
    refine lv_iload_n hx hb dX11_end_26 rfl (lv_at hl 1 rfl) ?_
    refine mst_2 zc hK hM hS (by unfold vp_in; decide) dX11_end_27 (fun a_size_1 H locs ea_size_1 hM hS => ?_)
    have hw := hw a_size_1 ea_size_1
    refine lv_iload_n hx hb dX11_end_28 rfl (lv_at hl 1 rfl) ?_
    exact zret_iw ⟨(0 : Int32), a_size_1⟩ zc hS hw hM dX11_end_29
  · have hw := hw.2 hc
    refine lv_iconst (v := (-1 : Int32)) hx hb dX11_end_19 (by decide) ?_
    exact zret_iw ⟨(0 : Int32), a_size⟩ zc hS hw hM dX11_end_20
set_option maxRecDepth 20000 in
theorem c_m_end (l : Launch) {E : zE} {q : Nat} {f_code : Int32} {a_tape : Nat → Int32} {a_size : Nat → Int32} {a_fault : Nat → Int32} {a_faultPlace : Nat → Int32} {a_many : Nat → Int32} {a_lands : Nat → Int32} {a_evenings : Nat → Int32} {a_sights : Nat → Int32} {a_choirs : Nat → Int32} {f_reached : Int32} {f_length : Int32} {f_begins : Int32} {f_sort : Int32} {f_value : Int32} {f_word : Int64} {f_wrongAt : Int32} {f_laterFault : Int32} {f_laterPlace : Int32} {a_told : Nat → Int32} {a_read : Nat → Int32} {f_farHut : Int32} {f_farSinger : Int32} {f_good : Int32} {f_land : Int32} {f_huts : Int32} {f_singers : Int32} {f_evening : Int32} {a_at : Nat → Int32} {a_knows : Nat → Int32} {a_climbed : Nat → Int32} {a_snow : Nat → Int32} {a_level : Nat → Int32} {f_begun : Int32} {f_minute : Int32} {f_avalanches : Int32} {a_run : Nat → Int32} {a_covers : Nat → Int32} {a_routes : Nat → Int32} {a_longest : Nat → Int32} {a_steep : Nat → Int32} {a_laid : Nat → Int32} {a_far : Nat → Int32} {f_sight : Int32} {a_runs : Nat → Int32} {f_choir : Int32} {f_voices : Int32} {a_rest : Nat → Int64} {a_wins : Nat → Int32} {f_seed : Int32} {a_other : Nat → Int32} {a_kept : Nat → Int32} {x1 : Int32} {post : Int32 → (Int32) → (Nat → Int32) → Prop} (hw : q_m_end_0 f_code a_size x1 post) : Met l yX11_end (Cond.code yX11_end cX11_end 2 (some .int) :: zb) rm_m_end (va_Pc [.ref q, .int x1] (fun U => mW E q f_code a_tape a_size a_fault a_faultPlace a_many a_lands a_evenings a_sights a_choirs f_reached f_length f_begins f_sort f_value f_word f_wrongAt f_laterFault f_laterPlace a_told a_read f_farHut f_farSinger f_good f_land f_huts f_singers f_evening a_at a_knows a_climbed a_snow a_level f_begun f_minute f_avalanches a_run a_covers a_routes a_longest a_steep a_laid a_far f_sight a_runs f_choir f_voices a_rest a_wins f_seed a_other a_kept U.heap ∧ zK E U)) (zQi (S := (Int32) × (Nat → Int32)) (fun r u => post r u.1 u.2) (fun u H => mW E q u.1 a_tape u.2 a_fault a_faultPlace a_many a_lands a_evenings a_sights a_choirs f_reached f_length f_begins f_sort f_value f_word f_wrongAt f_laterFault f_laterPlace a_told a_read f_farHut f_farSinger f_good f_land f_huts f_singers f_evening a_at a_knows a_climbed a_snow a_level f_begun f_minute f_avalanches a_run a_covers a_routes a_longest a_steep a_laid a_far f_sight a_runs f_choir f_voices a_rest a_wins f_seed a_other a_kept H) (mA q)) 0 0 (mA q) := by
  refine Met.ofW (cc := cX11_end) (maxL := 2) (ret := (some .int)) (by decide) rfl ?_
  intro p e s m args below meth c s₁ B hml hv
  obtain ⟨rfl, hM, hK⟩ := hv
  have zc := zc_of B hml
  have hl := lv_entry ([.ref q, .int x1]) (n := 2) (Nat.le_of_ble_eq_true rfl)
  rw [lg_entry_eq]
  generalize (lg_sl ([.ref q, .int x1]) ++ List.replicate (2 - (lg_sl ([.ref q, .int x1])).length) Slot.unset).toArray = ls at hl ⊢
  have hl : lv_has ls 2 [(0, .ref q), (1, .int x1)] := hl
  exact t_m_end_0 zc hK hM va_S.rf (lv_sub hl [0, 1] rfl) hw
-- m_see
abbrev rm_m_see : Room := { frames := 0, cells := 0, slots := 0, locals := 0 }
def q_m_see_0 (a_tape : Nat → Int32) (f_reached : Int32) (f_length : Int32) (post : Int32 → Prop) : Prop :=
  (f_length ≤ f_reached → (post (-1 : Int32))) ∧ (¬ f_length ≤ f_reached → (vp_in f_reached 2400 ∧ (post ((a_tape (Int32.toNatClampNeg f_reached)) &&& (255 : Int32)))))
set_option maxRecDepth 20000 in
theorem t_m_see_0 {p : Program} {l : Launch} {e : Env} {s : State} {m : MethodId} {args : Array Value} {below : List Frame} {meth : Method} {c : Code} {E : zE} {q : Nat} {f_code : Int32} {a_tape : Nat → Int32} {a_size : Nat → Int32} {a_fault : Nat → Int32} {a_faultPlace : Nat → Int32} {a_many : Nat → Int32} {a_lands : Nat → Int32} {a_evenings : Nat → Int32} {a_sights : Nat → Int32} {a_choirs : Nat → Int32} {f_reached : Int32} {f_length : Int32} {f_begins : Int32} {f_sort : Int32} {f_value : Int32} {f_word : Int64} {f_wrongAt : Int32} {f_laterFault : Int32} {f_laterPlace : Int32} {a_told : Nat → Int32} {a_read : Nat → Int32} {f_farHut : Int32} {f_farSinger : Int32} {f_good : Int32} {f_land : Int32} {f_huts : Int32} {f_singers : Int32} {f_evening : Int32} {a_at : Nat → Int32} {a_knows : Nat → Int32} {a_climbed : Nat → Int32} {a_snow : Nat → Int32} {a_level : Nat → Int32} {f_begun : Int32} {f_minute : Int32} {f_avalanches : Int32} {a_run : Nat → Int32} {a_covers : Nat → Int32} {a_routes : Nat → Int32} {a_longest : Nat → Int32} {a_steep : Nat → Int32} {a_laid : Nat → Int32} {a_far : Nat → Int32} {f_sight : Int32} {a_runs : Nat → Int32} {f_choir : Int32} {f_voices : Int32} {a_rest : Nat → Int64} {a_wins : Nat → Int32} {f_seed : Int32} {a_other : Nat → Int32} {a_kept : Nat → Int32} {post : Int32 → Prop} {ls : Array Slot}
    (zc : zC p s m args meth c cX11_see 1 RX11 (some .int))
    (hK : zK E s)
    (hM : mW E q f_code a_tape a_size a_fault a_faultPlace a_many a_lands a_evenings a_sights a_choirs f_reached f_length f_begins f_sort f_value f_word f_wrongAt f_laterFault f_laterPlace a_told a_read f_farHut f_farSinger f_good f_land f_huts f_singers f_evening a_at a_knows a_climbed a_snow a_level f_begun f_minute f_avalanches a_run a_covers a_routes a_longest a_steep a_laid a_far f_sight a_runs f_choir f_voices a_rest a_wins f_seed a_other a_kept s.heap)
    (hl : lv_has ls 1 [(0, .ref q)])
    (hw : q_m_see_0 a_tape f_reached f_length post) :
    W p l e rm_m_see s m args below meth c s.heap [] 0 0 (MQ below (vp_Si post) args s 0 0 (fun _ => False)) (F0 m 0 ls []) := by
  have hx := zc.1
  have hb := zc.2.1
  refine lv_aload_n hx hb dX11_see_0 rfl (lv_at hl 0 rfl) ?_
  refine mg_11_117_0 zc hK hM dX11_see_1 ?_
  refine lv_aload_n hx hb dX11_see_4 rfl (lv_at hl 0 rfl) ?_
  refine mg_11_120_0 zc hK hM dX11_see_5 ?_
  refine lv_icmp_ge (tgt := 27) hx hb dX11_see_8 (by decide) (fun hc => ?_) (fun hc => ?_)
  · have hw := hw.1 hc
    refine lv_iconst (v := (-1 : Int32)) hx hb dX11_see_27 (by decide) ?_
    exact zret_i zc hw dX11_see_28
  · have hw := hw.2 hc
    refine lv_aload_n hx hb dX11_see_11 rfl (lv_at hl 0 rfl) ?_
    refine mg_11_7_0 zc hK hM dX11_see_12 ?_
    refine lv_aload_n hx hb dX11_see_15 rfl (lv_at hl 0 rfl) ?_
    refine mg_11_117_0 zc hK hM dX11_see_16 ?_
    refine mld_1 zc hK hM hw.1 dX11_see_19 ?_
    have hw := hw.2
    refine lv_sipush (v := (255 : Int32)) hx hb dX11_see_20 (by decide) ?_
    refine lv_iand hx hb dX11_see_23 ?_
    refine lv_goto (tgt := 28) hx hb dX11_see_24 (by decide) ?_
    exact zret_i zc hw dX11_see_28
set_option maxRecDepth 20000 in
theorem c_m_see (l : Launch) {E : zE} {q : Nat} {f_code : Int32} {a_tape : Nat → Int32} {a_size : Nat → Int32} {a_fault : Nat → Int32} {a_faultPlace : Nat → Int32} {a_many : Nat → Int32} {a_lands : Nat → Int32} {a_evenings : Nat → Int32} {a_sights : Nat → Int32} {a_choirs : Nat → Int32} {f_reached : Int32} {f_length : Int32} {f_begins : Int32} {f_sort : Int32} {f_value : Int32} {f_word : Int64} {f_wrongAt : Int32} {f_laterFault : Int32} {f_laterPlace : Int32} {a_told : Nat → Int32} {a_read : Nat → Int32} {f_farHut : Int32} {f_farSinger : Int32} {f_good : Int32} {f_land : Int32} {f_huts : Int32} {f_singers : Int32} {f_evening : Int32} {a_at : Nat → Int32} {a_knows : Nat → Int32} {a_climbed : Nat → Int32} {a_snow : Nat → Int32} {a_level : Nat → Int32} {f_begun : Int32} {f_minute : Int32} {f_avalanches : Int32} {a_run : Nat → Int32} {a_covers : Nat → Int32} {a_routes : Nat → Int32} {a_longest : Nat → Int32} {a_steep : Nat → Int32} {a_laid : Nat → Int32} {a_far : Nat → Int32} {f_sight : Int32} {a_runs : Nat → Int32} {f_choir : Int32} {f_voices : Int32} {a_rest : Nat → Int64} {a_wins : Nat → Int32} {f_seed : Int32} {a_other : Nat → Int32} {a_kept : Nat → Int32} {post : Int32 → Prop} (hw : q_m_see_0 a_tape f_reached f_length post) : Met l yX11_see (Cond.code yX11_see cX11_see 1 (some .int) :: zb) rm_m_see (va_Pc [.ref q] (fun U => mW E q f_code a_tape a_size a_fault a_faultPlace a_many a_lands a_evenings a_sights a_choirs f_reached f_length f_begins f_sort f_value f_word f_wrongAt f_laterFault f_laterPlace a_told a_read f_farHut f_farSinger f_good f_land f_huts f_singers f_evening a_at a_knows a_climbed a_snow a_level f_begun f_minute f_avalanches a_run a_covers a_routes a_longest a_steep a_laid a_far f_sight a_runs f_choir f_voices a_rest a_wins f_seed a_other a_kept U.heap ∧ zK E U)) (vp_Si post) 0 0 (fun _ => False) := by
  refine Met.ofW (cc := cX11_see) (maxL := 1) (ret := (some .int)) (by decide) rfl ?_
  intro p e s m args below meth c s₁ B hml hv
  obtain ⟨rfl, hM, hK⟩ := hv
  have zc := zc_of B hml
  have hl := lv_entry ([.ref q]) (n := 1) (Nat.le_of_ble_eq_true rfl)
  rw [lg_entry_eq]
  generalize (lg_sl ([.ref q]) ++ List.replicate (1 - (lg_sl ([.ref q])).length) Slot.unset).toArray = ls at hl ⊢
  have hl : lv_has ls 1 [(0, .ref q)] := hl
  exact t_m_see_0 zc hK hM (lv_sub hl [0] rfl) hw
-- m_token
abbrev rm_m_token : Room := { frames := 1, cells := 0, slots := 0, locals := 22 }
def q_m_token_205 (P163 : Int32 → (Int32) → (Int32) → Prop) (a_tape : Nat → Int32) (f_reached : Int32) (f_length : Int32) (f_begins : Int32) (f_sort : Int32) (f_value : Int32) (f_word : Int64) (x2 : Int32) (y0 : Int32) (post : (Int32) → (Int32) → (Int32) → (Int32) → (Int64) → Prop) : Prop :=
  ∀ v_1 : Int32, v_1 = (f_reached + (1 : Int32)) → (∀ v_2 : Int32, v_2 = x2 + (1 : Int32) → (P163 v_2 v_1 y0))
def q_m_token_235 (a_tape : Nat → Int32) (f_reached : Int32) (f_length : Int32) (f_begins : Int32) (f_sort : Int32) (f_value : Int32) (f_word : Int64) (y0 : Int32) (post : (Int32) → (Int32) → (Int32) → (Int32) → (Int64) → Prop) : Prop :=
  post f_reached f_begins y0 f_value f_word
def q_m_token_163 (a_tape : Nat → Int32) (f_reached : Int32) (f_length : Int32) (f_begins : Int32) (f_sort : Int32) (f_value : Int32) (f_word : Int64) (x2 : Int32) (post : (Int32) → (Int32) → (Int32) → (Int32) → (Int64) → Prop) : Prop :=
  ∀ P163 : Int32 → (Int32) → (Int32) → Prop, (∀ (x2 : Int32) (f_reached : Int32) (f_value : Int32), (q_m_see_0 a_tape f_reached f_length (fun r_1 => q_m_in_0 r_1 (48 : Int32) (57 : Int32) (fun r_2 => (r_2 = 0 → ((x2 ≤ (2 : Int32) → (q_m_token_235 a_tape f_reached f_length f_begins f_sort f_value f_word (3 : Int32) post)) ∧ (¬ x2 ≤ (2 : Int32) → (q_m_token_235 a_tape f_reached f_length f_begins f_sort f_value f_word (1 : Int32) post)))) ∧ (¬ r_2 = 0 → (((2 : Int32) ≤ x2 → (q_m_token_205 P163 a_tape f_reached f_length f_begins f_sort f_value f_word x2 f_value post)) ∧ (¬ (2 : Int32) ≤ x2 → (q_m_see_0 a_tape f_reached f_length (fun r_3 => q_m_token_205 P163 a_tape f_reached f_length f_begins f_sort f_value f_word x2 ((((10 : Int32) * f_value) + r_3) - (48 : Int32)) post)))))))) → P163 x2 f_reached f_value) → P163 x2 f_reached f_value
def q_m_token_18 (P0 : (Int32) → Prop) (a_tape : Nat → Int32) (f_reached : Int32) (f_length : Int32) (f_begins : Int32) (f_sort : Int32) (f_value : Int32) (f_word : Int64) (post : (Int32) → (Int32) → (Int32) → (Int32) → (Int64) → Prop) : Prop :=
  ∀ v_1 : Int32, v_1 = (f_reached + (1 : Int32)) → (P0 v_1)
def q_m_token_263 (a_tape : Nat → Int32) (f_reached : Int32) (f_length : Int32) (f_begins : Int32) (f_sort : Int32) (f_value : Int32) (f_word : Int64) (y0 : Int32) (post : (Int32) → (Int32) → (Int32) → (Int32) → (Int64) → Prop) : Prop :=
  post f_reached f_begins y0 f_value f_word
def q_m_token_136 (a_tape : Nat → Int32) (f_reached : Int32) (f_length : Int32) (f_begins : Int32) (f_sort : Int32) (f_value : Int32) (f_word : Int64) (y0 : Int64) (post : (Int32) → (Int32) → (Int32) → (Int32) → (Int64) → Prop) : Prop :=
  post f_reached f_begins (2 : Int32) f_value y0
def q_m_token_74 (a_tape : Nat → Int32) (f_reached : Int32) (f_length : Int32) (f_begins : Int32) (f_sort : Int32) (f_value : Int32) (f_word : Int64) (x2 : Int32) (post : (Int32) → (Int32) → (Int32) → (Int32) → (Int64) → Prop) : Prop :=
  ∀ P74 : Int32 → (Int32) → (Int64) → Prop, (∀ (x2 : Int32) (f_reached : Int32) (f_word : Int64), (q_m_see_0 a_tape f_reached f_length (fun r_1 => q_m_in_0 r_1 (97 : Int32) (122 : Int32) (fun r_2 => (r_2 = 0 → ((x2 ≤ (8 : Int32) → (q_m_token_136 a_tape f_reached f_length f_begins f_sort f_value f_word f_word post)) ∧ (¬ x2 ≤ (8 : Int32) → (q_m_token_136 a_tape f_reached f_length f_begins f_sort f_value f_word (0 : Int64) post)))) ∧ (¬ r_2 = 0 → (q_m_see_0 a_tape f_reached f_length (fun r_3 => ∀ v_1 : Int64, v_1 = ((f_word <<< (Int32.toInt64 (8 : Int32) &&& 63)) ||| (Int32.toInt64 r_3)) → (∀ v_2 : Int32, v_2 = (f_reached + (1 : Int32)) → (∀ v_3 : Int32, v_3 = x2 + (1 : Int32) → (P74 v_3 v_2 v_1))))))))) → P74 x2 f_reached f_word) → P74 x2 f_reached f_word
def q_m_token_0 (a_tape : Nat → Int32) (f_reached : Int32) (f_length : Int32) (f_begins : Int32) (f_sort : Int32) (f_value : Int32) (f_word : Int64) (post : (Int32) → (Int32) → (Int32) → (Int32) → (Int64) → Prop) : Prop :=
  ∀ P0 : (Int32) → Prop, (∀ (f_reached : Int32), (q_m_see_0 a_tape f_reached f_length (fun r_1 => (r_1 = (10 : Int32) → (q_m_token_18 P0 a_tape f_reached f_length f_begins f_sort f_value f_word post)) ∧ (¬ r_1 = (10 : Int32) → (q_m_see_0 a_tape f_reached f_length (fun r_2 => (¬ r_2 = (32 : Int32) → (q_m_see_0 a_tape f_reached f_length (fun r_3 => (0 ≤ r_3 → (q_m_in_0 r_3 (97 : Int32) (122 : Int32) (fun r_4 => (r_4 = 0 → (q_m_in_0 r_3 (48 : Int32) (57 : Int32) (fun r_5 => (r_5 = 0 → (∀ v_1 : Int32, v_1 = (f_reached + (1 : Int32)) → ((¬ r_3 = (59 : Int32) → (q_m_token_263 a_tape v_1 f_length f_reached f_sort f_value (0 : Int64) (1 : Int32) post)) ∧ (r_3 = (59 : Int32) → (q_m_token_263 a_tape v_1 f_length f_reached f_sort f_value (0 : Int64) (4 : Int32) post))))) ∧ (¬ r_5 = 0 → (q_m_token_163 a_tape f_reached f_length f_reached f_sort (0 : Int32) (0 : Int64) (0 : Int32) post))))) ∧ (¬ r_4 = 0 → (q_m_token_74 a_tape f_reached f_length f_reached f_sort f_value (0 : Int64) (0 : Int32) post))))) ∧ (¬ 0 ≤ r_3 → (post f_reached f_reached (0 : Int32) f_value (0 : Int64)))))) ∧ (r_2 = (32 : Int32) → (q_m_token_18 P0 a_tape f_reached f_length f_begins f_sort f_value f_word post))))))) → P0 f_reached) → P0 f_reached
set_option maxRecDepth 20000 in
theorem t_m_token_205 {p : Program} {l : Launch} {e : Env} {s : State} {m : MethodId} {args : Array Value} {below : List Frame} {meth : Method} {c : Code} {E : zE} {q : Nat} {f_code : Int32} {a_tape : Nat → Int32} {a_size : Nat → Int32} {a_fault : Nat → Int32} {a_faultPlace : Nat → Int32} {a_many : Nat → Int32} {a_lands : Nat → Int32} {a_evenings : Nat → Int32} {a_sights : Nat → Int32} {a_choirs : Nat → Int32} {f_reached : Int32} {f_length : Int32} {f_begins : Int32} {f_sort : Int32} {f_value : Int32} {f_word : Int64} {f_wrongAt : Int32} {f_laterFault : Int32} {f_laterPlace : Int32} {a_told : Nat → Int32} {a_read : Nat → Int32} {f_farHut : Int32} {f_farSinger : Int32} {f_good : Int32} {f_land : Int32} {f_huts : Int32} {f_singers : Int32} {f_evening : Int32} {a_at : Nat → Int32} {a_knows : Nat → Int32} {a_climbed : Nat → Int32} {a_snow : Nat → Int32} {a_level : Nat → Int32} {f_begun : Int32} {f_minute : Int32} {f_avalanches : Int32} {a_run : Nat → Int32} {a_covers : Nat → Int32} {a_routes : Nat → Int32} {a_longest : Nat → Int32} {a_steep : Nat → Int32} {a_laid : Nat → Int32} {a_far : Nat → Int32} {f_sight : Int32} {a_runs : Nat → Int32} {f_choir : Int32} {f_voices : Int32} {a_rest : Nat → Int64} {a_wins : Nat → Int32} {f_seed : Int32} {a_other : Nat → Int32} {a_kept : Nat → Int32} {P163 : Int32 → (Int32) → (Int32) → Prop} {post : (Int32) → (Int32) → (Int32) → (Int32) → (Int64) → Prop} {x2 : Int32} {y0 : Int32} {ls : Array Slot} {H : Heap} {locs : List Loc}
    (zc : zC p s m args meth c cX11_token 3 RX11 none)
    (hK : zK E s)
    (hM : mW E q f_code a_tape a_size a_fault a_faultPlace a_many a_lands a_evenings a_sights a_choirs f_reached f_length f_begins f_sort f_value f_word f_wrongAt f_laterFault f_laterPlace a_told a_read f_farHut f_farSinger f_good f_land f_huts f_singers f_evening a_at a_knows a_climbed a_snow a_level f_begun f_minute f_avalanches a_run a_covers a_routes a_longest a_steep a_laid a_far f_sight a_runs f_choir f_voices a_rest a_wins f_seed a_other a_kept H)
    (hS : va_S (mA q) s.heap H locs)
    (hP163 : ∀ (x2 : Int32) (f_reached : Int32) (f_value : Int32) (H : Heap) (locs : List Loc) (ls : Array Slot), P163 x2 f_reached f_value → lv_has ls 3 [(0, .ref q), (2, .int x2)] → mW E q f_code a_tape a_size a_fault a_faultPlace a_many a_lands a_evenings a_sights a_choirs f_reached f_length f_begins f_sort f_value f_word f_wrongAt f_laterFault f_laterPlace a_told a_read f_farHut f_farSinger f_good f_land f_huts f_singers f_evening a_at a_knows a_climbed a_snow a_level f_begun f_minute f_avalanches a_run a_covers a_routes a_longest a_steep a_laid a_far f_sight a_runs f_choir f_voices a_rest a_wins f_seed a_other a_kept H → va_S (mA q) s.heap H locs → W p l e rm_m_token s m args below meth c H locs 0 0 (MQ below (zQv (S := (Int32) × (Int32) × (Int32) × (Int32) × (Int64)) (fun u => post u.1 u.2.1 u.2.2.1 u.2.2.2.1 u.2.2.2.2) (fun u H => mW E q f_code a_tape a_size a_fault a_faultPlace a_many a_lands a_evenings a_sights a_choirs u.1 f_length u.2.1 u.2.2.1 u.2.2.2.1 u.2.2.2.2 f_wrongAt f_laterFault f_laterPlace a_told a_read f_farHut f_farSinger f_good f_land f_huts f_singers f_evening a_at a_knows a_climbed a_snow a_level f_begun f_minute f_avalanches a_run a_covers a_routes a_longest a_steep a_laid a_far f_sight a_runs f_choir f_voices a_rest a_wins f_seed a_other a_kept H) (mA q)) args s 0 0 (mA q)) (F0 m 163 ls []))
    (hl : lv_has ls 3 [(0, .ref q), (2, .int x2)])
    (hw : q_m_token_205 P163 a_tape f_reached f_length f_begins f_sort f_value f_word x2 y0 post) :
    W p l e rm_m_token s m args below meth c H locs 0 0 (MQ below (zQv (S := (Int32) × (Int32) × (Int32) × (Int32) × (Int64)) (fun u => post u.1 u.2.1 u.2.2.1 u.2.2.2.1 u.2.2.2.2) (fun u H => mW E q f_code a_tape a_size a_fault a_faultPlace a_many a_lands a_evenings a_sights a_choirs u.1 f_length u.2.1 u.2.2.1 u.2.2.2.1 u.2.2.2.2 f_wrongAt f_laterFault f_laterPlace a_told a_read f_farHut f_farSinger f_good f_land f_huts f_singers f_evening a_at a_knows a_climbed a_snow a_level f_begun f_minute f_avalanches a_run a_covers a_routes a_longest a_steep a_laid a_far f_sight a_runs f_choir f_voices a_rest a_wins f_seed a_other a_kept H) (mA q)) args s 0 0 (mA q)) (F0 m 205 ls [.int y0, .ref q]) := by
  have hx := zc.1
  have hb := zc.2.1
  refine mp_11_137_0 zc hK hM hS dX11_token_205 (fun H locs hM hS => ?_)
  refine lv_aload_n hx hb dX11_token_208 rfl (lv_at hl 0 rfl) ?_
  refine lv_dup hx hb dX11_token_209 rfl ?_
  refine mg_11_117_0 zc hK hM dX11_token_210 ?_
  refine lv_iconst (v := (1 : Int32)) hx hb dX11_token_213 (by decide) ?_
  refine lv_iadd hx hb dX11_token_214 ?_
  refine lv_topi (fun v_1 ev_1 => ?_)
  have hw := hw v_1 ev_1
  refine mp_11_117_0 zc hK hM hS dX11_token_215 (fun H locs hM hS => ?_)
  obtain ⟨v_2, ev_2⟩ : ∃ y : Int32, y = x2 + (1 : Int32) := ⟨_, rfl⟩
  have hw := hw v_2 ev_2
  refine lv_iinc (v := v_2) (k := 1) (lv' := [(2, .int v_2), (0, .ref q)]) hx hb dX11_token_218 hl rfl (by rw [ev_2]; rfl) (by decide) rfl (fun ls hl => ?_)
  refine lv_goto (tgt := 163) hx hb dX11_token_221 (by decide) ?_
  exact hP163 _ _ _ _ _ _ hw (lv_sub hl [1, 0] rfl) hM hS
set_option maxRecDepth 20000 in
theorem t_m_token_235 {p : Program} {l : Launch} {e : Env} {s : State} {m : MethodId} {args : Array Value} {below : List Frame} {meth : Method} {c : Code} {E : zE} {q : Nat} {f_code : Int32} {a_tape : Nat → Int32} {a_size : Nat → Int32} {a_fault : Nat → Int32} {a_faultPlace : Nat → Int32} {a_many : Nat → Int32} {a_lands : Nat → Int32} {a_evenings : Nat → Int32} {a_sights : Nat → Int32} {a_choirs : Nat → Int32} {f_reached : Int32} {f_length : Int32} {f_begins : Int32} {f_sort : Int32} {f_value : Int32} {f_word : Int64} {f_wrongAt : Int32} {f_laterFault : Int32} {f_laterPlace : Int32} {a_told : Nat → Int32} {a_read : Nat → Int32} {f_farHut : Int32} {f_farSinger : Int32} {f_good : Int32} {f_land : Int32} {f_huts : Int32} {f_singers : Int32} {f_evening : Int32} {a_at : Nat → Int32} {a_knows : Nat → Int32} {a_climbed : Nat → Int32} {a_snow : Nat → Int32} {a_level : Nat → Int32} {f_begun : Int32} {f_minute : Int32} {f_avalanches : Int32} {a_run : Nat → Int32} {a_covers : Nat → Int32} {a_routes : Nat → Int32} {a_longest : Nat → Int32} {a_steep : Nat → Int32} {a_laid : Nat → Int32} {a_far : Nat → Int32} {f_sight : Int32} {a_runs : Nat → Int32} {f_choir : Int32} {f_voices : Int32} {a_rest : Nat → Int64} {a_wins : Nat → Int32} {f_seed : Int32} {a_other : Nat → Int32} {a_kept : Nat → Int32} {post : (Int32) → (Int32) → (Int32) → (Int32) → (Int64) → Prop} {y0 : Int32} {ls : Array Slot} {H : Heap} {locs : List Loc}
    (zc : zC p s m args meth c cX11_token 3 RX11 none)
    (hK : zK E s)
    (hM : mW E q f_code a_tape a_size a_fault a_faultPlace a_many a_lands a_evenings a_sights a_choirs f_reached f_length f_begins f_sort f_value f_word f_wrongAt f_laterFault f_laterPlace a_told a_read f_farHut f_farSinger f_good f_land f_huts f_singers f_evening a_at a_knows a_climbed a_snow a_level f_begun f_minute f_avalanches a_run a_covers a_routes a_longest a_steep a_laid a_far f_sight a_runs f_choir f_voices a_rest a_wins f_seed a_other a_kept H)
    (hS : va_S (mA q) s.heap H locs)
    (hl : lv_has ls 3 [])
    (hw : q_m_token_235 a_tape f_reached f_length f_begins f_sort f_value f_word y0 post) :
    W p l e rm_m_token s m args below meth c H locs 0 0 (MQ below (zQv (S := (Int32) × (Int32) × (Int32) × (Int32) × (Int64)) (fun u => post u.1 u.2.1 u.2.2.1 u.2.2.2.1 u.2.2.2.2) (fun u H => mW E q f_code a_tape a_size a_fault a_faultPlace a_many a_lands a_evenings a_sights a_choirs u.1 f_length u.2.1 u.2.2.1 u.2.2.2.1 u.2.2.2.2 f_wrongAt f_laterFault f_laterPlace a_told a_read f_farHut f_farSinger f_good f_land f_huts f_singers f_evening a_at a_knows a_climbed a_snow a_level f_begun f_minute f_avalanches a_run a_covers a_routes a_longest a_steep a_laid a_far f_sight a_runs f_choir f_voices a_rest a_wins f_seed a_other a_kept H) (mA q)) args s 0 0 (mA q)) (F0 m 235 ls [.int y0, .ref q]) := by
  have hx := zc.1
  have hb := zc.2.1
  refine mp_11_134_0 zc hK hM hS dX11_token_235 (fun H locs hM hS => ?_)
  refine lv_goto (tgt := 266) hx hb dX11_token_238 (by decide) ?_
  exact zret_vw ⟨f_reached, f_begins, y0, f_value, f_word⟩ zc hS hw hM dX11_token_266
set_option maxRecDepth 20000 in
theorem t_m_token_163 {p : Program} {l : Launch} {e : Env} {s : State} {m : MethodId} {args : Array Value} {below : List Frame} {meth : Method} {c : Code} {E : zE} {q : Nat} {f_code : Int32} {a_tape : Nat → Int32} {a_size : Nat → Int32} {a_fault : Nat → Int32} {a_faultPlace : Nat → Int32} {a_many : Nat → Int32} {a_lands : Nat → Int32} {a_evenings : Nat → Int32} {a_sights : Nat → Int32} {a_choirs : Nat → Int32} {f_reached : Int32} {f_length : Int32} {f_begins : Int32} {f_sort : Int32} {f_value : Int32} {f_word : Int64} {f_wrongAt : Int32} {f_laterFault : Int32} {f_laterPlace : Int32} {a_told : Nat → Int32} {a_read : Nat → Int32} {f_farHut : Int32} {f_farSinger : Int32} {f_good : Int32} {f_land : Int32} {f_huts : Int32} {f_singers : Int32} {f_evening : Int32} {a_at : Nat → Int32} {a_knows : Nat → Int32} {a_climbed : Nat → Int32} {a_snow : Nat → Int32} {a_level : Nat → Int32} {f_begun : Int32} {f_minute : Int32} {f_avalanches : Int32} {a_run : Nat → Int32} {a_covers : Nat → Int32} {a_routes : Nat → Int32} {a_longest : Nat → Int32} {a_steep : Nat → Int32} {a_laid : Nat → Int32} {a_far : Nat → Int32} {f_sight : Int32} {a_runs : Nat → Int32} {f_choir : Int32} {f_voices : Int32} {a_rest : Nat → Int64} {a_wins : Nat → Int32} {f_seed : Int32} {a_other : Nat → Int32} {a_kept : Nat → Int32} {post : (Int32) → (Int32) → (Int32) → (Int32) → (Int64) → Prop} {x2 : Int32} {ls : Array Slot} {H : Heap} {locs : List Loc}
    (zc : zC p s m args meth c cX11_token 3 RX11 none)
    (hK : zK E s)
    (hM : mW E q f_code a_tape a_size a_fault a_faultPlace a_many a_lands a_evenings a_sights a_choirs f_reached f_length f_begins f_sort f_value f_word f_wrongAt f_laterFault f_laterPlace a_told a_read f_farHut f_farSinger f_good f_land f_huts f_singers f_evening a_at a_knows a_climbed a_snow a_level f_begun f_minute f_avalanches a_run a_covers a_routes a_longest a_steep a_laid a_far f_sight a_runs f_choir f_voices a_rest a_wins f_seed a_other a_kept H)
    (hS : va_S (mA q) s.heap H locs)
    (hl : lv_has ls 3 [(0, .ref q), (2, .int x2)])
    (hw : q_m_token_163 a_tape f_reached f_length f_begins f_sort f_value f_word x2 post) :
    W p l e rm_m_token s m args below meth c H locs 0 0 (MQ below (zQv (S := (Int32) × (Int32) × (Int32) × (Int32) × (Int64)) (fun u => post u.1 u.2.1 u.2.2.1 u.2.2.2.1 u.2.2.2.2) (fun u H => mW E q f_code a_tape a_size a_fault a_faultPlace a_many a_lands a_evenings a_sights a_choirs u.1 f_length u.2.1 u.2.2.1 u.2.2.2.1 u.2.2.2.2 f_wrongAt f_laterFault f_laterPlace a_told a_read f_farHut f_farSinger f_good f_land f_huts f_singers f_evening a_at a_knows a_climbed a_snow a_level f_begun f_minute f_avalanches a_run a_covers a_routes a_longest a_steep a_laid a_far f_sight a_runs f_choir f_voices a_rest a_wins f_seed a_other a_kept H) (mA q)) args s 0 0 (mA q)) (F0 m 163 ls []) := by
  have hx := zc.1
  have hb := zc.2.1
  refine hw (fun x2 f_reached f_value => ∀ (H : Heap) (locs : List Loc) (ls : Array Slot), lv_has ls 3 [(0, .ref q), (2, .int x2)] → mW E q f_code a_tape a_size a_fault a_faultPlace a_many a_lands a_evenings a_sights a_choirs f_reached f_length f_begins f_sort f_value f_word f_wrongAt f_laterFault f_laterPlace a_told a_read f_farHut f_farSinger f_good f_land f_huts f_singers f_evening a_at a_knows a_climbed a_snow a_level f_begun f_minute f_avalanches a_run a_covers a_routes a_longest a_steep a_laid a_far f_sight a_runs f_choir f_voices a_rest a_wins f_seed a_other a_kept H → va_S (mA q) s.heap H locs → W p l e rm_m_token s m args below meth c H locs 0 0 (MQ below (zQv (S := (Int32) × (Int32) × (Int32) × (Int32) × (Int64)) (fun u => post u.1 u.2.1 u.2.2.1 u.2.2.2.1 u.2.2.2.2) (fun u H => mW E q f_code a_tape a_size a_fault a_faultPlace a_many a_lands a_evenings a_sights a_choirs u.1 f_length u.2.1 u.2.2.1 u.2.2.2.1 u.2.2.2.2 f_wrongAt f_laterFault f_laterPlace a_told a_read f_farHut f_farSinger f_good f_land f_huts f_singers f_evening a_at a_knows a_climbed a_snow a_level f_begun f_minute f_avalanches a_run a_covers a_routes a_longest a_steep a_laid a_far f_sight a_runs f_choir f_voices a_rest a_wins f_seed a_other a_kept H) (mA q)) args s 0 0 (mA q)) (F0 m 163 ls [])) ?_ _ _ _ hl hM hS
  intro x2 f_reached f_value hw H locs ls hl hM hS
  refine lv_aload_n hx hb dX11_token_163 rfl (lv_at hl 0 rfl) ?_
  refine zV_i [] [] zc ky_X11_see kz_X11_see km_11_123 (c_m_see l hw) (mPreV0 hK hM) rfl rfl hl.1 (Nat.le_of_ble_eq_true rfl) ⟨rfl, rfl⟩ ⟨Nat.le_of_ble_eq_true rfl, Nat.le_of_ble_eq_true rfl⟩ ⟨(Nat.zero_le _), (Nat.zero_le _)⟩ dX11_token_164 (fun r_1 hw => ?_)
  refine lv_bipush (v := (48 : Int32)) hx hb dX11_token_167 (by decide) ?_
  refine lv_bipush (v := (57 : Int32)) hx hb dX11_token_169 (by decide) ?_
  refine zS_i [.int r_1, .int (48 : Int32), .int (57 : Int32)] [] zc ky_X11_in kz_X11_in km_11_109 (c_m_in l hw) (zPre0 _) rfl rfl hl.1 (Nat.le_of_ble_eq_true rfl) ⟨rfl, rfl⟩ ⟨Nat.le_of_ble_eq_true rfl, Nat.le_of_ble_eq_true rfl⟩ ⟨(Nat.zero_le _), (Nat.zero_le _)⟩ dX11_token_171 (fun r_2 hw => ?_)
  refine lv_if_eq (tgt := 224) hx hb dX11_token_174 (by decide) (fun hc => ?_) (fun hc => ?_)
  · have hw := hw.1 hc
    refine lv_aload_n hx hb dX11_token_224 rfl (lv_at hl 0 rfl) ?_
    refine lv_iload_n hx hb dX11_token_225 rfl (lv_at hl 1 rfl) ?_
    refine lv_iconst (v := (2 : Int32)) hx hb dX11_token_226 (by decide) ?_
    refine lv_icmp_le (tgt := 234) hx hb dX11_token_227 (by decide) (fun hc => ?_) (fun hc => ?_)
    · have hw := hw.1 hc
      refine lv_iconst (v := (3 : Int32)) hx hb dX11_token_234 (by decide) ?_
      exact t_m_token_235 zc hK hM hS  (lv_sub hl [] rfl) hw
    · have hw := hw.2 hc
      refine lv_iconst (v := (1 : Int32)) hx hb dX11_token_230 (by decide) ?_
      refine lv_goto (tgt := 235) hx hb dX11_token_231 (by decide) ?_
      exact t_m_token_235 zc hK hM hS  (lv_sub hl [] rfl) hw
  · have hw := hw.2 hc
    refine lv_aload_n hx hb dX11_token_177 rfl (lv_at hl 0 rfl) ?_
    refine lv_iload_n hx hb dX11_token_178 rfl (lv_at hl 1 rfl) ?_
    refine lv_iconst (v := (2 : Int32)) hx hb dX11_token_179 (by decide) ?_
    refine lv_icmp_ge (tgt := 201) hx hb dX11_token_180 (by decide) (fun hc => ?_) (fun hc => ?_)
    · have hw := hw.1 hc
      refine lv_aload_n hx hb dX11_token_201 rfl (lv_at hl 0 rfl) ?_
      refine mg_11_137_0 zc hK hM dX11_token_202 ?_
      exact t_m_token_205 zc hK hM hS (fun _ _ _ H locs ls h hl hM hS => h H locs ls hl hM hS) (lv_sub hl [0, 1] rfl) hw
    · have hw := hw.2 hc
      refine lv_bipush (v := (10 : Int32)) hx hb dX11_token_183 (by decide) ?_
      refine lv_aload_n hx hb dX11_token_185 rfl (lv_at hl 0 rfl) ?_
      refine mg_11_137_0 zc hK hM dX11_token_186 ?_
      refine lv_imul hx hb dX11_token_189 ?_
      refine lv_aload_n hx hb dX11_token_190 rfl (lv_at hl 0 rfl) ?_
      refine zV_i [] [.int ((10 : Int32) * f_value), .ref q] zc ky_X11_see kz_X11_see km_11_123 (c_m_see l hw) (mPreV0 hK hM) rfl rfl hl.1 (Nat.le_of_ble_eq_true rfl) ⟨rfl, rfl⟩ ⟨Nat.le_of_ble_eq_true rfl, Nat.le_of_ble_eq_true rfl⟩ ⟨(Nat.zero_le _), (Nat.zero_le _)⟩ dX11_token_191 (fun r_3 hw => ?_)
      refine lv_iadd hx hb dX11_token_194 ?_
      refine lv_bipush (v := (48 : Int32)) hx hb dX11_token_195 (by decide) ?_
      refine lv_isub hx hb dX11_token_197 ?_
      refine lv_goto (tgt := 205) hx hb dX11_token_198 (by decide) ?_
      exact t_m_token_205 zc hK hM hS (fun _ _ _ H locs ls h hl hM hS => h H locs ls hl hM hS) (lv_sub hl [0, 1] rfl) hw
set_option maxRecDepth 20000 in
theorem t_m_token_18 {p : Program} {l : Launch} {e : Env} {s : State} {m : MethodId} {args : Array Value} {below : List Frame} {meth : Method} {c : Code} {E : zE} {q : Nat} {f_code : Int32} {a_tape : Nat → Int32} {a_size : Nat → Int32} {a_fault : Nat → Int32} {a_faultPlace : Nat → Int32} {a_many : Nat → Int32} {a_lands : Nat → Int32} {a_evenings : Nat → Int32} {a_sights : Nat → Int32} {a_choirs : Nat → Int32} {f_reached : Int32} {f_length : Int32} {f_begins : Int32} {f_sort : Int32} {f_value : Int32} {f_word : Int64} {f_wrongAt : Int32} {f_laterFault : Int32} {f_laterPlace : Int32} {a_told : Nat → Int32} {a_read : Nat → Int32} {f_farHut : Int32} {f_farSinger : Int32} {f_good : Int32} {f_land : Int32} {f_huts : Int32} {f_singers : Int32} {f_evening : Int32} {a_at : Nat → Int32} {a_knows : Nat → Int32} {a_climbed : Nat → Int32} {a_snow : Nat → Int32} {a_level : Nat → Int32} {f_begun : Int32} {f_minute : Int32} {f_avalanches : Int32} {a_run : Nat → Int32} {a_covers : Nat → Int32} {a_routes : Nat → Int32} {a_longest : Nat → Int32} {a_steep : Nat → Int32} {a_laid : Nat → Int32} {a_far : Nat → Int32} {f_sight : Int32} {a_runs : Nat → Int32} {f_choir : Int32} {f_voices : Int32} {a_rest : Nat → Int64} {a_wins : Nat → Int32} {f_seed : Int32} {a_other : Nat → Int32} {a_kept : Nat → Int32} {P0 : (Int32) → Prop} {post : (Int32) → (Int32) → (Int32) → (Int32) → (Int64) → Prop} {ls : Array Slot} {H : Heap} {locs : List Loc}
    (zc : zC p s m args meth c cX11_token 3 RX11 none)
    (hK : zK E s)
    (hM : mW E q f_code a_tape a_size a_fault a_faultPlace a_many a_lands a_evenings a_sights a_choirs f_reached f_length f_begins f_sort f_value f_word f_wrongAt f_laterFault f_laterPlace a_told a_read f_farHut f_farSinger f_good f_land f_huts f_singers f_evening a_at a_knows a_climbed a_snow a_level f_begun f_minute f_avalanches a_run a_covers a_routes a_longest a_steep a_laid a_far f_sight a_runs f_choir f_voices a_rest a_wins f_seed a_other a_kept H)
    (hS : va_S (mA q) s.heap H locs)
    (hP0 : ∀ (f_reached : Int32) (H : Heap) (locs : List Loc) (ls : Array Slot), P0 f_reached → lv_has ls 3 [(0, .ref q)] → mW E q f_code a_tape a_size a_fault a_faultPlace a_many a_lands a_evenings a_sights a_choirs f_reached f_length f_begins f_sort f_value f_word f_wrongAt f_laterFault f_laterPlace a_told a_read f_farHut f_farSinger f_good f_land f_huts f_singers f_evening a_at a_knows a_climbed a_snow a_level f_begun f_minute f_avalanches a_run a_covers a_routes a_longest a_steep a_laid a_far f_sight a_runs f_choir f_voices a_rest a_wins f_seed a_other a_kept H → va_S (mA q) s.heap H locs → W p l e rm_m_token s m args below meth c H locs 0 0 (MQ below (zQv (S := (Int32) × (Int32) × (Int32) × (Int32) × (Int64)) (fun u => post u.1 u.2.1 u.2.2.1 u.2.2.2.1 u.2.2.2.2) (fun u H => mW E q f_code a_tape a_size a_fault a_faultPlace a_many a_lands a_evenings a_sights a_choirs u.1 f_length u.2.1 u.2.2.1 u.2.2.2.1 u.2.2.2.2 f_wrongAt f_laterFault f_laterPlace a_told a_read f_farHut f_farSinger f_good f_land f_huts f_singers f_evening a_at a_knows a_climbed a_snow a_level f_begun f_minute f_avalanches a_run a_covers a_routes a_longest a_steep a_laid a_far f_sight a_runs f_choir f_voices a_rest a_wins f_seed a_other a_kept H) (mA q)) args s 0 0 (mA q)) (F0 m 0 ls []))
    (hl : lv_has ls 3 [(0, .ref q)])
    (hw : q_m_token_18 P0 a_tape f_reached f_length f_begins f_sort f_value f_word post) :
    W p l e rm_m_token s m args below meth c H locs 0 0 (MQ below (zQv (S := (Int32) × (Int32) × (Int32) × (Int32) × (Int64)) (fun u => post u.1 u.2.1 u.2.2.1 u.2.2.2.1 u.2.2.2.2) (fun u H => mW E q f_code a_tape a_size a_fault a_faultPlace a_many a_lands a_evenings a_sights a_choirs u.1 f_length u.2.1 u.2.2.1 u.2.2.2.1 u.2.2.2.2 f_wrongAt f_laterFault f_laterPlace a_told a_read f_farHut f_farSinger f_good f_land f_huts f_singers f_evening a_at a_knows a_climbed a_snow a_level f_begun f_minute f_avalanches a_run a_covers a_routes a_longest a_steep a_laid a_far f_sight a_runs f_choir f_voices a_rest a_wins f_seed a_other a_kept H) (mA q)) args s 0 0 (mA q)) (F0 m 18 ls []) := by
  have hx := zc.1
  have hb := zc.2.1
  refine lv_aload_n hx hb dX11_token_18 rfl (lv_at hl 0 rfl) ?_
  refine lv_dup hx hb dX11_token_19 rfl ?_
  refine mg_11_117_0 zc hK hM dX11_token_20 ?_
  refine lv_iconst (v := (1 : Int32)) hx hb dX11_token_23 (by decide) ?_
  refine lv_iadd hx hb dX11_token_24 ?_
  refine lv_topi (fun v_1 ev_1 => ?_)
  have hw := hw v_1 ev_1
  refine mp_11_117_0 zc hK hM hS dX11_token_25 (fun H locs hM hS => ?_)
  refine lv_goto (tgt := 0) hx hb dX11_token_28 (by decide) ?_
  exact hP0 _ _ _ _ hw (lv_sub hl [0] rfl) hM hS
set_option maxRecDepth 20000 in
theorem t_m_token_263 {p : Program} {l : Launch} {e : Env} {s : State} {m : MethodId} {args : Array Value} {below : List Frame} {meth : Method} {c : Code} {E : zE} {q : Nat} {f_code : Int32} {a_tape : Nat → Int32} {a_size : Nat → Int32} {a_fault : Nat → Int32} {a_faultPlace : Nat → Int32} {a_many : Nat → Int32} {a_lands : Nat → Int32} {a_evenings : Nat → Int32} {a_sights : Nat → Int32} {a_choirs : Nat → Int32} {f_reached : Int32} {f_length : Int32} {f_begins : Int32} {f_sort : Int32} {f_value : Int32} {f_word : Int64} {f_wrongAt : Int32} {f_laterFault : Int32} {f_laterPlace : Int32} {a_told : Nat → Int32} {a_read : Nat → Int32} {f_farHut : Int32} {f_farSinger : Int32} {f_good : Int32} {f_land : Int32} {f_huts : Int32} {f_singers : Int32} {f_evening : Int32} {a_at : Nat → Int32} {a_knows : Nat → Int32} {a_climbed : Nat → Int32} {a_snow : Nat → Int32} {a_level : Nat → Int32} {f_begun : Int32} {f_minute : Int32} {f_avalanches : Int32} {a_run : Nat → Int32} {a_covers : Nat → Int32} {a_routes : Nat → Int32} {a_longest : Nat → Int32} {a_steep : Nat → Int32} {a_laid : Nat → Int32} {a_far : Nat → Int32} {f_sight : Int32} {a_runs : Nat → Int32} {f_choir : Int32} {f_voices : Int32} {a_rest : Nat → Int64} {a_wins : Nat → Int32} {f_seed : Int32} {a_other : Nat → Int32} {a_kept : Nat → Int32} {post : (Int32) → (Int32) → (Int32) → (Int32) → (Int64) → Prop} {y0 : Int32} {ls : Array Slot} {H : Heap} {locs : List Loc}
    (zc : zC p s m args meth c cX11_token 3 RX11 none)
    (hK : zK E s)
    (hM : mW E q f_code a_tape a_size a_fault a_faultPlace a_many a_lands a_evenings a_sights a_choirs f_reached f_length f_begins f_sort f_value f_word f_wrongAt f_laterFault f_laterPlace a_told a_read f_farHut f_farSinger f_good f_land f_huts f_singers f_evening a_at a_knows a_climbed a_snow a_level f_begun f_minute f_avalanches a_run a_covers a_routes a_longest a_steep a_laid a_far f_sight a_runs f_choir f_voices a_rest a_wins f_seed a_other a_kept H)
    (hS : va_S (mA q) s.heap H locs)
    (hl : lv_has ls 3 [])
    (hw : q_m_token_263 a_tape f_reached f_length f_begins f_sort f_value f_word y0 post) :
    W p l e rm_m_token s m args below meth c H locs 0 0 (MQ below (zQv (S := (Int32) × (Int32) × (Int32) × (Int32) × (Int64)) (fun u => post u.1 u.2.1 u.2.2.1 u.2.2.2.1 u.2.2.2.2) (fun u H => mW E q f_code a_tape a_size a_fault a_faultPlace a_many a_lands a_evenings a_sights a_choirs u.1 f_length u.2.1 u.2.2.1 u.2.2.2.1 u.2.2.2.2 f_wrongAt f_laterFault f_laterPlace a_told a_read f_farHut f_farSinger f_good f_land f_huts f_singers f_evening a_at a_knows a_climbed a_snow a_level f_begun f_minute f_avalanches a_run a_covers a_routes a_longest a_steep a_laid a_far f_sight a_runs f_choir f_voices a_rest a_wins f_seed a_other a_kept H) (mA q)) args s 0 0 (mA q)) (F0 m 263 ls [.int y0, .ref q]) := by
  have hx := zc.1
  have hb := zc.2.1
  refine mp_11_134_0 zc hK hM hS dX11_token_263 (fun H locs hM hS => ?_)
  exact zret_vw ⟨f_reached, f_begins, y0, f_value, f_word⟩ zc hS hw hM dX11_token_266
set_option maxRecDepth 20000 in
theorem t_m_token_136 {p : Program} {l : Launch} {e : Env} {s : State} {m : MethodId} {args : Array Value} {below : List Frame} {meth : Method} {c : Code} {E : zE} {q : Nat} {f_code : Int32} {a_tape : Nat → Int32} {a_size : Nat → Int32} {a_fault : Nat → Int32} {a_faultPlace : Nat → Int32} {a_many : Nat → Int32} {a_lands : Nat → Int32} {a_evenings : Nat → Int32} {a_sights : Nat → Int32} {a_choirs : Nat → Int32} {f_reached : Int32} {f_length : Int32} {f_begins : Int32} {f_sort : Int32} {f_value : Int32} {f_word : Int64} {f_wrongAt : Int32} {f_laterFault : Int32} {f_laterPlace : Int32} {a_told : Nat → Int32} {a_read : Nat → Int32} {f_farHut : Int32} {f_farSinger : Int32} {f_good : Int32} {f_land : Int32} {f_huts : Int32} {f_singers : Int32} {f_evening : Int32} {a_at : Nat → Int32} {a_knows : Nat → Int32} {a_climbed : Nat → Int32} {a_snow : Nat → Int32} {a_level : Nat → Int32} {f_begun : Int32} {f_minute : Int32} {f_avalanches : Int32} {a_run : Nat → Int32} {a_covers : Nat → Int32} {a_routes : Nat → Int32} {a_longest : Nat → Int32} {a_steep : Nat → Int32} {a_laid : Nat → Int32} {a_far : Nat → Int32} {f_sight : Int32} {a_runs : Nat → Int32} {f_choir : Int32} {f_voices : Int32} {a_rest : Nat → Int64} {a_wins : Nat → Int32} {f_seed : Int32} {a_other : Nat → Int32} {a_kept : Nat → Int32} {post : (Int32) → (Int32) → (Int32) → (Int32) → (Int64) → Prop} {y0 : Int64} {ls : Array Slot} {H : Heap} {locs : List Loc}
    (zc : zC p s m args meth c cX11_token 3 RX11 none)
    (hK : zK E s)
    (hM : mW E q f_code a_tape a_size a_fault a_faultPlace a_many a_lands a_evenings a_sights a_choirs f_reached f_length f_begins f_sort f_value f_word f_wrongAt f_laterFault f_laterPlace a_told a_read f_farHut f_farSinger f_good f_land f_huts f_singers f_evening a_at a_knows a_climbed a_snow a_level f_begun f_minute f_avalanches a_run a_covers a_routes a_longest a_steep a_laid a_far f_sight a_runs f_choir f_voices a_rest a_wins f_seed a_other a_kept H)
    (hS : va_S (mA q) s.heap H locs)
    (hl : lv_has ls 3 [(0, .ref q)])
    (hw : q_m_token_136 a_tape f_reached f_length f_begins f_sort f_value f_word y0 post) :
    W p l e rm_m_token s m args below meth c H locs 0 0 (MQ below (zQv (S := (Int32) × (Int32) × (Int32) × (Int32) × (Int64)) (fun u => post u.1 u.2.1 u.2.2.1 u.2.2.2.1 u.2.2.2.2) (fun u H => mW E q f_code a_tape a_size a_fault a_faultPlace a_many a_lands a_evenings a_sights a_choirs u.1 f_length u.2.1 u.2.2.1 u.2.2.2.1 u.2.2.2.2 f_wrongAt f_laterFault f_laterPlace a_told a_read f_farHut f_farSinger f_good f_land f_huts f_singers f_evening a_at a_knows a_climbed a_snow a_level f_begun f_minute f_avalanches a_run a_covers a_routes a_longest a_steep a_laid a_far f_sight a_runs f_choir f_voices a_rest a_wins f_seed a_other a_kept H) (mA q)) args s 0 0 (mA q)) (F0 m 136 ls [.long y0, .ref q]) := by
  have hx := zc.1
  have hb := zc.2.1
  refine mp_11_130_0 zc hK hM hS dX11_token_136 (fun H locs hM hS => ?_)
  refine lv_aload_n hx hb dX11_token_139 rfl (lv_at hl 0 rfl) ?_
  refine lv_iconst (v := (2 : Int32)) hx hb dX11_token_140 (by decide) ?_
  refine mp_11_134_0 zc hK hM hS dX11_token_141 (fun H locs hM hS => ?_)
  refine lv_goto (tgt := 266) hx hb dX11_token_144 (by decide) ?_
  exact zret_vw ⟨f_reached, f_begins, (2 : Int32), f_value, y0⟩ zc hS hw hM dX11_token_266
set_option maxRecDepth 20000 in
theorem t_m_token_74 {p : Program} {l : Launch} {e : Env} {s : State} {m : MethodId} {args : Array Value} {below : List Frame} {meth : Method} {c : Code} {E : zE} {q : Nat} {f_code : Int32} {a_tape : Nat → Int32} {a_size : Nat → Int32} {a_fault : Nat → Int32} {a_faultPlace : Nat → Int32} {a_many : Nat → Int32} {a_lands : Nat → Int32} {a_evenings : Nat → Int32} {a_sights : Nat → Int32} {a_choirs : Nat → Int32} {f_reached : Int32} {f_length : Int32} {f_begins : Int32} {f_sort : Int32} {f_value : Int32} {f_word : Int64} {f_wrongAt : Int32} {f_laterFault : Int32} {f_laterPlace : Int32} {a_told : Nat → Int32} {a_read : Nat → Int32} {f_farHut : Int32} {f_farSinger : Int32} {f_good : Int32} {f_land : Int32} {f_huts : Int32} {f_singers : Int32} {f_evening : Int32} {a_at : Nat → Int32} {a_knows : Nat → Int32} {a_climbed : Nat → Int32} {a_snow : Nat → Int32} {a_level : Nat → Int32} {f_begun : Int32} {f_minute : Int32} {f_avalanches : Int32} {a_run : Nat → Int32} {a_covers : Nat → Int32} {a_routes : Nat → Int32} {a_longest : Nat → Int32} {a_steep : Nat → Int32} {a_laid : Nat → Int32} {a_far : Nat → Int32} {f_sight : Int32} {a_runs : Nat → Int32} {f_choir : Int32} {f_voices : Int32} {a_rest : Nat → Int64} {a_wins : Nat → Int32} {f_seed : Int32} {a_other : Nat → Int32} {a_kept : Nat → Int32} {post : (Int32) → (Int32) → (Int32) → (Int32) → (Int64) → Prop} {x2 : Int32} {ls : Array Slot} {H : Heap} {locs : List Loc}
    (zc : zC p s m args meth c cX11_token 3 RX11 none)
    (hK : zK E s)
    (hM : mW E q f_code a_tape a_size a_fault a_faultPlace a_many a_lands a_evenings a_sights a_choirs f_reached f_length f_begins f_sort f_value f_word f_wrongAt f_laterFault f_laterPlace a_told a_read f_farHut f_farSinger f_good f_land f_huts f_singers f_evening a_at a_knows a_climbed a_snow a_level f_begun f_minute f_avalanches a_run a_covers a_routes a_longest a_steep a_laid a_far f_sight a_runs f_choir f_voices a_rest a_wins f_seed a_other a_kept H)
    (hS : va_S (mA q) s.heap H locs)
    (hl : lv_has ls 3 [(0, .ref q), (2, .int x2)])
    (hw : q_m_token_74 a_tape f_reached f_length f_begins f_sort f_value f_word x2 post) :
    W p l e rm_m_token s m args below meth c H locs 0 0 (MQ below (zQv (S := (Int32) × (Int32) × (Int32) × (Int32) × (Int64)) (fun u => post u.1 u.2.1 u.2.2.1 u.2.2.2.1 u.2.2.2.2) (fun u H => mW E q f_code a_tape a_size a_fault a_faultPlace a_many a_lands a_evenings a_sights a_choirs u.1 f_length u.2.1 u.2.2.1 u.2.2.2.1 u.2.2.2.2 f_wrongAt f_laterFault f_laterPlace a_told a_read f_farHut f_farSinger f_good f_land f_huts f_singers f_evening a_at a_knows a_climbed a_snow a_level f_begun f_minute f_avalanches a_run a_covers a_routes a_longest a_steep a_laid a_far f_sight a_runs f_choir f_voices a_rest a_wins f_seed a_other a_kept H) (mA q)) args s 0 0 (mA q)) (F0 m 74 ls []) := by
  have hx := zc.1
  have hb := zc.2.1
  refine hw (fun x2 f_reached f_word => ∀ (H : Heap) (locs : List Loc) (ls : Array Slot), lv_has ls 3 [(0, .ref q), (2, .int x2)] → mW E q f_code a_tape a_size a_fault a_faultPlace a_many a_lands a_evenings a_sights a_choirs f_reached f_length f_begins f_sort f_value f_word f_wrongAt f_laterFault f_laterPlace a_told a_read f_farHut f_farSinger f_good f_land f_huts f_singers f_evening a_at a_knows a_climbed a_snow a_level f_begun f_minute f_avalanches a_run a_covers a_routes a_longest a_steep a_laid a_far f_sight a_runs f_choir f_voices a_rest a_wins f_seed a_other a_kept H → va_S (mA q) s.heap H locs → W p l e rm_m_token s m args below meth c H locs 0 0 (MQ below (zQv (S := (Int32) × (Int32) × (Int32) × (Int32) × (Int64)) (fun u => post u.1 u.2.1 u.2.2.1 u.2.2.2.1 u.2.2.2.2) (fun u H => mW E q f_code a_tape a_size a_fault a_faultPlace a_many a_lands a_evenings a_sights a_choirs u.1 f_length u.2.1 u.2.2.1 u.2.2.2.1 u.2.2.2.2 f_wrongAt f_laterFault f_laterPlace a_told a_read f_farHut f_farSinger f_good f_land f_huts f_singers f_evening a_at a_knows a_climbed a_snow a_level f_begun f_minute f_avalanches a_run a_covers a_routes a_longest a_steep a_laid a_far f_sight a_runs f_choir f_voices a_rest a_wins f_seed a_other a_kept H) (mA q)) args s 0 0 (mA q)) (F0 m 74 ls [])) ?_ _ _ _ hl hM hS
  intro x2 f_reached f_word hw H locs ls hl hM hS
  refine lv_aload_n hx hb dX11_token_74 rfl (lv_at hl 0 rfl) ?_
  refine zV_i [] [] zc ky_X11_see kz_X11_see km_11_123 (c_m_see l hw) (mPreV0 hK hM) rfl rfl hl.1 (Nat.le_of_ble_eq_true rfl) ⟨rfl, rfl⟩ ⟨Nat.le_of_ble_eq_true rfl, Nat.le_of_ble_eq_true rfl⟩ ⟨(Nat.zero_le _), (Nat.zero_le _)⟩ dX11_token_75 (fun r_1 hw => ?_)
  refine lv_bipush (v := (97 : Int32)) hx hb dX11_token_78 (by decide) ?_
  refine lv_bipush (v := (122 : Int32)) hx hb dX11_token_80 (by decide) ?_
  refine zS_i [.int r_1, .int (97 : Int32), .int (122 : Int32)] [] zc ky_X11_in kz_X11_in km_11_109 (c_m_in l hw) (zPre0 _) rfl rfl hl.1 (Nat.le_of_ble_eq_true rfl) ⟨rfl, rfl⟩ ⟨Nat.le_of_ble_eq_true rfl, Nat.le_of_ble_eq_true rfl⟩ ⟨(Nat.zero_le _), (Nat.zero_le _)⟩ dX11_token_82 (fun r_2 hw => ?_)
  refine lv_if_eq (tgt := 121) hx hb dX11_token_85 (by decide) (fun hc => ?_) (fun hc => ?_)
  · have hw := hw.1 hc
    refine lv_aload_n hx hb dX11_token_121 rfl (lv_at hl 0 rfl) ?_
    refine lv_iload_n hx hb dX11_token_122 rfl (lv_at hl 1 rfl) ?_
    refine lv_bipush (v := (8 : Int32)) hx hb dX11_token_123 (by decide) ?_
    refine lv_icmp_le (tgt := 132) hx hb dX11_token_125 (by decide) (fun hc => ?_) (fun hc => ?_)
    · have hw := hw.1 hc
      refine lv_aload_n hx hb dX11_token_132 rfl (lv_at hl 0 rfl) ?_
      refine mg_11_130_0 zc hK hM dX11_token_133 ?_
      exact t_m_token_136 zc hK hM hS  (lv_sub hl [0] rfl) hw
    · have hw := hw.2 hc
      refine lv_lconst (v := (0 : Int64)) hx hb dX11_token_128 (by decide) ?_
      refine lv_goto (tgt := 136) hx hb dX11_token_129 (by decide) ?_
      exact t_m_token_136 zc hK hM hS  (lv_sub hl [0] rfl) hw
  · have hw := hw.2 hc
    refine lv_aload_n hx hb dX11_token_88 rfl (lv_at hl 0 rfl) ?_
    refine lv_aload_n hx hb dX11_token_89 rfl (lv_at hl 0 rfl) ?_
    refine mg_11_130_0 zc hK hM dX11_token_90 ?_
    refine lv_bipush (v := (8 : Int32)) hx hb dX11_token_93 (by decide) ?_
    refine lv_lshl hx hb dX11_token_95 rfl ?_
    refine lv_aload_n hx hb dX11_token_96 rfl (lv_at hl 0 rfl) ?_
    refine zV_i [] [.long (f_word <<< (Int32.toInt64 (8 : Int32) &&& 63)), .ref q] zc ky_X11_see kz_X11_see km_11_123 (c_m_see l hw) (mPreV0 hK hM) rfl rfl hl.1 (Nat.le_of_ble_eq_true rfl) ⟨rfl, rfl⟩ ⟨Nat.le_of_ble_eq_true rfl, Nat.le_of_ble_eq_true rfl⟩ ⟨(Nat.zero_le _), (Nat.zero_le _)⟩ dX11_token_97 (fun r_3 hw => ?_)
    refine lv_i2l hx hb dX11_token_100 rfl ?_
    refine lv_lor hx hb dX11_token_101 ?_
    refine lv_topl (fun v_1 ev_1 => ?_)
    have hw := hw v_1 ev_1
    refine mp_11_130_0 zc hK hM hS dX11_token_102 (fun H locs hM hS => ?_)
    refine lv_aload_n hx hb dX11_token_105 rfl (lv_at hl 0 rfl) ?_
    refine lv_dup hx hb dX11_token_106 rfl ?_
    refine mg_11_117_0 zc hK hM dX11_token_107 ?_
    refine lv_iconst (v := (1 : Int32)) hx hb dX11_token_110 (by decide) ?_
    refine lv_iadd hx hb dX11_token_111 ?_
    refine lv_topi (fun v_2 ev_2 => ?_)
    have hw := hw v_2 ev_2
    refine mp_11_117_0 zc hK hM hS dX11_token_112 (fun H locs hM hS => ?_)
    obtain ⟨v_3, ev_3⟩ : ∃ y : Int32, y = x2 + (1 : Int32) := ⟨_, rfl⟩
    have hw := hw v_3 ev_3
    refine lv_iinc (v := v_3) (k := 1) (lv' := [(2, .int v_3), (0, .ref q)]) hx hb dX11_token_115 hl rfl (by rw [ev_3]; rfl) (by decide) rfl (fun ls hl => ?_)
    refine lv_goto (tgt := 74) hx hb dX11_token_118 (by decide) ?_
    exact hw _ _ _ (lv_sub hl [1, 0] rfl) hM hS
set_option maxRecDepth 20000 in
theorem t_m_token_0 {p : Program} {l : Launch} {e : Env} {s : State} {m : MethodId} {args : Array Value} {below : List Frame} {meth : Method} {c : Code} {E : zE} {q : Nat} {f_code : Int32} {a_tape : Nat → Int32} {a_size : Nat → Int32} {a_fault : Nat → Int32} {a_faultPlace : Nat → Int32} {a_many : Nat → Int32} {a_lands : Nat → Int32} {a_evenings : Nat → Int32} {a_sights : Nat → Int32} {a_choirs : Nat → Int32} {f_reached : Int32} {f_length : Int32} {f_begins : Int32} {f_sort : Int32} {f_value : Int32} {f_word : Int64} {f_wrongAt : Int32} {f_laterFault : Int32} {f_laterPlace : Int32} {a_told : Nat → Int32} {a_read : Nat → Int32} {f_farHut : Int32} {f_farSinger : Int32} {f_good : Int32} {f_land : Int32} {f_huts : Int32} {f_singers : Int32} {f_evening : Int32} {a_at : Nat → Int32} {a_knows : Nat → Int32} {a_climbed : Nat → Int32} {a_snow : Nat → Int32} {a_level : Nat → Int32} {f_begun : Int32} {f_minute : Int32} {f_avalanches : Int32} {a_run : Nat → Int32} {a_covers : Nat → Int32} {a_routes : Nat → Int32} {a_longest : Nat → Int32} {a_steep : Nat → Int32} {a_laid : Nat → Int32} {a_far : Nat → Int32} {f_sight : Int32} {a_runs : Nat → Int32} {f_choir : Int32} {f_voices : Int32} {a_rest : Nat → Int64} {a_wins : Nat → Int32} {f_seed : Int32} {a_other : Nat → Int32} {a_kept : Nat → Int32} {post : (Int32) → (Int32) → (Int32) → (Int32) → (Int64) → Prop} {ls : Array Slot} {H : Heap} {locs : List Loc}
    (zc : zC p s m args meth c cX11_token 3 RX11 none)
    (hK : zK E s)
    (hM : mW E q f_code a_tape a_size a_fault a_faultPlace a_many a_lands a_evenings a_sights a_choirs f_reached f_length f_begins f_sort f_value f_word f_wrongAt f_laterFault f_laterPlace a_told a_read f_farHut f_farSinger f_good f_land f_huts f_singers f_evening a_at a_knows a_climbed a_snow a_level f_begun f_minute f_avalanches a_run a_covers a_routes a_longest a_steep a_laid a_far f_sight a_runs f_choir f_voices a_rest a_wins f_seed a_other a_kept H)
    (hS : va_S (mA q) s.heap H locs)
    (hl : lv_has ls 3 [(0, .ref q)])
    (hw : q_m_token_0 a_tape f_reached f_length f_begins f_sort f_value f_word post) :
    W p l e rm_m_token s m args below meth c H locs 0 0 (MQ below (zQv (S := (Int32) × (Int32) × (Int32) × (Int32) × (Int64)) (fun u => post u.1 u.2.1 u.2.2.1 u.2.2.2.1 u.2.2.2.2) (fun u H => mW E q f_code a_tape a_size a_fault a_faultPlace a_many a_lands a_evenings a_sights a_choirs u.1 f_length u.2.1 u.2.2.1 u.2.2.2.1 u.2.2.2.2 f_wrongAt f_laterFault f_laterPlace a_told a_read f_farHut f_farSinger f_good f_land f_huts f_singers f_evening a_at a_knows a_climbed a_snow a_level f_begun f_minute f_avalanches a_run a_covers a_routes a_longest a_steep a_laid a_far f_sight a_runs f_choir f_voices a_rest a_wins f_seed a_other a_kept H) (mA q)) args s 0 0 (mA q)) (F0 m 0 ls []) := by
  have hx := zc.1
  have hb := zc.2.1
  refine hw (fun f_reached => ∀ (H : Heap) (locs : List Loc) (ls : Array Slot), lv_has ls 3 [(0, .ref q)] → mW E q f_code a_tape a_size a_fault a_faultPlace a_many a_lands a_evenings a_sights a_choirs f_reached f_length f_begins f_sort f_value f_word f_wrongAt f_laterFault f_laterPlace a_told a_read f_farHut f_farSinger f_good f_land f_huts f_singers f_evening a_at a_knows a_climbed a_snow a_level f_begun f_minute f_avalanches a_run a_covers a_routes a_longest a_steep a_laid a_far f_sight a_runs f_choir f_voices a_rest a_wins f_seed a_other a_kept H → va_S (mA q) s.heap H locs → W p l e rm_m_token s m args below meth c H locs 0 0 (MQ below (zQv (S := (Int32) × (Int32) × (Int32) × (Int32) × (Int64)) (fun u => post u.1 u.2.1 u.2.2.1 u.2.2.2.1 u.2.2.2.2) (fun u H => mW E q f_code a_tape a_size a_fault a_faultPlace a_many a_lands a_evenings a_sights a_choirs u.1 f_length u.2.1 u.2.2.1 u.2.2.2.1 u.2.2.2.2 f_wrongAt f_laterFault f_laterPlace a_told a_read f_farHut f_farSinger f_good f_land f_huts f_singers f_evening a_at a_knows a_climbed a_snow a_level f_begun f_minute f_avalanches a_run a_covers a_routes a_longest a_steep a_laid a_far f_sight a_runs f_choir f_voices a_rest a_wins f_seed a_other a_kept H) (mA q)) args s 0 0 (mA q)) (F0 m 0 ls [])) ?_ _ _ _ hl hM hS
  intro f_reached hw H locs ls hl hM hS
  refine lv_aload_n hx hb dX11_token_0 rfl (lv_at hl 0 rfl) ?_
  refine zV_i [] [] zc ky_X11_see kz_X11_see km_11_123 (c_m_see l hw) (mPreV0 hK hM) rfl rfl hl.1 (Nat.le_of_ble_eq_true rfl) ⟨rfl, rfl⟩ ⟨Nat.le_of_ble_eq_true rfl, Nat.le_of_ble_eq_true rfl⟩ ⟨(Nat.zero_le _), (Nat.zero_le _)⟩ dX11_token_1 (fun r_1 hw => ?_)
  refine lv_bipush (v := (10 : Int32)) hx hb dX11_token_4 (by decide) ?_
  refine lv_icmp_eq (tgt := 18) hx hb dX11_token_6 (by decide) (fun hc => ?_) (fun hc => ?_)
  · have hw := hw.1 hc
    exact t_m_token_18 zc hK hM hS (fun _ H locs ls h hl hM hS => h H locs ls hl hM hS) (lv_sub hl [0] rfl) hw
  · have hw := hw.2 hc
    refine lv_aload_n hx hb dX11_token_9 rfl (lv_at hl 0 rfl) ?_
    refine zV_i [] [] zc ky_X11_see kz_X11_see km_11_123 (c_m_see l hw) (mPreV0 hK hM) rfl rfl hl.1 (Nat.le_of_ble_eq_true rfl) ⟨rfl, rfl⟩ ⟨Nat.le_of_ble_eq_true rfl, Nat.le_of_ble_eq_true rfl⟩ ⟨(Nat.zero_le _), (Nat.zero_le _)⟩ dX11_token_10 (fun r_2 hw => ?_)
    refine lv_bipush (v := (32 : Int32)) hx hb dX11_token_13 (by decide) ?_
    refine lv_icmp_ne (tgt := 31) hx hb dX11_token_15 (by decide) (fun hc => ?_) (fun hc => ?_)
    · have hw := hw.1 hc
      refine lv_aload_n hx hb dX11_token_31 rfl (lv_at hl 0 rfl) ?_
      refine lv_aload_n hx hb dX11_token_32 rfl (lv_at hl 0 rfl) ?_
      refine mg_11_117_0 zc hK hM dX11_token_33 ?_
      refine mp_11_127_0 zc hK hM hS dX11_token_36 (fun H locs hM hS => ?_)
      refine lv_aload_n hx hb dX11_token_39 rfl (lv_at hl 0 rfl) ?_
      refine zV_i [] [] zc ky_X11_see kz_X11_see km_11_123 (c_m_see l hw) (mPreV0 hK hM) rfl rfl hl.1 (Nat.le_of_ble_eq_true rfl) ⟨rfl, rfl⟩ ⟨Nat.le_of_ble_eq_true rfl, Nat.le_of_ble_eq_true rfl⟩ ⟨(Nat.zero_le _), (Nat.zero_le _)⟩ dX11_token_40 (fun r_3 hw => ?_)
      refine lv_istore_n (lv' := [(1, .int r_3), (0, .ref q)]) hx hb dX11_token_43 rfl hl (by decide) rfl (fun ls hl => ?_)
      refine lv_aload_n hx hb dX11_token_44 rfl (lv_at hl 1 rfl) ?_
      refine lv_lconst (v := (0 : Int64)) hx hb dX11_token_45 (by decide) ?_
      refine mp_11_130_0 zc hK hM hS dX11_token_46 (fun H locs hM hS => ?_)
      refine lv_iconst (v := (0 : Int32)) hx hb dX11_token_49 (by decide) ?_
      refine lv_istore_n (lv' := [(2, .int (0 : Int32)), (1, .int r_3), (0, .ref q)]) hx hb dX11_token_50 rfl hl (by decide) rfl (fun ls hl => ?_)
      refine lv_iload_n hx hb dX11_token_51 rfl (lv_at hl 1 rfl) ?_
      refine lv_if_ge (tgt := 63) hx hb dX11_token_52 (by decide) (fun hc => ?_) (fun hc => ?_)
      · have hw := hw.1 hc
        refine lv_iload_n hx hb dX11_token_63 rfl (lv_at hl 1 rfl) ?_
        refine lv_bipush (v := (97 : Int32)) hx hb dX11_token_64 (by decide) ?_
        refine lv_bipush (v := (122 : Int32)) hx hb dX11_token_66 (by decide) ?_
        refine zS_i [.int r_3, .int (97 : Int32), .int (122 : Int32)] [] zc ky_X11_in kz_X11_in km_11_109 (c_m_in l hw) (zPre0 _) rfl rfl hl.1 (Nat.le_of_ble_eq_true rfl) ⟨rfl, rfl⟩ ⟨Nat.le_of_ble_eq_true rfl, Nat.le_of_ble_eq_true rfl⟩ ⟨(Nat.zero_le _), (Nat.zero_le _)⟩ dX11_token_68 (fun r_4 hw => ?_)
        refine lv_if_eq (tgt := 147) hx hb dX11_token_71 (by decide) (fun hc => ?_) (fun hc => ?_)
        · have hw := hw.1 hc
          refine lv_iload_n hx hb dX11_token_147 rfl (lv_at hl 1 rfl) ?_
          refine lv_bipush (v := (48 : Int32)) hx hb dX11_token_148 (by decide) ?_
          refine lv_bipush (v := (57 : Int32)) hx hb dX11_token_150 (by decide) ?_
          refine zS_i [.int r_3, .int (48 : Int32), .int (57 : Int32)] [] zc ky_X11_in kz_X11_in km_11_109 (c_m_in l hw) (zPre0 _) rfl rfl hl.1 (Nat.le_of_ble_eq_true rfl) ⟨rfl, rfl⟩ ⟨Nat.le_of_ble_eq_true rfl, Nat.le_of_ble_eq_true rfl⟩ ⟨(Nat.zero_le _), (Nat.zero_le _)⟩ dX11_token_152 (fun r_5 hw => ?_)
          refine lv_if_eq (tgt := 241) hx hb dX11_token_155 (by decide) (fun hc => ?_) (fun hc => ?_)
          · have hw := hw.1 hc
            refine lv_aload_n hx hb dX11_token_241 rfl (lv_at hl 2 rfl) ?_
            refine lv_dup hx hb dX11_token_242 rfl ?_
            refine mg_11_117_0 zc hK hM dX11_token_243 ?_
            refine lv_iconst (v := (1 : Int32)) hx hb dX11_token_246 (by decide) ?_
            refine lv_iadd hx hb dX11_token_247 ?_
            refine lv_topi (fun v_1 ev_1 => ?_)
            have hw := hw v_1 ev_1
            refine mp_11_117_0 zc hK hM hS dX11_token_248 (fun H locs hM hS => ?_)
            refine lv_aload_n hx hb dX11_token_251 rfl (lv_at hl 2 rfl) ?_
            refine lv_iload_n hx hb dX11_token_252 rfl (lv_at hl 1 rfl) ?_
            refine lv_bipush (v := (59 : Int32)) hx hb dX11_token_253 (by decide) ?_
            refine lv_icmp_ne (tgt := 262) hx hb dX11_token_255 (by decide) (fun hc => ?_) (fun hc => ?_)
            · have hw := hw.1 hc
              refine lv_iconst (v := (1 : Int32)) hx hb dX11_token_262 (by decide) ?_
              exact t_m_token_263 zc hK hM hS  (lv_sub hl [] rfl) hw
            · have hw := hw.2 hc
              refine lv_iconst (v := (4 : Int32)) hx hb dX11_token_258 (by decide) ?_
              refine lv_goto (tgt := 263) hx hb dX11_token_259 (by decide) ?_
              exact t_m_token_263 zc hK hM hS  (lv_sub hl [] rfl) hw
          · have hw := hw.2 hc
            refine lv_aload_n hx hb dX11_token_158 rfl (lv_at hl 2 rfl) ?_
            refine lv_iconst (v := (0 : Int32)) hx hb dX11_token_159 (by decide) ?_
            refine mp_11_137_0 zc hK hM hS dX11_token_160 (fun H locs hM hS => ?_)
            exact t_m_token_163 zc hK hM hS  (lv_sub hl [2, 0] rfl) hw
        · have hw := hw.2 hc
          exact t_m_token_74 zc hK hM hS  (lv_sub hl [2, 0] rfl) hw
      · have hw := hw.2 hc
        refine lv_aload_n hx hb dX11_token_55 rfl (lv_at hl 2 rfl) ?_
        refine lv_iconst (v := (0 : Int32)) hx hb dX11_token_56 (by decide) ?_
        refine mp_11_134_0 zc hK hM hS dX11_token_57 (fun H locs hM hS => ?_)
        refine lv_goto (tgt := 266) hx hb dX11_token_60 (by decide) ?_
        exact zret_vw ⟨f_reached, f_reached, (0 : Int32), f_value, (0 : Int64)⟩ zc hS hw hM dX11_token_266
    · have hw := hw.2 hc
      exact t_m_token_18 zc hK hM hS (fun _ H locs ls h hl hM hS => h H locs ls hl hM hS) (lv_sub hl [0] rfl) hw
set_option maxRecDepth 20000 in
theorem c_m_token (l : Launch) {E : zE} {q : Nat} {f_code : Int32} {a_tape : Nat → Int32} {a_size : Nat → Int32} {a_fault : Nat → Int32} {a_faultPlace : Nat → Int32} {a_many : Nat → Int32} {a_lands : Nat → Int32} {a_evenings : Nat → Int32} {a_sights : Nat → Int32} {a_choirs : Nat → Int32} {f_reached : Int32} {f_length : Int32} {f_begins : Int32} {f_sort : Int32} {f_value : Int32} {f_word : Int64} {f_wrongAt : Int32} {f_laterFault : Int32} {f_laterPlace : Int32} {a_told : Nat → Int32} {a_read : Nat → Int32} {f_farHut : Int32} {f_farSinger : Int32} {f_good : Int32} {f_land : Int32} {f_huts : Int32} {f_singers : Int32} {f_evening : Int32} {a_at : Nat → Int32} {a_knows : Nat → Int32} {a_climbed : Nat → Int32} {a_snow : Nat → Int32} {a_level : Nat → Int32} {f_begun : Int32} {f_minute : Int32} {f_avalanches : Int32} {a_run : Nat → Int32} {a_covers : Nat → Int32} {a_routes : Nat → Int32} {a_longest : Nat → Int32} {a_steep : Nat → Int32} {a_laid : Nat → Int32} {a_far : Nat → Int32} {f_sight : Int32} {a_runs : Nat → Int32} {f_choir : Int32} {f_voices : Int32} {a_rest : Nat → Int64} {a_wins : Nat → Int32} {f_seed : Int32} {a_other : Nat → Int32} {a_kept : Nat → Int32} {post : (Int32) → (Int32) → (Int32) → (Int32) → (Int64) → Prop} (hw : q_m_token_0 a_tape f_reached f_length f_begins f_sort f_value f_word post) : Met l yX11_token (Cond.code yX11_token cX11_token 3 none :: zb) rm_m_token (va_Pc [.ref q] (fun U => mW E q f_code a_tape a_size a_fault a_faultPlace a_many a_lands a_evenings a_sights a_choirs f_reached f_length f_begins f_sort f_value f_word f_wrongAt f_laterFault f_laterPlace a_told a_read f_farHut f_farSinger f_good f_land f_huts f_singers f_evening a_at a_knows a_climbed a_snow a_level f_begun f_minute f_avalanches a_run a_covers a_routes a_longest a_steep a_laid a_far f_sight a_runs f_choir f_voices a_rest a_wins f_seed a_other a_kept U.heap ∧ zK E U)) (zQv (S := (Int32) × (Int32) × (Int32) × (Int32) × (Int64)) (fun u => post u.1 u.2.1 u.2.2.1 u.2.2.2.1 u.2.2.2.2) (fun u H => mW E q f_code a_tape a_size a_fault a_faultPlace a_many a_lands a_evenings a_sights a_choirs u.1 f_length u.2.1 u.2.2.1 u.2.2.2.1 u.2.2.2.2 f_wrongAt f_laterFault f_laterPlace a_told a_read f_farHut f_farSinger f_good f_land f_huts f_singers f_evening a_at a_knows a_climbed a_snow a_level f_begun f_minute f_avalanches a_run a_covers a_routes a_longest a_steep a_laid a_far f_sight a_runs f_choir f_voices a_rest a_wins f_seed a_other a_kept H) (mA q)) 0 0 (mA q) := by
  refine Met.ofW (cc := cX11_token) (maxL := 3) (ret := none) (by decide) rfl ?_
  intro p e s m args below meth c s₁ B hml hv
  obtain ⟨rfl, hM, hK⟩ := hv
  have zc := zc_of B hml
  have hl := lv_entry ([.ref q]) (n := 3) (Nat.le_of_ble_eq_true rfl)
  rw [lg_entry_eq]
  generalize (lg_sl ([.ref q]) ++ List.replicate (3 - (lg_sl ([.ref q])).length) Slot.unset).toArray = ls at hl ⊢
  have hl : lv_has ls 3 [(0, .ref q)] := hl
  exact t_m_token_0 zc hK hM va_S.rf (lv_sub hl [0] rfl) hw
-- m_fails
abbrev rm_m_fails : Room := { frames := 0, cells := 0, slots := 0, locals := 0 }
def q_m_fails_0 (f_begins : Int32) (f_wrongAt : Int32) (post : Int32 → (Int32) → Prop) : Prop :=
  post (0 : Int32) f_begins
set_option maxRecDepth 20000 in
theorem t_m_fails_0 {p : Program} {l : Launch} {e : Env} {s : State} {m : MethodId} {args : Array Value} {below : List Frame} {meth : Method} {c : Code} {E : zE} {q : Nat} {f_code : Int32} {a_tape : Nat → Int32} {a_size : Nat → Int32} {a_fault : Nat → Int32} {a_faultPlace : Nat → Int32} {a_many : Nat → Int32} {a_lands : Nat → Int32} {a_evenings : Nat → Int32} {a_sights : Nat → Int32} {a_choirs : Nat → Int32} {f_reached : Int32} {f_length : Int32} {f_begins : Int32} {f_sort : Int32} {f_value : Int32} {f_word : Int64} {f_wrongAt : Int32} {f_laterFault : Int32} {f_laterPlace : Int32} {a_told : Nat → Int32} {a_read : Nat → Int32} {f_farHut : Int32} {f_farSinger : Int32} {f_good : Int32} {f_land : Int32} {f_huts : Int32} {f_singers : Int32} {f_evening : Int32} {a_at : Nat → Int32} {a_knows : Nat → Int32} {a_climbed : Nat → Int32} {a_snow : Nat → Int32} {a_level : Nat → Int32} {f_begun : Int32} {f_minute : Int32} {f_avalanches : Int32} {a_run : Nat → Int32} {a_covers : Nat → Int32} {a_routes : Nat → Int32} {a_longest : Nat → Int32} {a_steep : Nat → Int32} {a_laid : Nat → Int32} {a_far : Nat → Int32} {f_sight : Int32} {a_runs : Nat → Int32} {f_choir : Int32} {f_voices : Int32} {a_rest : Nat → Int64} {a_wins : Nat → Int32} {f_seed : Int32} {a_other : Nat → Int32} {a_kept : Nat → Int32} {post : Int32 → (Int32) → Prop} {ls : Array Slot} {H : Heap} {locs : List Loc}
    (zc : zC p s m args meth c cX11_fails 1 RX11 (some .boolean))
    (hK : zK E s)
    (hM : mW E q f_code a_tape a_size a_fault a_faultPlace a_many a_lands a_evenings a_sights a_choirs f_reached f_length f_begins f_sort f_value f_word f_wrongAt f_laterFault f_laterPlace a_told a_read f_farHut f_farSinger f_good f_land f_huts f_singers f_evening a_at a_knows a_climbed a_snow a_level f_begun f_minute f_avalanches a_run a_covers a_routes a_longest a_steep a_laid a_far f_sight a_runs f_choir f_voices a_rest a_wins f_seed a_other a_kept H)
    (hS : va_S (mA q) s.heap H locs)
    (hl : lv_has ls 1 [(0, .ref q)])
    (hw : q_m_fails_0 f_begins f_wrongAt post) :
    W p l e rm_m_fails s m args below meth c H locs 0 0 (MQ below (zQi (S := (Int32)) (fun r u => post r u) (fun u H => mW E q f_code a_tape a_size a_fault a_faultPlace a_many a_lands a_evenings a_sights a_choirs f_reached f_length f_begins f_sort f_value f_word u f_laterFault f_laterPlace a_told a_read f_farHut f_farSinger f_good f_land f_huts f_singers f_evening a_at a_knows a_climbed a_snow a_level f_begun f_minute f_avalanches a_run a_covers a_routes a_longest a_steep a_laid a_far f_sight a_runs f_choir f_voices a_rest a_wins f_seed a_other a_kept H) (mA q)) args s 0 0 (mA q)) (F0 m 0 ls []) := by
  have hx := zc.1
  have hb := zc.2.1
  refine lv_aload_n hx hb dX11_fails_0 rfl (lv_at hl 0 rfl) ?_
  refine lv_aload_n hx hb dX11_fails_1 rfl (lv_at hl 0 rfl) ?_
  refine mg_11_127_0 zc hK hM dX11_fails_2 ?_
  refine mp_11_140_0 zc hK hM hS dX11_fails_5 (fun H locs hM hS => ?_)
  refine lv_iconst (v := (0 : Int32)) hx hb dX11_fails_8 (by decide) ?_
  exact zret_zw f_begins zc hS rfl hw hM dX11_fails_9
set_option maxRecDepth 20000 in
theorem c_m_fails (l : Launch) {E : zE} {q : Nat} {f_code : Int32} {a_tape : Nat → Int32} {a_size : Nat → Int32} {a_fault : Nat → Int32} {a_faultPlace : Nat → Int32} {a_many : Nat → Int32} {a_lands : Nat → Int32} {a_evenings : Nat → Int32} {a_sights : Nat → Int32} {a_choirs : Nat → Int32} {f_reached : Int32} {f_length : Int32} {f_begins : Int32} {f_sort : Int32} {f_value : Int32} {f_word : Int64} {f_wrongAt : Int32} {f_laterFault : Int32} {f_laterPlace : Int32} {a_told : Nat → Int32} {a_read : Nat → Int32} {f_farHut : Int32} {f_farSinger : Int32} {f_good : Int32} {f_land : Int32} {f_huts : Int32} {f_singers : Int32} {f_evening : Int32} {a_at : Nat → Int32} {a_knows : Nat → Int32} {a_climbed : Nat → Int32} {a_snow : Nat → Int32} {a_level : Nat → Int32} {f_begun : Int32} {f_minute : Int32} {f_avalanches : Int32} {a_run : Nat → Int32} {a_covers : Nat → Int32} {a_routes : Nat → Int32} {a_longest : Nat → Int32} {a_steep : Nat → Int32} {a_laid : Nat → Int32} {a_far : Nat → Int32} {f_sight : Int32} {a_runs : Nat → Int32} {f_choir : Int32} {f_voices : Int32} {a_rest : Nat → Int64} {a_wins : Nat → Int32} {f_seed : Int32} {a_other : Nat → Int32} {a_kept : Nat → Int32} {post : Int32 → (Int32) → Prop} (hw : q_m_fails_0 f_begins f_wrongAt post) : Met l yX11_fails (Cond.code yX11_fails cX11_fails 1 (some .boolean) :: zb) rm_m_fails (va_Pc [.ref q] (fun U => mW E q f_code a_tape a_size a_fault a_faultPlace a_many a_lands a_evenings a_sights a_choirs f_reached f_length f_begins f_sort f_value f_word f_wrongAt f_laterFault f_laterPlace a_told a_read f_farHut f_farSinger f_good f_land f_huts f_singers f_evening a_at a_knows a_climbed a_snow a_level f_begun f_minute f_avalanches a_run a_covers a_routes a_longest a_steep a_laid a_far f_sight a_runs f_choir f_voices a_rest a_wins f_seed a_other a_kept U.heap ∧ zK E U)) (zQi (S := (Int32)) (fun r u => post r u) (fun u H => mW E q f_code a_tape a_size a_fault a_faultPlace a_many a_lands a_evenings a_sights a_choirs f_reached f_length f_begins f_sort f_value f_word u f_laterFault f_laterPlace a_told a_read f_farHut f_farSinger f_good f_land f_huts f_singers f_evening a_at a_knows a_climbed a_snow a_level f_begun f_minute f_avalanches a_run a_covers a_routes a_longest a_steep a_laid a_far f_sight a_runs f_choir f_voices a_rest a_wins f_seed a_other a_kept H) (mA q)) 0 0 (mA q) := by
  refine Met.ofW (cc := cX11_fails) (maxL := 1) (ret := (some .boolean)) (by decide) rfl ?_
  intro p e s m args below meth c s₁ B hml hv
  obtain ⟨rfl, hM, hK⟩ := hv
  have zc := zc_of B hml
  have hl := lv_entry ([.ref q]) (n := 1) (Nat.le_of_ble_eq_true rfl)
  rw [lg_entry_eq]
  generalize (lg_sl ([.ref q]) ++ List.replicate (1 - (lg_sl ([.ref q])).length) Slot.unset).toArray = ls at hl ⊢
  have hl : lv_has ls 1 [(0, .ref q)] := hl
  exact t_m_fails_0 zc hK hM va_S.rf (lv_sub hl [0] rfl) hw
-- m_later
abbrev rm_m_later : Room := { frames := 0, cells := 0, slots := 0, locals := 0 }
def q_m_later_31 (f_laterFault : Int32) (f_laterPlace : Int32) (x1 : Int32) (x2 : Int32) (post : (Int32) → (Int32) → Prop) : Prop :=
  post x1 x2
def q_m_later_0 (f_laterFault : Int32) (f_laterPlace : Int32) (x1 : Int32) (x2 : Int32) (post : (Int32) → (Int32) → Prop) : Prop :=
  (f_laterFault = 0 → (q_m_later_31 f_laterFault f_laterPlace x1 x2 post)) ∧ (¬ f_laterFault = 0 → ((x2 < f_laterPlace → (q_m_later_31 f_laterFault f_laterPlace x1 x2 post)) ∧ (¬ x2 < f_laterPlace → ((¬ x2 = f_laterPlace → (post f_laterFault f_laterPlace)) ∧ (x2 = f_laterPlace → ((f_laterFault ≤ x1 → (post f_laterFault f_laterPlace)) ∧ (¬ f_laterFault ≤ x1 → (q_m_later_31 f_laterFault f_laterPlace x1 x2 post))))))))
set_option maxRecDepth 20000 in
theorem t_m_later_31 {p : Program} {l : Launch} {e : Env} {s : State} {m : MethodId} {args : Array Value} {below : List Frame} {meth : Method} {c : Code} {E : zE} {q : Nat} {f_code : Int32} {a_tape : Nat → Int32} {a_size : Nat → Int32} {a_fault : Nat → Int32} {a_faultPlace : Nat → Int32} {a_many : Nat → Int32} {a_lands : Nat → Int32} {a_evenings : Nat → Int32} {a_sights : Nat → Int32} {a_choirs : Nat → Int32} {f_reached : Int32} {f_length : Int32} {f_begins : Int32} {f_sort : Int32} {f_value : Int32} {f_word : Int64} {f_wrongAt : Int32} {f_laterFault : Int32} {f_laterPlace : Int32} {a_told : Nat → Int32} {a_read : Nat → Int32} {f_farHut : Int32} {f_farSinger : Int32} {f_good : Int32} {f_land : Int32} {f_huts : Int32} {f_singers : Int32} {f_evening : Int32} {a_at : Nat → Int32} {a_knows : Nat → Int32} {a_climbed : Nat → Int32} {a_snow : Nat → Int32} {a_level : Nat → Int32} {f_begun : Int32} {f_minute : Int32} {f_avalanches : Int32} {a_run : Nat → Int32} {a_covers : Nat → Int32} {a_routes : Nat → Int32} {a_longest : Nat → Int32} {a_steep : Nat → Int32} {a_laid : Nat → Int32} {a_far : Nat → Int32} {f_sight : Int32} {a_runs : Nat → Int32} {f_choir : Int32} {f_voices : Int32} {a_rest : Nat → Int64} {a_wins : Nat → Int32} {f_seed : Int32} {a_other : Nat → Int32} {a_kept : Nat → Int32} {post : (Int32) → (Int32) → Prop} {x1 : Int32} {x2 : Int32} {ls : Array Slot} {H : Heap} {locs : List Loc}
    (zc : zC p s m args meth c cX11_later 3 RX11 none)
    (hK : zK E s)
    (hM : mW E q f_code a_tape a_size a_fault a_faultPlace a_many a_lands a_evenings a_sights a_choirs f_reached f_length f_begins f_sort f_value f_word f_wrongAt f_laterFault f_laterPlace a_told a_read f_farHut f_farSinger f_good f_land f_huts f_singers f_evening a_at a_knows a_climbed a_snow a_level f_begun f_minute f_avalanches a_run a_covers a_routes a_longest a_steep a_laid a_far f_sight a_runs f_choir f_voices a_rest a_wins f_seed a_other a_kept H)
    (hS : va_S (mA q) s.heap H locs)
    (hl : lv_has ls 3 [(0, .ref q), (1, .int x1), (2, .int x2)])
    (hw : q_m_later_31 f_laterFault f_laterPlace x1 x2 post) :
    W p l e rm_m_later s m args below meth c H locs 0 0 (MQ below (zQv (S := (Int32) × (Int32)) (fun u => post u.1 u.2) (fun u H => mW E q f_code a_tape a_size a_fault a_faultPlace a_many a_lands a_evenings a_sights a_choirs f_reached f_length f_begins f_sort f_value f_word f_wrongAt u.1 u.2 a_told a_read f_farHut f_farSinger f_good f_land f_huts f_singers f_evening a_at a_knows a_climbed a_snow a_level f_begun f_minute f_avalanches a_run a_covers a_routes a_longest a_steep a_laid a_far f_sight a_runs f_choir f_voices a_rest a_wins f_seed a_other a_kept H) (mA q)) args s 0 0 (mA q)) (F0 m 31 ls []) := by
  have hx := zc.1
  have hb := zc.2.1
  refine lv_aload_n hx hb dX11_later_31 rfl (lv_at hl 0 rfl) ?_
  refine lv_iload_n hx hb dX11_later_32 rfl (lv_at hl 1 rfl) ?_
  refine mp_11_143_0 zc hK hM hS dX11_later_33 (fun H locs hM hS => ?_)
  refine lv_aload_n hx hb dX11_later_36 rfl (lv_at hl 0 rfl) ?_
  refine lv_iload_n hx hb dX11_later_37 rfl (lv_at hl 2 rfl) ?_
  refine mp_11_146_0 zc hK hM hS dX11_later_38 (fun H locs hM hS => ?_)
  exact zret_vw ⟨x1, x2⟩ zc hS hw hM dX11_later_41
set_option maxRecDepth 20000 in
theorem t_m_later_0 {p : Program} {l : Launch} {e : Env} {s : State} {m : MethodId} {args : Array Value} {below : List Frame} {meth : Method} {c : Code} {E : zE} {q : Nat} {f_code : Int32} {a_tape : Nat → Int32} {a_size : Nat → Int32} {a_fault : Nat → Int32} {a_faultPlace : Nat → Int32} {a_many : Nat → Int32} {a_lands : Nat → Int32} {a_evenings : Nat → Int32} {a_sights : Nat → Int32} {a_choirs : Nat → Int32} {f_reached : Int32} {f_length : Int32} {f_begins : Int32} {f_sort : Int32} {f_value : Int32} {f_word : Int64} {f_wrongAt : Int32} {f_laterFault : Int32} {f_laterPlace : Int32} {a_told : Nat → Int32} {a_read : Nat → Int32} {f_farHut : Int32} {f_farSinger : Int32} {f_good : Int32} {f_land : Int32} {f_huts : Int32} {f_singers : Int32} {f_evening : Int32} {a_at : Nat → Int32} {a_knows : Nat → Int32} {a_climbed : Nat → Int32} {a_snow : Nat → Int32} {a_level : Nat → Int32} {f_begun : Int32} {f_minute : Int32} {f_avalanches : Int32} {a_run : Nat → Int32} {a_covers : Nat → Int32} {a_routes : Nat → Int32} {a_longest : Nat → Int32} {a_steep : Nat → Int32} {a_laid : Nat → Int32} {a_far : Nat → Int32} {f_sight : Int32} {a_runs : Nat → Int32} {f_choir : Int32} {f_voices : Int32} {a_rest : Nat → Int64} {a_wins : Nat → Int32} {f_seed : Int32} {a_other : Nat → Int32} {a_kept : Nat → Int32} {post : (Int32) → (Int32) → Prop} {x1 : Int32} {x2 : Int32} {ls : Array Slot} {H : Heap} {locs : List Loc}
    (zc : zC p s m args meth c cX11_later 3 RX11 none)
    (hK : zK E s)
    (hM : mW E q f_code a_tape a_size a_fault a_faultPlace a_many a_lands a_evenings a_sights a_choirs f_reached f_length f_begins f_sort f_value f_word f_wrongAt f_laterFault f_laterPlace a_told a_read f_farHut f_farSinger f_good f_land f_huts f_singers f_evening a_at a_knows a_climbed a_snow a_level f_begun f_minute f_avalanches a_run a_covers a_routes a_longest a_steep a_laid a_far f_sight a_runs f_choir f_voices a_rest a_wins f_seed a_other a_kept H)
    (hS : va_S (mA q) s.heap H locs)
    (hl : lv_has ls 3 [(0, .ref q), (1, .int x1), (2, .int x2)])
    (hw : q_m_later_0 f_laterFault f_laterPlace x1 x2 post) :
    W p l e rm_m_later s m args below meth c H locs 0 0 (MQ below (zQv (S := (Int32) × (Int32)) (fun u => post u.1 u.2) (fun u H => mW E q f_code a_tape a_size a_fault a_faultPlace a_many a_lands a_evenings a_sights a_choirs f_reached f_length f_begins f_sort f_value f_word f_wrongAt u.1 u.2 a_told a_read f_farHut f_farSinger f_good f_land f_huts f_singers f_evening a_at a_knows a_climbed a_snow a_level f_begun f_minute f_avalanches a_run a_covers a_routes a_longest a_steep a_laid a_far f_sight a_runs f_choir f_voices a_rest a_wins f_seed a_other a_kept H) (mA q)) args s 0 0 (mA q)) (F0 m 0 ls []) := by
  have hx := zc.1
  have hb := zc.2.1
  refine lv_aload_n hx hb dX11_later_0 rfl (lv_at hl 0 rfl) ?_
  refine mg_11_143_0 zc hK hM dX11_later_1 ?_
  refine lv_if_eq (tgt := 31) hx hb dX11_later_4 (by decide) (fun hc => ?_) (fun hc => ?_)
  · have hw := hw.1 hc
    exact t_m_later_31 zc hK hM hS  (lv_sub hl [0, 1, 2] rfl) hw
  · have hw := hw.2 hc
    refine lv_iload_n hx hb dX11_later_7 rfl (lv_at hl 2 rfl) ?_
    refine lv_aload_n hx hb dX11_later_8 rfl (lv_at hl 0 rfl) ?_
    refine mg_11_146_0 zc hK hM dX11_later_9 ?_
    refine lv_icmp_lt (tgt := 31) hx hb dX11_later_12 (by decide) (fun hc => ?_) (fun hc => ?_)
    · have hw := hw.1 hc
      exact t_m_later_31 zc hK hM hS  (lv_sub hl [0, 1, 2] rfl) hw
    · have hw := hw.2 hc
      refine lv_iload_n hx hb dX11_later_15 rfl (lv_at hl 2 rfl) ?_
      refine lv_aload_n hx hb dX11_later_16 rfl (lv_at hl 0 rfl) ?_
      refine mg_11_146_0 zc hK hM dX11_later_17 ?_
      refine lv_icmp_ne (tgt := 41) hx hb dX11_later_20 (by decide) (fun hc => ?_) (fun hc => ?_)
      · have hw := hw.1 hc
        exact zret_vw ⟨f_laterFault, f_laterPlace⟩ zc hS hw hM dX11_later_41
      · have hw := hw.2 hc
        refine lv_iload_n hx hb dX11_later_23 rfl (lv_at hl 1 rfl) ?_
        refine lv_aload_n hx hb dX11_later_24 rfl (lv_at hl 0 rfl) ?_
        refine mg_11_143_0 zc hK hM dX11_later_25 ?_
        refine lv_icmp_ge (tgt := 41) hx hb dX11_later_28 (by decide) (fun hc => ?_) (fun hc => ?_)
        · have hw := hw.1 hc
          exact zret_vw ⟨f_laterFault, f_laterPlace⟩ zc hS hw hM dX11_later_41
        · have hw := hw.2 hc
          exact t_m_later_31 zc hK hM hS  (lv_sub hl [0, 1, 2] rfl) hw
set_option maxRecDepth 20000 in
theorem c_m_later (l : Launch) {E : zE} {q : Nat} {f_code : Int32} {a_tape : Nat → Int32} {a_size : Nat → Int32} {a_fault : Nat → Int32} {a_faultPlace : Nat → Int32} {a_many : Nat → Int32} {a_lands : Nat → Int32} {a_evenings : Nat → Int32} {a_sights : Nat → Int32} {a_choirs : Nat → Int32} {f_reached : Int32} {f_length : Int32} {f_begins : Int32} {f_sort : Int32} {f_value : Int32} {f_word : Int64} {f_wrongAt : Int32} {f_laterFault : Int32} {f_laterPlace : Int32} {a_told : Nat → Int32} {a_read : Nat → Int32} {f_farHut : Int32} {f_farSinger : Int32} {f_good : Int32} {f_land : Int32} {f_huts : Int32} {f_singers : Int32} {f_evening : Int32} {a_at : Nat → Int32} {a_knows : Nat → Int32} {a_climbed : Nat → Int32} {a_snow : Nat → Int32} {a_level : Nat → Int32} {f_begun : Int32} {f_minute : Int32} {f_avalanches : Int32} {a_run : Nat → Int32} {a_covers : Nat → Int32} {a_routes : Nat → Int32} {a_longest : Nat → Int32} {a_steep : Nat → Int32} {a_laid : Nat → Int32} {a_far : Nat → Int32} {f_sight : Int32} {a_runs : Nat → Int32} {f_choir : Int32} {f_voices : Int32} {a_rest : Nat → Int64} {a_wins : Nat → Int32} {f_seed : Int32} {a_other : Nat → Int32} {a_kept : Nat → Int32} {x1 : Int32} {x2 : Int32} {post : (Int32) → (Int32) → Prop} (hw : q_m_later_0 f_laterFault f_laterPlace x1 x2 post) : Met l yX11_later (Cond.code yX11_later cX11_later 3 none :: zb) rm_m_later (va_Pc [.ref q, .int x1, .int x2] (fun U => mW E q f_code a_tape a_size a_fault a_faultPlace a_many a_lands a_evenings a_sights a_choirs f_reached f_length f_begins f_sort f_value f_word f_wrongAt f_laterFault f_laterPlace a_told a_read f_farHut f_farSinger f_good f_land f_huts f_singers f_evening a_at a_knows a_climbed a_snow a_level f_begun f_minute f_avalanches a_run a_covers a_routes a_longest a_steep a_laid a_far f_sight a_runs f_choir f_voices a_rest a_wins f_seed a_other a_kept U.heap ∧ zK E U)) (zQv (S := (Int32) × (Int32)) (fun u => post u.1 u.2) (fun u H => mW E q f_code a_tape a_size a_fault a_faultPlace a_many a_lands a_evenings a_sights a_choirs f_reached f_length f_begins f_sort f_value f_word f_wrongAt u.1 u.2 a_told a_read f_farHut f_farSinger f_good f_land f_huts f_singers f_evening a_at a_knows a_climbed a_snow a_level f_begun f_minute f_avalanches a_run a_covers a_routes a_longest a_steep a_laid a_far f_sight a_runs f_choir f_voices a_rest a_wins f_seed a_other a_kept H) (mA q)) 0 0 (mA q) := by
  refine Met.ofW (cc := cX11_later) (maxL := 3) (ret := none) (by decide) rfl ?_
  intro p e s m args below meth c s₁ B hml hv
  obtain ⟨rfl, hM, hK⟩ := hv
  have zc := zc_of B hml
  have hl := lv_entry ([.ref q, .int x1, .int x2]) (n := 3) (Nat.le_of_ble_eq_true rfl)
  rw [lg_entry_eq]
  generalize (lg_sl ([.ref q, .int x1, .int x2]) ++ List.replicate (3 - (lg_sl ([.ref q, .int x1, .int x2])).length) Slot.unset).toArray = ls at hl ⊢
  have hl : lv_has ls 3 [(0, .ref q), (1, .int x1), (2, .int x2)] := hl
  exact t_m_later_0 zc hK hM va_S.rf (lv_sub hl [0, 1, 2] rfl) hw
-- m_takeBut
abbrev rm_m_takeBut : Room := { frames := 2, cells := 0, slots := 0, locals := 44 }
def q_m_takeBut_58 (a_tape : Nat → Int32) (f_reached : Int32) (f_length : Int32) (f_begins : Int32) (f_sort : Int32) (f_value : Int32) (f_word : Int64) (f_wrongAt : Int32) (f_laterFault : Int32) (f_laterPlace : Int32) (a_read : Nat → Int32) (f_good : Int32) (post : Int32 → (Int32) → (Int32) → (Int32) → (Int32) → (Int64) → (Int32) → (Int32) → (Int32) → (Nat → Int32) → (Int32) → Prop) : Prop :=
  q_m_token_0 a_tape f_reached f_length f_begins f_sort f_value f_word (fun f_reached_1 f_begins_1 f_sort_1 f_value_1 f_word_1 => post (1 : Int32) f_reached_1 f_begins_1 f_sort_1 f_value_1 f_word_1 f_wrongAt f_laterFault f_laterPlace a_read f_good)
def q_m_takeBut_44 (a_tape : Nat → Int32) (f_reached : Int32) (f_length : Int32) (f_begins : Int32) (f_sort : Int32) (f_value : Int32) (f_word : Int64) (f_wrongAt : Int32) (f_laterFault : Int32) (f_laterPlace : Int32) (a_read : Nat → Int32) (f_good : Int32) (post : Int32 → (Int32) → (Int32) → (Int32) → (Int32) → (Int64) → (Int32) → (Int32) → (Int32) → (Nat → Int32) → (Int32) → Prop) : Prop :=
  q_m_later_0 f_laterFault f_laterPlace (2 : Int32) f_begins (fun f_laterFault_1 f_laterPlace_1 => q_m_takeBut_58 a_tape f_reached f_length f_begins f_sort f_value f_word f_wrongAt f_laterFault_1 f_laterPlace_1 a_read (0 : Int32) post)
def q_m_takeBut_0 (a_tape : Nat → Int32) (f_reached : Int32) (f_length : Int32) (f_begins : Int32) (f_sort : Int32) (f_value : Int32) (f_word : Int64) (f_wrongAt : Int32) (f_laterFault : Int32) (f_laterPlace : Int32) (a_read : Nat → Int32) (f_good : Int32) (x1 : Int32) (x2 : Int32) (x3 : Int32) (x4 : Int32) (post : Int32 → (Int32) → (Int32) → (Int32) → (Int32) → (Int64) → (Int32) → (Int32) → (Int32) → (Nat → Int32) → (Int32) → Prop) : Prop :=
  (f_sort = (3 : Int32) → (vp_in x1 3 ∧ (∀ a_read_1 : Nat → Int32, a_read_1 = upd a_read (Int32.toNatClampNeg x1) f_value → (q_m_in_0 f_value x2 x3 (fun r_1 => (r_1 = 0 → (q_m_takeBut_44 a_tape f_reached f_length f_begins f_sort f_value f_word f_wrongAt f_laterFault f_laterPlace a_read_1 f_good post)) ∧ (¬ r_1 = 0 → ((¬ f_value = x4 → (q_m_takeBut_58 a_tape f_reached f_length f_begins f_sort f_value f_word f_wrongAt f_laterFault f_laterPlace a_read_1 f_good post)) ∧ (f_value = x4 → (q_m_takeBut_44 a_tape f_reached f_length f_begins f_sort f_value f_word f_wrongAt f_laterFault f_laterPlace a_read_1 f_good post))))))))) ∧ (¬ f_sort = (3 : Int32) → (q_m_fails_0 f_begins f_wrongAt (fun r_2 f_wrongAt_1 => narrow .boolean (.int r_2) = .int r_2 ∧ post r_2 f_reached f_begins f_sort f_value f_word f_wrongAt_1 f_laterFault f_laterPlace a_read f_good)))
set_option maxRecDepth 20000 in
theorem t_m_takeBut_58 {p : Program} {l : Launch} {e : Env} {s : State} {m : MethodId} {args : Array Value} {below : List Frame} {meth : Method} {c : Code} {E : zE} {q : Nat} {f_code : Int32} {a_tape : Nat → Int32} {a_size : Nat → Int32} {a_fault : Nat → Int32} {a_faultPlace : Nat → Int32} {a_many : Nat → Int32} {a_lands : Nat → Int32} {a_evenings : Nat → Int32} {a_sights : Nat → Int32} {a_choirs : Nat → Int32} {f_reached : Int32} {f_length : Int32} {f_begins : Int32} {f_sort : Int32} {f_value : Int32} {f_word : Int64} {f_wrongAt : Int32} {f_laterFault : Int32} {f_laterPlace : Int32} {a_told : Nat → Int32} {a_read : Nat → Int32} {f_farHut : Int32} {f_farSinger : Int32} {f_good : Int32} {f_land : Int32} {f_huts : Int32} {f_singers : Int32} {f_evening : Int32} {a_at : Nat → Int32} {a_knows : Nat → Int32} {a_climbed : Nat → Int32} {a_snow : Nat → Int32} {a_level : Nat → Int32} {f_begun : Int32} {f_minute : Int32} {f_avalanches : Int32} {a_run : Nat → Int32} {a_covers : Nat → Int32} {a_routes : Nat → Int32} {a_longest : Nat → Int32} {a_steep : Nat → Int32} {a_laid : Nat → Int32} {a_far : Nat → Int32} {f_sight : Int32} {a_runs : Nat → Int32} {f_choir : Int32} {f_voices : Int32} {a_rest : Nat → Int64} {a_wins : Nat → Int32} {f_seed : Int32} {a_other : Nat → Int32} {a_kept : Nat → Int32} {post : Int32 → (Int32) → (Int32) → (Int32) → (Int32) → (Int64) → (Int32) → (Int32) → (Int32) → (Nat → Int32) → (Int32) → Prop} {ls : Array Slot} {H : Heap} {locs : List Loc}
    (zc : zC p s m args meth c cX11_takeBut 5 RX11 (some .boolean))
    (hK : zK E s)
    (hM : mW E q f_code a_tape a_size a_fault a_faultPlace a_many a_lands a_evenings a_sights a_choirs f_reached f_length f_begins f_sort f_value f_word f_wrongAt f_laterFault f_laterPlace a_told a_read f_farHut f_farSinger f_good f_land f_huts f_singers f_evening a_at a_knows a_climbed a_snow a_level f_begun f_minute f_avalanches a_run a_covers a_routes a_longest a_steep a_laid a_far f_sight a_runs f_choir f_voices a_rest a_wins f_seed a_other a_kept H)
    (hS : va_S (mA q) s.heap H locs)
    (hl : lv_has ls 5 [(0, .ref q)])
    (hw : q_m_takeBut_58 a_tape f_reached f_length f_begins f_sort f_value f_word f_wrongAt f_laterFault f_laterPlace a_read f_good post) :
    W p l e rm_m_takeBut s m args below meth c H locs 0 0 (MQ below (zQi (S := (Int32) × (Int32) × (Int32) × (Int32) × (Int64) × (Int32) × (Int32) × (Int32) × (Nat → Int32) × (Int32)) (fun r u => post r u.1 u.2.1 u.2.2.1 u.2.2.2.1 u.2.2.2.2.1 u.2.2.2.2.2.1 u.2.2.2.2.2.2.1 u.2.2.2.2.2.2.2.1 u.2.2.2.2.2.2.2.2.1 u.2.2.2.2.2.2.2.2.2) (fun u H => mW E q f_code a_tape a_size a_fault a_faultPlace a_many a_lands a_evenings a_sights a_choirs u.1 f_length u.2.1 u.2.2.1 u.2.2.2.1 u.2.2.2.2.1 u.2.2.2.2.2.1 u.2.2.2.2.2.2.1 u.2.2.2.2.2.2.2.1 a_told u.2.2.2.2.2.2.2.2.1 f_farHut f_farSinger u.2.2.2.2.2.2.2.2.2 f_land f_huts f_singers f_evening a_at a_knows a_climbed a_snow a_level f_begun f_minute f_avalanches a_run a_covers a_routes a_longest a_steep a_laid a_far f_sight a_runs f_choir f_voices a_rest a_wins f_seed a_other a_kept H) (mA q)) args s 0 0 (mA q)) (F0 m 58 ls []) := by
  have hx := zc.1
  have hb := zc.2.1
  refine lv_aload_n hx hb dX11_takeBut_58 rfl (lv_at hl 0 rfl) ?_
  refine zVw_v [] [] zc ky_X11_token kz_X11_token km_11_161 (c_m_token l hw) (mPreV0 hK hM) hS rfl rfl hl.1 (Nat.le_of_ble_eq_true rfl) ⟨rfl, rfl⟩ ⟨Nat.le_of_ble_eq_true rfl, Nat.le_of_ble_eq_true rfl⟩ ⟨(Nat.zero_le _), (Nat.zero_le _)⟩ dX11_takeBut_59 (fun u H locs hw hM hS => ?_)
  obtain ⟨f_reached_1, f_begins_1, f_sort_1, f_value_1, f_word_1⟩ := u
  refine lv_iconst (v := (1 : Int32)) hx hb dX11_takeBut_62 (by decide) ?_
  exact zret_zw ⟨f_reached_1, f_begins_1, f_sort_1, f_value_1, f_word_1, f_wrongAt, f_laterFault, f_laterPlace, a_read, f_good⟩ zc hS rfl hw hM dX11_takeBut_63
set_option maxRecDepth 20000 in
theorem t_m_takeBut_44 {p : Program} {l : Launch} {e : Env} {s : State} {m : MethodId} {args : Array Value} {below : List Frame} {meth : Method} {c : Code} {E : zE} {q : Nat} {f_code : Int32} {a_tape : Nat → Int32} {a_size : Nat → Int32} {a_fault : Nat → Int32} {a_faultPlace : Nat → Int32} {a_many : Nat → Int32} {a_lands : Nat → Int32} {a_evenings : Nat → Int32} {a_sights : Nat → Int32} {a_choirs : Nat → Int32} {f_reached : Int32} {f_length : Int32} {f_begins : Int32} {f_sort : Int32} {f_value : Int32} {f_word : Int64} {f_wrongAt : Int32} {f_laterFault : Int32} {f_laterPlace : Int32} {a_told : Nat → Int32} {a_read : Nat → Int32} {f_farHut : Int32} {f_farSinger : Int32} {f_good : Int32} {f_land : Int32} {f_huts : Int32} {f_singers : Int32} {f_evening : Int32} {a_at : Nat → Int32} {a_knows : Nat → Int32} {a_climbed : Nat → Int32} {a_snow : Nat → Int32} {a_level : Nat → Int32} {f_begun : Int32} {f_minute : Int32} {f_avalanches : Int32} {a_run : Nat → Int32} {a_covers : Nat → Int32} {a_routes : Nat → Int32} {a_longest : Nat → Int32} {a_steep : Nat → Int32} {a_laid : Nat → Int32} {a_far : Nat → Int32} {f_sight : Int32} {a_runs : Nat → Int32} {f_choir : Int32} {f_voices : Int32} {a_rest : Nat → Int64} {a_wins : Nat → Int32} {f_seed : Int32} {a_other : Nat → Int32} {a_kept : Nat → Int32} {post : Int32 → (Int32) → (Int32) → (Int32) → (Int32) → (Int64) → (Int32) → (Int32) → (Int32) → (Nat → Int32) → (Int32) → Prop} {ls : Array Slot} {H : Heap} {locs : List Loc}
    (zc : zC p s m args meth c cX11_takeBut 5 RX11 (some .boolean))
    (hK : zK E s)
    (hM : mW E q f_code a_tape a_size a_fault a_faultPlace a_many a_lands a_evenings a_sights a_choirs f_reached f_length f_begins f_sort f_value f_word f_wrongAt f_laterFault f_laterPlace a_told a_read f_farHut f_farSinger f_good f_land f_huts f_singers f_evening a_at a_knows a_climbed a_snow a_level f_begun f_minute f_avalanches a_run a_covers a_routes a_longest a_steep a_laid a_far f_sight a_runs f_choir f_voices a_rest a_wins f_seed a_other a_kept H)
    (hS : va_S (mA q) s.heap H locs)
    (hl : lv_has ls 5 [(0, .ref q)])
    (hw : q_m_takeBut_44 a_tape f_reached f_length f_begins f_sort f_value f_word f_wrongAt f_laterFault f_laterPlace a_read f_good post) :
    W p l e rm_m_takeBut s m args below meth c H locs 0 0 (MQ below (zQi (S := (Int32) × (Int32) × (Int32) × (Int32) × (Int64) × (Int32) × (Int32) × (Int32) × (Nat → Int32) × (Int32)) (fun r u => post r u.1 u.2.1 u.2.2.1 u.2.2.2.1 u.2.2.2.2.1 u.2.2.2.2.2.1 u.2.2.2.2.2.2.1 u.2.2.2.2.2.2.2.1 u.2.2.2.2.2.2.2.2.1 u.2.2.2.2.2.2.2.2.2) (fun u H => mW E q f_code a_tape a_size a_fault a_faultPlace a_many a_lands a_evenings a_sights a_choirs u.1 f_length u.2.1 u.2.2.1 u.2.2.2.1 u.2.2.2.2.1 u.2.2.2.2.2.1 u.2.2.2.2.2.2.1 u.2.2.2.2.2.2.2.1 a_told u.2.2.2.2.2.2.2.2.1 f_farHut f_farSinger u.2.2.2.2.2.2.2.2.2 f_land f_huts f_singers f_evening a_at a_knows a_climbed a_snow a_level f_begun f_minute f_avalanches a_run a_covers a_routes a_longest a_steep a_laid a_far f_sight a_runs f_choir f_voices a_rest a_wins f_seed a_other a_kept H) (mA q)) args s 0 0 (mA q)) (F0 m 44 ls []) := by
  have hx := zc.1
  have hb := zc.2.1
  refine lv_aload_n hx hb dX11_takeBut_44 rfl (lv_at hl 0 rfl) ?_
  refine lv_iconst (v := (2 : Int32)) hx hb dX11_takeBut_45 (by decide) ?_
  refine lv_aload_n hx hb dX11_takeBut_46 rfl (lv_at hl 0 rfl) ?_
  refine mg_11_127_0 zc hK hM dX11_takeBut_47 ?_
  refine zVw_v [.int (2 : Int32), .int f_begins] [] zc ky_X11_later kz_X11_later km_11_153 (c_m_later l hw) (mPreV0 hK hM) hS rfl rfl hl.1 (Nat.le_of_ble_eq_true rfl) ⟨rfl, rfl⟩ ⟨Nat.le_of_ble_eq_true rfl, Nat.le_of_ble_eq_true rfl⟩ ⟨(Nat.zero_le _), (Nat.zero_le _)⟩ dX11_takeBut_50 (fun u H locs hw hM hS => ?_)
  obtain ⟨f_laterFault_1, f_laterPlace_1⟩ := u
  refine lv_aload_n hx hb dX11_takeBut_53 rfl (lv_at hl 0 rfl) ?_
  refine lv_iconst (v := (0 : Int32)) hx hb dX11_takeBut_54 (by decide) ?_
  refine mp_11_157_0 zc hK hM hS rfl rfl dX11_takeBut_55 (fun H locs hM hS => ?_)
  exact t_m_takeBut_58 zc hK hM hS  (lv_sub hl [0] rfl) hw
set_option maxRecDepth 20000 in
theorem t_m_takeBut_0 {p : Program} {l : Launch} {e : Env} {s : State} {m : MethodId} {args : Array Value} {below : List Frame} {meth : Method} {c : Code} {E : zE} {q : Nat} {f_code : Int32} {a_tape : Nat → Int32} {a_size : Nat → Int32} {a_fault : Nat → Int32} {a_faultPlace : Nat → Int32} {a_many : Nat → Int32} {a_lands : Nat → Int32} {a_evenings : Nat → Int32} {a_sights : Nat → Int32} {a_choirs : Nat → Int32} {f_reached : Int32} {f_length : Int32} {f_begins : Int32} {f_sort : Int32} {f_value : Int32} {f_word : Int64} {f_wrongAt : Int32} {f_laterFault : Int32} {f_laterPlace : Int32} {a_told : Nat → Int32} {a_read : Nat → Int32} {f_farHut : Int32} {f_farSinger : Int32} {f_good : Int32} {f_land : Int32} {f_huts : Int32} {f_singers : Int32} {f_evening : Int32} {a_at : Nat → Int32} {a_knows : Nat → Int32} {a_climbed : Nat → Int32} {a_snow : Nat → Int32} {a_level : Nat → Int32} {f_begun : Int32} {f_minute : Int32} {f_avalanches : Int32} {a_run : Nat → Int32} {a_covers : Nat → Int32} {a_routes : Nat → Int32} {a_longest : Nat → Int32} {a_steep : Nat → Int32} {a_laid : Nat → Int32} {a_far : Nat → Int32} {f_sight : Int32} {a_runs : Nat → Int32} {f_choir : Int32} {f_voices : Int32} {a_rest : Nat → Int64} {a_wins : Nat → Int32} {f_seed : Int32} {a_other : Nat → Int32} {a_kept : Nat → Int32} {post : Int32 → (Int32) → (Int32) → (Int32) → (Int32) → (Int64) → (Int32) → (Int32) → (Int32) → (Nat → Int32) → (Int32) → Prop} {x1 : Int32} {x2 : Int32} {x3 : Int32} {x4 : Int32} {ls : Array Slot} {H : Heap} {locs : List Loc}
    (zc : zC p s m args meth c cX11_takeBut 5 RX11 (some .boolean))
    (hK : zK E s)
    (hM : mW E q f_code a_tape a_size a_fault a_faultPlace a_many a_lands a_evenings a_sights a_choirs f_reached f_length f_begins f_sort f_value f_word f_wrongAt f_laterFault f_laterPlace a_told a_read f_farHut f_farSinger f_good f_land f_huts f_singers f_evening a_at a_knows a_climbed a_snow a_level f_begun f_minute f_avalanches a_run a_covers a_routes a_longest a_steep a_laid a_far f_sight a_runs f_choir f_voices a_rest a_wins f_seed a_other a_kept H)
    (hS : va_S (mA q) s.heap H locs)
    (hl : lv_has ls 5 [(0, .ref q), (1, .int x1), (2, .int x2), (3, .int x3), (4, .int x4)])
    (hw : q_m_takeBut_0 a_tape f_reached f_length f_begins f_sort f_value f_word f_wrongAt f_laterFault f_laterPlace a_read f_good x1 x2 x3 x4 post) :
    W p l e rm_m_takeBut s m args below meth c H locs 0 0 (MQ below (zQi (S := (Int32) × (Int32) × (Int32) × (Int32) × (Int64) × (Int32) × (Int32) × (Int32) × (Nat → Int32) × (Int32)) (fun r u => post r u.1 u.2.1 u.2.2.1 u.2.2.2.1 u.2.2.2.2.1 u.2.2.2.2.2.1 u.2.2.2.2.2.2.1 u.2.2.2.2.2.2.2.1 u.2.2.2.2.2.2.2.2.1 u.2.2.2.2.2.2.2.2.2) (fun u H => mW E q f_code a_tape a_size a_fault a_faultPlace a_many a_lands a_evenings a_sights a_choirs u.1 f_length u.2.1 u.2.2.1 u.2.2.2.1 u.2.2.2.2.1 u.2.2.2.2.2.1 u.2.2.2.2.2.2.1 u.2.2.2.2.2.2.2.1 a_told u.2.2.2.2.2.2.2.2.1 f_farHut f_farSinger u.2.2.2.2.2.2.2.2.2 f_land f_huts f_singers f_evening a_at a_knows a_climbed a_snow a_level f_begun f_minute f_avalanches a_run a_covers a_routes a_longest a_steep a_laid a_far f_sight a_runs f_choir f_voices a_rest a_wins f_seed a_other a_kept H) (mA q)) args s 0 0 (mA q)) (F0 m 0 ls []) := by
  have hx := zc.1
  have hb := zc.2.1
  refine lv_aload_n hx hb dX11_takeBut_0 rfl (lv_at hl 0 rfl) ?_
  refine mg_11_134_0 zc hK hM dX11_takeBut_1 ?_
  refine lv_iconst (v := (3 : Int32)) hx hb dX11_takeBut_4 (by decide) ?_
  refine lv_icmp_eq (tgt := 13) hx hb dX11_takeBut_5 (by decide) (fun hc => ?_) (fun hc => ?_)
  · have hw := hw.1 hc
    refine lv_aload_n hx hb dX11_takeBut_13 rfl (lv_at hl 0 rfl) ?_
    refine mg_11_41_0 zc hK hM dX11_takeBut_14 ?_
    refine lv_iload_n hx hb dX11_takeBut_17 rfl (lv_at hl 1 rfl) ?_
    refine lv_aload_n hx hb dX11_takeBut_18 rfl (lv_at hl 0 rfl) ?_
    refine mg_11_137_0 zc hK hM dX11_takeBut_19 ?_
    refine mst_11 zc hK hM hS hw.1 dX11_takeBut_22 (fun a_read_1 H locs ea_read_1 hM hS => ?_)
    have hw := hw.2 a_read_1 ea_read_1
    refine lv_aload_n hx hb dX11_takeBut_23 rfl (lv_at hl 0 rfl) ?_
    refine mg_11_137_0 zc hK hM dX11_takeBut_24 ?_
    refine lv_iload_n hx hb dX11_takeBut_27 rfl (lv_at hl 2 rfl) ?_
    refine lv_iload_n hx hb dX11_takeBut_28 rfl (lv_at hl 3 rfl) ?_
    refine zS_i [.int f_value, .int x2, .int x3] [] zc ky_X11_in kz_X11_in km_11_109 (c_m_in l hw) (zPre0 _) rfl rfl hl.1 (Nat.le_of_ble_eq_true rfl) ⟨rfl, rfl⟩ ⟨Nat.le_of_ble_eq_true rfl, Nat.le_of_ble_eq_true rfl⟩ ⟨(Nat.zero_le _), (Nat.zero_le _)⟩ dX11_takeBut_29 (fun r_1 hw => ?_)
    refine lv_if_eq (tgt := 44) hx hb dX11_takeBut_32 (by decide) (fun hc => ?_) (fun hc => ?_)
    · have hw := hw.1 hc
      exact t_m_takeBut_44 zc hK hM hS  (lv_sub hl [0] rfl) hw
    · have hw := hw.2 hc
      refine lv_aload_n hx hb dX11_takeBut_35 rfl (lv_at hl 0 rfl) ?_
      refine mg_11_137_0 zc hK hM dX11_takeBut_36 ?_
      refine lv_iload hx hb dX11_takeBut_39 (lv_at hl 4 rfl) ?_
      refine lv_icmp_ne (tgt := 58) hx hb dX11_takeBut_41 (by decide) (fun hc => ?_) (fun hc => ?_)
      · have hw := hw.1 hc
        exact t_m_takeBut_58 zc hK hM hS  (lv_sub hl [0] rfl) hw
      · have hw := hw.2 hc
        exact t_m_takeBut_44 zc hK hM hS  (lv_sub hl [0] rfl) hw
  · have hw := hw.2 hc
    refine lv_aload_n hx hb dX11_takeBut_8 rfl (lv_at hl 0 rfl) ?_
    refine zVw_i [] [] zc ky_X11_fails kz_X11_fails km_11_149 (c_m_fails l hw) (mPreV0 hK hM) hS rfl rfl hl.1 (Nat.le_of_ble_eq_true rfl) ⟨rfl, rfl⟩ ⟨Nat.le_of_ble_eq_true rfl, Nat.le_of_ble_eq_true rfl⟩ ⟨(Nat.zero_le _), (Nat.zero_le _)⟩ dX11_takeBut_9 (fun r_2 f_wrongAt_1 H locs hw hM hS => ?_)
    exact zret_zw ⟨f_reached, f_begins, f_sort, f_value, f_word, f_wrongAt_1, f_laterFault, f_laterPlace, a_read, f_good⟩ zc hS hw.1 hw.2 hM dX11_takeBut_12
set_option maxRecDepth 20000 in
theorem c_m_takeBut (l : Launch) {E : zE} {q : Nat} {f_code : Int32} {a_tape : Nat → Int32} {a_size : Nat → Int32} {a_fault : Nat → Int32} {a_faultPlace : Nat → Int32} {a_many : Nat → Int32} {a_lands : Nat → Int32} {a_evenings : Nat → Int32} {a_sights : Nat → Int32} {a_choirs : Nat → Int32} {f_reached : Int32} {f_length : Int32} {f_begins : Int32} {f_sort : Int32} {f_value : Int32} {f_word : Int64} {f_wrongAt : Int32} {f_laterFault : Int32} {f_laterPlace : Int32} {a_told : Nat → Int32} {a_read : Nat → Int32} {f_farHut : Int32} {f_farSinger : Int32} {f_good : Int32} {f_land : Int32} {f_huts : Int32} {f_singers : Int32} {f_evening : Int32} {a_at : Nat → Int32} {a_knows : Nat → Int32} {a_climbed : Nat → Int32} {a_snow : Nat → Int32} {a_level : Nat → Int32} {f_begun : Int32} {f_minute : Int32} {f_avalanches : Int32} {a_run : Nat → Int32} {a_covers : Nat → Int32} {a_routes : Nat → Int32} {a_longest : Nat → Int32} {a_steep : Nat → Int32} {a_laid : Nat → Int32} {a_far : Nat → Int32} {f_sight : Int32} {a_runs : Nat → Int32} {f_choir : Int32} {f_voices : Int32} {a_rest : Nat → Int64} {a_wins : Nat → Int32} {f_seed : Int32} {a_other : Nat → Int32} {a_kept : Nat → Int32} {x1 : Int32} {x2 : Int32} {x3 : Int32} {x4 : Int32} {post : Int32 → (Int32) → (Int32) → (Int32) → (Int32) → (Int64) → (Int32) → (Int32) → (Int32) → (Nat → Int32) → (Int32) → Prop} (hw : q_m_takeBut_0 a_tape f_reached f_length f_begins f_sort f_value f_word f_wrongAt f_laterFault f_laterPlace a_read f_good x1 x2 x3 x4 post) : Met l yX11_takeBut (Cond.code yX11_takeBut cX11_takeBut 5 (some .boolean) :: zb) rm_m_takeBut (va_Pc [.ref q, .int x1, .int x2, .int x3, .int x4] (fun U => mW E q f_code a_tape a_size a_fault a_faultPlace a_many a_lands a_evenings a_sights a_choirs f_reached f_length f_begins f_sort f_value f_word f_wrongAt f_laterFault f_laterPlace a_told a_read f_farHut f_farSinger f_good f_land f_huts f_singers f_evening a_at a_knows a_climbed a_snow a_level f_begun f_minute f_avalanches a_run a_covers a_routes a_longest a_steep a_laid a_far f_sight a_runs f_choir f_voices a_rest a_wins f_seed a_other a_kept U.heap ∧ zK E U)) (zQi (S := (Int32) × (Int32) × (Int32) × (Int32) × (Int64) × (Int32) × (Int32) × (Int32) × (Nat → Int32) × (Int32)) (fun r u => post r u.1 u.2.1 u.2.2.1 u.2.2.2.1 u.2.2.2.2.1 u.2.2.2.2.2.1 u.2.2.2.2.2.2.1 u.2.2.2.2.2.2.2.1 u.2.2.2.2.2.2.2.2.1 u.2.2.2.2.2.2.2.2.2) (fun u H => mW E q f_code a_tape a_size a_fault a_faultPlace a_many a_lands a_evenings a_sights a_choirs u.1 f_length u.2.1 u.2.2.1 u.2.2.2.1 u.2.2.2.2.1 u.2.2.2.2.2.1 u.2.2.2.2.2.2.1 u.2.2.2.2.2.2.2.1 a_told u.2.2.2.2.2.2.2.2.1 f_farHut f_farSinger u.2.2.2.2.2.2.2.2.2 f_land f_huts f_singers f_evening a_at a_knows a_climbed a_snow a_level f_begun f_minute f_avalanches a_run a_covers a_routes a_longest a_steep a_laid a_far f_sight a_runs f_choir f_voices a_rest a_wins f_seed a_other a_kept H) (mA q)) 0 0 (mA q) := by
  refine Met.ofW (cc := cX11_takeBut) (maxL := 5) (ret := (some .boolean)) (by decide) rfl ?_
  intro p e s m args below meth c s₁ B hml hv
  obtain ⟨rfl, hM, hK⟩ := hv
  have zc := zc_of B hml
  have hl := lv_entry ([.ref q, .int x1, .int x2, .int x3, .int x4]) (n := 5) (Nat.le_of_ble_eq_true rfl)
  rw [lg_entry_eq]
  generalize (lg_sl ([.ref q, .int x1, .int x2, .int x3, .int x4]) ++ List.replicate (5 - (lg_sl ([.ref q, .int x1, .int x2, .int x3, .int x4])).length) Slot.unset).toArray = ls at hl ⊢
  have hl : lv_has ls 5 [(0, .ref q), (1, .int x1), (2, .int x2), (3, .int x3), (4, .int x4)] := hl
  exact t_m_takeBut_0 zc hK hM va_S.rf (lv_sub hl [0, 1, 2, 3, 4] rfl) hw
-- m_take
abbrev rm_m_take : Room := { frames := 3, cells := 0, slots := 0, locals := 68 }
def q_m_take_0 (a_tape : Nat → Int32) (f_reached : Int32) (f_length : Int32) (f_begins : Int32) (f_sort : Int32) (f_value : Int32) (f_word : Int64) (f_wrongAt : Int32) (f_laterFault : Int32) (f_laterPlace : Int32) (a_read : Nat → Int32) (f_good : Int32) (x1 : Int32) (x2 : Int32) (x3 : Int32) (post : Int32 → (Int32) → (Int32) → (Int32) → (Int32) → (Int64) → (Int32) → (Int32) → (Int32) → (Nat → Int32) → (Int32) → Prop) : Prop :=
  q_m_takeBut_0 a_tape f_reached f_length f_begins f_sort f_value f_word f_wrongAt f_laterFault f_laterPlace a_read f_good x1 x2 x3 (-1 : Int32) (fun r_1 f_reached_1 f_begins_1 f_sort_1 f_value_1 f_word_1 f_wrongAt_1 f_laterFault_1 f_laterPlace_1 a_read_1 f_good_1 => narrow .boolean (.int r_1) = .int r_1 ∧ post r_1 f_reached_1 f_begins_1 f_sort_1 f_value_1 f_word_1 f_wrongAt_1 f_laterFault_1 f_laterPlace_1 a_read_1 f_good_1)
set_option maxRecDepth 20000 in
theorem t_m_take_0 {p : Program} {l : Launch} {e : Env} {s : State} {m : MethodId} {args : Array Value} {below : List Frame} {meth : Method} {c : Code} {E : zE} {q : Nat} {f_code : Int32} {a_tape : Nat → Int32} {a_size : Nat → Int32} {a_fault : Nat → Int32} {a_faultPlace : Nat → Int32} {a_many : Nat → Int32} {a_lands : Nat → Int32} {a_evenings : Nat → Int32} {a_sights : Nat → Int32} {a_choirs : Nat → Int32} {f_reached : Int32} {f_length : Int32} {f_begins : Int32} {f_sort : Int32} {f_value : Int32} {f_word : Int64} {f_wrongAt : Int32} {f_laterFault : Int32} {f_laterPlace : Int32} {a_told : Nat → Int32} {a_read : Nat → Int32} {f_farHut : Int32} {f_farSinger : Int32} {f_good : Int32} {f_land : Int32} {f_huts : Int32} {f_singers : Int32} {f_evening : Int32} {a_at : Nat → Int32} {a_knows : Nat → Int32} {a_climbed : Nat → Int32} {a_snow : Nat → Int32} {a_level : Nat → Int32} {f_begun : Int32} {f_minute : Int32} {f_avalanches : Int32} {a_run : Nat → Int32} {a_covers : Nat → Int32} {a_routes : Nat → Int32} {a_longest : Nat → Int32} {a_steep : Nat → Int32} {a_laid : Nat → Int32} {a_far : Nat → Int32} {f_sight : Int32} {a_runs : Nat → Int32} {f_choir : Int32} {f_voices : Int32} {a_rest : Nat → Int64} {a_wins : Nat → Int32} {f_seed : Int32} {a_other : Nat → Int32} {a_kept : Nat → Int32} {post : Int32 → (Int32) → (Int32) → (Int32) → (Int32) → (Int64) → (Int32) → (Int32) → (Int32) → (Nat → Int32) → (Int32) → Prop} {x1 : Int32} {x2 : Int32} {x3 : Int32} {ls : Array Slot} {H : Heap} {locs : List Loc}
    (zc : zC p s m args meth c cX11_take 4 RX11 (some .boolean))
    (hK : zK E s)
    (hM : mW E q f_code a_tape a_size a_fault a_faultPlace a_many a_lands a_evenings a_sights a_choirs f_reached f_length f_begins f_sort f_value f_word f_wrongAt f_laterFault f_laterPlace a_told a_read f_farHut f_farSinger f_good f_land f_huts f_singers f_evening a_at a_knows a_climbed a_snow a_level f_begun f_minute f_avalanches a_run a_covers a_routes a_longest a_steep a_laid a_far f_sight a_runs f_choir f_voices a_rest a_wins f_seed a_other a_kept H)
    (hS : va_S (mA q) s.heap H locs)
    (hl : lv_has ls 4 [(0, .ref q), (1, .int x1), (2, .int x2), (3, .int x3)])
    (hw : q_m_take_0 a_tape f_reached f_length f_begins f_sort f_value f_word f_wrongAt f_laterFault f_laterPlace a_read f_good x1 x2 x3 post) :
    W p l e rm_m_take s m args below meth c H locs 0 0 (MQ below (zQi (S := (Int32) × (Int32) × (Int32) × (Int32) × (Int64) × (Int32) × (Int32) × (Int32) × (Nat → Int32) × (Int32)) (fun r u => post r u.1 u.2.1 u.2.2.1 u.2.2.2.1 u.2.2.2.2.1 u.2.2.2.2.2.1 u.2.2.2.2.2.2.1 u.2.2.2.2.2.2.2.1 u.2.2.2.2.2.2.2.2.1 u.2.2.2.2.2.2.2.2.2) (fun u H => mW E q f_code a_tape a_size a_fault a_faultPlace a_many a_lands a_evenings a_sights a_choirs u.1 f_length u.2.1 u.2.2.1 u.2.2.2.1 u.2.2.2.2.1 u.2.2.2.2.2.1 u.2.2.2.2.2.2.1 u.2.2.2.2.2.2.2.1 a_told u.2.2.2.2.2.2.2.2.1 f_farHut f_farSinger u.2.2.2.2.2.2.2.2.2 f_land f_huts f_singers f_evening a_at a_knows a_climbed a_snow a_level f_begun f_minute f_avalanches a_run a_covers a_routes a_longest a_steep a_laid a_far f_sight a_runs f_choir f_voices a_rest a_wins f_seed a_other a_kept H) (mA q)) args s 0 0 (mA q)) (F0 m 0 ls []) := by
  have hx := zc.1
  have hb := zc.2.1
  refine lv_aload_n hx hb dX11_take_0 rfl (lv_at hl 0 rfl) ?_
  refine lv_iload_n hx hb dX11_take_1 rfl (lv_at hl 1 rfl) ?_
  refine lv_iload_n hx hb dX11_take_2 rfl (lv_at hl 2 rfl) ?_
  refine lv_iload_n hx hb dX11_take_3 rfl (lv_at hl 3 rfl) ?_
  refine lv_iconst (v := (-1 : Int32)) hx hb dX11_take_4 (by decide) ?_
  refine zVw_i [.int x1, .int x2, .int x3, .int (-1 : Int32)] [] zc ky_X11_takeBut kz_X11_takeBut km_11_164 (c_m_takeBut l hw) (mPreV0 hK hM) hS rfl rfl hl.1 (Nat.le_of_ble_eq_true rfl) ⟨rfl, rfl⟩ ⟨Nat.le_of_ble_eq_true rfl, Nat.le_of_ble_eq_true rfl⟩ ⟨(Nat.zero_le _), (Nat.zero_le _)⟩ dX11_take_5 (fun r_1 u H locs hw hM hS => ?_)
  obtain ⟨f_reached_1, f_begins_1, f_sort_1, f_value_1, f_word_1, f_wrongAt_1, f_laterFault_1, f_laterPlace_1, a_read_1, f_good_1⟩ := u
  exact zret_zw ⟨f_reached_1, f_begins_1, f_sort_1, f_value_1, f_word_1, f_wrongAt_1, f_laterFault_1, f_laterPlace_1, a_read_1, f_good_1⟩ zc hS hw.1 hw.2 hM dX11_take_8
set_option maxRecDepth 20000 in
theorem c_m_take (l : Launch) {E : zE} {q : Nat} {f_code : Int32} {a_tape : Nat → Int32} {a_size : Nat → Int32} {a_fault : Nat → Int32} {a_faultPlace : Nat → Int32} {a_many : Nat → Int32} {a_lands : Nat → Int32} {a_evenings : Nat → Int32} {a_sights : Nat → Int32} {a_choirs : Nat → Int32} {f_reached : Int32} {f_length : Int32} {f_begins : Int32} {f_sort : Int32} {f_value : Int32} {f_word : Int64} {f_wrongAt : Int32} {f_laterFault : Int32} {f_laterPlace : Int32} {a_told : Nat → Int32} {a_read : Nat → Int32} {f_farHut : Int32} {f_farSinger : Int32} {f_good : Int32} {f_land : Int32} {f_huts : Int32} {f_singers : Int32} {f_evening : Int32} {a_at : Nat → Int32} {a_knows : Nat → Int32} {a_climbed : Nat → Int32} {a_snow : Nat → Int32} {a_level : Nat → Int32} {f_begun : Int32} {f_minute : Int32} {f_avalanches : Int32} {a_run : Nat → Int32} {a_covers : Nat → Int32} {a_routes : Nat → Int32} {a_longest : Nat → Int32} {a_steep : Nat → Int32} {a_laid : Nat → Int32} {a_far : Nat → Int32} {f_sight : Int32} {a_runs : Nat → Int32} {f_choir : Int32} {f_voices : Int32} {a_rest : Nat → Int64} {a_wins : Nat → Int32} {f_seed : Int32} {a_other : Nat → Int32} {a_kept : Nat → Int32} {x1 : Int32} {x2 : Int32} {x3 : Int32} {post : Int32 → (Int32) → (Int32) → (Int32) → (Int32) → (Int64) → (Int32) → (Int32) → (Int32) → (Nat → Int32) → (Int32) → Prop} (hw : q_m_take_0 a_tape f_reached f_length f_begins f_sort f_value f_word f_wrongAt f_laterFault f_laterPlace a_read f_good x1 x2 x3 post) : Met l yX11_take (Cond.code yX11_take cX11_take 4 (some .boolean) :: zb) rm_m_take (va_Pc [.ref q, .int x1, .int x2, .int x3] (fun U => mW E q f_code a_tape a_size a_fault a_faultPlace a_many a_lands a_evenings a_sights a_choirs f_reached f_length f_begins f_sort f_value f_word f_wrongAt f_laterFault f_laterPlace a_told a_read f_farHut f_farSinger f_good f_land f_huts f_singers f_evening a_at a_knows a_climbed a_snow a_level f_begun f_minute f_avalanches a_run a_covers a_routes a_longest a_steep a_laid a_far f_sight a_runs f_choir f_voices a_rest a_wins f_seed a_other a_kept U.heap ∧ zK E U)) (zQi (S := (Int32) × (Int32) × (Int32) × (Int32) × (Int64) × (Int32) × (Int32) × (Int32) × (Nat → Int32) × (Int32)) (fun r u => post r u.1 u.2.1 u.2.2.1 u.2.2.2.1 u.2.2.2.2.1 u.2.2.2.2.2.1 u.2.2.2.2.2.2.1 u.2.2.2.2.2.2.2.1 u.2.2.2.2.2.2.2.2.1 u.2.2.2.2.2.2.2.2.2) (fun u H => mW E q f_code a_tape a_size a_fault a_faultPlace a_many a_lands a_evenings a_sights a_choirs u.1 f_length u.2.1 u.2.2.1 u.2.2.2.1 u.2.2.2.2.1 u.2.2.2.2.2.1 u.2.2.2.2.2.2.1 u.2.2.2.2.2.2.2.1 a_told u.2.2.2.2.2.2.2.2.1 f_farHut f_farSinger u.2.2.2.2.2.2.2.2.2 f_land f_huts f_singers f_evening a_at a_knows a_climbed a_snow a_level f_begun f_minute f_avalanches a_run a_covers a_routes a_longest a_steep a_laid a_far f_sight a_runs f_choir f_voices a_rest a_wins f_seed a_other a_kept H) (mA q)) 0 0 (mA q) := by
  refine Met.ofW (cc := cX11_take) (maxL := 4) (ret := (some .boolean)) (by decide) rfl ?_
  intro p e s m args below meth c s₁ B hml hv
  obtain ⟨rfl, hM, hK⟩ := hv
  have zc := zc_of B hml
  have hl := lv_entry ([.ref q, .int x1, .int x2, .int x3]) (n := 4) (Nat.le_of_ble_eq_true rfl)
  rw [lg_entry_eq]
  generalize (lg_sl ([.ref q, .int x1, .int x2, .int x3]) ++ List.replicate (4 - (lg_sl ([.ref q, .int x1, .int x2, .int x3])).length) Slot.unset).toArray = ls at hl ⊢
  have hl : lv_has ls 4 [(0, .ref q), (1, .int x1), (2, .int x2), (3, .int x3)] := hl
  exact t_m_take_0 zc hK hM va_S.rf (lv_sub hl [0, 1, 2, 3] rfl) hw
-- m_takeHut
abbrev rm_m_takeHut : Room := { frames := 3, cells := 0, slots := 0, locals := 68 }
def q_m_takeHut_0 (a_tape : Nat → Int32) (f_reached : Int32) (f_length : Int32) (f_begins : Int32) (f_sort : Int32) (f_value : Int32) (f_word : Int64) (f_wrongAt : Int32) (f_laterFault : Int32) (f_laterPlace : Int32) (a_read : Nat → Int32) (f_farHut : Int32) (f_good : Int32) (x1 : Int32) (x2 : Int32) (post : Int32 → (Int32) → (Int32) → (Int32) → (Int32) → (Int64) → (Int32) → (Int32) → (Int32) → (Nat → Int32) → (Int32) → (Int32) → Prop) : Prop :=
  q_m_takeBut_0 a_tape f_reached f_length f_begins f_sort f_value f_word f_wrongAt f_laterFault f_laterPlace a_read f_good x1 (0 : Int32) (8 : Int32) x2 (fun r_1 f_reached_1 f_begins_1 f_sort_1 f_value_1 f_word_1 f_wrongAt_1 f_laterFault_1 f_laterPlace_1 a_read_1 f_good_1 => (¬ r_1 = 0 → (vp_in x1 3 ∧ (q_m_greater_0 f_farHut (a_read_1 (Int32.toNatClampNeg x1)) (fun r_2 => post (1 : Int32) f_reached_1 f_begins_1 f_sort_1 f_value_1 f_word_1 f_wrongAt_1 f_laterFault_1 f_laterPlace_1 a_read_1 r_2 f_good_1)))) ∧ (r_1 = 0 → (post (0 : Int32) f_reached_1 f_begins_1 f_sort_1 f_value_1 f_word_1 f_wrongAt_1 f_laterFault_1 f_laterPlace_1 a_read_1 f_farHut f_good_1)))
set_option maxRecDepth 20000 in
theorem t_m_takeHut_0 {p : Program} {l : Launch} {e : Env} {s : State} {m : MethodId} {args : Array Value} {below : List Frame} {meth : Method} {c : Code} {E : zE} {q : Nat} {f_code : Int32} {a_tape : Nat → Int32} {a_size : Nat → Int32} {a_fault : Nat → Int32} {a_faultPlace : Nat → Int32} {a_many : Nat → Int32} {a_lands : Nat → Int32} {a_evenings : Nat → Int32} {a_sights : Nat → Int32} {a_choirs : Nat → Int32} {f_reached : Int32} {f_length : Int32} {f_begins : Int32} {f_sort : Int32} {f_value : Int32} {f_word : Int64} {f_wrongAt : Int32} {f_laterFault : Int32} {f_laterPlace : Int32} {a_told : Nat → Int32} {a_read : Nat → Int32} {f_farHut : Int32} {f_farSinger : Int32} {f_good : Int32} {f_land : Int32} {f_huts : Int32} {f_singers : Int32} {f_evening : Int32} {a_at : Nat → Int32} {a_knows : Nat → Int32} {a_climbed : Nat → Int32} {a_snow : Nat → Int32} {a_level : Nat → Int32} {f_begun : Int32} {f_minute : Int32} {f_avalanches : Int32} {a_run : Nat → Int32} {a_covers : Nat → Int32} {a_routes : Nat → Int32} {a_longest : Nat → Int32} {a_steep : Nat → Int32} {a_laid : Nat → Int32} {a_far : Nat → Int32} {f_sight : Int32} {a_runs : Nat → Int32} {f_choir : Int32} {f_voices : Int32} {a_rest : Nat → Int64} {a_wins : Nat → Int32} {f_seed : Int32} {a_other : Nat → Int32} {a_kept : Nat → Int32} {post : Int32 → (Int32) → (Int32) → (Int32) → (Int32) → (Int64) → (Int32) → (Int32) → (Int32) → (Nat → Int32) → (Int32) → (Int32) → Prop} {x1 : Int32} {x2 : Int32} {ls : Array Slot} {H : Heap} {locs : List Loc}
    (zc : zC p s m args meth c cX11_takeHut 3 RX11 (some .boolean))
    (hK : zK E s)
    (hM : mW E q f_code a_tape a_size a_fault a_faultPlace a_many a_lands a_evenings a_sights a_choirs f_reached f_length f_begins f_sort f_value f_word f_wrongAt f_laterFault f_laterPlace a_told a_read f_farHut f_farSinger f_good f_land f_huts f_singers f_evening a_at a_knows a_climbed a_snow a_level f_begun f_minute f_avalanches a_run a_covers a_routes a_longest a_steep a_laid a_far f_sight a_runs f_choir f_voices a_rest a_wins f_seed a_other a_kept H)
    (hS : va_S (mA q) s.heap H locs)
    (hl : lv_has ls 3 [(0, .ref q), (1, .int x1), (2, .int x2)])
    (hw : q_m_takeHut_0 a_tape f_reached f_length f_begins f_sort f_value f_word f_wrongAt f_laterFault f_laterPlace a_read f_farHut f_good x1 x2 post) :
    W p l e rm_m_takeHut s m args below meth c H locs 0 0 (MQ below (zQi (S := (Int32) × (Int32) × (Int32) × (Int32) × (Int64) × (Int32) × (Int32) × (Int32) × (Nat → Int32) × (Int32) × (Int32)) (fun r u => post r u.1 u.2.1 u.2.2.1 u.2.2.2.1 u.2.2.2.2.1 u.2.2.2.2.2.1 u.2.2.2.2.2.2.1 u.2.2.2.2.2.2.2.1 u.2.2.2.2.2.2.2.2.1 u.2.2.2.2.2.2.2.2.2.1 u.2.2.2.2.2.2.2.2.2.2) (fun u H => mW E q f_code a_tape a_size a_fault a_faultPlace a_many a_lands a_evenings a_sights a_choirs u.1 f_length u.2.1 u.2.2.1 u.2.2.2.1 u.2.2.2.2.1 u.2.2.2.2.2.1 u.2.2.2.2.2.2.1 u.2.2.2.2.2.2.2.1 a_told u.2.2.2.2.2.2.2.2.1 u.2.2.2.2.2.2.2.2.2.1 f_farSinger u.2.2.2.2.2.2.2.2.2.2 f_land f_huts f_singers f_evening a_at a_knows a_climbed a_snow a_level f_begun f_minute f_avalanches a_run a_covers a_routes a_longest a_steep a_laid a_far f_sight a_runs f_choir f_voices a_rest a_wins f_seed a_other a_kept H) (mA q)) args s 0 0 (mA q)) (F0 m 0 ls []) := by
  have hx := zc.1
  have hb := zc.2.1
  refine lv_aload_n hx hb dX11_takeHut_0 rfl (lv_at hl 0 rfl) ?_
  refine lv_iload_n hx hb dX11_takeHut_1 rfl (lv_at hl 1 rfl) ?_
  refine lv_iconst (v := (0 : Int32)) hx hb dX11_takeHut_2 (by decide) ?_
  refine lv_bipush (v := (8 : Int32)) hx hb dX11_takeHut_3 (by decide) ?_
  refine lv_iload_n hx hb dX11_takeHut_5 rfl (lv_at hl 2 rfl) ?_
  refine zVw_i [.int x1, .int (0 : Int32), .int (8 : Int32), .int x2] [] zc ky_X11_takeBut kz_X11_takeBut km_11_164 (c_m_takeBut l hw) (mPreV0 hK hM) hS rfl rfl hl.1 (Nat.le_of_ble_eq_true rfl) ⟨rfl, rfl⟩ ⟨Nat.le_of_ble_eq_true rfl, Nat.le_of_ble_eq_true rfl⟩ ⟨(Nat.zero_le _), (Nat.zero_le _)⟩ dX11_takeHut_6 (fun r_1 u H locs hw hM hS => ?_)
  obtain ⟨f_reached_1, f_begins_1, f_sort_1, f_value_1, f_word_1, f_wrongAt_1, f_laterFault_1, f_laterPlace_1, a_read_1, f_good_1⟩ := u
  refine lv_if_ne (tgt := 14) hx hb dX11_takeHut_9 (by decide) (fun hc => ?_) (fun hc => ?_)
  · have hw := hw.1 hc
    refine lv_aload_n hx hb dX11_takeHut_14 rfl (lv_at hl 0 rfl) ?_
    refine lv_aload_n hx hb dX11_takeHut_15 rfl (lv_at hl 0 rfl) ?_
    refine mg_11_168_0 zc hK hM dX11_takeHut_16 ?_
    refine lv_aload_n hx hb dX11_takeHut_19 rfl (lv_at hl 0 rfl) ?_
    refine mg_11_41_0 zc hK hM dX11_takeHut_20 ?_
    refine lv_iload_n hx hb dX11_takeHut_23 rfl (lv_at hl 1 rfl) ?_
    refine mld_11 zc hK hM hw.1 dX11_takeHut_24 ?_
    have hw := hw.2
    refine zS_i [.int f_farHut, .int (a_read_1 (Int32.toNatClampNeg x1))] [.ref q] zc ky_X11_greater kz_X11_greater km_11_171 (c_m_greater l hw) (zPre0 _) rfl rfl hl.1 (Nat.le_of_ble_eq_true rfl) ⟨rfl, rfl⟩ ⟨Nat.le_of_ble_eq_true rfl, Nat.le_of_ble_eq_true rfl⟩ ⟨(Nat.zero_le _), (Nat.zero_le _)⟩ dX11_takeHut_25 (fun r_2 hw => ?_)
    refine mp_11_168_0 zc hK hM hS dX11_takeHut_28 (fun H locs hM hS => ?_)
    refine lv_iconst (v := (1 : Int32)) hx hb dX11_takeHut_31 (by decide) ?_
    exact zret_zw ⟨f_reached_1, f_begins_1, f_sort_1, f_value_1, f_word_1, f_wrongAt_1, f_laterFault_1, f_laterPlace_1, a_read_1, r_2, f_good_1⟩ zc hS rfl hw hM dX11_takeHut_32
  · have hw := hw.2 hc
    refine lv_iconst (v := (0 : Int32)) hx hb dX11_takeHut_12 (by decide) ?_
    exact zret_zw ⟨f_reached_1, f_begins_1, f_sort_1, f_value_1, f_word_1, f_wrongAt_1, f_laterFault_1, f_laterPlace_1, a_read_1, f_farHut, f_good_1⟩ zc hS rfl hw hM dX11_takeHut_13
set_option maxRecDepth 20000 in
theorem c_m_takeHut (l : Launch) {E : zE} {q : Nat} {f_code : Int32} {a_tape : Nat → Int32} {a_size : Nat → Int32} {a_fault : Nat → Int32} {a_faultPlace : Nat → Int32} {a_many : Nat → Int32} {a_lands : Nat → Int32} {a_evenings : Nat → Int32} {a_sights : Nat → Int32} {a_choirs : Nat → Int32} {f_reached : Int32} {f_length : Int32} {f_begins : Int32} {f_sort : Int32} {f_value : Int32} {f_word : Int64} {f_wrongAt : Int32} {f_laterFault : Int32} {f_laterPlace : Int32} {a_told : Nat → Int32} {a_read : Nat → Int32} {f_farHut : Int32} {f_farSinger : Int32} {f_good : Int32} {f_land : Int32} {f_huts : Int32} {f_singers : Int32} {f_evening : Int32} {a_at : Nat → Int32} {a_knows : Nat → Int32} {a_climbed : Nat → Int32} {a_snow : Nat → Int32} {a_level : Nat → Int32} {f_begun : Int32} {f_minute : Int32} {f_avalanches : Int32} {a_run : Nat → Int32} {a_covers : Nat → Int32} {a_routes : Nat → Int32} {a_longest : Nat → Int32} {a_steep : Nat → Int32} {a_laid : Nat → Int32} {a_far : Nat → Int32} {f_sight : Int32} {a_runs : Nat → Int32} {f_choir : Int32} {f_voices : Int32} {a_rest : Nat → Int64} {a_wins : Nat → Int32} {f_seed : Int32} {a_other : Nat → Int32} {a_kept : Nat → Int32} {x1 : Int32} {x2 : Int32} {post : Int32 → (Int32) → (Int32) → (Int32) → (Int32) → (Int64) → (Int32) → (Int32) → (Int32) → (Nat → Int32) → (Int32) → (Int32) → Prop} (hw : q_m_takeHut_0 a_tape f_reached f_length f_begins f_sort f_value f_word f_wrongAt f_laterFault f_laterPlace a_read f_farHut f_good x1 x2 post) : Met l yX11_takeHut (Cond.code yX11_takeHut cX11_takeHut 3 (some .boolean) :: zb) rm_m_takeHut (va_Pc [.ref q, .int x1, .int x2] (fun U => mW E q f_code a_tape a_size a_fault a_faultPlace a_many a_lands a_evenings a_sights a_choirs f_reached f_length f_begins f_sort f_value f_word f_wrongAt f_laterFault f_laterPlace a_told a_read f_farHut f_farSinger f_good f_land f_huts f_singers f_evening a_at a_knows a_climbed a_snow a_level f_begun f_minute f_avalanches a_run a_covers a_routes a_longest a_steep a_laid a_far f_sight a_runs f_choir f_voices a_rest a_wins f_seed a_other a_kept U.heap ∧ zK E U)) (zQi (S := (Int32) × (Int32) × (Int32) × (Int32) × (Int64) × (Int32) × (Int32) × (Int32) × (Nat → Int32) × (Int32) × (Int32)) (fun r u => post r u.1 u.2.1 u.2.2.1 u.2.2.2.1 u.2.2.2.2.1 u.2.2.2.2.2.1 u.2.2.2.2.2.2.1 u.2.2.2.2.2.2.2.1 u.2.2.2.2.2.2.2.2.1 u.2.2.2.2.2.2.2.2.2.1 u.2.2.2.2.2.2.2.2.2.2) (fun u H => mW E q f_code a_tape a_size a_fault a_faultPlace a_many a_lands a_evenings a_sights a_choirs u.1 f_length u.2.1 u.2.2.1 u.2.2.2.1 u.2.2.2.2.1 u.2.2.2.2.2.1 u.2.2.2.2.2.2.1 u.2.2.2.2.2.2.2.1 a_told u.2.2.2.2.2.2.2.2.1 u.2.2.2.2.2.2.2.2.2.1 f_farSinger u.2.2.2.2.2.2.2.2.2.2 f_land f_huts f_singers f_evening a_at a_knows a_climbed a_snow a_level f_begun f_minute f_avalanches a_run a_covers a_routes a_longest a_steep a_laid a_far f_sight a_runs f_choir f_voices a_rest a_wins f_seed a_other a_kept H) (mA q)) 0 0 (mA q) := by
  refine Met.ofW (cc := cX11_takeHut) (maxL := 3) (ret := (some .boolean)) (by decide) rfl ?_
  intro p e s m args below meth c s₁ B hml hv
  obtain ⟨rfl, hM, hK⟩ := hv
  have zc := zc_of B hml
  have hl := lv_entry ([.ref q, .int x1, .int x2]) (n := 3) (Nat.le_of_ble_eq_true rfl)
  rw [lg_entry_eq]
  generalize (lg_sl ([.ref q, .int x1, .int x2]) ++ List.replicate (3 - (lg_sl ([.ref q, .int x1, .int x2])).length) Slot.unset).toArray = ls at hl ⊢
  have hl : lv_has ls 3 [(0, .ref q), (1, .int x1), (2, .int x2)] := hl
  exact t_m_takeHut_0 zc hK hM va_S.rf (lv_sub hl [0, 1, 2] rfl) hw
-- m_full
abbrev rm_m_full : Room := { frames := 1, cells := 0, slots := 0, locals := 22 }
def q_m_full_0 (f_laterFault : Int32) (f_laterPlace : Int32) (a_told : Nat → Int32) (x1 : Int32) (x2 : Int32) (x3 : Int32) (post : (Int32) → (Int32) → Prop) : Prop :=
  vp_in x1 132 ∧ ((¬ (a_told (Int32.toNatClampNeg x1)) = x2 → (post f_laterFault f_laterPlace)) ∧ ((a_told (Int32.toNatClampNeg x1)) = x2 → (q_m_later_0 f_laterFault f_laterPlace (3 : Int32) x3 (fun f_laterFault_1 f_laterPlace_1 => post f_laterFault_1 f_laterPlace_1))))
set_option maxRecDepth 20000 in
theorem t_m_full_0 {p : Program} {l : Launch} {e : Env} {s : State} {m : MethodId} {args : Array Value} {below : List Frame} {meth : Method} {c : Code} {E : zE} {q : Nat} {f_code : Int32} {a_tape : Nat → Int32} {a_size : Nat → Int32} {a_fault : Nat → Int32} {a_faultPlace : Nat → Int32} {a_many : Nat → Int32} {a_lands : Nat → Int32} {a_evenings : Nat → Int32} {a_sights : Nat → Int32} {a_choirs : Nat → Int32} {f_reached : Int32} {f_length : Int32} {f_begins : Int32} {f_sort : Int32} {f_value : Int32} {f_word : Int64} {f_wrongAt : Int32} {f_laterFault : Int32} {f_laterPlace : Int32} {a_told : Nat → Int32} {a_read : Nat → Int32} {f_farHut : Int32} {f_farSinger : Int32} {f_good : Int32} {f_land : Int32} {f_huts : Int32} {f_singers : Int32} {f_evening : Int32} {a_at : Nat → Int32} {a_knows : Nat → Int32} {a_climbed : Nat → Int32} {a_snow : Nat → Int32} {a_level : Nat → Int32} {f_begun : Int32} {f_minute : Int32} {f_avalanches : Int32} {a_run : Nat → Int32} {a_covers : Nat → Int32} {a_routes : Nat → Int32} {a_longest : Nat → Int32} {a_steep : Nat → Int32} {a_laid : Nat → Int32} {a_far : Nat → Int32} {f_sight : Int32} {a_runs : Nat → Int32} {f_choir : Int32} {f_voices : Int32} {a_rest : Nat → Int64} {a_wins : Nat → Int32} {f_seed : Int32} {a_other : Nat → Int32} {a_kept : Nat → Int32} {post : (Int32) → (Int32) → Prop} {x1 : Int32} {x2 : Int32} {x3 : Int32} {ls : Array Slot} {H : Heap} {locs : List Loc}
    (zc : zC p s m args meth c cX11_full 4 RX11 none)
    (hK : zK E s)
    (hM : mW E q f_code a_tape a_size a_fault a_faultPlace a_many a_lands a_evenings a_sights a_choirs f_reached f_length f_begins f_sort f_value f_word f_wrongAt f_laterFault f_laterPlace a_told a_read f_farHut f_farSinger f_good f_land f_huts f_singers f_evening a_at a_knows a_climbed a_snow a_level f_begun f_minute f_avalanches a_run a_covers a_routes a_longest a_steep a_laid a_far f_sight a_runs f_choir f_voices a_rest a_wins f_seed a_other a_kept H)
    (hS : va_S (mA q) s.heap H locs)
    (hl : lv_has ls 4 [(0, .ref q), (1, .int x1), (2, .int x2), (3, .int x3)])
    (hw : q_m_full_0 f_laterFault f_laterPlace a_told x1 x2 x3 post) :
    W p l e rm_m_full s m args below meth c H locs 0 0 (MQ below (zQv (S := (Int32) × (Int32)) (fun u => post u.1 u.2) (fun u H => mW E q f_code a_tape a_size a_fault a_faultPlace a_many a_lands a_evenings a_sights a_choirs f_reached f_length f_begins f_sort f_value f_word f_wrongAt u.1 u.2 a_told a_read f_farHut f_farSinger f_good f_land f_huts f_singers f_evening a_at a_knows a_climbed a_snow a_level f_begun f_minute f_avalanches a_run a_covers a_routes a_longest a_steep a_laid a_far f_sight a_runs f_choir f_voices a_rest a_wins f_seed a_other a_kept H) (mA q)) args s 0 0 (mA q)) (F0 m 0 ls []) := by
  have hx := zc.1
  have hb := zc.2.1
  refine lv_aload_n hx hb dX11_full_0 rfl (lv_at hl 0 rfl) ?_
  refine mg_11_38_0 zc hK hM dX11_full_1 ?_
  refine lv_iload_n hx hb dX11_full_4 rfl (lv_at hl 1 rfl) ?_
  refine mld_10 zc hK hM hw.1 dX11_full_5 ?_
  have hw := hw.2
  refine lv_iload_n hx hb dX11_full_6 rfl (lv_at hl 2 rfl) ?_
  refine lv_icmp_ne (tgt := 16) hx hb dX11_full_7 (by decide) (fun hc => ?_) (fun hc => ?_)
  · have hw := hw.1 hc
    exact zret_vw ⟨f_laterFault, f_laterPlace⟩ zc hS hw hM dX11_full_16
  · have hw := hw.2 hc
    refine lv_aload_n hx hb dX11_full_10 rfl (lv_at hl 0 rfl) ?_
    refine lv_iconst (v := (3 : Int32)) hx hb dX11_full_11 (by decide) ?_
    refine lv_iload_n hx hb dX11_full_12 rfl (lv_at hl 3 rfl) ?_
    refine zVw_v [.int (3 : Int32), .int x3] [] zc ky_X11_later kz_X11_later km_11_153 (c_m_later l hw) (mPreV0 hK hM) hS rfl rfl hl.1 (Nat.le_of_ble_eq_true rfl) ⟨rfl, rfl⟩ ⟨Nat.le_of_ble_eq_true rfl, Nat.le_of_ble_eq_true rfl⟩ ⟨(Nat.zero_le _), (Nat.zero_le _)⟩ dX11_full_13 (fun u H locs hw hM hS => ?_)
    obtain ⟨f_laterFault_1, f_laterPlace_1⟩ := u
    exact zret_vw ⟨f_laterFault_1, f_laterPlace_1⟩ zc hS hw hM dX11_full_16
set_option maxRecDepth 20000 in
theorem c_m_full (l : Launch) {E : zE} {q : Nat} {f_code : Int32} {a_tape : Nat → Int32} {a_size : Nat → Int32} {a_fault : Nat → Int32} {a_faultPlace : Nat → Int32} {a_many : Nat → Int32} {a_lands : Nat → Int32} {a_evenings : Nat → Int32} {a_sights : Nat → Int32} {a_choirs : Nat → Int32} {f_reached : Int32} {f_length : Int32} {f_begins : Int32} {f_sort : Int32} {f_value : Int32} {f_word : Int64} {f_wrongAt : Int32} {f_laterFault : Int32} {f_laterPlace : Int32} {a_told : Nat → Int32} {a_read : Nat → Int32} {f_farHut : Int32} {f_farSinger : Int32} {f_good : Int32} {f_land : Int32} {f_huts : Int32} {f_singers : Int32} {f_evening : Int32} {a_at : Nat → Int32} {a_knows : Nat → Int32} {a_climbed : Nat → Int32} {a_snow : Nat → Int32} {a_level : Nat → Int32} {f_begun : Int32} {f_minute : Int32} {f_avalanches : Int32} {a_run : Nat → Int32} {a_covers : Nat → Int32} {a_routes : Nat → Int32} {a_longest : Nat → Int32} {a_steep : Nat → Int32} {a_laid : Nat → Int32} {a_far : Nat → Int32} {f_sight : Int32} {a_runs : Nat → Int32} {f_choir : Int32} {f_voices : Int32} {a_rest : Nat → Int64} {a_wins : Nat → Int32} {f_seed : Int32} {a_other : Nat → Int32} {a_kept : Nat → Int32} {x1 : Int32} {x2 : Int32} {x3 : Int32} {post : (Int32) → (Int32) → Prop} (hw : q_m_full_0 f_laterFault f_laterPlace a_told x1 x2 x3 post) : Met l yX11_full (Cond.code yX11_full cX11_full 4 none :: zb) rm_m_full (va_Pc [.ref q, .int x1, .int x2, .int x3] (fun U => mW E q f_code a_tape a_size a_fault a_faultPlace a_many a_lands a_evenings a_sights a_choirs f_reached f_length f_begins f_sort f_value f_word f_wrongAt f_laterFault f_laterPlace a_told a_read f_farHut f_farSinger f_good f_land f_huts f_singers f_evening a_at a_knows a_climbed a_snow a_level f_begun f_minute f_avalanches a_run a_covers a_routes a_longest a_steep a_laid a_far f_sight a_runs f_choir f_voices a_rest a_wins f_seed a_other a_kept U.heap ∧ zK E U)) (zQv (S := (Int32) × (Int32)) (fun u => post u.1 u.2) (fun u H => mW E q f_code a_tape a_size a_fault a_faultPlace a_many a_lands a_evenings a_sights a_choirs f_reached f_length f_begins f_sort f_value f_word f_wrongAt u.1 u.2 a_told a_read f_farHut f_farSinger f_good f_land f_huts f_singers f_evening a_at a_knows a_climbed a_snow a_level f_begun f_minute f_avalanches a_run a_covers a_routes a_longest a_steep a_laid a_far f_sight a_runs f_choir f_voices a_rest a_wins f_seed a_other a_kept H) (mA q)) 0 0 (mA q) := by
  refine Met.ofW (cc := cX11_full) (maxL := 4) (ret := none) (by decide) rfl ?_
  intro p e s m args below meth c s₁ B hml hv
  obtain ⟨rfl, hM, hK⟩ := hv
  have zc := zc_of B hml
  have hl := lv_entry ([.ref q, .int x1, .int x2, .int x3]) (n := 4) (Nat.le_of_ble_eq_true rfl)
  rw [lg_entry_eq]
  generalize (lg_sl ([.ref q, .int x1, .int x2, .int x3]) ++ List.replicate (4 - (lg_sl ([.ref q, .int x1, .int x2, .int x3])).length) Slot.unset).toArray = ls at hl ⊢
  have hl : lv_has ls 4 [(0, .ref q), (1, .int x1), (2, .int x2), (3, .int x3)] := hl
  exact t_m_full_0 zc hK hM va_S.rf (lv_sub hl [0, 1, 2, 3] rfl) hw
-- m_further
abbrev rm_m_further : Room := { frames := 0, cells := 0, slots := 0, locals := 0 }
def q_m_further_0 (a_told : Nat → Int32) (x1 : Int32) (x2 : Int32) (post : Int32 → (Nat → Int32) → Prop) : Prop :=
  vp_in x1 132 ∧ (∀ v_1 : Int32, v_1 = (a_told (Int32.toNatClampNeg x1)) → ((¬ v_1 = x2 → (vp_in x1 132 ∧ (∀ v_2 : Int32, v_2 = ((a_told (Int32.toNatClampNeg x1)) + (1 : Int32)) → (vp_in x1 132 ∧ (∀ a_told_1 : Nat → Int32, a_told_1 = upd a_told (Int32.toNatClampNeg x1) v_2 → (post v_1 a_told_1)))))) ∧ (v_1 = x2 → (post (-1 : Int32) a_told))))
set_option maxRecDepth 20000 in
theorem t_m_further_0 {p : Program} {l : Launch} {e : Env} {s : State} {m : MethodId} {args : Array Value} {below : List Frame} {meth : Method} {c : Code} {E : zE} {q : Nat} {f_code : Int32} {a_tape : Nat → Int32} {a_size : Nat → Int32} {a_fault : Nat → Int32} {a_faultPlace : Nat → Int32} {a_many : Nat → Int32} {a_lands : Nat → Int32} {a_evenings : Nat → Int32} {a_sights : Nat → Int32} {a_choirs : Nat → Int32} {f_reached : Int32} {f_length : Int32} {f_begins : Int32} {f_sort : Int32} {f_value : Int32} {f_word : Int64} {f_wrongAt : Int32} {f_laterFault : Int32} {f_laterPlace : Int32} {a_told : Nat → Int32} {a_read : Nat → Int32} {f_farHut : Int32} {f_farSinger : Int32} {f_good : Int32} {f_land : Int32} {f_huts : Int32} {f_singers : Int32} {f_evening : Int32} {a_at : Nat → Int32} {a_knows : Nat → Int32} {a_climbed : Nat → Int32} {a_snow : Nat → Int32} {a_level : Nat → Int32} {f_begun : Int32} {f_minute : Int32} {f_avalanches : Int32} {a_run : Nat → Int32} {a_covers : Nat → Int32} {a_routes : Nat → Int32} {a_longest : Nat → Int32} {a_steep : Nat → Int32} {a_laid : Nat → Int32} {a_far : Nat → Int32} {f_sight : Int32} {a_runs : Nat → Int32} {f_choir : Int32} {f_voices : Int32} {a_rest : Nat → Int64} {a_wins : Nat → Int32} {f_seed : Int32} {a_other : Nat → Int32} {a_kept : Nat → Int32} {post : Int32 → (Nat → Int32) → Prop} {x1 : Int32} {x2 : Int32} {ls : Array Slot} {H : Heap} {locs : List Loc}
    (zc : zC p s m args meth c cX11_further 4 RX11 (some .int))
    (hK : zK E s)
    (hM : mW E q f_code a_tape a_size a_fault a_faultPlace a_many a_lands a_evenings a_sights a_choirs f_reached f_length f_begins f_sort f_value f_word f_wrongAt f_laterFault f_laterPlace a_told a_read f_farHut f_farSinger f_good f_land f_huts f_singers f_evening a_at a_knows a_climbed a_snow a_level f_begun f_minute f_avalanches a_run a_covers a_routes a_longest a_steep a_laid a_far f_sight a_runs f_choir f_voices a_rest a_wins f_seed a_other a_kept H)
    (hS : va_S (mA q) s.heap H locs)
    (hl : lv_has ls 4 [(0, .ref q), (1, .int x1), (2, .int x2)])
    (hw : q_m_further_0 a_told x1 x2 post) :
    W p l e rm_m_further s m args below meth c H locs 0 0 (MQ below (zQi (S := (Nat → Int32)) (fun r u => post r u) (fun u H => mW E q f_code a_tape a_size a_fault a_faultPlace a_many a_lands a_evenings a_sights a_choirs f_reached f_length f_begins f_sort f_value f_word f_wrongAt f_laterFault f_laterPlace u a_read f_farHut f_farSinger f_good f_land f_huts f_singers f_evening a_at a_knows a_climbed a_snow a_level f_begun f_minute f_avalanches a_run a_covers a_routes a_longest a_steep a_laid a_far f_sight a_runs f_choir f_voices a_rest a_wins f_seed a_other a_kept H) (mA q)) args s 0 0 (mA q)) (F0 m 0 ls []) := by
  have hx := zc.1
  have hb := zc.2.1
  refine lv_aload_n hx hb dX11_further_0 rfl (lv_at hl 0 rfl) ?_
  refine mg_11_38_0 zc hK hM dX11_further_1 ?_
  refine lv_iload_n hx hb dX11_further_4 rfl (lv_at hl 1 rfl) ?_
  refine mld_10 zc hK hM hw.1 dX11_further_5 ?_
  have hw := hw.2
  refine lv_topi (fun v_1 ev_1 => ?_)
  have hw := hw v_1 ev_1
  refine lv_istore_n (lv' := [(3, .int v_1), (0, .ref q), (1, .int x1), (2, .int x2)]) hx hb dX11_further_6 rfl hl (by decide) rfl (fun ls hl => ?_)
  refine lv_iload_n hx hb dX11_further_7 rfl (lv_at hl 0 rfl) ?_
  refine lv_iload_n hx hb dX11_further_8 rfl (lv_at hl 3 rfl) ?_
  refine lv_icmp_ne (tgt := 14) hx hb dX11_further_9 (by decide) (fun hc => ?_) (fun hc => ?_)
  · have hw := hw.1 hc
    refine lv_aload_n hx hb dX11_further_14 rfl (lv_at hl 1 rfl) ?_
    refine mg_11_38_0 zc hK hM dX11_further_15 ?_
    refine lv_iload_n hx hb dX11_further_18 rfl (lv_at hl 2 rfl) ?_
    refine lv_dup2_11 hx hb dX11_further_19 rfl rfl ?_
    refine mld_10 zc hK hM hw.1 dX11_further_20 ?_
    have hw := hw.2
    refine lv_iconst (v := (1 : Int32)) hx hb dX11_further_21 (by decide) ?_
    refine lv_iadd hx hb dX11_further_22 ?_
    refine lv_topi (fun v_2 ev_2 => ?_)
    have hw := hw v_2 ev_2
    refine mst_10 zc hK hM hS hw.1 dX11_further_23 (fun a_told_1 H locs ea_told_1 hM hS => ?_)
    have hw := hw.2 a_told_1 ea_told_1
    refine lv_iload_n hx hb dX11_further_24 rfl (lv_at hl 0 rfl) ?_
    exact zret_iw a_told_1 zc hS hw hM dX11_further_25
  · have hw := hw.2 hc
    refine lv_iconst (v := (-1 : Int32)) hx hb dX11_further_12 (by decide) ?_
    exact zret_iw a_told zc hS hw hM dX11_further_13
set_option maxRecDepth 20000 in
theorem c_m_further (l : Launch) {E : zE} {q : Nat} {f_code : Int32} {a_tape : Nat → Int32} {a_size : Nat → Int32} {a_fault : Nat → Int32} {a_faultPlace : Nat → Int32} {a_many : Nat → Int32} {a_lands : Nat → Int32} {a_evenings : Nat → Int32} {a_sights : Nat → Int32} {a_choirs : Nat → Int32} {f_reached : Int32} {f_length : Int32} {f_begins : Int32} {f_sort : Int32} {f_value : Int32} {f_word : Int64} {f_wrongAt : Int32} {f_laterFault : Int32} {f_laterPlace : Int32} {a_told : Nat → Int32} {a_read : Nat → Int32} {f_farHut : Int32} {f_farSinger : Int32} {f_good : Int32} {f_land : Int32} {f_huts : Int32} {f_singers : Int32} {f_evening : Int32} {a_at : Nat → Int32} {a_knows : Nat → Int32} {a_climbed : Nat → Int32} {a_snow : Nat → Int32} {a_level : Nat → Int32} {f_begun : Int32} {f_minute : Int32} {f_avalanches : Int32} {a_run : Nat → Int32} {a_covers : Nat → Int32} {a_routes : Nat → Int32} {a_longest : Nat → Int32} {a_steep : Nat → Int32} {a_laid : Nat → Int32} {a_far : Nat → Int32} {f_sight : Int32} {a_runs : Nat → Int32} {f_choir : Int32} {f_voices : Int32} {a_rest : Nat → Int64} {a_wins : Nat → Int32} {f_seed : Int32} {a_other : Nat → Int32} {a_kept : Nat → Int32} {x1 : Int32} {x2 : Int32} {post : Int32 → (Nat → Int32) → Prop} (hw : q_m_further_0 a_told x1 x2 post) : Met l yX11_further (Cond.code yX11_further cX11_further 4 (some .int) :: zb) rm_m_further (va_Pc [.ref q, .int x1, .int x2] (fun U => mW E q f_code a_tape a_size a_fault a_faultPlace a_many a_lands a_evenings a_sights a_choirs f_reached f_length f_begins f_sort f_value f_word f_wrongAt f_laterFault f_laterPlace a_told a_read f_farHut f_farSinger f_good f_land f_huts f_singers f_evening a_at a_knows a_climbed a_snow a_level f_begun f_minute f_avalanches a_run a_covers a_routes a_longest a_steep a_laid a_far f_sight a_runs f_choir f_voices a_rest a_wins f_seed a_other a_kept U.heap ∧ zK E U)) (zQi (S := (Nat → Int32)) (fun r u => post r u) (fun u H => mW E q f_code a_tape a_size a_fault a_faultPlace a_many a_lands a_evenings a_sights a_choirs f_reached f_length f_begins f_sort f_value f_word f_wrongAt f_laterFault f_laterPlace u a_read f_farHut f_farSinger f_good f_land f_huts f_singers f_evening a_at a_knows a_climbed a_snow a_level f_begun f_minute f_avalanches a_run a_covers a_routes a_longest a_steep a_laid a_far f_sight a_runs f_choir f_voices a_rest a_wins f_seed a_other a_kept H) (mA q)) 0 0 (mA q) := by
  refine Met.ofW (cc := cX11_further) (maxL := 4) (ret := (some .int)) (by decide) rfl ?_
  intro p e s m args below meth c s₁ B hml hv
  obtain ⟨rfl, hM, hK⟩ := hv
  have zc := zc_of B hml
  have hl := lv_entry ([.ref q, .int x1, .int x2]) (n := 4) (Nat.le_of_ble_eq_true rfl)
  rw [lg_entry_eq]
  generalize (lg_sl ([.ref q, .int x1, .int x2]) ++ List.replicate (4 - (lg_sl ([.ref q, .int x1, .int x2])).length) Slot.unset).toArray = ls at hl ⊢
  have hl : lv_has ls 4 [(0, .ref q), (1, .int x1), (2, .int x2)] := hl
  exact t_m_further_0 zc hK hM va_S.rf (lv_sub hl [0, 1, 2] rfl) hw
-- m_bitLine
abbrev rm_m_bitLine : Room := { frames := 4, cells := 0, slots := 0, locals := 90 }
def q_m_bitLine_37 (a_tape : Nat → Int32) (f_reached : Int32) (f_length : Int32) (f_begins : Int32) (f_sort : Int32) (f_value : Int32) (f_word : Int64) (f_wrongAt : Int32) (f_laterFault : Int32) (f_laterPlace : Int32) (a_told : Nat → Int32) (a_read : Nat → Int32) (f_farHut : Int32) (f_good : Int32) (y0 : Int32) (y1 : Int32) (y2 : Int32) (post : Int32 → (Int32) → (Int32) → (Int32) → (Int32) → (Int64) → (Int32) → (Int32) → (Int32) → (Nat → Int32) → (Nat → Int32) → (Int32) → (Int32) → Prop) : Prop :=
  ∀ v_1 : Int32, v_1 = (y1 ||| y2) → (vp_in y0 132 ∧ (∀ a_told_1 : Nat → Int32, a_told_1 = upd a_told (Int32.toNatClampNeg y0) v_1 → (post (1 : Int32) f_reached f_begins f_sort f_value f_word f_wrongAt f_laterFault f_laterPlace a_told_1 a_read f_farHut f_good)))
def q_m_bitLine_0 (a_tape : Nat → Int32) (f_reached : Int32) (f_length : Int32) (f_begins : Int32) (f_sort : Int32) (f_value : Int32) (f_word : Int64) (f_wrongAt : Int32) (f_laterFault : Int32) (f_laterPlace : Int32) (a_told : Nat → Int32) (a_read : Nat → Int32) (f_farHut : Int32) (f_good : Int32) (x1 : Int32) (post : Int32 → (Int32) → (Int32) → (Int32) → (Int32) → (Int64) → (Int32) → (Int32) → (Int32) → (Nat → Int32) → (Nat → Int32) → (Int32) → (Int32) → Prop) : Prop :=
  q_m_takeHut_0 a_tape f_reached f_length f_begins f_sort f_value f_word f_wrongAt f_laterFault f_laterPlace a_read f_farHut f_good (0 : Int32) (-1 : Int32) (fun r_1 f_reached_1 f_begins_1 f_sort_1 f_value_1 f_word_1 f_wrongAt_1 f_laterFault_1 f_laterPlace_1 a_read_1 f_farHut_1 f_good_1 => (¬ r_1 = 0 → (vp_in x1 132 ∧ ((f_good_1 = 0 → (q_m_bitLine_37 a_tape f_reached_1 f_length f_begins_1 f_sort_1 f_value_1 f_word_1 f_wrongAt_1 f_laterFault_1 f_laterPlace_1 a_told a_read_1 f_farHut_1 f_good_1 x1 (a_told (Int32.toNatClampNeg x1)) (0 : Int32) post)) ∧ (¬ f_good_1 = 0 → (q_m_bitLine_37 a_tape f_reached_1 f_length f_begins_1 f_sort_1 f_value_1 f_word_1 f_wrongAt_1 f_laterFault_1 f_laterPlace_1 a_told a_read_1 f_farHut_1 f_good_1 x1 (a_told (Int32.toNatClampNeg x1)) ((1 : Int32) <<< ((a_read_1 (Int32.toNatClampNeg (0 : Int32))) &&& 31)) post))))) ∧ (r_1 = 0 → (post (0 : Int32) f_reached_1 f_begins_1 f_sort_1 f_value_1 f_word_1 f_wrongAt_1 f_laterFault_1 f_laterPlace_1 a_told a_read_1 f_farHut_1 f_good_1)))
set_option maxRecDepth 20000 in
theorem t_m_bitLine_37 {p : Program} {l : Launch} {e : Env} {s : State} {m : MethodId} {args : Array Value} {below : List Frame} {meth : Method} {c : Code} {E : zE} {q : Nat} {f_code : Int32} {a_tape : Nat → Int32} {a_size : Nat → Int32} {a_fault : Nat → Int32} {a_faultPlace : Nat → Int32} {a_many : Nat → Int32} {a_lands : Nat → Int32} {a_evenings : Nat → Int32} {a_sights : Nat → Int32} {a_choirs : Nat → Int32} {f_reached : Int32} {f_length : Int32} {f_begins : Int32} {f_sort : Int32} {f_value : Int32} {f_word : Int64} {f_wrongAt : Int32} {f_laterFault : Int32} {f_laterPlace : Int32} {a_told : Nat → Int32} {a_read : Nat → Int32} {f_farHut : Int32} {f_farSinger : Int32} {f_good : Int32} {f_land : Int32} {f_huts : Int32} {f_singers : Int32} {f_evening : Int32} {a_at : Nat → Int32} {a_knows : Nat → Int32} {a_climbed : Nat → Int32} {a_snow : Nat → Int32} {a_level : Nat → Int32} {f_begun : Int32} {f_minute : Int32} {f_avalanches : Int32} {a_run : Nat → Int32} {a_covers : Nat → Int32} {a_routes : Nat → Int32} {a_longest : Nat → Int32} {a_steep : Nat → Int32} {a_laid : Nat → Int32} {a_far : Nat → Int32} {f_sight : Int32} {a_runs : Nat → Int32} {f_choir : Int32} {f_voices : Int32} {a_rest : Nat → Int64} {a_wins : Nat → Int32} {f_seed : Int32} {a_other : Nat → Int32} {a_kept : Nat → Int32} {post : Int32 → (Int32) → (Int32) → (Int32) → (Int32) → (Int64) → (Int32) → (Int32) → (Int32) → (Nat → Int32) → (Nat → Int32) → (Int32) → (Int32) → Prop} {y0 : Int32} {y1 : Int32} {y2 : Int32} {ls : Array Slot} {H : Heap} {locs : List Loc}
    (zc : zC p s m args meth c cX11_bitLine 2 RX11 (some .boolean))
    (hK : zK E s)
    (hM : mW E q f_code a_tape a_size a_fault a_faultPlace a_many a_lands a_evenings a_sights a_choirs f_reached f_length f_begins f_sort f_value f_word f_wrongAt f_laterFault f_laterPlace a_told a_read f_farHut f_farSinger f_good f_land f_huts f_singers f_evening a_at a_knows a_climbed a_snow a_level f_begun f_minute f_avalanches a_run a_covers a_routes a_longest a_steep a_laid a_far f_sight a_runs f_choir f_voices a_rest a_wins f_seed a_other a_kept H)
    (hS : va_S (mA q) s.heap H locs)
    (hl : lv_has ls 2 [])
    (hw : q_m_bitLine_37 a_tape f_reached f_length f_begins f_sort f_value f_word f_wrongAt f_laterFault f_laterPlace a_told a_read f_farHut f_good y0 y1 y2 post) :
    W p l e rm_m_bitLine s m args below meth c H locs 0 0 (MQ below (zQi (S := (Int32) × (Int32) × (Int32) × (Int32) × (Int64) × (Int32) × (Int32) × (Int32) × (Nat → Int32) × (Nat → Int32) × (Int32) × (Int32)) (fun r u => post r u.1 u.2.1 u.2.2.1 u.2.2.2.1 u.2.2.2.2.1 u.2.2.2.2.2.1 u.2.2.2.2.2.2.1 u.2.2.2.2.2.2.2.1 u.2.2.2.2.2.2.2.2.1 u.2.2.2.2.2.2.2.2.2.1 u.2.2.2.2.2.2.2.2.2.2.1 u.2.2.2.2.2.2.2.2.2.2.2) (fun u H => mW E q f_code a_tape a_size a_fault a_faultPlace a_many a_lands a_evenings a_sights a_choirs u.1 f_length u.2.1 u.2.2.1 u.2.2.2.1 u.2.2.2.2.1 u.2.2.2.2.2.1 u.2.2.2.2.2.2.1 u.2.2.2.2.2.2.2.1 u.2.2.2.2.2.2.2.2.1 u.2.2.2.2.2.2.2.2.2.1 u.2.2.2.2.2.2.2.2.2.2.1 f_farSinger u.2.2.2.2.2.2.2.2.2.2.2 f_land f_huts f_singers f_evening a_at a_knows a_climbed a_snow a_level f_begun f_minute f_avalanches a_run a_covers a_routes a_longest a_steep a_laid a_far f_sight a_runs f_choir f_voices a_rest a_wins f_seed a_other a_kept H) (mA q)) args s 0 0 (mA q)) (F0 m 37 ls [.int y2, .int y1, .int y0, .ref (q + 10)]) := by
  have hx := zc.1
  have hb := zc.2.1
  refine lv_ior hx hb dX11_bitLine_37 ?_
  refine lv_topi (fun v_1 ev_1 => ?_)
  have hw := hw v_1 ev_1
  refine mst_10 zc hK hM hS hw.1 dX11_bitLine_38 (fun a_told_1 H locs ea_told_1 hM hS => ?_)
  have hw := hw.2 a_told_1 ea_told_1
  refine lv_iconst (v := (1 : Int32)) hx hb dX11_bitLine_39 (by decide) ?_
  exact zret_zw ⟨f_reached, f_begins, f_sort, f_value, f_word, f_wrongAt, f_laterFault, f_laterPlace, a_told_1, a_read, f_farHut, f_good⟩ zc hS rfl hw hM dX11_bitLine_40
set_option maxRecDepth 20000 in
theorem t_m_bitLine_0 {p : Program} {l : Launch} {e : Env} {s : State} {m : MethodId} {args : Array Value} {below : List Frame} {meth : Method} {c : Code} {E : zE} {q : Nat} {f_code : Int32} {a_tape : Nat → Int32} {a_size : Nat → Int32} {a_fault : Nat → Int32} {a_faultPlace : Nat → Int32} {a_many : Nat → Int32} {a_lands : Nat → Int32} {a_evenings : Nat → Int32} {a_sights : Nat → Int32} {a_choirs : Nat → Int32} {f_reached : Int32} {f_length : Int32} {f_begins : Int32} {f_sort : Int32} {f_value : Int32} {f_word : Int64} {f_wrongAt : Int32} {f_laterFault : Int32} {f_laterPlace : Int32} {a_told : Nat → Int32} {a_read : Nat → Int32} {f_farHut : Int32} {f_farSinger : Int32} {f_good : Int32} {f_land : Int32} {f_huts : Int32} {f_singers : Int32} {f_evening : Int32} {a_at : Nat → Int32} {a_knows : Nat → Int32} {a_climbed : Nat → Int32} {a_snow : Nat → Int32} {a_level : Nat → Int32} {f_begun : Int32} {f_minute : Int32} {f_avalanches : Int32} {a_run : Nat → Int32} {a_covers : Nat → Int32} {a_routes : Nat → Int32} {a_longest : Nat → Int32} {a_steep : Nat → Int32} {a_laid : Nat → Int32} {a_far : Nat → Int32} {f_sight : Int32} {a_runs : Nat → Int32} {f_choir : Int32} {f_voices : Int32} {a_rest : Nat → Int64} {a_wins : Nat → Int32} {f_seed : Int32} {a_other : Nat → Int32} {a_kept : Nat → Int32} {post : Int32 → (Int32) → (Int32) → (Int32) → (Int32) → (Int64) → (Int32) → (Int32) → (Int32) → (Nat → Int32) → (Nat → Int32) → (Int32) → (Int32) → Prop} {x1 : Int32} {ls : Array Slot} {H : Heap} {locs : List Loc}
    (zc : zC p s m args meth c cX11_bitLine 2 RX11 (some .boolean))
    (hK : zK E s)
    (hM : mW E q f_code a_tape a_size a_fault a_faultPlace a_many a_lands a_evenings a_sights a_choirs f_reached f_length f_begins f_sort f_value f_word f_wrongAt f_laterFault f_laterPlace a_told a_read f_farHut f_farSinger f_good f_land f_huts f_singers f_evening a_at a_knows a_climbed a_snow a_level f_begun f_minute f_avalanches a_run a_covers a_routes a_longest a_steep a_laid a_far f_sight a_runs f_choir f_voices a_rest a_wins f_seed a_other a_kept H)
    (hS : va_S (mA q) s.heap H locs)
    (hl : lv_has ls 2 [(0, .ref q), (1, .int x1)])
    (hw : q_m_bitLine_0 a_tape f_reached f_length f_begins f_sort f_value f_word f_wrongAt f_laterFault f_laterPlace a_told a_read f_farHut f_good x1 post) :
    W p l e rm_m_bitLine s m args below meth c H locs 0 0 (MQ below (zQi (S := (Int32) × (Int32) × (Int32) × (Int32) × (Int64) × (Int32) × (Int32) × (Int32) × (Nat → Int32) × (Nat → Int32) × (Int32) × (Int32)) (fun r u => post r u.1 u.2.1 u.2.2.1 u.2.2.2.1 u.2.2.2.2.1 u.2.2.2.2.2.1 u.2.2.2.2.2.2.1 u.2.2.2.2.2.2.2.1 u.2.2.2.2.2.2.2.2.1 u.2.2.2.2.2.2.2.2.2.1 u.2.2.2.2.2.2.2.2.2.2.1 u.2.2.2.2.2.2.2.2.2.2.2) (fun u H => mW E q f_code a_tape a_size a_fault a_faultPlace a_many a_lands a_evenings a_sights a_choirs u.1 f_length u.2.1 u.2.2.1 u.2.2.2.1 u.2.2.2.2.1 u.2.2.2.2.2.1 u.2.2.2.2.2.2.1 u.2.2.2.2.2.2.2.1 u.2.2.2.2.2.2.2.2.1 u.2.2.2.2.2.2.2.2.2.1 u.2.2.2.2.2.2.2.2.2.2.1 f_farSinger u.2.2.2.2.2.2.2.2.2.2.2 f_land f_huts f_singers f_evening a_at a_knows a_climbed a_snow a_level f_begun f_minute f_avalanches a_run a_covers a_routes a_longest a_steep a_laid a_far f_sight a_runs f_choir f_voices a_rest a_wins f_seed a_other a_kept H) (mA q)) args s 0 0 (mA q)) (F0 m 0 ls []) := by
  have hx := zc.1
  have hb := zc.2.1
  refine lv_aload_n hx hb dX11_bitLine_0 rfl (lv_at hl 0 rfl) ?_
  refine lv_iconst (v := (0 : Int32)) hx hb dX11_bitLine_1 (by decide) ?_
  refine lv_iconst (v := (-1 : Int32)) hx hb dX11_bitLine_2 (by decide) ?_
  refine zVw_i [.int (0 : Int32), .int (-1 : Int32)] [] zc ky_X11_takeHut kz_X11_takeHut km_11_175 (c_m_takeHut l hw) (mPreV0 hK hM) hS rfl rfl hl.1 (Nat.le_of_ble_eq_true rfl) ⟨rfl, rfl⟩ ⟨Nat.le_of_ble_eq_true rfl, Nat.le_of_ble_eq_true rfl⟩ ⟨(Nat.zero_le _), (Nat.zero_le _)⟩ dX11_bitLine_3 (fun r_1 u H locs hw hM hS => ?_)
  obtain ⟨f_reached_1, f_begins_1, f_sort_1, f_value_1, f_word_1, f_wrongAt_1, f_laterFault_1, f_laterPlace_1, a_read_1, f_farHut_1, f_good_1⟩ := u
  refine lv_if_ne (tgt := 11) hx hb dX11_bitLine_6 (by decide) (fun hc => ?_) (fun hc => ?_)
  · have hw := hw.1 hc
    refine lv_aload_n hx hb dX11_bitLine_11 rfl (lv_at hl 0 rfl) ?_
    refine mg_11_38_0 zc hK hM dX11_bitLine_12 ?_
    refine lv_iload_n hx hb dX11_bitLine_15 rfl (lv_at hl 1 rfl) ?_
    refine lv_dup2_11 hx hb dX11_bitLine_16 rfl rfl ?_
    refine mld_10 zc hK hM hw.1 dX11_bitLine_17 ?_
    have hw := hw.2
    refine lv_aload_n hx hb dX11_bitLine_18 rfl (lv_at hl 0 rfl) ?_
    refine mg_11_157_0 zc hK hM dX11_bitLine_19 ?_
    refine lv_if_eq (tgt := 36) hx hb dX11_bitLine_22 (by decide) (fun hc => ?_) (fun hc => ?_)
    · have hw := hw.1 hc
      refine lv_iconst (v := (0 : Int32)) hx hb dX11_bitLine_36 (by decide) ?_
      exact t_m_bitLine_37 zc hK hM hS  (lv_sub hl [] rfl) hw
    · have hw := hw.2 hc
      refine lv_iconst (v := (1 : Int32)) hx hb dX11_bitLine_25 (by decide) ?_
      refine lv_aload_n hx hb dX11_bitLine_26 rfl (lv_at hl 0 rfl) ?_
      refine mg_11_41_0 zc hK hM dX11_bitLine_27 ?_
      refine lv_iconst (v := (0 : Int32)) hx hb dX11_bitLine_30 (by decide) ?_
      refine mld_11 zc hK hM (by unfold vp_in; decide) dX11_bitLine_31 ?_
      refine lv_ishl hx hb dX11_bitLine_32 ?_
      refine lv_goto (tgt := 37) hx hb dX11_bitLine_33 (by decide) ?_
      exact t_m_bitLine_37 zc hK hM hS  (lv_sub hl [] rfl) hw
  · have hw := hw.2 hc
    refine lv_iconst (v := (0 : Int32)) hx hb dX11_bitLine_9 (by decide) ?_
    exact zret_zw ⟨f_reached_1, f_begins_1, f_sort_1, f_value_1, f_word_1, f_wrongAt_1, f_laterFault_1, f_laterPlace_1, a_told, a_read_1, f_farHut_1, f_good_1⟩ zc hS rfl hw hM dX11_bitLine_10
set_option maxRecDepth 20000 in
theorem c_m_bitLine (l : Launch) {E : zE} {q : Nat} {f_code : Int32} {a_tape : Nat → Int32} {a_size : Nat → Int32} {a_fault : Nat → Int32} {a_faultPlace : Nat → Int32} {a_many : Nat → Int32} {a_lands : Nat → Int32} {a_evenings : Nat → Int32} {a_sights : Nat → Int32} {a_choirs : Nat → Int32} {f_reached : Int32} {f_length : Int32} {f_begins : Int32} {f_sort : Int32} {f_value : Int32} {f_word : Int64} {f_wrongAt : Int32} {f_laterFault : Int32} {f_laterPlace : Int32} {a_told : Nat → Int32} {a_read : Nat → Int32} {f_farHut : Int32} {f_farSinger : Int32} {f_good : Int32} {f_land : Int32} {f_huts : Int32} {f_singers : Int32} {f_evening : Int32} {a_at : Nat → Int32} {a_knows : Nat → Int32} {a_climbed : Nat → Int32} {a_snow : Nat → Int32} {a_level : Nat → Int32} {f_begun : Int32} {f_minute : Int32} {f_avalanches : Int32} {a_run : Nat → Int32} {a_covers : Nat → Int32} {a_routes : Nat → Int32} {a_longest : Nat → Int32} {a_steep : Nat → Int32} {a_laid : Nat → Int32} {a_far : Nat → Int32} {f_sight : Int32} {a_runs : Nat → Int32} {f_choir : Int32} {f_voices : Int32} {a_rest : Nat → Int64} {a_wins : Nat → Int32} {f_seed : Int32} {a_other : Nat → Int32} {a_kept : Nat → Int32} {x1 : Int32} {post : Int32 → (Int32) → (Int32) → (Int32) → (Int32) → (Int64) → (Int32) → (Int32) → (Int32) → (Nat → Int32) → (Nat → Int32) → (Int32) → (Int32) → Prop} (hw : q_m_bitLine_0 a_tape f_reached f_length f_begins f_sort f_value f_word f_wrongAt f_laterFault f_laterPlace a_told a_read f_farHut f_good x1 post) : Met l yX11_bitLine (Cond.code yX11_bitLine cX11_bitLine 2 (some .boolean) :: zb) rm_m_bitLine (va_Pc [.ref q, .int x1] (fun U => mW E q f_code a_tape a_size a_fault a_faultPlace a_many a_lands a_evenings a_sights a_choirs f_reached f_length f_begins f_sort f_value f_word f_wrongAt f_laterFault f_laterPlace a_told a_read f_farHut f_farSinger f_good f_land f_huts f_singers f_evening a_at a_knows a_climbed a_snow a_level f_begun f_minute f_avalanches a_run a_covers a_routes a_longest a_steep a_laid a_far f_sight a_runs f_choir f_voices a_rest a_wins f_seed a_other a_kept U.heap ∧ zK E U)) (zQi (S := (Int32) × (Int32) × (Int32) × (Int32) × (Int64) × (Int32) × (Int32) × (Int32) × (Nat → Int32) × (Nat → Int32) × (Int32) × (Int32)) (fun r u => post r u.1 u.2.1 u.2.2.1 u.2.2.2.1 u.2.2.2.2.1 u.2.2.2.2.2.1 u.2.2.2.2.2.2.1 u.2.2.2.2.2.2.2.1 u.2.2.2.2.2.2.2.2.1 u.2.2.2.2.2.2.2.2.2.1 u.2.2.2.2.2.2.2.2.2.2.1 u.2.2.2.2.2.2.2.2.2.2.2) (fun u H => mW E q f_code a_tape a_size a_fault a_faultPlace a_many a_lands a_evenings a_sights a_choirs u.1 f_length u.2.1 u.2.2.1 u.2.2.2.1 u.2.2.2.2.1 u.2.2.2.2.2.1 u.2.2.2.2.2.2.1 u.2.2.2.2.2.2.2.1 u.2.2.2.2.2.2.2.2.1 u.2.2.2.2.2.2.2.2.2.1 u.2.2.2.2.2.2.2.2.2.2.1 f_farSinger u.2.2.2.2.2.2.2.2.2.2.2 f_land f_huts f_singers f_evening a_at a_knows a_climbed a_snow a_level f_begun f_minute f_avalanches a_run a_covers a_routes a_longest a_steep a_laid a_far f_sight a_runs f_choir f_voices a_rest a_wins f_seed a_other a_kept H) (mA q)) 0 0 (mA q) := by
  refine Met.ofW (cc := cX11_bitLine) (maxL := 2) (ret := (some .boolean)) (by decide) rfl ?_
  intro p e s m args below meth c s₁ B hml hv
  obtain ⟨rfl, hM, hK⟩ := hv
  have zc := zc_of B hml
  have hl := lv_entry ([.ref q, .int x1]) (n := 2) (Nat.le_of_ble_eq_true rfl)
  rw [lg_entry_eq]
  generalize (lg_sl ([.ref q, .int x1]) ++ List.replicate (2 - (lg_sl ([.ref q, .int x1])).length) Slot.unset).toArray = ls at hl ⊢
  have hl : lv_has ls 2 [(0, .ref q), (1, .int x1)] := hl
  exact t_m_bitLine_0 zc hK hM va_S.rf (lv_sub hl [0, 1] rfl) hw
-- m_plainLine
abbrev rm_m_plainLine : Room := { frames := 4, cells := 0, slots := 0, locals := 91 }
def q_m_plainLine_0 (a_tape : Nat → Int32) (f_reached : Int32) (f_length : Int32) (f_begins : Int32) (f_sort : Int32) (f_value : Int32) (f_word : Int64) (f_wrongAt : Int32) (f_laterFault : Int32) (f_laterPlace : Int32) (a_told : Nat → Int32) (a_read : Nat → Int32) (f_good : Int32) (x1 : Int32) (x2 : Int32) (x3 : Int32) (post : Int32 → (Int32) → (Int32) → (Int32) → (Int32) → (Int64) → (Int32) → (Int32) → (Int32) → (Nat → Int32) → (Nat → Int32) → (Int32) → Prop) : Prop :=
  q_m_take_0 a_tape f_reached f_length f_begins f_sort f_value f_word f_wrongAt f_laterFault f_laterPlace a_read f_good (0 : Int32) x2 x3 (fun r_1 f_reached_1 f_begins_1 f_sort_1 f_value_1 f_word_1 f_wrongAt_1 f_laterFault_1 f_laterPlace_1 a_read_1 f_good_1 => (¬ r_1 = 0 → (∀ v_1 : Int32, v_1 = (a_read_1 (Int32.toNatClampNeg (0 : Int32))) → (vp_in x1 132 ∧ (∀ a_told_1 : Nat → Int32, a_told_1 = upd a_told (Int32.toNatClampNeg x1) v_1 → (post (1 : Int32) f_reached_1 f_begins_1 f_sort_1 f_value_1 f_word_1 f_wrongAt_1 f_laterFault_1 f_laterPlace_1 a_told_1 a_read_1 f_good_1))))) ∧ (r_1 = 0 → (post (0 : Int32) f_reached_1 f_begins_1 f_sort_1 f_value_1 f_word_1 f_wrongAt_1 f_laterFault_1 f_laterPlace_1 a_told a_read_1 f_good_1)))
set_option maxRecDepth 20000 in
theorem t_m_plainLine_0 {p : Program} {l : Launch} {e : Env} {s : State} {m : MethodId} {args : Array Value} {below : List Frame} {meth : Method} {c : Code} {E : zE} {q : Nat} {f_code : Int32} {a_tape : Nat → Int32} {a_size : Nat → Int32} {a_fault : Nat → Int32} {a_faultPlace : Nat → Int32} {a_many : Nat → Int32} {a_lands : Nat → Int32} {a_evenings : Nat → Int32} {a_sights : Nat → Int32} {a_choirs : Nat → Int32} {f_reached : Int32} {f_length : Int32} {f_begins : Int32} {f_sort : Int32} {f_value : Int32} {f_word : Int64} {f_wrongAt : Int32} {f_laterFault : Int32} {f_laterPlace : Int32} {a_told : Nat → Int32} {a_read : Nat → Int32} {f_farHut : Int32} {f_farSinger : Int32} {f_good : Int32} {f_land : Int32} {f_huts : Int32} {f_singers : Int32} {f_evening : Int32} {a_at : Nat → Int32} {a_knows : Nat → Int32} {a_climbed : Nat → Int32} {a_snow : Nat → Int32} {a_level : Nat → Int32} {f_begun : Int32} {f_minute : Int32} {f_avalanches : Int32} {a_run : Nat → Int32} {a_covers : Nat → Int32} {a_routes : Nat → Int32} {a_longest : Nat → Int32} {a_steep : Nat → Int32} {a_laid : Nat → Int32} {a_far : Nat → Int32} {f_sight : Int32} {a_runs : Nat → Int32} {f_choir : Int32} {f_voices : Int32} {a_rest : Nat → Int64} {a_wins : Nat → Int32} {f_seed : Int32} {a_other : Nat → Int32} {a_kept : Nat → Int32} {post : Int32 → (Int32) → (Int32) → (Int32) → (Int32) → (Int64) → (Int32) → (Int32) → (Int32) → (Nat → Int32) → (Nat → Int32) → (Int32) → Prop} {x1 : Int32} {x2 : Int32} {x3 : Int32} {ls : Array Slot} {H : Heap} {locs : List Loc}
    (zc : zC p s m args meth c cX11_plainLine 4 RX11 (some .boolean))
    (hK : zK E s)
    (hM : mW E q f_code a_tape a_size a_fault a_faultPlace a_many a_lands a_evenings a_sights a_choirs f_reached f_length f_begins f_sort f_value f_word f_wrongAt f_laterFault f_laterPlace a_told a_read f_farHut f_farSinger f_good f_land f_huts f_singers f_evening a_at a_knows a_climbed a_snow a_level f_begun f_minute f_avalanches a_run a_covers a_routes a_longest a_steep a_laid a_far f_sight a_runs f_choir f_voices a_rest a_wins f_seed a_other a_kept H)
    (hS : va_S (mA q) s.heap H locs)
    (hl : lv_has ls 4 [(0, .ref q), (1, .int x1), (2, .int x2), (3, .int x3)])
    (hw : q_m_plainLine_0 a_tape f_reached f_length f_begins f_sort f_value f_word f_wrongAt f_laterFault f_laterPlace a_told a_read f_good x1 x2 x3 post) :
    W p l e rm_m_plainLine s m args below meth c H locs 0 0 (MQ below (zQi (S := (Int32) × (Int32) × (Int32) × (Int32) × (Int64) × (Int32) × (Int32) × (Int32) × (Nat → Int32) × (Nat → Int32) × (Int32)) (fun r u => post r u.1 u.2.1 u.2.2.1 u.2.2.2.1 u.2.2.2.2.1 u.2.2.2.2.2.1 u.2.2.2.2.2.2.1 u.2.2.2.2.2.2.2.1 u.2.2.2.2.2.2.2.2.1 u.2.2.2.2.2.2.2.2.2.1 u.2.2.2.2.2.2.2.2.2.2) (fun u H => mW E q f_code a_tape a_size a_fault a_faultPlace a_many a_lands a_evenings a_sights a_choirs u.1 f_length u.2.1 u.2.2.1 u.2.2.2.1 u.2.2.2.2.1 u.2.2.2.2.2.1 u.2.2.2.2.2.2.1 u.2.2.2.2.2.2.2.1 u.2.2.2.2.2.2.2.2.1 u.2.2.2.2.2.2.2.2.2.1 f_farHut f_farSinger u.2.2.2.2.2.2.2.2.2.2 f_land f_huts f_singers f_evening a_at a_knows a_climbed a_snow a_level f_begun f_minute f_avalanches a_run a_covers a_routes a_longest a_steep a_laid a_far f_sight a_runs f_choir f_voices a_rest a_wins f_seed a_other a_kept H) (mA q)) args s 0 0 (mA q)) (F0 m 0 ls []) := by
  have hx := zc.1
  have hb := zc.2.1
  refine lv_aload_n hx hb dX11_plainLine_0 rfl (lv_at hl 0 rfl) ?_
  refine lv_iconst (v := (0 : Int32)) hx hb dX11_plainLine_1 (by decide) ?_
  refine lv_iload_n hx hb dX11_plainLine_2 rfl (lv_at hl 2 rfl) ?_
  refine lv_iload_n hx hb dX11_plainLine_3 rfl (lv_at hl 3 rfl) ?_
  refine zVw_i [.int (0 : Int32), .int x2, .int x3] [] zc ky_X11_take kz_X11_take km_11_178 (c_m_take l hw) (mPreV0 hK hM) hS rfl rfl hl.1 (Nat.le_of_ble_eq_true rfl) ⟨rfl, rfl⟩ ⟨Nat.le_of_ble_eq_true rfl, Nat.le_of_ble_eq_true rfl⟩ ⟨(Nat.zero_le _), (Nat.zero_le _)⟩ dX11_plainLine_4 (fun r_1 u H locs hw hM hS => ?_)
  obtain ⟨f_reached_1, f_begins_1, f_sort_1, f_value_1, f_word_1, f_wrongAt_1, f_laterFault_1, f_laterPlace_1, a_read_1, f_good_1⟩ := u
  refine lv_if_ne (tgt := 12) hx hb dX11_plainLine_7 (by decide) (fun hc => ?_) (fun hc => ?_)
  · have hw := hw.1 hc
    refine lv_aload_n hx hb dX11_plainLine_12 rfl (lv_at hl 0 rfl) ?_
    refine mg_11_38_0 zc hK hM dX11_plainLine_13 ?_
    refine lv_iload_n hx hb dX11_plainLine_16 rfl (lv_at hl 1 rfl) ?_
    refine lv_aload_n hx hb dX11_plainLine_17 rfl (lv_at hl 0 rfl) ?_
    refine mg_11_41_0 zc hK hM dX11_plainLine_18 ?_
    refine lv_iconst (v := (0 : Int32)) hx hb dX11_plainLine_21 (by decide) ?_
    refine mld_11 zc hK hM (by unfold vp_in; decide) dX11_plainLine_22 ?_
    refine lv_topi (fun v_1 ev_1 => ?_)
    have hw := hw v_1 ev_1
    refine mst_10 zc hK hM hS hw.1 dX11_plainLine_23 (fun a_told_1 H locs ea_told_1 hM hS => ?_)
    have hw := hw.2 a_told_1 ea_told_1
    refine lv_iconst (v := (1 : Int32)) hx hb dX11_plainLine_24 (by decide) ?_
    exact zret_zw ⟨f_reached_1, f_begins_1, f_sort_1, f_value_1, f_word_1, f_wrongAt_1, f_laterFault_1, f_laterPlace_1, a_told_1, a_read_1, f_good_1⟩ zc hS rfl hw hM dX11_plainLine_25
  · have hw := hw.2 hc
    refine lv_iconst (v := (0 : Int32)) hx hb dX11_plainLine_10 (by decide) ?_
    exact zret_zw ⟨f_reached_1, f_begins_1, f_sort_1, f_value_1, f_word_1, f_wrongAt_1, f_laterFault_1, f_laterPlace_1, a_told, a_read_1, f_good_1⟩ zc hS rfl hw hM dX11_plainLine_11
set_option maxRecDepth 20000 in
theorem c_m_plainLine (l : Launch) {E : zE} {q : Nat} {f_code : Int32} {a_tape : Nat → Int32} {a_size : Nat → Int32} {a_fault : Nat → Int32} {a_faultPlace : Nat → Int32} {a_many : Nat → Int32} {a_lands : Nat → Int32} {a_evenings : Nat → Int32} {a_sights : Nat → Int32} {a_choirs : Nat → Int32} {f_reached : Int32} {f_length : Int32} {f_begins : Int32} {f_sort : Int32} {f_value : Int32} {f_word : Int64} {f_wrongAt : Int32} {f_laterFault : Int32} {f_laterPlace : Int32} {a_told : Nat → Int32} {a_read : Nat → Int32} {f_farHut : Int32} {f_farSinger : Int32} {f_good : Int32} {f_land : Int32} {f_huts : Int32} {f_singers : Int32} {f_evening : Int32} {a_at : Nat → Int32} {a_knows : Nat → Int32} {a_climbed : Nat → Int32} {a_snow : Nat → Int32} {a_level : Nat → Int32} {f_begun : Int32} {f_minute : Int32} {f_avalanches : Int32} {a_run : Nat → Int32} {a_covers : Nat → Int32} {a_routes : Nat → Int32} {a_longest : Nat → Int32} {a_steep : Nat → Int32} {a_laid : Nat → Int32} {a_far : Nat → Int32} {f_sight : Int32} {a_runs : Nat → Int32} {f_choir : Int32} {f_voices : Int32} {a_rest : Nat → Int64} {a_wins : Nat → Int32} {f_seed : Int32} {a_other : Nat → Int32} {a_kept : Nat → Int32} {x1 : Int32} {x2 : Int32} {x3 : Int32} {post : Int32 → (Int32) → (Int32) → (Int32) → (Int32) → (Int64) → (Int32) → (Int32) → (Int32) → (Nat → Int32) → (Nat → Int32) → (Int32) → Prop} (hw : q_m_plainLine_0 a_tape f_reached f_length f_begins f_sort f_value f_word f_wrongAt f_laterFault f_laterPlace a_told a_read f_good x1 x2 x3 post) : Met l yX11_plainLine (Cond.code yX11_plainLine cX11_plainLine 4 (some .boolean) :: zb) rm_m_plainLine (va_Pc [.ref q, .int x1, .int x2, .int x3] (fun U => mW E q f_code a_tape a_size a_fault a_faultPlace a_many a_lands a_evenings a_sights a_choirs f_reached f_length f_begins f_sort f_value f_word f_wrongAt f_laterFault f_laterPlace a_told a_read f_farHut f_farSinger f_good f_land f_huts f_singers f_evening a_at a_knows a_climbed a_snow a_level f_begun f_minute f_avalanches a_run a_covers a_routes a_longest a_steep a_laid a_far f_sight a_runs f_choir f_voices a_rest a_wins f_seed a_other a_kept U.heap ∧ zK E U)) (zQi (S := (Int32) × (Int32) × (Int32) × (Int32) × (Int64) × (Int32) × (Int32) × (Int32) × (Nat → Int32) × (Nat → Int32) × (Int32)) (fun r u => post r u.1 u.2.1 u.2.2.1 u.2.2.2.1 u.2.2.2.2.1 u.2.2.2.2.2.1 u.2.2.2.2.2.2.1 u.2.2.2.2.2.2.2.1 u.2.2.2.2.2.2.2.2.1 u.2.2.2.2.2.2.2.2.2.1 u.2.2.2.2.2.2.2.2.2.2) (fun u H => mW E q f_code a_tape a_size a_fault a_faultPlace a_many a_lands a_evenings a_sights a_choirs u.1 f_length u.2.1 u.2.2.1 u.2.2.2.1 u.2.2.2.2.1 u.2.2.2.2.2.1 u.2.2.2.2.2.2.1 u.2.2.2.2.2.2.2.1 u.2.2.2.2.2.2.2.2.1 u.2.2.2.2.2.2.2.2.2.1 f_farHut f_farSinger u.2.2.2.2.2.2.2.2.2.2 f_land f_huts f_singers f_evening a_at a_knows a_climbed a_snow a_level f_begun f_minute f_avalanches a_run a_covers a_routes a_longest a_steep a_laid a_far f_sight a_runs f_choir f_voices a_rest a_wins f_seed a_other a_kept H) (mA q)) 0 0 (mA q) := by
  refine Met.ofW (cc := cX11_plainLine) (maxL := 4) (ret := (some .boolean)) (by decide) rfl ?_
  intro p e s m args below meth c s₁ B hml hv
  obtain ⟨rfl, hM, hK⟩ := hv
  have zc := zc_of B hml
  have hl := lv_entry ([.ref q, .int x1, .int x2, .int x3]) (n := 4) (Nat.le_of_ble_eq_true rfl)
  rw [lg_entry_eq]
  generalize (lg_sl ([.ref q, .int x1, .int x2, .int x3]) ++ List.replicate (4 - (lg_sl ([.ref q, .int x1, .int x2, .int x3])).length) Slot.unset).toArray = ls at hl ⊢
  have hl : lv_has ls 4 [(0, .ref q), (1, .int x1), (2, .int x2), (3, .int x3)] := hl
  exact t_m_plainLine_0 zc hK hM va_S.rf (lv_sub hl [0, 1, 2, 3] rfl) hw
-- m_hutLine
abbrev rm_m_hutLine : Room := { frames := 4, cells := 0, slots := 0, locals := 91 }
def q_m_hutLine_0 (a_tape : Nat → Int32) (f_reached : Int32) (f_length : Int32) (f_begins : Int32) (f_sort : Int32) (f_value : Int32) (f_word : Int64) (f_wrongAt : Int32) (f_laterFault : Int32) (f_laterPlace : Int32) (a_told : Nat → Int32) (a_read : Nat → Int32) (f_good : Int32) (post : Int32 → (Int32) → (Int32) → (Int32) → (Int32) → (Int64) → (Int32) → (Int32) → (Int32) → (Nat → Int32) → (Nat → Int32) → (Int32) → Prop) : Prop :=
  q_m_take_0 a_tape f_reached f_length f_begins f_sort f_value f_word f_wrongAt f_laterFault f_laterPlace a_read f_good (0 : Int32) (0 : Int32) (99 : Int32) (fun r_1 f_reached_1 f_begins_1 f_sort_1 f_value_1 f_word_1 f_wrongAt_1 f_laterFault_1 f_laterPlace_1 a_read_1 f_good_1 => (¬ r_1 = 0 → (q_m_further_0 a_told (0 : Int32) (9 : Int32) (fun r_2 a_told_1 => (r_2 = (-1 : Int32) → (post (1 : Int32) f_reached_1 f_begins_1 f_sort_1 f_value_1 f_word_1 f_wrongAt_1 f_laterFault_1 f_laterPlace_1 a_told_1 a_read_1 f_good_1)) ∧ (¬ r_2 = (-1 : Int32) → (∀ v_1 : Int32, v_1 = (a_read_1 (Int32.toNatClampNeg (0 : Int32))) → (vp_in ((7 : Int32) + r_2) 132 ∧ (∀ a_told_2 : Nat → Int32, a_told_2 = upd a_told_1 (Int32.toNatClampNeg ((7 : Int32) + r_2)) v_1 → (post (1 : Int32) f_reached_1 f_begins_1 f_sort_1 f_value_1 f_word_1 f_wrongAt_1 f_laterFault_1 f_laterPlace_1 a_told_2 a_read_1 f_good_1)))))))) ∧ (r_1 = 0 → (post (0 : Int32) f_reached_1 f_begins_1 f_sort_1 f_value_1 f_word_1 f_wrongAt_1 f_laterFault_1 f_laterPlace_1 a_told a_read_1 f_good_1)))
set_option maxRecDepth 20000 in
theorem t_m_hutLine_0 {p : Program} {l : Launch} {e : Env} {s : State} {m : MethodId} {args : Array Value} {below : List Frame} {meth : Method} {c : Code} {E : zE} {q : Nat} {f_code : Int32} {a_tape : Nat → Int32} {a_size : Nat → Int32} {a_fault : Nat → Int32} {a_faultPlace : Nat → Int32} {a_many : Nat → Int32} {a_lands : Nat → Int32} {a_evenings : Nat → Int32} {a_sights : Nat → Int32} {a_choirs : Nat → Int32} {f_reached : Int32} {f_length : Int32} {f_begins : Int32} {f_sort : Int32} {f_value : Int32} {f_word : Int64} {f_wrongAt : Int32} {f_laterFault : Int32} {f_laterPlace : Int32} {a_told : Nat → Int32} {a_read : Nat → Int32} {f_farHut : Int32} {f_farSinger : Int32} {f_good : Int32} {f_land : Int32} {f_huts : Int32} {f_singers : Int32} {f_evening : Int32} {a_at : Nat → Int32} {a_knows : Nat → Int32} {a_climbed : Nat → Int32} {a_snow : Nat → Int32} {a_level : Nat → Int32} {f_begun : Int32} {f_minute : Int32} {f_avalanches : Int32} {a_run : Nat → Int32} {a_covers : Nat → Int32} {a_routes : Nat → Int32} {a_longest : Nat → Int32} {a_steep : Nat → Int32} {a_laid : Nat → Int32} {a_far : Nat → Int32} {f_sight : Int32} {a_runs : Nat → Int32} {f_choir : Int32} {f_voices : Int32} {a_rest : Nat → Int64} {a_wins : Nat → Int32} {f_seed : Int32} {a_other : Nat → Int32} {a_kept : Nat → Int32} {post : Int32 → (Int32) → (Int32) → (Int32) → (Int32) → (Int64) → (Int32) → (Int32) → (Int32) → (Nat → Int32) → (Nat → Int32) → (Int32) → Prop} {ls : Array Slot} {H : Heap} {locs : List Loc}
    (zc : zC p s m args meth c cX11_hutLine 2 RX11 (some .boolean))
    (hK : zK E s)
    (hM : mW E q f_code a_tape a_size a_fault a_faultPlace a_many a_lands a_evenings a_sights a_choirs f_reached f_length f_begins f_sort f_value f_word f_wrongAt f_laterFault f_laterPlace a_told a_read f_farHut f_farSinger f_good f_land f_huts f_singers f_evening a_at a_knows a_climbed a_snow a_level f_begun f_minute f_avalanches a_run a_covers a_routes a_longest a_steep a_laid a_far f_sight a_runs f_choir f_voices a_rest a_wins f_seed a_other a_kept H)
    (hS : va_S (mA q) s.heap H locs)
    (hl : lv_has ls 2 [(0, .ref q)])
    (hw : q_m_hutLine_0 a_tape f_reached f_length f_begins f_sort f_value f_word f_wrongAt f_laterFault f_laterPlace a_told a_read f_good post) :
    W p l e rm_m_hutLine s m args below meth c H locs 0 0 (MQ below (zQi (S := (Int32) × (Int32) × (Int32) × (Int32) × (Int64) × (Int32) × (Int32) × (Int32) × (Nat → Int32) × (Nat → Int32) × (Int32)) (fun r u => post r u.1 u.2.1 u.2.2.1 u.2.2.2.1 u.2.2.2.2.1 u.2.2.2.2.2.1 u.2.2.2.2.2.2.1 u.2.2.2.2.2.2.2.1 u.2.2.2.2.2.2.2.2.1 u.2.2.2.2.2.2.2.2.2.1 u.2.2.2.2.2.2.2.2.2.2) (fun u H => mW E q f_code a_tape a_size a_fault a_faultPlace a_many a_lands a_evenings a_sights a_choirs u.1 f_length u.2.1 u.2.2.1 u.2.2.2.1 u.2.2.2.2.1 u.2.2.2.2.2.1 u.2.2.2.2.2.2.1 u.2.2.2.2.2.2.2.1 u.2.2.2.2.2.2.2.2.1 u.2.2.2.2.2.2.2.2.2.1 f_farHut f_farSinger u.2.2.2.2.2.2.2.2.2.2 f_land f_huts f_singers f_evening a_at a_knows a_climbed a_snow a_level f_begun f_minute f_avalanches a_run a_covers a_routes a_longest a_steep a_laid a_far f_sight a_runs f_choir f_voices a_rest a_wins f_seed a_other a_kept H) (mA q)) args s 0 0 (mA q)) (F0 m 0 ls []) := by
  have hx := zc.1
  have hb := zc.2.1
  refine lv_aload_n hx hb dX11_hutLine_0 rfl (lv_at hl 0 rfl) ?_
  refine lv_iconst (v := (0 : Int32)) hx hb dX11_hutLine_1 (by decide) ?_
  refine lv_iconst (v := (0 : Int32)) hx hb dX11_hutLine_2 (by decide) ?_
  refine lv_bipush (v := (99 : Int32)) hx hb dX11_hutLine_3 (by decide) ?_
  refine zVw_i [.int (0 : Int32), .int (0 : Int32), .int (99 : Int32)] [] zc ky_X11_take kz_X11_take km_11_178 (c_m_take l hw) (mPreV0 hK hM) hS rfl rfl hl.1 (Nat.le_of_ble_eq_true rfl) ⟨rfl, rfl⟩ ⟨Nat.le_of_ble_eq_true rfl, Nat.le_of_ble_eq_true rfl⟩ ⟨(Nat.zero_le _), (Nat.zero_le _)⟩ dX11_hutLine_5 (fun r_1 u H locs hw hM hS => ?_)
  obtain ⟨f_reached_1, f_begins_1, f_sort_1, f_value_1, f_word_1, f_wrongAt_1, f_laterFault_1, f_laterPlace_1, a_read_1, f_good_1⟩ := u
  refine lv_if_ne (tgt := 13) hx hb dX11_hutLine_8 (by decide) (fun hc => ?_) (fun hc => ?_)
  · have hw := hw.1 hc
    refine lv_aload_n hx hb dX11_hutLine_13 rfl (lv_at hl 0 rfl) ?_
    refine lv_iconst (v := (0 : Int32)) hx hb dX11_hutLine_14 (by decide) ?_
    refine lv_bipush (v := (9 : Int32)) hx hb dX11_hutLine_15 (by decide) ?_
    refine zVw_i [.int (0 : Int32), .int (9 : Int32)] [] zc ky_X11_further kz_X11_further km_11_181 (c_m_further l hw) (mPreV0 hK hM) hS rfl rfl hl.1 (Nat.le_of_ble_eq_true rfl) ⟨rfl, rfl⟩ ⟨Nat.le_of_ble_eq_true rfl, Nat.le_of_ble_eq_true rfl⟩ ⟨(Nat.zero_le _), (Nat.zero_le _)⟩ dX11_hutLine_17 (fun r_2 a_told_1 H locs hw hM hS => ?_)
    refine lv_istore_n (lv' := [(1, .int r_2), (0, .ref q)]) hx hb dX11_hutLine_20 rfl hl (by decide) rfl (fun ls hl => ?_)
    refine lv_iload_n hx hb dX11_hutLine_21 rfl (lv_at hl 0 rfl) ?_
    refine lv_iconst (v := (-1 : Int32)) hx hb dX11_hutLine_22 (by decide) ?_
    refine lv_icmp_eq (tgt := 41) hx hb dX11_hutLine_23 (by decide) (fun hc => ?_) (fun hc => ?_)
    · have hw := hw.1 hc
      refine lv_iconst (v := (1 : Int32)) hx hb dX11_hutLine_41 (by decide) ?_
      exact zret_zw ⟨f_reached_1, f_begins_1, f_sort_1, f_value_1, f_word_1, f_wrongAt_1, f_laterFault_1, f_laterPlace_1, a_told_1, a_read_1, f_good_1⟩ zc hS rfl hw hM dX11_hutLine_42
    · have hw := hw.2 hc
      refine lv_aload_n hx hb dX11_hutLine_26 rfl (lv_at hl 1 rfl) ?_
      refine mg_11_38_0 zc hK hM dX11_hutLine_27 ?_
      refine lv_bipush (v := (7 : Int32)) hx hb dX11_hutLine_30 (by decide) ?_
      refine lv_iload_n hx hb dX11_hutLine_32 rfl (lv_at hl 0 rfl) ?_
      refine lv_iadd hx hb dX11_hutLine_33 ?_
      refine lv_aload_n hx hb dX11_hutLine_34 rfl (lv_at hl 1 rfl) ?_
      refine mg_11_41_0 zc hK hM dX11_hutLine_35 ?_
      refine lv_iconst (v := (0 : Int32)) hx hb dX11_hutLine_38 (by decide) ?_
      refine mld_11 zc hK hM (by unfold vp_in; decide) dX11_hutLine_39 ?_
      refine lv_topi (fun v_1 ev_1 => ?_)
      have hw := hw v_1 ev_1
      refine mst_10 zc hK hM hS hw.1 dX11_hutLine_40 (fun a_told_2 H locs ea_told_2 hM hS => ?_)
      have hw := hw.2 a_told_2 ea_told_2
      refine lv_iconst (v := (1 : Int32)) hx hb dX11_hutLine_41 (by decide) ?_
      exact zret_zw ⟨f_reached_1, f_begins_1, f_sort_1, f_value_1, f_word_1, f_wrongAt_1, f_laterFault_1, f_laterPlace_1, a_told_2, a_read_1, f_good_1⟩ zc hS rfl hw hM dX11_hutLine_42
  · have hw := hw.2 hc
    refine lv_iconst (v := (0 : Int32)) hx hb dX11_hutLine_11 (by decide) ?_
    exact zret_zw ⟨f_reached_1, f_begins_1, f_sort_1, f_value_1, f_word_1, f_wrongAt_1, f_laterFault_1, f_laterPlace_1, a_told, a_read_1, f_good_1⟩ zc hS rfl hw hM dX11_hutLine_12
set_option maxRecDepth 20000 in
theorem c_m_hutLine (l : Launch) {E : zE} {q : Nat} {f_code : Int32} {a_tape : Nat → Int32} {a_size : Nat → Int32} {a_fault : Nat → Int32} {a_faultPlace : Nat → Int32} {a_many : Nat → Int32} {a_lands : Nat → Int32} {a_evenings : Nat → Int32} {a_sights : Nat → Int32} {a_choirs : Nat → Int32} {f_reached : Int32} {f_length : Int32} {f_begins : Int32} {f_sort : Int32} {f_value : Int32} {f_word : Int64} {f_wrongAt : Int32} {f_laterFault : Int32} {f_laterPlace : Int32} {a_told : Nat → Int32} {a_read : Nat → Int32} {f_farHut : Int32} {f_farSinger : Int32} {f_good : Int32} {f_land : Int32} {f_huts : Int32} {f_singers : Int32} {f_evening : Int32} {a_at : Nat → Int32} {a_knows : Nat → Int32} {a_climbed : Nat → Int32} {a_snow : Nat → Int32} {a_level : Nat → Int32} {f_begun : Int32} {f_minute : Int32} {f_avalanches : Int32} {a_run : Nat → Int32} {a_covers : Nat → Int32} {a_routes : Nat → Int32} {a_longest : Nat → Int32} {a_steep : Nat → Int32} {a_laid : Nat → Int32} {a_far : Nat → Int32} {f_sight : Int32} {a_runs : Nat → Int32} {f_choir : Int32} {f_voices : Int32} {a_rest : Nat → Int64} {a_wins : Nat → Int32} {f_seed : Int32} {a_other : Nat → Int32} {a_kept : Nat → Int32} {post : Int32 → (Int32) → (Int32) → (Int32) → (Int32) → (Int64) → (Int32) → (Int32) → (Int32) → (Nat → Int32) → (Nat → Int32) → (Int32) → Prop} (hw : q_m_hutLine_0 a_tape f_reached f_length f_begins f_sort f_value f_word f_wrongAt f_laterFault f_laterPlace a_told a_read f_good post) : Met l yX11_hutLine (Cond.code yX11_hutLine cX11_hutLine 2 (some .boolean) :: zb) rm_m_hutLine (va_Pc [.ref q] (fun U => mW E q f_code a_tape a_size a_fault a_faultPlace a_many a_lands a_evenings a_sights a_choirs f_reached f_length f_begins f_sort f_value f_word f_wrongAt f_laterFault f_laterPlace a_told a_read f_farHut f_farSinger f_good f_land f_huts f_singers f_evening a_at a_knows a_climbed a_snow a_level f_begun f_minute f_avalanches a_run a_covers a_routes a_longest a_steep a_laid a_far f_sight a_runs f_choir f_voices a_rest a_wins f_seed a_other a_kept U.heap ∧ zK E U)) (zQi (S := (Int32) × (Int32) × (Int32) × (Int32) × (Int64) × (Int32) × (Int32) × (Int32) × (Nat → Int32) × (Nat → Int32) × (Int32)) (fun r u => post r u.1 u.2.1 u.2.2.1 u.2.2.2.1 u.2.2.2.2.1 u.2.2.2.2.2.1 u.2.2.2.2.2.2.1 u.2.2.2.2.2.2.2.1 u.2.2.2.2.2.2.2.2.1 u.2.2.2.2.2.2.2.2.2.1 u.2.2.2.2.2.2.2.2.2.2) (fun u H => mW E q f_code a_tape a_size a_fault a_faultPlace a_many a_lands a_evenings a_sights a_choirs u.1 f_length u.2.1 u.2.2.1 u.2.2.2.1 u.2.2.2.2.1 u.2.2.2.2.2.1 u.2.2.2.2.2.2.1 u.2.2.2.2.2.2.2.1 u.2.2.2.2.2.2.2.2.1 u.2.2.2.2.2.2.2.2.2.1 f_farHut f_farSinger u.2.2.2.2.2.2.2.2.2.2 f_land f_huts f_singers f_evening a_at a_knows a_climbed a_snow a_level f_begun f_minute f_avalanches a_run a_covers a_routes a_longest a_steep a_laid a_far f_sight a_runs f_choir f_voices a_rest a_wins f_seed a_other a_kept H) (mA q)) 0 0 (mA q) := by
  refine Met.ofW (cc := cX11_hutLine) (maxL := 2) (ret := (some .boolean)) (by decide) rfl ?_
  intro p e s m args below meth c s₁ B hml hv
  obtain ⟨rfl, hM, hK⟩ := hv
  have zc := zc_of B hml
  have hl := lv_entry ([.ref q]) (n := 2) (Nat.le_of_ble_eq_true rfl)
  rw [lg_entry_eq]
  generalize (lg_sl ([.ref q]) ++ List.replicate (2 - (lg_sl ([.ref q])).length) Slot.unset).toArray = ls at hl ⊢
  have hl : lv_has ls 2 [(0, .ref q)] := hl
  exact t_m_hutLine_0 zc hK hM va_S.rf (lv_sub hl [0] rfl) hw
end
