section
-- z_X10_has
abbrev rm_z_X10_has : Room := { frames := 0, cells := 0, slots := 0, locals := 0 }
def q_z_X10_has_0 (x0 : Int32) (x1 : Int32) (post : Int32 → Prop) : Prop :=
  (((x0 >>> (x1 &&& 31)) &&& (1 : Int32)) = 0 → (post (0 : Int32))) ∧ (¬ ((x0 >>> (x1 &&& 31)) &&& (1 : Int32)) = 0 → (post (1 : Int32)))
set_option maxRecDepth 20000 in
theorem t_z_X10_has_0 {p : Program} {l : Launch} {e : Env} {s : State} {m : MethodId} {args : Array Value} {below : List Frame} {meth : Method} {c : Code} {post : Int32 → Prop} {x0 : Int32} {x1 : Int32} {ls : Array Slot}
    (zc : zC p s m args meth c cX10_has 2 RX10 (some .boolean))
    (hl : lv_has ls 2 [(0, .int x0), (1, .int x1)])
    (hw : q_z_X10_has_0 x0 x1 post) :
    W p l e rm_z_X10_has s m args below meth c s.heap [] 0 0 (MQ below (vp_Si post) args s 0 0 (fun _ => False)) (F0 m 0 ls []) := by
  have hx := zc.1
  have hb := zc.2.1
  refine lv_iload_n hx hb dX10_has_0 rfl (lv_at hl 0 rfl) ?_
  refine lv_iload_n hx hb dX10_has_1 rfl (lv_at hl 1 rfl) ?_
  refine lv_ishr hx hb dX10_has_2 ?_
  refine lv_iconst (v := (1 : Int32)) hx hb dX10_has_3 (by decide) ?_
  refine lv_iand hx hb dX10_has_4 ?_
  refine lv_if_eq (tgt := 12) hx hb dX10_has_5 (by decide) (fun hc => ?_) (fun hc => ?_)
  · have hw := hw.1 hc
    refine lv_iconst (v := (0 : Int32)) hx hb dX10_has_12 (by decide) ?_
    exact zret_z zc rfl hw dX10_has_13
  · have hw := hw.2 hc
    refine lv_iconst (v := (1 : Int32)) hx hb dX10_has_8 (by decide) ?_
    refine lv_goto (tgt := 13) hx hb dX10_has_9 (by decide) ?_
    exact zret_z zc rfl hw dX10_has_13
set_option maxRecDepth 20000 in
theorem c_z_X10_has (l : Launch) {x0 : Int32} {x1 : Int32} {post : Int32 → Prop} (hw : q_z_X10_has_0 x0 x1 post) : Met l yX10_has (Cond.code yX10_has cX10_has 2 (some .boolean) :: zb) rm_z_X10_has (va_Pc [.int x0, .int x1] (fun _ => True)) (vp_Si post) 0 0 (fun _ => False) := by
  refine Met.ofW (cc := cX10_has) (maxL := 2) (ret := (some .boolean)) (by decide) rfl ?_
  intro p e s m args below meth c s₁ B hml hv
  obtain ⟨rfl, -⟩ := hv
  have zc := zc_of B hml
  have hl := lv_entry ([.int x0, .int x1]) (n := 2) (Nat.le_of_ble_eq_true rfl)
  rw [lg_entry_eq]
  generalize (lg_sl ([.int x0, .int x1]) ++ List.replicate (2 - (lg_sl ([.int x0, .int x1])).length) Slot.unset).toArray = ls at hl ⊢
  have hl : lv_has ls 2 [(0, .int x0), (1, .int x1)] := hl
  exact t_z_X10_has_0 zc (lv_sub hl [0, 1] rfl) hw
-- z_X3_isWrong
abbrev rm_z_X3_isWrong : Room := { frames := 0, cells := 0, slots := 0, locals := 0 }
def q_z_X3_isWrong_0 (x0 : Int32) (x1 : Int32) (x2 : Int32) (post : Int32 → Prop) : Prop :=
  (¬ x0 = (1 : Int32) → ((¬ x0 = (2 : Int32) → (post (0 : Int32))) ∧ (x0 = (2 : Int32) → ((x1 ≤ x2 → (post (0 : Int32))) ∧ (¬ x1 ≤ x2 → (post (1 : Int32))))))) ∧ (x0 = (1 : Int32) → ((x1 < x2 → (post (0 : Int32))) ∧ (¬ x1 < x2 → (post (1 : Int32)))))
set_option maxRecDepth 20000 in
theorem t_z_X3_isWrong_0 {p : Program} {l : Launch} {e : Env} {s : State} {m : MethodId} {args : Array Value} {below : List Frame} {meth : Method} {c : Code} {post : Int32 → Prop} {x0 : Int32} {x1 : Int32} {x2 : Int32} {ls : Array Slot}
    (zc : zC p s m args meth c cX3_isWrong 3 RX3 (some .boolean))
    (hl : lv_has ls 3 [(0, .int x0), (1, .int x1), (2, .int x2)])
    (hw : q_z_X3_isWrong_0 x0 x1 x2 post) :
    W p l e rm_z_X3_isWrong s m args below meth c s.heap [] 0 0 (MQ below (vp_Si post) args s 0 0 (fun _ => False)) (F0 m 0 ls []) := by
  have hx := zc.1
  have hb := zc.2.1
  refine lv_iload_n hx hb dX3_isWrong_0 rfl (lv_at hl 0 rfl) ?_
  refine lv_iconst (v := (1 : Int32)) hx hb dX3_isWrong_1 (by decide) ?_
  refine lv_icmp_ne (tgt := 16) hx hb dX3_isWrong_2 (by decide) (fun hc => ?_) (fun hc => ?_)
  · have hw := hw.1 hc
    refine lv_iload_n hx hb dX3_isWrong_16 rfl (lv_at hl 0 rfl) ?_
    refine lv_iconst (v := (2 : Int32)) hx hb dX3_isWrong_17 (by decide) ?_
    refine lv_icmp_ne (tgt := 30) hx hb dX3_isWrong_18 (by decide) (fun hc => ?_) (fun hc => ?_)
    · have hw := hw.1 hc
      refine lv_iconst (v := (0 : Int32)) hx hb dX3_isWrong_30 (by decide) ?_
      exact zret_z zc rfl hw dX3_isWrong_31
    · have hw := hw.2 hc
      refine lv_iload_n hx hb dX3_isWrong_21 rfl (lv_at hl 1 rfl) ?_
      refine lv_iload_n hx hb dX3_isWrong_22 rfl (lv_at hl 2 rfl) ?_
      refine lv_icmp_le (tgt := 30) hx hb dX3_isWrong_23 (by decide) (fun hc => ?_) (fun hc => ?_)
      · have hw := hw.1 hc
        refine lv_iconst (v := (0 : Int32)) hx hb dX3_isWrong_30 (by decide) ?_
        exact zret_z zc rfl hw dX3_isWrong_31
      · have hw := hw.2 hc
        refine lv_iconst (v := (1 : Int32)) hx hb dX3_isWrong_26 (by decide) ?_
        refine lv_goto (tgt := 31) hx hb dX3_isWrong_27 (by decide) ?_
        exact zret_z zc rfl hw dX3_isWrong_31
  · have hw := hw.2 hc
    refine lv_iload_n hx hb dX3_isWrong_5 rfl (lv_at hl 1 rfl) ?_
    refine lv_iload_n hx hb dX3_isWrong_6 rfl (lv_at hl 2 rfl) ?_
    refine lv_icmp_lt (tgt := 14) hx hb dX3_isWrong_7 (by decide) (fun hc => ?_) (fun hc => ?_)
    · have hw := hw.1 hc
      refine lv_iconst (v := (0 : Int32)) hx hb dX3_isWrong_14 (by decide) ?_
      exact zret_z zc rfl hw dX3_isWrong_15
    · have hw := hw.2 hc
      refine lv_iconst (v := (1 : Int32)) hx hb dX3_isWrong_10 (by decide) ?_
      refine lv_goto (tgt := 15) hx hb dX3_isWrong_11 (by decide) ?_
      exact zret_z zc rfl hw dX3_isWrong_15
set_option maxRecDepth 20000 in
theorem c_z_X3_isWrong (l : Launch) {x0 : Int32} {x1 : Int32} {x2 : Int32} {post : Int32 → Prop} (hw : q_z_X3_isWrong_0 x0 x1 x2 post) : Met l yX3_isWrong (Cond.code yX3_isWrong cX3_isWrong 3 (some .boolean) :: zb) rm_z_X3_isWrong (va_Pc [.int x0, .int x1, .int x2] (fun _ => True)) (vp_Si post) 0 0 (fun _ => False) := by
  refine Met.ofW (cc := cX3_isWrong) (maxL := 3) (ret := (some .boolean)) (by decide) rfl ?_
  intro p e s m args below meth c s₁ B hml hv
  obtain ⟨rfl, -⟩ := hv
  have zc := zc_of B hml
  have hl := lv_entry ([.int x0, .int x1, .int x2]) (n := 3) (Nat.le_of_ble_eq_true rfl)
  rw [lg_entry_eq]
  generalize (lg_sl ([.int x0, .int x1, .int x2]) ++ List.replicate (3 - (lg_sl ([.int x0, .int x1, .int x2])).length) Slot.unset).toArray = ls at hl ⊢
  have hl : lv_has ls 3 [(0, .int x0), (1, .int x1), (2, .int x2)] := hl
  exact t_z_X3_isWrong_0 zc (lv_sub hl [0, 1, 2] rfl) hw
-- z_J6_bitCount_0f7a4
abbrev rm_z_J6_bitCount_0f7a4 : Room := { frames := 0, cells := 0, slots := 0, locals := 0 }
def q_z_J6_bitCount_0f7a4_0 (x0 : Int32) (post : Int32 → Prop) : Prop :=
  ∀ v_1 : Int32, v_1 = (x0 - ((Int32.toUInt32 x0 >>> (Int32.toUInt32 (1 : Int32) &&& Int32.toUInt32 31)).toInt32 &&& (1431655765 : Int32))) → (∀ v_2 : Int32, v_2 = ((v_1 &&& (858993459 : Int32)) + ((Int32.toUInt32 v_1 >>> (Int32.toUInt32 (2 : Int32) &&& Int32.toUInt32 31)).toInt32 &&& (858993459 : Int32))) → (∀ v_3 : Int32, v_3 = ((v_2 + (Int32.toUInt32 v_2 >>> (Int32.toUInt32 (4 : Int32) &&& Int32.toUInt32 31)).toInt32) &&& (252645135 : Int32)) → (∀ v_4 : Int32, v_4 = (v_3 + (Int32.toUInt32 v_3 >>> (Int32.toUInt32 (8 : Int32) &&& Int32.toUInt32 31)).toInt32) → (∀ v_5 : Int32, v_5 = (v_4 + (Int32.toUInt32 v_4 >>> (Int32.toUInt32 (16 : Int32) &&& Int32.toUInt32 31)).toInt32) → (post (v_5 &&& (63 : Int32)))))))
set_option maxRecDepth 20000 in
theorem t_z_J6_bitCount_0f7a4_0 {p : Program} {l : Launch} {e : Env} {s : State} {m : MethodId} {args : Array Value} {below : List Frame} {meth : Method} {c : Code} {post : Int32 → Prop} {x0 : Int32} {ls : Array Slot}
    (zc : zC p s m args meth c cJ6_bitCount_0f7a4 1 RJ6 (some .int))
    (hl : lv_has ls 1 [(0, .int x0)])
    (hw : q_z_J6_bitCount_0f7a4_0 x0 post) :
    W p l e rm_z_J6_bitCount_0f7a4 s m args below meth c s.heap [] 0 0 (MQ below (vp_Si post) args s 0 0 (fun _ => False)) (F0 m 0 ls []) := by
  have hx := zc.1
  have hb := zc.2.1
  refine lv_iload_n hx hb dJ6_bitCount_0f7a4_0 rfl (lv_at hl 0 rfl) ?_
  refine lv_iload_n hx hb dJ6_bitCount_0f7a4_1 rfl (lv_at hl 0 rfl) ?_
  refine lv_iconst (v := (1 : Int32)) hx hb dJ6_bitCount_0f7a4_2 (by decide) ?_
  refine lv_iushr hx hb dJ6_bitCount_0f7a4_3 rfl ?_
  refine lv_ldcw (v := (1431655765 : Int32)) hx hb zc.2.2.2.1 (zc.2.2.2.2.1 _ kc_J6_265) dJ6_bitCount_0f7a4_4 ?_
  refine lv_iand hx hb dJ6_bitCount_0f7a4_7 ?_
  refine lv_isub hx hb dJ6_bitCount_0f7a4_8 ?_
  refine lv_topi (fun v_1 ev_1 => ?_)
  have hw := hw v_1 ev_1
  refine lv_istore_n (lv' := [(0, .int v_1)]) hx hb dJ6_bitCount_0f7a4_9 rfl hl (by decide) rfl (fun ls hl => ?_)
  refine lv_iload_n hx hb dJ6_bitCount_0f7a4_10 rfl (lv_at hl 0 rfl) ?_
  refine lv_ldcw (v := (858993459 : Int32)) hx hb zc.2.2.2.1 (zc.2.2.2.2.1 _ kc_J6_266) dJ6_bitCount_0f7a4_11 ?_
  refine lv_iand hx hb dJ6_bitCount_0f7a4_14 ?_
  refine lv_iload_n hx hb dJ6_bitCount_0f7a4_15 rfl (lv_at hl 0 rfl) ?_
  refine lv_iconst (v := (2 : Int32)) hx hb dJ6_bitCount_0f7a4_16 (by decide) ?_
  refine lv_iushr hx hb dJ6_bitCount_0f7a4_17 rfl ?_
  refine lv_ldcw (v := (858993459 : Int32)) hx hb zc.2.2.2.1 (zc.2.2.2.2.1 _ kc_J6_266) dJ6_bitCount_0f7a4_18 ?_
  refine lv_iand hx hb dJ6_bitCount_0f7a4_21 ?_
  refine lv_iadd hx hb dJ6_bitCount_0f7a4_22 ?_
  refine lv_topi (fun v_2 ev_2 => ?_)
  have hw := hw v_2 ev_2
  refine lv_istore_n (lv' := [(0, .int v_2)]) hx hb dJ6_bitCount_0f7a4_23 rfl hl (by decide) rfl (fun ls hl => ?_)
  refine lv_iload_n hx hb dJ6_bitCount_0f7a4_24 rfl (lv_at hl 0 rfl) ?_
  refine lv_iload_n hx hb dJ6_bitCount_0f7a4_25 rfl (lv_at hl 0 rfl) ?_
  refine lv_iconst (v := (4 : Int32)) hx hb dJ6_bitCount_0f7a4_26 (by decide) ?_
  refine lv_iushr hx hb dJ6_bitCount_0f7a4_27 rfl ?_
  refine lv_iadd hx hb dJ6_bitCount_0f7a4_28 ?_
  refine lv_ldcw (v := (252645135 : Int32)) hx hb zc.2.2.2.1 (zc.2.2.2.2.1 _ kc_J6_267) dJ6_bitCount_0f7a4_29 ?_
  refine lv_iand hx hb dJ6_bitCount_0f7a4_32 ?_
  refine lv_topi (fun v_3 ev_3 => ?_)
  have hw := hw v_3 ev_3
  refine lv_istore_n (lv' := [(0, .int v_3)]) hx hb dJ6_bitCount_0f7a4_33 rfl hl (by decide) rfl (fun ls hl => ?_)
  refine lv_iload_n hx hb dJ6_bitCount_0f7a4_34 rfl (lv_at hl 0 rfl) ?_
  refine lv_iload_n hx hb dJ6_bitCount_0f7a4_35 rfl (lv_at hl 0 rfl) ?_
  refine lv_bipush (v := (8 : Int32)) hx hb dJ6_bitCount_0f7a4_36 (by decide) ?_
  refine lv_iushr hx hb dJ6_bitCount_0f7a4_38 rfl ?_
  refine lv_iadd hx hb dJ6_bitCount_0f7a4_39 ?_
  refine lv_topi (fun v_4 ev_4 => ?_)
  have hw := hw v_4 ev_4
  refine lv_istore_n (lv' := [(0, .int v_4)]) hx hb dJ6_bitCount_0f7a4_40 rfl hl (by decide) rfl (fun ls hl => ?_)
  refine lv_iload_n hx hb dJ6_bitCount_0f7a4_41 rfl (lv_at hl 0 rfl) ?_
  refine lv_iload_n hx hb dJ6_bitCount_0f7a4_42 rfl (lv_at hl 0 rfl) ?_
  refine lv_bipush (v := (16 : Int32)) hx hb dJ6_bitCount_0f7a4_43 (by decide) ?_
  refine lv_iushr hx hb dJ6_bitCount_0f7a4_45 rfl ?_
  refine lv_iadd hx hb dJ6_bitCount_0f7a4_46 ?_
  refine lv_topi (fun v_5 ev_5 => ?_)
  have hw := hw v_5 ev_5
  refine lv_istore_n (lv' := [(0, .int v_5)]) hx hb dJ6_bitCount_0f7a4_47 rfl hl (by decide) rfl (fun ls hl => ?_)
  refine lv_iload_n hx hb dJ6_bitCount_0f7a4_48 rfl (lv_at hl 0 rfl) ?_
  refine lv_bipush (v := (63 : Int32)) hx hb dJ6_bitCount_0f7a4_49 (by decide) ?_
  refine lv_iand hx hb dJ6_bitCount_0f7a4_51 ?_
  exact zret_i zc hw dJ6_bitCount_0f7a4_52
set_option maxRecDepth 20000 in
theorem c_z_J6_bitCount_0f7a4 (l : Launch) {x0 : Int32} {post : Int32 → Prop} (hw : q_z_J6_bitCount_0f7a4_0 x0 post) : Met l yJ6_bitCount_0f7a4 (Cond.code yJ6_bitCount_0f7a4 cJ6_bitCount_0f7a4 1 (some .int) :: zb) rm_z_J6_bitCount_0f7a4 (va_Pc [.int x0] (fun _ => True)) (vp_Si post) 0 0 (fun _ => False) := by
  refine Met.ofW (cc := cJ6_bitCount_0f7a4) (maxL := 1) (ret := (some .int)) (by decide) rfl ?_
  intro p e s m args below meth c s₁ B hml hv
  obtain ⟨rfl, -⟩ := hv
  have zc := zc_of B hml
  have hl := lv_entry ([.int x0]) (n := 1) (Nat.le_of_ble_eq_true rfl)
  rw [lg_entry_eq]
  generalize (lg_sl ([.int x0]) ++ List.replicate (1 - (lg_sl ([.int x0])).length) Slot.unset).toArray = ls at hl ⊢
  have hl : lv_has ls 1 [(0, .int x0)] := hl
  exact t_z_J6_bitCount_0f7a4_0 zc (lv_sub hl [0] rfl) hw
end
section
-- m_in
abbrev rm_m_in : Room := { frames := 0, cells := 0, slots := 0, locals := 0 }
def q_m_in_0 (x0 : Int32) (x1 : Int32) (x2 : Int32) (post : Int32 → Prop) : Prop :=
  (x0 < x1 → (post (0 : Int32))) ∧ (¬ x0 < x1 → ((x2 < x0 → (post (0 : Int32))) ∧ (¬ x2 < x0 → (post (1 : Int32)))))
set_option maxRecDepth 20000 in
theorem t_m_in_0 {p : Program} {l : Launch} {e : Env} {s : State} {m : MethodId} {args : Array Value} {below : List Frame} {meth : Method} {c : Code} {post : Int32 → Prop} {x0 : Int32} {x1 : Int32} {x2 : Int32} {ls : Array Slot}
    (zc : zC p s m args meth c cX11_in 3 RX11 (some .boolean))
    (hl : lv_has ls 3 [(0, .int x0), (1, .int x1), (2, .int x2)])
    (hw : q_m_in_0 x0 x1 x2 post) :
    W p l e rm_m_in s m args below meth c s.heap [] 0 0 (MQ below (vp_Si post) args s 0 0 (fun _ => False)) (F0 m 0 ls []) := by
  have hx := zc.1
  have hb := zc.2.1
  refine lv_iload_n hx hb dX11_in_0 rfl (lv_at hl 0 rfl) ?_
  refine lv_iload_n hx hb dX11_in_1 rfl (lv_at hl 1 rfl) ?_
  refine lv_icmp_lt (tgt := 14) hx hb dX11_in_2 (by decide) (fun hc => ?_) (fun hc => ?_)
  · have hw := hw.1 hc
    refine lv_iconst (v := (0 : Int32)) hx hb dX11_in_14 (by decide) ?_
    exact zret_z zc rfl hw dX11_in_15
  · have hw := hw.2 hc
    refine lv_iload_n hx hb dX11_in_5 rfl (lv_at hl 0 rfl) ?_
    refine lv_iload_n hx hb dX11_in_6 rfl (lv_at hl 2 rfl) ?_
    refine lv_icmp_gt (tgt := 14) hx hb dX11_in_7 (by decide) (fun hc => ?_) (fun hc => ?_)
    · have hw := hw.1 hc
      refine lv_iconst (v := (0 : Int32)) hx hb dX11_in_14 (by decide) ?_
      exact zret_z zc rfl hw dX11_in_15
    · have hw := hw.2 hc
      refine lv_iconst (v := (1 : Int32)) hx hb dX11_in_10 (by decide) ?_
      refine lv_goto (tgt := 15) hx hb dX11_in_11 (by decide) ?_
      exact zret_z zc rfl hw dX11_in_15
set_option maxRecDepth 20000 in
theorem c_m_in (l : Launch) {x0 : Int32} {x1 : Int32} {x2 : Int32} {post : Int32 → Prop} (hw : q_m_in_0 x0 x1 x2 post) : Met l yX11_in (Cond.code yX11_in cX11_in 3 (some .boolean) :: zb) rm_m_in (va_Pc [.int x0, .int x1, .int x2] (fun _ => True)) (vp_Si post) 0 0 (fun _ => False) := by
  refine Met.ofW (cc := cX11_in) (maxL := 3) (ret := (some .boolean)) (by decide) rfl ?_
  intro p e s m args below meth c s₁ B hml hv
  obtain ⟨rfl, -⟩ := hv
  have zc := zc_of B hml
  have hl := lv_entry ([.int x0, .int x1, .int x2]) (n := 3) (Nat.le_of_ble_eq_true rfl)
  rw [lg_entry_eq]
  generalize (lg_sl ([.int x0, .int x1, .int x2]) ++ List.replicate (3 - (lg_sl ([.int x0, .int x1, .int x2])).length) Slot.unset).toArray = ls at hl ⊢
  have hl : lv_has ls 3 [(0, .int x0), (1, .int x1), (2, .int x2)] := hl
  exact t_m_in_0 zc (lv_sub hl [0, 1, 2] rfl) hw
-- m_has
abbrev rm_m_has : Room := { frames := 0, cells := 0, slots := 0, locals := 0 }
def q_m_has_0 (x0 : Int32) (x1 : Int32) (post : Int32 → Prop) : Prop :=
  (¬ ((x0 >>> (x1 &&& 31)) &&& (1 : Int32)) = (1 : Int32) → (post (0 : Int32))) ∧ (((x0 >>> (x1 &&& 31)) &&& (1 : Int32)) = (1 : Int32) → (post (1 : Int32)))
set_option maxRecDepth 20000 in
theorem t_m_has_0 {p : Program} {l : Launch} {e : Env} {s : State} {m : MethodId} {args : Array Value} {below : List Frame} {meth : Method} {c : Code} {post : Int32 → Prop} {x0 : Int32} {x1 : Int32} {ls : Array Slot}
    (zc : zC p s m args meth c cX11_has 2 RX11 (some .boolean))
    (hl : lv_has ls 2 [(0, .int x0), (1, .int x1)])
    (hw : q_m_has_0 x0 x1 post) :
    W p l e rm_m_has s m args below meth c s.heap [] 0 0 (MQ below (vp_Si post) args s 0 0 (fun _ => False)) (F0 m 0 ls []) := by
  have hx := zc.1
  have hb := zc.2.1
  refine lv_iload_n hx hb dX11_has_0 rfl (lv_at hl 0 rfl) ?_
  refine lv_iload_n hx hb dX11_has_1 rfl (lv_at hl 1 rfl) ?_
  refine lv_ishr hx hb dX11_has_2 ?_
  refine lv_iconst (v := (1 : Int32)) hx hb dX11_has_3 (by decide) ?_
  refine lv_iand hx hb dX11_has_4 ?_
  refine lv_iconst (v := (1 : Int32)) hx hb dX11_has_5 (by decide) ?_
  refine lv_icmp_ne (tgt := 13) hx hb dX11_has_6 (by decide) (fun hc => ?_) (fun hc => ?_)
  · have hw := hw.1 hc
    refine lv_iconst (v := (0 : Int32)) hx hb dX11_has_13 (by decide) ?_
    exact zret_z zc rfl hw dX11_has_14
  · have hw := hw.2 hc
    refine lv_iconst (v := (1 : Int32)) hx hb dX11_has_9 (by decide) ?_
    refine lv_goto (tgt := 14) hx hb dX11_has_10 (by decide) ?_
    exact zret_z zc rfl hw dX11_has_14
set_option maxRecDepth 20000 in
theorem c_m_has (l : Launch) {x0 : Int32} {x1 : Int32} {post : Int32 → Prop} (hw : q_m_has_0 x0 x1 post) : Met l yX11_has (Cond.code yX11_has cX11_has 2 (some .boolean) :: zb) rm_m_has (va_Pc [.int x0, .int x1] (fun _ => True)) (vp_Si post) 0 0 (fun _ => False) := by
  refine Met.ofW (cc := cX11_has) (maxL := 2) (ret := (some .boolean)) (by decide) rfl ?_
  intro p e s m args below meth c s₁ B hml hv
  obtain ⟨rfl, -⟩ := hv
  have zc := zc_of B hml
  have hl := lv_entry ([.int x0, .int x1]) (n := 2) (Nat.le_of_ble_eq_true rfl)
  rw [lg_entry_eq]
  generalize (lg_sl ([.int x0, .int x1]) ++ List.replicate (2 - (lg_sl ([.int x0, .int x1])).length) Slot.unset).toArray = ls at hl ⊢
  have hl : lv_has ls 2 [(0, .int x0), (1, .int x1)] := hl
  exact t_m_has_0 zc (lv_sub hl [0, 1] rfl) hw
-- m_greater
abbrev rm_m_greater : Room := { frames := 0, cells := 0, slots := 0, locals := 0 }
def q_m_greater_0 (x0 : Int32) (x1 : Int32) (post : Int32 → Prop) : Prop :=
  (x0 ≤ x1 → (post x1)) ∧ (¬ x0 ≤ x1 → (post x0))
set_option maxRecDepth 20000 in
theorem t_m_greater_0 {p : Program} {l : Launch} {e : Env} {s : State} {m : MethodId} {args : Array Value} {below : List Frame} {meth : Method} {c : Code} {post : Int32 → Prop} {x0 : Int32} {x1 : Int32} {ls : Array Slot}
    (zc : zC p s m args meth c cX11_greater 2 RX11 (some .int))
    (hl : lv_has ls 2 [(0, .int x0), (1, .int x1)])
    (hw : q_m_greater_0 x0 x1 post) :
    W p l e rm_m_greater s m args below meth c s.heap [] 0 0 (MQ below (vp_Si post) args s 0 0 (fun _ => False)) (F0 m 0 ls []) := by
  have hx := zc.1
  have hb := zc.2.1
  refine lv_iload_n hx hb dX11_greater_0 rfl (lv_at hl 0 rfl) ?_
  refine lv_iload_n hx hb dX11_greater_1 rfl (lv_at hl 1 rfl) ?_
  refine lv_icmp_le (tgt := 9) hx hb dX11_greater_2 (by decide) (fun hc => ?_) (fun hc => ?_)
  · have hw := hw.1 hc
    refine lv_iload_n hx hb dX11_greater_9 rfl (lv_at hl 1 rfl) ?_
    exact zret_i zc hw dX11_greater_10
  · have hw := hw.2 hc
    refine lv_iload_n hx hb dX11_greater_5 rfl (lv_at hl 0 rfl) ?_
    refine lv_goto (tgt := 10) hx hb dX11_greater_6 (by decide) ?_
    exact zret_i zc hw dX11_greater_10
set_option maxRecDepth 20000 in
theorem c_m_greater (l : Launch) {x0 : Int32} {x1 : Int32} {post : Int32 → Prop} (hw : q_m_greater_0 x0 x1 post) : Met l yX11_greater (Cond.code yX11_greater cX11_greater 2 (some .int) :: zb) rm_m_greater (va_Pc [.int x0, .int x1] (fun _ => True)) (vp_Si post) 0 0 (fun _ => False) := by
  refine Met.ofW (cc := cX11_greater) (maxL := 2) (ret := (some .int)) (by decide) rfl ?_
  intro p e s m args below meth c s₁ B hml hv
  obtain ⟨rfl, -⟩ := hv
  have zc := zc_of B hml
  have hl := lv_entry ([.int x0, .int x1]) (n := 2) (Nat.le_of_ble_eq_true rfl)
  rw [lg_entry_eq]
  generalize (lg_sl ([.int x0, .int x1]) ++ List.replicate (2 - (lg_sl ([.int x0, .int x1])).length) Slot.unset).toArray = ls at hl ⊢
  have hl : lv_has ls 2 [(0, .int x0), (1, .int x1)] := hl
  exact t_m_greater_0 zc (lv_sub hl [0, 1] rfl) hw
-- m_lesser
abbrev rm_m_lesser : Room := { frames := 0, cells := 0, slots := 0, locals := 0 }
def q_m_lesser_0 (x0 : Int32) (x1 : Int32) (post : Int32 → Prop) : Prop :=
  (x1 ≤ x0 → (post x1)) ∧ (¬ x1 ≤ x0 → (post x0))
set_option maxRecDepth 20000 in
theorem t_m_lesser_0 {p : Program} {l : Launch} {e : Env} {s : State} {m : MethodId} {args : Array Value} {below : List Frame} {meth : Method} {c : Code} {post : Int32 → Prop} {x0 : Int32} {x1 : Int32} {ls : Array Slot}
    (zc : zC p s m args meth c cX11_lesser 2 RX11 (some .int))
    (hl : lv_has ls 2 [(0, .int x0), (1, .int x1)])
    (hw : q_m_lesser_0 x0 x1 post) :
    W p l e rm_m_lesser s m args below meth c s.heap [] 0 0 (MQ below (vp_Si post) args s 0 0 (fun _ => False)) (F0 m 0 ls []) := by
  have hx := zc.1
  have hb := zc.2.1
  refine lv_iload_n hx hb dX11_lesser_0 rfl (lv_at hl 0 rfl) ?_
  refine lv_iload_n hx hb dX11_lesser_1 rfl (lv_at hl 1 rfl) ?_
  refine lv_icmp_ge (tgt := 9) hx hb dX11_lesser_2 (by decide) (fun hc => ?_) (fun hc => ?_)
  · have hw := hw.1 hc
    refine lv_iload_n hx hb dX11_lesser_9 rfl (lv_at hl 1 rfl) ?_
    exact zret_i zc hw dX11_lesser_10
  · have hw := hw.2 hc
    refine lv_iload_n hx hb dX11_lesser_5 rfl (lv_at hl 0 rfl) ?_
    refine lv_goto (tgt := 10) hx hb dX11_lesser_6 (by decide) ?_
    exact zret_i zc hw dX11_lesser_10
set_option maxRecDepth 20000 in
theorem c_m_lesser (l : Launch) {x0 : Int32} {x1 : Int32} {post : Int32 → Prop} (hw : q_m_lesser_0 x0 x1 post) : Met l yX11_lesser (Cond.code yX11_lesser cX11_lesser 2 (some .int) :: zb) rm_m_lesser (va_Pc [.int x0, .int x1] (fun _ => True)) (vp_Si post) 0 0 (fun _ => False) := by
  refine Met.ofW (cc := cX11_lesser) (maxL := 2) (ret := (some .int)) (by decide) rfl ?_
  intro p e s m args below meth c s₁ B hml hv
  obtain ⟨rfl, -⟩ := hv
  have zc := zc_of B hml
  have hl := lv_entry ([.int x0, .int x1]) (n := 2) (Nat.le_of_ble_eq_true rfl)
  rw [lg_entry_eq]
  generalize (lg_sl ([.int x0, .int x1]) ++ List.replicate (2 - (lg_sl ([.int x0, .int x1])).length) Slot.unset).toArray = ls at hl ⊢
  have hl : lv_has ls 2 [(0, .int x0), (1, .int x1)] := hl
  exact t_m_lesser_0 zc (lv_sub hl [0, 1] rfl) hw
-- m_ones
abbrev rm_m_ones : Room := { frames := 1, cells := 0, slots := 0, locals := 21 }
def q_m_ones_24 (P4 : Int32 → Int32 → Prop) (x0 : Int32) (x2 : Int32) (y0 : Int32) (y1 : Int32) (post : Int32 → Prop) : Prop :=
  ∀ v_1 : Int32, v_1 = (y0 + y1) → (∀ v_2 : Int32, v_2 = x2 + (1 : Int32) → (P4 v_1 v_2))
def q_m_ones_4 (x0 : Int32) (x1 : Int32) (x2 : Int32) (post : Int32 → Prop) : Prop :=
  ∀ P4 : Int32 → Int32 → Prop, (∀ (x1 : Int32) (x2 : Int32), (((9 : Int32) ≤ x2 → (post x1)) ∧ (¬ (9 : Int32) ≤ x2 → (q_m_has_0 x0 x2 (fun r_1 => (r_1 = 0 → (q_m_ones_24 P4 x0 x2 x1 (0 : Int32) post)) ∧ (¬ r_1 = 0 → (q_m_ones_24 P4 x0 x2 x1 (1 : Int32) post)))))) → P4 x1 x2) → P4 x1 x2
def q_m_ones_0 (x0 : Int32) (post : Int32 → Prop) : Prop :=
  q_m_ones_4 x0 (0 : Int32) (0 : Int32) post
set_option maxRecDepth 20000 in
theorem t_m_ones_24 {p : Program} {l : Launch} {e : Env} {s : State} {m : MethodId} {args : Array Value} {below : List Frame} {meth : Method} {c : Code} {P4 : Int32 → Int32 → Prop} {post : Int32 → Prop} {x0 : Int32} {x2 : Int32} {y0 : Int32} {y1 : Int32} {ls : Array Slot}
    (zc : zC p s m args meth c cX11_ones 3 RX11 (some .int))
    (hP4 : ∀ (x1 : Int32) (x2 : Int32) (ls : Array Slot), P4 x1 x2 → lv_has ls 3 [(0, .int x0), (1, .int x1), (2, .int x2)] → W p l e rm_m_ones s m args below meth c s.heap [] 0 0 (MQ below (vp_Si post) args s 0 0 (fun _ => False)) (F0 m 4 ls []))
    (hl : lv_has ls 3 [(0, .int x0), (2, .int x2)])
    (hw : q_m_ones_24 P4 x0 x2 y0 y1 post) :
    W p l e rm_m_ones s m args below meth c s.heap [] 0 0 (MQ below (vp_Si post) args s 0 0 (fun _ => False)) (F0 m 24 ls [.int y1, .int y0]) := by
  have hx := zc.1
  have hb := zc.2.1
  refine lv_iadd hx hb dX11_ones_24 ?_
  refine lv_topi (fun v_1 ev_1 => ?_)
  have hw := hw v_1 ev_1
  refine lv_istore_n (lv' := [(1, .int v_1), (0, .int x0), (2, .int x2)]) hx hb dX11_ones_25 rfl hl (by decide) rfl (fun ls hl => ?_)
  obtain ⟨v_2, ev_2⟩ : ∃ y : Int32, y = x2 + (1 : Int32) := ⟨_, rfl⟩
  have hw := hw v_2 ev_2
  refine lv_iinc (v := v_2) (k := 2) (lv' := [(2, .int v_2), (1, .int v_1), (0, .int x0)]) hx hb dX11_ones_26 hl rfl (by rw [ev_2]; rfl) (by decide) rfl (fun ls hl => ?_)
  refine lv_goto (tgt := 4) hx hb dX11_ones_29 (by decide) ?_
  exact hP4 _ _ _ hw (lv_sub hl [2, 1, 0] rfl)
set_option maxRecDepth 20000 in
theorem t_m_ones_4 {p : Program} {l : Launch} {e : Env} {s : State} {m : MethodId} {args : Array Value} {below : List Frame} {meth : Method} {c : Code} {post : Int32 → Prop} {x0 : Int32} {x1 : Int32} {x2 : Int32} {ls : Array Slot}
    (zc : zC p s m args meth c cX11_ones 3 RX11 (some .int))
    (hl : lv_has ls 3 [(0, .int x0), (1, .int x1), (2, .int x2)])
    (hw : q_m_ones_4 x0 x1 x2 post) :
    W p l e rm_m_ones s m args below meth c s.heap [] 0 0 (MQ below (vp_Si post) args s 0 0 (fun _ => False)) (F0 m 4 ls []) := by
  have hx := zc.1
  have hb := zc.2.1
  refine hw (fun x1 x2 => ∀ (ls : Array Slot), lv_has ls 3 [(0, .int x0), (1, .int x1), (2, .int x2)] → W p l e rm_m_ones s m args below meth c s.heap [] 0 0 (MQ below (vp_Si post) args s 0 0 (fun _ => False)) (F0 m 4 ls [])) ?_ _ hl
  intro x1 x2 hw ls hl
  refine lv_iload_n hx hb dX11_ones_4 rfl (lv_at hl 2 rfl) ?_
  refine lv_bipush (v := (9 : Int32)) hx hb dX11_ones_5 (by decide) ?_
  refine lv_icmp_ge (tgt := 32) hx hb dX11_ones_7 (by decide) (fun hc => ?_) (fun hc => ?_)
  · have hw := hw.1 hc
    refine lv_iload_n hx hb dX11_ones_32 rfl (lv_at hl 1 rfl) ?_
    exact zret_i zc hw dX11_ones_33
  · have hw := hw.2 hc
    refine lv_iload_n hx hb dX11_ones_10 rfl (lv_at hl 1 rfl) ?_
    refine lv_iload_n hx hb dX11_ones_11 rfl (lv_at hl 0 rfl) ?_
    refine lv_iload_n hx hb dX11_ones_12 rfl (lv_at hl 2 rfl) ?_
    refine zS_i [.int x0, .int x2] [.int x1] zc ky_X11_has kz_X11_has km_11_101 (c_m_has l hw) (zPre0 _) rfl rfl hl.1 (Nat.le_of_ble_eq_true rfl) ⟨rfl, rfl⟩ ⟨Nat.le_of_ble_eq_true rfl, Nat.le_of_ble_eq_true rfl⟩ ⟨(Nat.zero_le _), (Nat.zero_le _)⟩ dX11_ones_13 (fun r_1 hw => ?_)
    refine lv_if_eq (tgt := 23) hx hb dX11_ones_16 (by decide) (fun hc => ?_) (fun hc => ?_)
    · have hw := hw.1 hc
      refine lv_iconst (v := (0 : Int32)) hx hb dX11_ones_23 (by decide) ?_
      exact t_m_ones_24 zc (fun _ _ ls h hl => h ls hl) (lv_sub hl [0, 2] rfl) hw
    · have hw := hw.2 hc
      refine lv_iconst (v := (1 : Int32)) hx hb dX11_ones_19 (by decide) ?_
      refine lv_goto (tgt := 24) hx hb dX11_ones_20 (by decide) ?_
      exact t_m_ones_24 zc (fun _ _ ls h hl => h ls hl) (lv_sub hl [0, 2] rfl) hw
set_option maxRecDepth 20000 in
theorem t_m_ones_0 {p : Program} {l : Launch} {e : Env} {s : State} {m : MethodId} {args : Array Value} {below : List Frame} {meth : Method} {c : Code} {post : Int32 → Prop} {x0 : Int32} {ls : Array Slot}
    (zc : zC p s m args meth c cX11_ones 3 RX11 (some .int))
    (hl : lv_has ls 3 [(0, .int x0)])
    (hw : q_m_ones_0 x0 post) :
    W p l e rm_m_ones s m args below meth c s.heap [] 0 0 (MQ below (vp_Si post) args s 0 0 (fun _ => False)) (F0 m 0 ls []) := by
  have hx := zc.1
  have hb := zc.2.1
  refine lv_iconst (v := (0 : Int32)) hx hb dX11_ones_0 (by decide) ?_
  refine lv_istore_n (lv' := [(1, .int (0 : Int32)), (0, .int x0)]) hx hb dX11_ones_1 rfl hl (by decide) rfl (fun ls hl => ?_)
  refine lv_iconst (v := (0 : Int32)) hx hb dX11_ones_2 (by decide) ?_
  refine lv_istore_n (lv' := [(2, .int (0 : Int32)), (1, .int (0 : Int32)), (0, .int x0)]) hx hb dX11_ones_3 rfl hl (by decide) rfl (fun ls hl => ?_)
  exact t_m_ones_4 zc  (lv_sub hl [2, 1, 0] rfl) hw
set_option maxRecDepth 20000 in
theorem c_m_ones (l : Launch) {x0 : Int32} {post : Int32 → Prop} (hw : q_m_ones_0 x0 post) : Met l yX11_ones (Cond.code yX11_ones cX11_ones 3 (some .int) :: zb) rm_m_ones (va_Pc [.int x0] (fun _ => True)) (vp_Si post) 0 0 (fun _ => False) := by
  refine Met.ofW (cc := cX11_ones) (maxL := 3) (ret := (some .int)) (by decide) rfl ?_
  intro p e s m args below meth c s₁ B hml hv
  obtain ⟨rfl, -⟩ := hv
  have zc := zc_of B hml
  have hl := lv_entry ([.int x0]) (n := 3) (Nat.le_of_ble_eq_true rfl)
  rw [lg_entry_eq]
  generalize (lg_sl ([.int x0]) ++ List.replicate (3 - (lg_sl ([.int x0])).length) Slot.unset).toArray = ls at hl ⊢
  have hl : lv_has ls 3 [(0, .int x0)] := hl
  exact t_m_ones_0 zc (lv_sub hl [0] rfl) hw
-- m_copyRow_2
abbrev rm_m_copyRow_2 : Room := { frames := 0, cells := 0, slots := 0, locals := 0 }
def q_m_copyRow_2_3 (a_size : Nat → Int32) (x1 : Int32) (x2 : Int32) (x3 : Int32) (x4 : Int32) (post : (Nat → Int32) → Prop) : Prop :=
  ∀ P3 : Int32 → (Nat → Int32) → Prop, (∀ (x4 : Int32) (a_size : Nat → Int32), ((x1 ≤ x4 → (post a_size)) ∧ (¬ x1 ≤ x4 → (vp_in ((x1 * x2) + x4) 4 ∧ (∀ v_1 : Int32, v_1 = (a_size (Int32.toNatClampNeg ((x1 * x2) + x4))) → (vp_in ((x1 * x3) + x4) 4 ∧ (∀ a_size_1 : Nat → Int32, a_size_1 = upd a_size (Int32.toNatClampNeg ((x1 * x3) + x4)) v_1 → (∀ v_2 : Int32, v_2 = x4 + (1 : Int32) → (P3 v_2 a_size_1)))))))) → P3 x4 a_size) → P3 x4 a_size
def q_m_copyRow_2_0 (a_size : Nat → Int32) (x1 : Int32) (x2 : Int32) (x3 : Int32) (post : (Nat → Int32) → Prop) : Prop :=
  q_m_copyRow_2_3 a_size x1 x2 x3 (0 : Int32) post
set_option maxRecDepth 20000 in
theorem t_m_copyRow_2_3 {p : Program} {l : Launch} {e : Env} {s : State} {m : MethodId} {args : Array Value} {below : List Frame} {meth : Method} {c : Code} {E : zE} {q : Nat} {f_code : Int32} {a_tape : Nat → Int32} {a_size : Nat → Int32} {a_fault : Nat → Int32} {a_faultPlace : Nat → Int32} {a_many : Nat → Int32} {a_lands : Nat → Int32} {a_evenings : Nat → Int32} {a_sights : Nat → Int32} {a_choirs : Nat → Int32} {f_reached : Int32} {f_length : Int32} {f_begins : Int32} {f_sort : Int32} {f_value : Int32} {f_word : Int64} {f_wrongAt : Int32} {f_laterFault : Int32} {f_laterPlace : Int32} {a_told : Nat → Int32} {a_read : Nat → Int32} {f_farHut : Int32} {f_farSinger : Int32} {f_good : Int32} {f_land : Int32} {f_huts : Int32} {f_singers : Int32} {f_evening : Int32} {a_at : Nat → Int32} {a_knows : Nat → Int32} {a_climbed : Nat → Int32} {a_snow : Nat → Int32} {a_level : Nat → Int32} {f_begun : Int32} {f_minute : Int32} {f_avalanches : Int32} {a_run : Nat → Int32} {a_covers : Nat → Int32} {a_routes : Nat → Int32} {a_longest : Nat → Int32} {a_steep : Nat → Int32} {a_laid : Nat → Int32} {a_far : Nat → Int32} {f_sight : Int32} {a_runs : Nat → Int32} {f_choir : Int32} {f_voices : Int32} {a_rest : Nat → Int64} {a_wins : Nat → Int32} {f_seed : Int32} {a_other : Nat → Int32} {a_kept : Nat → Int32} {post : (Nat → Int32) → Prop} {x1 : Int32} {x2 : Int32} {x3 : Int32} {x4 : Int32} {ls : Array Slot} {H : Heap} {locs : List Loc}
    (zc : zC p s m args meth c cX11_copyRow 5 RX11 none)
    (hK : zK E s)
    (hM : mW E q f_code a_tape a_size a_fault a_faultPlace a_many a_lands a_evenings a_sights a_choirs f_reached f_length f_begins f_sort f_value f_word f_wrongAt f_laterFault f_laterPlace a_told a_read f_farHut f_farSinger f_good f_land f_huts f_singers f_evening a_at a_knows a_climbed a_snow a_level f_begun f_minute f_avalanches a_run a_covers a_routes a_longest a_steep a_laid a_far f_sight a_runs f_choir f_voices a_rest a_wins f_seed a_other a_kept H)
    (hS : va_S (mA q) s.heap H locs)
    (hl : lv_has ls 5 [(0, .ref (q + 2)), (1, .int x1), (2, .int x2), (3, .int x3), (4, .int x4)])
    (hw : q_m_copyRow_2_3 a_size x1 x2 x3 x4 post) :
    W p l e rm_m_copyRow_2 s m args below meth c H locs 0 0 (MQ below (zQv (S := (Nat → Int32)) (fun u => post u) (fun u H => mW E q f_code a_tape u a_fault a_faultPlace a_many a_lands a_evenings a_sights a_choirs f_reached f_length f_begins f_sort f_value f_word f_wrongAt f_laterFault f_laterPlace a_told a_read f_farHut f_farSinger f_good f_land f_huts f_singers f_evening a_at a_knows a_climbed a_snow a_level f_begun f_minute f_avalanches a_run a_covers a_routes a_longest a_steep a_laid a_far f_sight a_runs f_choir f_voices a_rest a_wins f_seed a_other a_kept H) (mA q)) args s 0 0 (mA q)) (F0 m 3 ls []) := by
  have hx := zc.1
  have hb := zc.2.1
  refine hw (fun x4 a_size => ∀ (H : Heap) (locs : List Loc) (ls : Array Slot), lv_has ls 5 [(0, .ref (q + 2)), (1, .int x1), (2, .int x2), (3, .int x3), (4, .int x4)] → mW E q f_code a_tape a_size a_fault a_faultPlace a_many a_lands a_evenings a_sights a_choirs f_reached f_length f_begins f_sort f_value f_word f_wrongAt f_laterFault f_laterPlace a_told a_read f_farHut f_farSinger f_good f_land f_huts f_singers f_evening a_at a_knows a_climbed a_snow a_level f_begun f_minute f_avalanches a_run a_covers a_routes a_longest a_steep a_laid a_far f_sight a_runs f_choir f_voices a_rest a_wins f_seed a_other a_kept H → va_S (mA q) s.heap H locs → W p l e rm_m_copyRow_2 s m args below meth c H locs 0 0 (MQ below (zQv (S := (Nat → Int32)) (fun u => post u) (fun u H => mW E q f_code a_tape u a_fault a_faultPlace a_many a_lands a_evenings a_sights a_choirs f_reached f_length f_begins f_sort f_value f_word f_wrongAt f_laterFault f_laterPlace a_told a_read f_farHut f_farSinger f_good f_land f_huts f_singers f_evening a_at a_knows a_climbed a_snow a_level f_begun f_minute f_avalanches a_run a_covers a_routes a_longest a_steep a_laid a_far f_sight a_runs f_choir f_voices a_rest a_wins f_seed a_other a_kept H) (mA q)) args s 0 0 (mA q)) (F0 m 3 ls [])) ?_ _ _ _ hl hM hS
  intro x4 a_size hw H locs ls hl hM hS
  refine lv_iload hx hb dX11_copyRow_3 (lv_at hl 4 rfl) ?_
  refine lv_iload_n hx hb dX11_copyRow_5 rfl (lv_at hl 1 rfl) ?_
  refine lv_icmp_ge (tgt := 31) hx hb dX11_copyRow_6 (by decide) (fun hc => ?_) (fun hc => ?_)
  · have hw := hw.1 hc
    exact zret_vw a_size zc hS hw hM dX11_copyRow_31
  · have hw := hw.2 hc
    refine lv_aload_n hx hb dX11_copyRow_9 rfl (lv_at hl 0 rfl) ?_
    refine lv_iload_n hx hb dX11_copyRow_10 rfl (lv_at hl 1 rfl) ?_
    refine lv_iload_n hx hb dX11_copyRow_11 rfl (lv_at hl 3 rfl) ?_
    refine lv_imul hx hb dX11_copyRow_12 ?_
    refine lv_iload hx hb dX11_copyRow_13 (lv_at hl 4 rfl) ?_
    refine lv_iadd hx hb dX11_copyRow_15 ?_
    refine lv_aload_n hx hb dX11_copyRow_16 rfl (lv_at hl 0 rfl) ?_
    refine lv_iload_n hx hb dX11_copyRow_17 rfl (lv_at hl 1 rfl) ?_
    refine lv_iload_n hx hb dX11_copyRow_18 rfl (lv_at hl 2 rfl) ?_
    refine lv_imul hx hb dX11_copyRow_19 ?_
    refine lv_iload hx hb dX11_copyRow_20 (lv_at hl 4 rfl) ?_
    refine lv_iadd hx hb dX11_copyRow_22 ?_
    refine mld_2 zc hK hM hw.1 dX11_copyRow_23 ?_
    have hw := hw.2
    refine lv_topi (fun v_1 ev_1 => ?_)
    have hw := hw v_1 ev_1
    refine mst_2 zc hK hM hS hw.1 dX11_copyRow_24 (fun a_size_1 H locs ea_size_1 hM hS => ?_)
    have hw := hw.2 a_size_1 ea_size_1
    obtain ⟨v_2, ev_2⟩ : ∃ y : Int32, y = x4 + (1 : Int32) := ⟨_, rfl⟩
    have hw := hw v_2 ev_2
    refine lv_iinc (v := v_2) (k := 4) (lv' := [(4, .int v_2), (0, .ref (q + 2)), (1, .int x1), (2, .int x2), (3, .int x3)]) hx hb dX11_copyRow_25 hl rfl (by rw [ev_2]; rfl) (by decide) rfl (fun ls hl => ?_)
    refine lv_goto (tgt := 3) hx hb dX11_copyRow_28 (by decide) ?_
    exact hw _ _ _ (lv_sub hl [1, 2, 3, 4, 0] rfl) hM hS
set_option maxRecDepth 20000 in
theorem t_m_copyRow_2_0 {p : Program} {l : Launch} {e : Env} {s : State} {m : MethodId} {args : Array Value} {below : List Frame} {meth : Method} {c : Code} {E : zE} {q : Nat} {f_code : Int32} {a_tape : Nat → Int32} {a_size : Nat → Int32} {a_fault : Nat → Int32} {a_faultPlace : Nat → Int32} {a_many : Nat → Int32} {a_lands : Nat → Int32} {a_evenings : Nat → Int32} {a_sights : Nat → Int32} {a_choirs : Nat → Int32} {f_reached : Int32} {f_length : Int32} {f_begins : Int32} {f_sort : Int32} {f_value : Int32} {f_word : Int64} {f_wrongAt : Int32} {f_laterFault : Int32} {f_laterPlace : Int32} {a_told : Nat → Int32} {a_read : Nat → Int32} {f_farHut : Int32} {f_farSinger : Int32} {f_good : Int32} {f_land : Int32} {f_huts : Int32} {f_singers : Int32} {f_evening : Int32} {a_at : Nat → Int32} {a_knows : Nat → Int32} {a_climbed : Nat → Int32} {a_snow : Nat → Int32} {a_level : Nat → Int32} {f_begun : Int32} {f_minute : Int32} {f_avalanches : Int32} {a_run : Nat → Int32} {a_covers : Nat → Int32} {a_routes : Nat → Int32} {a_longest : Nat → Int32} {a_steep : Nat → Int32} {a_laid : Nat → Int32} {a_far : Nat → Int32} {f_sight : Int32} {a_runs : Nat → Int32} {f_choir : Int32} {f_voices : Int32} {a_rest : Nat → Int64} {a_wins : Nat → Int32} {f_seed : Int32} {a_other : Nat → Int32} {a_kept : Nat → Int32} {post : (Nat → Int32) → Prop} {x1 : Int32} {x2 : Int32} {x3 : Int32} {ls : Array Slot} {H : Heap} {locs : List Loc}
    (zc : zC p s m args meth c cX11_copyRow 5 RX11 none)
    (hK : zK E s)
    (hM : mW E q f_code a_tape a_size a_fault a_faultPlace a_many a_lands a_evenings a_sights a_choirs f_reached f_length f_begins f_sort f_value f_word f_wrongAt f_laterFault f_laterPlace a_told a_read f_farHut f_farSinger f_good f_land f_huts f_singers f_evening a_at a_knows a_climbed a_snow a_level f_begun f_minute f_avalanches a_run a_covers a_routes a_longest a_steep a_laid a_far f_sight a_runs f_choir f_voices a_rest a_wins f_seed a_other a_kept H)
    (hS : va_S (mA q) s.heap H locs)
    (hl : lv_has ls 5 [(0, .ref (q + 2)), (1, .int x1), (2, .int x2), (3, .int x3)])
    (hw : q_m_copyRow_2_0 a_size x1 x2 x3 post) :
    W p l e rm_m_copyRow_2 s m args below meth c H locs 0 0 (MQ below (zQv (S := (Nat → Int32)) (fun u => post u) (fun u H => mW E q f_code a_tape u a_fault a_faultPlace a_many a_lands a_evenings a_sights a_choirs f_reached f_length f_begins f_sort f_value f_word f_wrongAt f_laterFault f_laterPlace a_told a_read f_farHut f_farSinger f_good f_land f_huts f_singers f_evening a_at a_knows a_climbed a_snow a_level f_begun f_minute f_avalanches a_run a_covers a_routes a_longest a_steep a_laid a_far f_sight a_runs f_choir f_voices a_rest a_wins f_seed a_other a_kept H) (mA q)) args s 0 0 (mA q)) (F0 m 0 ls []) := by
  have hx := zc.1
  have hb := zc.2.1
  refine lv_iconst (v := (0 : Int32)) hx hb dX11_copyRow_0 (by decide) ?_
  refine lv_istore (lv' := [(4, .int (0 : Int32)), (0, .ref (q + 2)), (1, .int x1), (2, .int x2), (3, .int x3)]) hx hb dX11_copyRow_1 hl (by decide) rfl (fun ls hl => ?_)
  exact t_m_copyRow_2_3 zc hK hM hS  (lv_sub hl [1, 2, 3, 4, 0] rfl) hw
set_option maxRecDepth 20000 in
theorem c_m_copyRow_2 (l : Launch) {E : zE} {q : Nat} {f_code : Int32} {a_tape : Nat → Int32} {a_size : Nat → Int32} {a_fault : Nat → Int32} {a_faultPlace : Nat → Int32} {a_many : Nat → Int32} {a_lands : Nat → Int32} {a_evenings : Nat → Int32} {a_sights : Nat → Int32} {a_choirs : Nat → Int32} {f_reached : Int32} {f_length : Int32} {f_begins : Int32} {f_sort : Int32} {f_value : Int32} {f_word : Int64} {f_wrongAt : Int32} {f_laterFault : Int32} {f_laterPlace : Int32} {a_told : Nat → Int32} {a_read : Nat → Int32} {f_farHut : Int32} {f_farSinger : Int32} {f_good : Int32} {f_land : Int32} {f_huts : Int32} {f_singers : Int32} {f_evening : Int32} {a_at : Nat → Int32} {a_knows : Nat → Int32} {a_climbed : Nat → Int32} {a_snow : Nat → Int32} {a_level : Nat → Int32} {f_begun : Int32} {f_minute : Int32} {f_avalanches : Int32} {a_run : Nat → Int32} {a_covers : Nat → Int32} {a_routes : Nat → Int32} {a_longest : Nat → Int32} {a_steep : Nat → Int32} {a_laid : Nat → Int32} {a_far : Nat → Int32} {f_sight : Int32} {a_runs : Nat → Int32} {f_choir : Int32} {f_voices : Int32} {a_rest : Nat → Int64} {a_wins : Nat → Int32} {f_seed : Int32} {a_other : Nat → Int32} {a_kept : Nat → Int32} {x1 : Int32} {x2 : Int32} {x3 : Int32} {post : (Nat → Int32) → Prop} (hw : q_m_copyRow_2_0 a_size x1 x2 x3 post) : Met l yX11_copyRow (Cond.code yX11_copyRow cX11_copyRow 5 none :: zb) rm_m_copyRow_2 (va_Pc [.ref (q + 2), .int x1, .int x2, .int x3] (fun U => mW E q f_code a_tape a_size a_fault a_faultPlace a_many a_lands a_evenings a_sights a_choirs f_reached f_length f_begins f_sort f_value f_word f_wrongAt f_laterFault f_laterPlace a_told a_read f_farHut f_farSinger f_good f_land f_huts f_singers f_evening a_at a_knows a_climbed a_snow a_level f_begun f_minute f_avalanches a_run a_covers a_routes a_longest a_steep a_laid a_far f_sight a_runs f_choir f_voices a_rest a_wins f_seed a_other a_kept U.heap ∧ zK E U)) (zQv (S := (Nat → Int32)) (fun u => post u) (fun u H => mW E q f_code a_tape u a_fault a_faultPlace a_many a_lands a_evenings a_sights a_choirs f_reached f_length f_begins f_sort f_value f_word f_wrongAt f_laterFault f_laterPlace a_told a_read f_farHut f_farSinger f_good f_land f_huts f_singers f_evening a_at a_knows a_climbed a_snow a_level f_begun f_minute f_avalanches a_run a_covers a_routes a_longest a_steep a_laid a_far f_sight a_runs f_choir f_voices a_rest a_wins f_seed a_other a_kept H) (mA q)) 0 0 (mA q) := by
  refine Met.ofW (cc := cX11_copyRow) (maxL := 5) (ret := none) (by decide) rfl ?_
  intro p e s m args below meth c s₁ B hml hv
  obtain ⟨rfl, hM, hK⟩ := hv
  have zc := zc_of B hml
  have hl := lv_entry ([.ref (q + 2), .int x1, .int x2, .int x3]) (n := 5) (Nat.le_of_ble_eq_true rfl)
  rw [lg_entry_eq]
  generalize (lg_sl ([.ref (q + 2), .int x1, .int x2, .int x3]) ++ List.replicate (5 - (lg_sl ([.ref (q + 2), .int x1, .int x2, .int x3])).length) Slot.unset).toArray = ls at hl ⊢
  have hl : lv_has ls 5 [(0, .ref (q + 2)), (1, .int x1), (2, .int x2), (3, .int x3)] := hl
  exact t_m_copyRow_2_0 zc hK hM va_S.rf (lv_sub hl [0, 1, 2, 3] rfl) hw
-- m_copyRow_3
abbrev rm_m_copyRow_3 : Room := { frames := 0, cells := 0, slots := 0, locals := 0 }
def q_m_copyRow_3_3 (a_fault : Nat → Int32) (x1 : Int32) (x2 : Int32) (x3 : Int32) (x4 : Int32) (post : (Nat → Int32) → Prop) : Prop :=
  ∀ P3 : Int32 → (Nat → Int32) → Prop, (∀ (x4 : Int32) (a_fault : Nat → Int32), ((x1 ≤ x4 → (post a_fault)) ∧ (¬ x1 ≤ x4 → (vp_in ((x1 * x2) + x4) 4 ∧ (∀ v_1 : Int32, v_1 = (a_fault (Int32.toNatClampNeg ((x1 * x2) + x4))) → (vp_in ((x1 * x3) + x4) 4 ∧ (∀ a_fault_1 : Nat → Int32, a_fault_1 = upd a_fault (Int32.toNatClampNeg ((x1 * x3) + x4)) v_1 → (∀ v_2 : Int32, v_2 = x4 + (1 : Int32) → (P3 v_2 a_fault_1)))))))) → P3 x4 a_fault) → P3 x4 a_fault
def q_m_copyRow_3_0 (a_fault : Nat → Int32) (x1 : Int32) (x2 : Int32) (x3 : Int32) (post : (Nat → Int32) → Prop) : Prop :=
  q_m_copyRow_3_3 a_fault x1 x2 x3 (0 : Int32) post
set_option maxRecDepth 20000 in
theorem t_m_copyRow_3_3 {p : Program} {l : Launch} {e : Env} {s : State} {m : MethodId} {args : Array Value} {below : List Frame} {meth : Method} {c : Code} {E : zE} {q : Nat} {f_code : Int32} {a_tape : Nat → Int32} {a_size : Nat → Int32} {a_fault : Nat → Int32} {a_faultPlace : Nat → Int32} {a_many : Nat → Int32} {a_lands : Nat → Int32} {a_evenings : Nat → Int32} {a_sights : Nat → Int32} {a_choirs : Nat → Int32} {f_reached : Int32} {f_length : Int32} {f_begins : Int32} {f_sort : Int32} {f_value : Int32} {f_word : Int64} {f_wrongAt : Int32} {f_laterFault : Int32} {f_laterPlace : Int32} {a_told : Nat → Int32} {a_read : Nat → Int32} {f_farHut : Int32} {f_farSinger : Int32} {f_good : Int32} {f_land : Int32} {f_huts : Int32} {f_singers : Int32} {f_evening : Int32} {a_at : Nat → Int32} {a_knows : Nat → Int32} {a_climbed : Nat → Int32} {a_snow : Nat → Int32} {a_level : Nat → Int32} {f_begun : Int32} {f_minute : Int32} {f_avalanches : Int32} {a_run : Nat → Int32} {a_covers : Nat → Int32} {a_routes : Nat → Int32} {a_longest : Nat → Int32} {a_steep : Nat → Int32} {a_laid : Nat → Int32} {a_far : Nat → Int32} {f_sight : Int32} {a_runs : Nat → Int32} {f_choir : Int32} {f_voices : Int32} {a_rest : Nat → Int64} {a_wins : Nat → Int32} {f_seed : Int32} {a_other : Nat → Int32} {a_kept : Nat → Int32} {post : (Nat → Int32) → Prop} {x1 : Int32} {x2 : Int32} {x3 : Int32} {x4 : Int32} {ls : Array Slot} {H : Heap} {locs : List Loc}
    (zc : zC p s m args meth c cX11_copyRow 5 RX11 none)
    (hK : zK E s)
    (hM : mW E q f_code a_tape a_size a_fault a_faultPlace a_many a_lands a_evenings a_sights a_choirs f_reached f_length f_begins f_sort f_value f_word f_wrongAt f_laterFault f_laterPlace a_told a_read f_farHut f_farSinger f_good f_land f_huts f_singers f_evening a_at a_knows a_climbed a_snow a_level f_begun f_minute f_avalanches a_run a_covers a_routes a_longest a_steep a_laid a_far f_sight a_runs f_choir f_voices a_rest a_wins f_seed a_other a_kept H)
    (hS : va_S (mA q) s.heap H locs)
    (hl : lv_has ls 5 [(0, .ref (q + 3)), (1, .int x1), (2, .int x2), (3, .int x3), (4, .int x4)])
    (hw : q_m_copyRow_3_3 a_fault x1 x2 x3 x4 post) :
    W p l e rm_m_copyRow_3 s m args below meth c H locs 0 0 (MQ below (zQv (S := (Nat → Int32)) (fun u => post u) (fun u H => mW E q f_code a_tape a_size u a_faultPlace a_many a_lands a_evenings a_sights a_choirs f_reached f_length f_begins f_sort f_value f_word f_wrongAt f_laterFault f_laterPlace a_told a_read f_farHut f_farSinger f_good f_land f_huts f_singers f_evening a_at a_knows a_climbed a_snow a_level f_begun f_minute f_avalanches a_run a_covers a_routes a_longest a_steep a_laid a_far f_sight a_runs f_choir f_voices a_rest a_wins f_seed a_other a_kept H) (mA q)) args s 0 0 (mA q)) (F0 m 3 ls []) := by
  have hx := zc.1
  have hb := zc.2.1
  refine hw (fun x4 a_fault => ∀ (H : Heap) (locs : List Loc) (ls : Array Slot), lv_has ls 5 [(0, .ref (q + 3)), (1, .int x1), (2, .int x2), (3, .int x3), (4, .int x4)] → mW E q f_code a_tape a_size a_fault a_faultPlace a_many a_lands a_evenings a_sights a_choirs f_reached f_length f_begins f_sort f_value f_word f_wrongAt f_laterFault f_laterPlace a_told a_read f_farHut f_farSinger f_good f_land f_huts f_singers f_evening a_at a_knows a_climbed a_snow a_level f_begun f_minute f_avalanches a_run a_covers a_routes a_longest a_steep a_laid a_far f_sight a_runs f_choir f_voices a_rest a_wins f_seed a_other a_kept H → va_S (mA q) s.heap H locs → W p l e rm_m_copyRow_3 s m args below meth c H locs 0 0 (MQ below (zQv (S := (Nat → Int32)) (fun u => post u) (fun u H => mW E q f_code a_tape a_size u a_faultPlace a_many a_lands a_evenings a_sights a_choirs f_reached f_length f_begins f_sort f_value f_word f_wrongAt f_laterFault f_laterPlace a_told a_read f_farHut f_farSinger f_good f_land f_huts f_singers f_evening a_at a_knows a_climbed a_snow a_level f_begun f_minute f_avalanches a_run a_covers a_routes a_longest a_steep a_laid a_far f_sight a_runs f_choir f_voices a_rest a_wins f_seed a_other a_kept H) (mA q)) args s 0 0 (mA q)) (F0 m 3 ls [])) ?_ _ _ _ hl hM hS
  intro x4 a_fault hw H locs ls hl hM hS
  refine lv_iload hx hb dX11_copyRow_3 (lv_at hl 4 rfl) ?_
  refine lv_iload_n hx hb dX11_copyRow_5 rfl (lv_at hl 1 rfl) ?_
  refine lv_icmp_ge (tgt := 31) hx hb dX11_copyRow_6 (by decide) (fun hc => ?_) (fun hc => ?_)
  · have hw := hw.1 hc
    exact zret_vw a_fault zc hS hw hM dX11_copyRow_31
  · have hw := hw.2 hc
    refine lv_aload_n hx hb dX11_copyRow_9 rfl (lv_at hl 0 rfl) ?_
    refine lv_iload_n hx hb dX11_copyRow_10 rfl (lv_at hl 1 rfl) ?_
    refine lv_iload_n hx hb dX11_copyRow_11 rfl (lv_at hl 3 rfl) ?_
    refine lv_imul hx hb dX11_copyRow_12 ?_
    refine lv_iload hx hb dX11_copyRow_13 (lv_at hl 4 rfl) ?_
    refine lv_iadd hx hb dX11_copyRow_15 ?_
    refine lv_aload_n hx hb dX11_copyRow_16 rfl (lv_at hl 0 rfl) ?_
    refine lv_iload_n hx hb dX11_copyRow_17 rfl (lv_at hl 1 rfl) ?_
    refine lv_iload_n hx hb dX11_copyRow_18 rfl (lv_at hl 2 rfl) ?_
    refine lv_imul hx hb dX11_copyRow_19 ?_
    refine lv_iload hx hb dX11_copyRow_20 (lv_at hl 4 rfl) ?_
    refine lv_iadd hx hb dX11_copyRow_22 ?_
    refine mld_3 zc hK hM hw.1 dX11_copyRow_23 ?_
    have hw := hw.2
    refine lv_topi (fun v_1 ev_1 => ?_)
    have hw := hw v_1 ev_1
    refine mst_3 zc hK hM hS hw.1 dX11_copyRow_24 (fun a_fault_1 H locs ea_fault_1 hM hS => ?_)
    have hw := hw.2 a_fault_1 ea_fault_1
    obtain ⟨v_2, ev_2⟩ : ∃ y : Int32, y = x4 + (1 : Int32) := ⟨_, rfl⟩
    have hw := hw v_2 ev_2
    refine lv_iinc (v := v_2) (k := 4) (lv' := [(4, .int v_2), (0, .ref (q + 3)), (1, .int x1), (2, .int x2), (3, .int x3)]) hx hb dX11_copyRow_25 hl rfl (by rw [ev_2]; rfl) (by decide) rfl (fun ls hl => ?_)
    refine lv_goto (tgt := 3) hx hb dX11_copyRow_28 (by decide) ?_
    exact hw _ _ _ (lv_sub hl [1, 2, 3, 4, 0] rfl) hM hS
set_option maxRecDepth 20000 in
theorem t_m_copyRow_3_0 {p : Program} {l : Launch} {e : Env} {s : State} {m : MethodId} {args : Array Value} {below : List Frame} {meth : Method} {c : Code} {E : zE} {q : Nat} {f_code : Int32} {a_tape : Nat → Int32} {a_size : Nat → Int32} {a_fault : Nat → Int32} {a_faultPlace : Nat → Int32} {a_many : Nat → Int32} {a_lands : Nat → Int32} {a_evenings : Nat → Int32} {a_sights : Nat → Int32} {a_choirs : Nat → Int32} {f_reached : Int32} {f_length : Int32} {f_begins : Int32} {f_sort : Int32} {f_value : Int32} {f_word : Int64} {f_wrongAt : Int32} {f_laterFault : Int32} {f_laterPlace : Int32} {a_told : Nat → Int32} {a_read : Nat → Int32} {f_farHut : Int32} {f_farSinger : Int32} {f_good : Int32} {f_land : Int32} {f_huts : Int32} {f_singers : Int32} {f_evening : Int32} {a_at : Nat → Int32} {a_knows : Nat → Int32} {a_climbed : Nat → Int32} {a_snow : Nat → Int32} {a_level : Nat → Int32} {f_begun : Int32} {f_minute : Int32} {f_avalanches : Int32} {a_run : Nat → Int32} {a_covers : Nat → Int32} {a_routes : Nat → Int32} {a_longest : Nat → Int32} {a_steep : Nat → Int32} {a_laid : Nat → Int32} {a_far : Nat → Int32} {f_sight : Int32} {a_runs : Nat → Int32} {f_choir : Int32} {f_voices : Int32} {a_rest : Nat → Int64} {a_wins : Nat → Int32} {f_seed : Int32} {a_other : Nat → Int32} {a_kept : Nat → Int32} {post : (Nat → Int32) → Prop} {x1 : Int32} {x2 : Int32} {x3 : Int32} {ls : Array Slot} {H : Heap} {locs : List Loc}
    (zc : zC p s m args meth c cX11_copyRow 5 RX11 none)
    (hK : zK E s)
    (hM : mW E q f_code a_tape a_size a_fault a_faultPlace a_many a_lands a_evenings a_sights a_choirs f_reached f_length f_begins f_sort f_value f_word f_wrongAt f_laterFault f_laterPlace a_told a_read f_farHut f_farSinger f_good f_land f_huts f_singers f_evening a_at a_knows a_climbed a_snow a_level f_begun f_minute f_avalanches a_run a_covers a_routes a_longest a_steep a_laid a_far f_sight a_runs f_choir f_voices a_rest a_wins f_seed a_other a_kept H)
    (hS : va_S (mA q) s.heap H locs)
    (hl : lv_has ls 5 [(0, .ref (q + 3)), (1, .int x1), (2, .int x2), (3, .int x3)])
    (hw : q_m_copyRow_3_0 a_fault x1 x2 x3 post) :
    W p l e rm_m_copyRow_3 s m args below meth c H locs 0 0 (MQ below (zQv (S := (Nat → Int32)) (fun u => post u) (fun u H => mW E q f_code a_tape a_size u a_faultPlace a_many a_lands a_evenings a_sights a_choirs f_reached f_length f_begins f_sort f_value f_word f_wrongAt f_laterFault f_laterPlace a_told a_read f_farHut f_farSinger f_good f_land f_huts f_singers f_evening a_at a_knows a_climbed a_snow a_level f_begun f_minute f_avalanches a_run a_covers a_routes a_longest a_steep a_laid a_far f_sight a_runs f_choir f_voices a_rest a_wins f_seed a_other a_kept H) (mA q)) args s 0 0 (mA q)) (F0 m 0 ls []) := by
  have hx := zc.1
  have hb := zc.2.1
  refine lv_iconst (v := (0 : Int32)) hx hb dX11_copyRow_0 (by decide) ?_
  refine lv_istore (lv' := [(4, .int (0 : Int32)), (0, .ref (q + 3)), (1, .int x1), (2, .int x2), (3, .int x3)]) hx hb dX11_copyRow_1 hl (by decide) rfl (fun ls hl => ?_)
  exact t_m_copyRow_3_3 zc hK hM hS  (lv_sub hl [1, 2, 3, 4, 0] rfl) hw
set_option maxRecDepth 20000 in
theorem c_m_copyRow_3 (l : Launch) {E : zE} {q : Nat} {f_code : Int32} {a_tape : Nat → Int32} {a_size : Nat → Int32} {a_fault : Nat → Int32} {a_faultPlace : Nat → Int32} {a_many : Nat → Int32} {a_lands : Nat → Int32} {a_evenings : Nat → Int32} {a_sights : Nat → Int32} {a_choirs : Nat → Int32} {f_reached : Int32} {f_length : Int32} {f_begins : Int32} {f_sort : Int32} {f_value : Int32} {f_word : Int64} {f_wrongAt : Int32} {f_laterFault : Int32} {f_laterPlace : Int32} {a_told : Nat → Int32} {a_read : Nat → Int32} {f_farHut : Int32} {f_farSinger : Int32} {f_good : Int32} {f_land : Int32} {f_huts : Int32} {f_singers : Int32} {f_evening : Int32} {a_at : Nat → Int32} {a_knows : Nat → Int32} {a_climbed : Nat → Int32} {a_snow : Nat → Int32} {a_level : Nat → Int32} {f_begun : Int32} {f_minute : Int32} {f_avalanches : Int32} {a_run : Nat → Int32} {a_covers : Nat → Int32} {a_routes : Nat → Int32} {a_longest : Nat → Int32} {a_steep : Nat → Int32} {a_laid : Nat → Int32} {a_far : Nat → Int32} {f_sight : Int32} {a_runs : Nat → Int32} {f_choir : Int32} {f_voices : Int32} {a_rest : Nat → Int64} {a_wins : Nat → Int32} {f_seed : Int32} {a_other : Nat → Int32} {a_kept : Nat → Int32} {x1 : Int32} {x2 : Int32} {x3 : Int32} {post : (Nat → Int32) → Prop} (hw : q_m_copyRow_3_0 a_fault x1 x2 x3 post) : Met l yX11_copyRow (Cond.code yX11_copyRow cX11_copyRow 5 none :: zb) rm_m_copyRow_3 (va_Pc [.ref (q + 3), .int x1, .int x2, .int x3] (fun U => mW E q f_code a_tape a_size a_fault a_faultPlace a_many a_lands a_evenings a_sights a_choirs f_reached f_length f_begins f_sort f_value f_word f_wrongAt f_laterFault f_laterPlace a_told a_read f_farHut f_farSinger f_good f_land f_huts f_singers f_evening a_at a_knows a_climbed a_snow a_level f_begun f_minute f_avalanches a_run a_covers a_routes a_longest a_steep a_laid a_far f_sight a_runs f_choir f_voices a_rest a_wins f_seed a_other a_kept U.heap ∧ zK E U)) (zQv (S := (Nat → Int32)) (fun u => post u) (fun u H => mW E q f_code a_tape a_size u a_faultPlace a_many a_lands a_evenings a_sights a_choirs f_reached f_length f_begins f_sort f_value f_word f_wrongAt f_laterFault f_laterPlace a_told a_read f_farHut f_farSinger f_good f_land f_huts f_singers f_evening a_at a_knows a_climbed a_snow a_level f_begun f_minute f_avalanches a_run a_covers a_routes a_longest a_steep a_laid a_far f_sight a_runs f_choir f_voices a_rest a_wins f_seed a_other a_kept H) (mA q)) 0 0 (mA q) := by
  refine Met.ofW (cc := cX11_copyRow) (maxL := 5) (ret := none) (by decide) rfl ?_
  intro p e s m args below meth c s₁ B hml hv
  obtain ⟨rfl, hM, hK⟩ := hv
  have zc := zc_of B hml
  have hl := lv_entry ([.ref (q + 3), .int x1, .int x2, .int x3]) (n := 5) (Nat.le_of_ble_eq_true rfl)
  rw [lg_entry_eq]
  generalize (lg_sl ([.ref (q + 3), .int x1, .int x2, .int x3]) ++ List.replicate (5 - (lg_sl ([.ref (q + 3), .int x1, .int x2, .int x3])).length) Slot.unset).toArray = ls at hl ⊢
  have hl : lv_has ls 5 [(0, .ref (q + 3)), (1, .int x1), (2, .int x2), (3, .int x3)] := hl
  exact t_m_copyRow_3_0 zc hK hM va_S.rf (lv_sub hl [0, 1, 2, 3] rfl) hw
-- m_copyRow_4
abbrev rm_m_copyRow_4 : Room := { frames := 0, cells := 0, slots := 0, locals := 0 }
def q_m_copyRow_4_3 (a_faultPlace : Nat → Int32) (x1 : Int32) (x2 : Int32) (x3 : Int32) (x4 : Int32) (post : (Nat → Int32) → Prop) : Prop :=
  ∀ P3 : Int32 → (Nat → Int32) → Prop, (∀ (x4 : Int32) (a_faultPlace : Nat → Int32), ((x1 ≤ x4 → (post a_faultPlace)) ∧ (¬ x1 ≤ x4 → (vp_in ((x1 * x2) + x4) 4 ∧ (∀ v_1 : Int32, v_1 = (a_faultPlace (Int32.toNatClampNeg ((x1 * x2) + x4))) → (vp_in ((x1 * x3) + x4) 4 ∧ (∀ a_faultPlace_1 : Nat → Int32, a_faultPlace_1 = upd a_faultPlace (Int32.toNatClampNeg ((x1 * x3) + x4)) v_1 → (∀ v_2 : Int32, v_2 = x4 + (1 : Int32) → (P3 v_2 a_faultPlace_1)))))))) → P3 x4 a_faultPlace) → P3 x4 a_faultPlace
def q_m_copyRow_4_0 (a_faultPlace : Nat → Int32) (x1 : Int32) (x2 : Int32) (x3 : Int32) (post : (Nat → Int32) → Prop) : Prop :=
  q_m_copyRow_4_3 a_faultPlace x1 x2 x3 (0 : Int32) post
set_option maxRecDepth 20000 in
theorem t_m_copyRow_4_3 {p : Program} {l : Launch} {e : Env} {s : State} {m : MethodId} {args : Array Value} {below : List Frame} {meth : Method} {c : Code} {E : zE} {q : Nat} {f_code : Int32} {a_tape : Nat → Int32} {a_size : Nat → Int32} {a_fault : Nat → Int32} {a_faultPlace : Nat → Int32} {a_many : Nat → Int32} {a_lands : Nat → Int32} {a_evenings : Nat → Int32} {a_sights : Nat → Int32} {a_choirs : Nat → Int32} {f_reached : Int32} {f_length : Int32} {f_begins : Int32} {f_sort : Int32} {f_value : Int32} {f_word : Int64} {f_wrongAt : Int32} {f_laterFault : Int32} {f_laterPlace : Int32} {a_told : Nat → Int32} {a_read : Nat → Int32} {f_farHut : Int32} {f_farSinger : Int32} {f_good : Int32} {f_land : Int32} {f_huts : Int32} {f_singers : Int32} {f_evening : Int32} {a_at : Nat → Int32} {a_knows : Nat → Int32} {a_climbed : Nat → Int32} {a_snow : Nat → Int32} {a_level : Nat → Int32} {f_begun : Int32} {f_minute : Int32} {f_avalanches : Int32} {a_run : Nat → Int32} {a_covers : Nat → Int32} {a_routes : Nat → Int32} {a_longest : Nat → Int32} {a_steep : Nat → Int32} {a_laid : Nat → Int32} {a_far : Nat → Int32} {f_sight : Int32} {a_runs : Nat → Int32} {f_choir : Int32} {f_voices : Int32} {a_rest : Nat → Int64} {a_wins : Nat → Int32} {f_seed : Int32} {a_other : Nat → Int32} {a_kept : Nat → Int32} {post : (Nat → Int32) → Prop} {x1 : Int32} {x2 : Int32} {x3 : Int32} {x4 : Int32} {ls : Array Slot} {H : Heap} {locs : List Loc}
    (zc : zC p s m args meth c cX11_copyRow 5 RX11 none)
    (hK : zK E s)
    (hM : mW E q f_code a_tape a_size a_fault a_faultPlace a_many a_lands a_evenings a_sights a_choirs f_reached f_length f_begins f_sort f_value f_word f_wrongAt f_laterFault f_laterPlace a_told a_read f_farHut f_farSinger f_good f_land f_huts f_singers f_evening a_at a_knows a_climbed a_snow a_level f_begun f_minute f_avalanches a_run a_covers a_routes a_longest a_steep a_laid a_far f_sight a_runs f_choir f_voices a_rest a_wins f_seed a_other a_kept H)
    (hS : va_S (mA q) s.heap H locs)
    (hl : lv_has ls 5 [(0, .ref (q + 4)), (1, .int x1), (2, .int x2), (3, .int x3), (4, .int x4)])
    (hw : q_m_copyRow_4_3 a_faultPlace x1 x2 x3 x4 post) :
    W p l e rm_m_copyRow_4 s m args below meth c H locs 0 0 (MQ below (zQv (S := (Nat → Int32)) (fun u => post u) (fun u H => mW E q f_code a_tape a_size a_fault u a_many a_lands a_evenings a_sights a_choirs f_reached f_length f_begins f_sort f_value f_word f_wrongAt f_laterFault f_laterPlace a_told a_read f_farHut f_farSinger f_good f_land f_huts f_singers f_evening a_at a_knows a_climbed a_snow a_level f_begun f_minute f_avalanches a_run a_covers a_routes a_longest a_steep a_laid a_far f_sight a_runs f_choir f_voices a_rest a_wins f_seed a_other a_kept H) (mA q)) args s 0 0 (mA q)) (F0 m 3 ls []) := by
  have hx := zc.1
  have hb := zc.2.1
  refine hw (fun x4 a_faultPlace => ∀ (H : Heap) (locs : List Loc) (ls : Array Slot), lv_has ls 5 [(0, .ref (q + 4)), (1, .int x1), (2, .int x2), (3, .int x3), (4, .int x4)] → mW E q f_code a_tape a_size a_fault a_faultPlace a_many a_lands a_evenings a_sights a_choirs f_reached f_length f_begins f_sort f_value f_word f_wrongAt f_laterFault f_laterPlace a_told a_read f_farHut f_farSinger f_good f_land f_huts f_singers f_evening a_at a_knows a_climbed a_snow a_level f_begun f_minute f_avalanches a_run a_covers a_routes a_longest a_steep a_laid a_far f_sight a_runs f_choir f_voices a_rest a_wins f_seed a_other a_kept H → va_S (mA q) s.heap H locs → W p l e rm_m_copyRow_4 s m args below meth c H locs 0 0 (MQ below (zQv (S := (Nat → Int32)) (fun u => post u) (fun u H => mW E q f_code a_tape a_size a_fault u a_many a_lands a_evenings a_sights a_choirs f_reached f_length f_begins f_sort f_value f_word f_wrongAt f_laterFault f_laterPlace a_told a_read f_farHut f_farSinger f_good f_land f_huts f_singers f_evening a_at a_knows a_climbed a_snow a_level f_begun f_minute f_avalanches a_run a_covers a_routes a_longest a_steep a_laid a_far f_sight a_runs f_choir f_voices a_rest a_wins f_seed a_other a_kept H) (mA q)) args s 0 0 (mA q)) (F0 m 3 ls [])) ?_ _ _ _ hl hM hS
  intro x4 a_faultPlace hw H locs ls hl hM hS
  refine lv_iload hx hb dX11_copyRow_3 (lv_at hl 4 rfl) ?_
  refine lv_iload_n hx hb dX11_copyRow_5 rfl (lv_at hl 1 rfl) ?_
  refine lv_icmp_ge (tgt := 31) hx hb dX11_copyRow_6 (by decide) (fun hc => ?_) (fun hc => ?_)
  · have hw := hw.1 hc
    exact zret_vw a_faultPlace zc hS hw hM dX11_copyRow_31
  · have hw := hw.2 hc
    refine lv_aload_n hx hb dX11_copyRow_9 rfl (lv_at hl 0 rfl) ?_
    refine lv_iload_n hx hb dX11_copyRow_10 rfl (lv_at hl 1 rfl) ?_
    refine lv_iload_n hx hb dX11_copyRow_11 rfl (lv_at hl 3 rfl) ?_
    refine lv_imul hx hb dX11_copyRow_12 ?_
    refine lv_iload hx hb dX11_copyRow_13 (lv_at hl 4 rfl) ?_
    refine lv_iadd hx hb dX11_copyRow_15 ?_
    refine lv_aload_n hx hb dX11_copyRow_16 rfl (lv_at hl 0 rfl) ?_
    refine lv_iload_n hx hb dX11_copyRow_17 rfl (lv_at hl 1 rfl) ?_
    refine lv_iload_n hx hb dX11_copyRow_18 rfl (lv_at hl 2 rfl) ?_
    refine lv_imul hx hb dX11_copyRow_19 ?_
    refine lv_iload hx hb dX11_copyRow_20 (lv_at hl 4 rfl) ?_
    refine lv_iadd hx hb dX11_copyRow_22 ?_
    refine mld_4 zc hK hM hw.1 dX11_copyRow_23 ?_
    have hw := hw.2
    refine lv_topi (fun v_1 ev_1 => ?_)
    have hw := hw v_1 ev_1
    refine mst_4 zc hK hM hS hw.1 dX11_copyRow_24 (fun a_faultPlace_1 H locs ea_faultPlace_1 hM hS => ?_)
    have hw := hw.2 a_faultPlace_1 ea_faultPlace_1
    obtain ⟨v_2, ev_2⟩ : ∃ y : Int32, y = x4 + (1 : Int32) := ⟨_, rfl⟩
    have hw := hw v_2 ev_2
    refine lv_iinc (v := v_2) (k := 4) (lv' := [(4, .int v_2), (0, .ref (q + 4)), (1, .int x1), (2, .int x2), (3, .int x3)]) hx hb dX11_copyRow_25 hl rfl (by rw [ev_2]; rfl) (by decide) rfl (fun ls hl => ?_)
    refine lv_goto (tgt := 3) hx hb dX11_copyRow_28 (by decide) ?_
    exact hw _ _ _ (lv_sub hl [1, 2, 3, 4, 0] rfl) hM hS
set_option maxRecDepth 20000 in
theorem t_m_copyRow_4_0 {p : Program} {l : Launch} {e : Env} {s : State} {m : MethodId} {args : Array Value} {below : List Frame} {meth : Method} {c : Code} {E : zE} {q : Nat} {f_code : Int32} {a_tape : Nat → Int32} {a_size : Nat → Int32} {a_fault : Nat → Int32} {a_faultPlace : Nat → Int32} {a_many : Nat → Int32} {a_lands : Nat → Int32} {a_evenings : Nat → Int32} {a_sights : Nat → Int32} {a_choirs : Nat → Int32} {f_reached : Int32} {f_length : Int32} {f_begins : Int32} {f_sort : Int32} {f_value : Int32} {f_word : Int64} {f_wrongAt : Int32} {f_laterFault : Int32} {f_laterPlace : Int32} {a_told : Nat → Int32} {a_read : Nat → Int32} {f_farHut : Int32} {f_farSinger : Int32} {f_good : Int32} {f_land : Int32} {f_huts : Int32} {f_singers : Int32} {f_evening : Int32} {a_at : Nat → Int32} {a_knows : Nat → Int32} {a_climbed : Nat → Int32} {a_snow : Nat → Int32} {a_level : Nat → Int32} {f_begun : Int32} {f_minute : Int32} {f_avalanches : Int32} {a_run : Nat → Int32} {a_covers : Nat → Int32} {a_routes : Nat → Int32} {a_longest : Nat → Int32} {a_steep : Nat → Int32} {a_laid : Nat → Int32} {a_far : Nat → Int32} {f_sight : Int32} {a_runs : Nat → Int32} {f_choir : Int32} {f_voices : Int32} {a_rest : Nat → Int64} {a_wins : Nat → Int32} {f_seed : Int32} {a_other : Nat → Int32} {a_kept : Nat → Int32} {post : (Nat → Int32) → Prop} {x1 : Int32} {x2 : Int32} {x3 : Int32} {ls : Array Slot} {H : Heap} {locs : List Loc}
    (zc : zC p s m args meth c cX11_copyRow 5 RX11 none)
    (hK : zK E s)
    (hM : mW E q f_code a_tape a_size a_fault a_faultPlace a_many a_lands a_evenings a_sights a_choirs f_reached f_length f_begins f_sort f_value f_word f_wrongAt f_laterFault f_laterPlace a_told a_read f_farHut f_farSinger f_good f_land f_huts f_singers f_evening a_at a_knows a_climbed a_snow a_level f_begun f_minute f_avalanches a_run a_covers a_routes a_longest a_steep a_laid a_far f_sight a_runs f_choir f_voices a_rest a_wins f_seed a_other a_kept H)
    (hS : va_S (mA q) s.heap H locs)
    (hl : lv_has ls 5 [(0, .ref (q + 4)), (1, .int x1), (2, .int x2), (3, .int x3)])
    (hw : q_m_copyRow_4_0 a_faultPlace x1 x2 x3 post) :
    W p l e rm_m_copyRow_4 s m args below meth c H locs 0 0 (MQ below (zQv (S := (Nat → Int32)) (fun u => post u) (fun u H => mW E q f_code a_tape a_size a_fault u a_many a_lands a_evenings a_sights a_choirs f_reached f_length f_begins f_sort f_value f_word f_wrongAt f_laterFault f_laterPlace a_told a_read f_farHut f_farSinger f_good f_land f_huts f_singers f_evening a_at a_knows a_climbed a_snow a_level f_begun f_minute f_avalanches a_run a_covers a_routes a_longest a_steep a_laid a_far f_sight a_runs f_choir f_voices a_rest a_wins f_seed a_other a_kept H) (mA q)) args s 0 0 (mA q)) (F0 m 0 ls []) := by
  have hx := zc.1
  have hb := zc.2.1
  refine lv_iconst (v := (0 : Int32)) hx hb dX11_copyRow_0 (by decide) ?_
  refine lv_istore (lv' := [(4, .int (0 : Int32)), (0, .ref (q + 4)), (1, .int x1), (2, .int x2), (3, .int x3)]) hx hb dX11_copyRow_1 hl (by decide) rfl (fun ls hl => ?_)
  exact t_m_copyRow_4_3 zc hK hM hS  (lv_sub hl [1, 2, 3, 4, 0] rfl) hw
set_option maxRecDepth 20000 in
theorem c_m_copyRow_4 (l : Launch) {E : zE} {q : Nat} {f_code : Int32} {a_tape : Nat → Int32} {a_size : Nat → Int32} {a_fault : Nat → Int32} {a_faultPlace : Nat → Int32} {a_many : Nat → Int32} {a_lands : Nat → Int32} {a_evenings : Nat → Int32} {a_sights : Nat → Int32} {a_choirs : Nat → Int32} {f_reached : Int32} {f_length : Int32} {f_begins : Int32} {f_sort : Int32} {f_value : Int32} {f_word : Int64} {f_wrongAt : Int32} {f_laterFault : Int32} {f_laterPlace : Int32} {a_told : Nat → Int32} {a_read : Nat → Int32} {f_farHut : Int32} {f_farSinger : Int32} {f_good : Int32} {f_land : Int32} {f_huts : Int32} {f_singers : Int32} {f_evening : Int32} {a_at : Nat → Int32} {a_knows : Nat → Int32} {a_climbed : Nat → Int32} {a_snow : Nat → Int32} {a_level : Nat → Int32} {f_begun : Int32} {f_minute : Int32} {f_avalanches : Int32} {a_run : Nat → Int32} {a_covers : Nat → Int32} {a_routes : Nat → Int32} {a_longest : Nat → Int32} {a_steep : Nat → Int32} {a_laid : Nat → Int32} {a_far : Nat → Int32} {f_sight : Int32} {a_runs : Nat → Int32} {f_choir : Int32} {f_voices : Int32} {a_rest : Nat → Int64} {a_wins : Nat → Int32} {f_seed : Int32} {a_other : Nat → Int32} {a_kept : Nat → Int32} {x1 : Int32} {x2 : Int32} {x3 : Int32} {post : (Nat → Int32) → Prop} (hw : q_m_copyRow_4_0 a_faultPlace x1 x2 x3 post) : Met l yX11_copyRow (Cond.code yX11_copyRow cX11_copyRow 5 none :: zb) rm_m_copyRow_4 (va_Pc [.ref (q + 4), .int x1, .int x2, .int x3] (fun U => mW E q f_code a_tape a_size a_fault a_faultPlace a_many a_lands a_evenings a_sights a_choirs f_reached f_length f_begins f_sort f_value f_word f_wrongAt f_laterFault f_laterPlace a_told a_read f_farHut f_farSinger f_good f_land f_huts f_singers f_evening a_at a_knows a_climbed a_snow a_level f_begun f_minute f_avalanches a_run a_covers a_routes a_longest a_steep a_laid a_far f_sight a_runs f_choir f_voices a_rest a_wins f_seed a_other a_kept U.heap ∧ zK E U)) (zQv (S := (Nat → Int32)) (fun u => post u) (fun u H => mW E q f_code a_tape a_size a_fault u a_many a_lands a_evenings a_sights a_choirs f_reached f_length f_begins f_sort f_value f_word f_wrongAt f_laterFault f_laterPlace a_told a_read f_farHut f_farSinger f_good f_land f_huts f_singers f_evening a_at a_knows a_climbed a_snow a_level f_begun f_minute f_avalanches a_run a_covers a_routes a_longest a_steep a_laid a_far f_sight a_runs f_choir f_voices a_rest a_wins f_seed a_other a_kept H) (mA q)) 0 0 (mA q) := by
  refine Met.ofW (cc := cX11_copyRow) (maxL := 5) (ret := none) (by decide) rfl ?_
  intro p e s m args below meth c s₁ B hml hv
  obtain ⟨rfl, hM, hK⟩ := hv
  have zc := zc_of B hml
  have hl := lv_entry ([.ref (q + 4), .int x1, .int x2, .int x3]) (n := 5) (Nat.le_of_ble_eq_true rfl)
  rw [lg_entry_eq]
  generalize (lg_sl ([.ref (q + 4), .int x1, .int x2, .int x3]) ++ List.replicate (5 - (lg_sl ([.ref (q + 4), .int x1, .int x2, .int x3])).length) Slot.unset).toArray = ls at hl ⊢
  have hl : lv_has ls 5 [(0, .ref (q + 4)), (1, .int x1), (2, .int x2), (3, .int x3)] := hl
  exact t_m_copyRow_4_0 zc hK hM va_S.rf (lv_sub hl [0, 1, 2, 3] rfl) hw
-- m_copyRow_5
abbrev rm_m_copyRow_5 : Room := { frames := 0, cells := 0, slots := 0, locals := 0 }
def q_m_copyRow_5_3 (a_many : Nat → Int32) (x1 : Int32) (x2 : Int32) (x3 : Int32) (x4 : Int32) (post : (Nat → Int32) → Prop) : Prop :=
  ∀ P3 : Int32 → (Nat → Int32) → Prop, (∀ (x4 : Int32) (a_many : Nat → Int32), ((x1 ≤ x4 → (post a_many)) ∧ (¬ x1 ≤ x4 → (vp_in ((x1 * x2) + x4) 16 ∧ (∀ v_1 : Int32, v_1 = (a_many (Int32.toNatClampNeg ((x1 * x2) + x4))) → (vp_in ((x1 * x3) + x4) 16 ∧ (∀ a_many_1 : Nat → Int32, a_many_1 = upd a_many (Int32.toNatClampNeg ((x1 * x3) + x4)) v_1 → (∀ v_2 : Int32, v_2 = x4 + (1 : Int32) → (P3 v_2 a_many_1)))))))) → P3 x4 a_many) → P3 x4 a_many
def q_m_copyRow_5_0 (a_many : Nat → Int32) (x1 : Int32) (x2 : Int32) (x3 : Int32) (post : (Nat → Int32) → Prop) : Prop :=
  q_m_copyRow_5_3 a_many x1 x2 x3 (0 : Int32) post
set_option maxRecDepth 20000 in
theorem t_m_copyRow_5_3 {p : Program} {l : Launch} {e : Env} {s : State} {m : MethodId} {args : Array Value} {below : List Frame} {meth : Method} {c : Code} {E : zE} {q : Nat} {f_code : Int32} {a_tape : Nat → Int32} {a_size : Nat → Int32} {a_fault : Nat → Int32} {a_faultPlace : Nat → Int32} {a_many : Nat → Int32} {a_lands : Nat → Int32} {a_evenings : Nat → Int32} {a_sights : Nat → Int32} {a_choirs : Nat → Int32} {f_reached : Int32} {f_length : Int32} {f_begins : Int32} {f_sort : Int32} {f_value : Int32} {f_word : Int64} {f_wrongAt : Int32} {f_laterFault : Int32} {f_laterPlace : Int32} {a_told : Nat → Int32} {a_read : Nat → Int32} {f_farHut : Int32} {f_farSinger : Int32} {f_good : Int32} {f_land : Int32} {f_huts : Int32} {f_singers : Int32} {f_evening : Int32} {a_at : Nat → Int32} {a_knows : Nat → Int32} {a_climbed : Nat → Int32} {a_snow : Nat → Int32} {a_level : Nat → Int32} {f_begun : Int32} {f_minute : Int32} {f_avalanches : Int32} {a_run : Nat → Int32} {a_covers : Nat → Int32} {a_routes : Nat → Int32} {a_longest : Nat → Int32} {a_steep : Nat → Int32} {a_laid : Nat → Int32} {a_far : Nat → Int32} {f_sight : Int32} {a_runs : Nat → Int32} {f_choir : Int32} {f_voices : Int32} {a_rest : Nat → Int64} {a_wins : Nat → Int32} {f_seed : Int32} {a_other : Nat → Int32} {a_kept : Nat → Int32} {post : (Nat → Int32) → Prop} {x1 : Int32} {x2 : Int32} {x3 : Int32} {x4 : Int32} {ls : Array Slot} {H : Heap} {locs : List Loc}
    (zc : zC p s m args meth c cX11_copyRow 5 RX11 none)
    (hK : zK E s)
    (hM : mW E q f_code a_tape a_size a_fault a_faultPlace a_many a_lands a_evenings a_sights a_choirs f_reached f_length f_begins f_sort f_value f_word f_wrongAt f_laterFault f_laterPlace a_told a_read f_farHut f_farSinger f_good f_land f_huts f_singers f_evening a_at a_knows a_climbed a_snow a_level f_begun f_minute f_avalanches a_run a_covers a_routes a_longest a_steep a_laid a_far f_sight a_runs f_choir f_voices a_rest a_wins f_seed a_other a_kept H)
    (hS : va_S (mA q) s.heap H locs)
    (hl : lv_has ls 5 [(0, .ref (q + 5)), (1, .int x1), (2, .int x2), (3, .int x3), (4, .int x4)])
    (hw : q_m_copyRow_5_3 a_many x1 x2 x3 x4 post) :
    W p l e rm_m_copyRow_5 s m args below meth c H locs 0 0 (MQ below (zQv (S := (Nat → Int32)) (fun u => post u) (fun u H => mW E q f_code a_tape a_size a_fault a_faultPlace u a_lands a_evenings a_sights a_choirs f_reached f_length f_begins f_sort f_value f_word f_wrongAt f_laterFault f_laterPlace a_told a_read f_farHut f_farSinger f_good f_land f_huts f_singers f_evening a_at a_knows a_climbed a_snow a_level f_begun f_minute f_avalanches a_run a_covers a_routes a_longest a_steep a_laid a_far f_sight a_runs f_choir f_voices a_rest a_wins f_seed a_other a_kept H) (mA q)) args s 0 0 (mA q)) (F0 m 3 ls []) := by
  have hx := zc.1
  have hb := zc.2.1
  refine hw (fun x4 a_many => ∀ (H : Heap) (locs : List Loc) (ls : Array Slot), lv_has ls 5 [(0, .ref (q + 5)), (1, .int x1), (2, .int x2), (3, .int x3), (4, .int x4)] → mW E q f_code a_tape a_size a_fault a_faultPlace a_many a_lands a_evenings a_sights a_choirs f_reached f_length f_begins f_sort f_value f_word f_wrongAt f_laterFault f_laterPlace a_told a_read f_farHut f_farSinger f_good f_land f_huts f_singers f_evening a_at a_knows a_climbed a_snow a_level f_begun f_minute f_avalanches a_run a_covers a_routes a_longest a_steep a_laid a_far f_sight a_runs f_choir f_voices a_rest a_wins f_seed a_other a_kept H → va_S (mA q) s.heap H locs → W p l e rm_m_copyRow_5 s m args below meth c H locs 0 0 (MQ below (zQv (S := (Nat → Int32)) (fun u => post u) (fun u H => mW E q f_code a_tape a_size a_fault a_faultPlace u a_lands a_evenings a_sights a_choirs f_reached f_length f_begins f_sort f_value f_word f_wrongAt f_laterFault f_laterPlace a_told a_read f_farHut f_farSinger f_good f_land f_huts f_singers f_evening a_at a_knows a_climbed a_snow a_level f_begun f_minute f_avalanches a_run a_covers a_routes a_longest a_steep a_laid a_far f_sight a_runs f_choir f_voices a_rest a_wins f_seed a_other a_kept H) (mA q)) args s 0 0 (mA q)) (F0 m 3 ls [])) ?_ _ _ _ hl hM hS
  intro x4 a_many hw H locs ls hl hM hS
  refine lv_iload hx hb dX11_copyRow_3 (lv_at hl 4 rfl) ?_
  refine lv_iload_n hx hb dX11_copyRow_5 rfl (lv_at hl 1 rfl) ?_
  refine lv_icmp_ge (tgt := 31) hx hb dX11_copyRow_6 (by decide) (fun hc => ?_) (fun hc => ?_)
  · have hw := hw.1 hc
    exact zret_vw a_many zc hS hw hM dX11_copyRow_31
  · have hw := hw.2 hc
    refine lv_aload_n hx hb dX11_copyRow_9 rfl (lv_at hl 0 rfl) ?_
    refine lv_iload_n hx hb dX11_copyRow_10 rfl (lv_at hl 1 rfl) ?_
    refine lv_iload_n hx hb dX11_copyRow_11 rfl (lv_at hl 3 rfl) ?_
    refine lv_imul hx hb dX11_copyRow_12 ?_
    refine lv_iload hx hb dX11_copyRow_13 (lv_at hl 4 rfl) ?_
    refine lv_iadd hx hb dX11_copyRow_15 ?_
    refine lv_aload_n hx hb dX11_copyRow_16 rfl (lv_at hl 0 rfl) ?_
    refine lv_iload_n hx hb dX11_copyRow_17 rfl (lv_at hl 1 rfl) ?_
    refine lv_iload_n hx hb dX11_copyRow_18 rfl (lv_at hl 2 rfl) ?_
    refine lv_imul hx hb dX11_copyRow_19 ?_
    refine lv_iload hx hb dX11_copyRow_20 (lv_at hl 4 rfl) ?_
    refine lv_iadd hx hb dX11_copyRow_22 ?_
    refine mld_5 zc hK hM hw.1 dX11_copyRow_23 ?_
    have hw := hw.2
    refine lv_topi (fun v_1 ev_1 => ?_)
    have hw := hw v_1 ev_1
    refine mst_5 zc hK hM hS hw.1 dX11_copyRow_24 (fun a_many_1 H locs ea_many_1 hM hS => ?_)
    have hw := hw.2 a_many_1 ea_many_1
    obtain ⟨v_2, ev_2⟩ : ∃ y : Int32, y = x4 + (1 : Int32) := ⟨_, rfl⟩
    have hw := hw v_2 ev_2
    refine lv_iinc (v := v_2) (k := 4) (lv' := [(4, .int v_2), (0, .ref (q + 5)), (1, .int x1), (2, .int x2), (3, .int x3)]) hx hb dX11_copyRow_25 hl rfl (by rw [ev_2]; rfl) (by decide) rfl (fun ls hl => ?_)
    refine lv_goto (tgt := 3) hx hb dX11_copyRow_28 (by decide) ?_
    exact hw _ _ _ (lv_sub hl [1, 2, 3, 4, 0] rfl) hM hS
set_option maxRecDepth 20000 in
theorem t_m_copyRow_5_0 {p : Program} {l : Launch} {e : Env} {s : State} {m : MethodId} {args : Array Value} {below : List Frame} {meth : Method} {c : Code} {E : zE} {q : Nat} {f_code : Int32} {a_tape : Nat → Int32} {a_size : Nat → Int32} {a_fault : Nat → Int32} {a_faultPlace : Nat → Int32} {a_many : Nat → Int32} {a_lands : Nat → Int32} {a_evenings : Nat → Int32} {a_sights : Nat → Int32} {a_choirs : Nat → Int32} {f_reached : Int32} {f_length : Int32} {f_begins : Int32} {f_sort : Int32} {f_value : Int32} {f_word : Int64} {f_wrongAt : Int32} {f_laterFault : Int32} {f_laterPlace : Int32} {a_told : Nat → Int32} {a_read : Nat → Int32} {f_farHut : Int32} {f_farSinger : Int32} {f_good : Int32} {f_land : Int32} {f_huts : Int32} {f_singers : Int32} {f_evening : Int32} {a_at : Nat → Int32} {a_knows : Nat → Int32} {a_climbed : Nat → Int32} {a_snow : Nat → Int32} {a_level : Nat → Int32} {f_begun : Int32} {f_minute : Int32} {f_avalanches : Int32} {a_run : Nat → Int32} {a_covers : Nat → Int32} {a_routes : Nat → Int32} {a_longest : Nat → Int32} {a_steep : Nat → Int32} {a_laid : Nat → Int32} {a_far : Nat → Int32} {f_sight : Int32} {a_runs : Nat → Int32} {f_choir : Int32} {f_voices : Int32} {a_rest : Nat → Int64} {a_wins : Nat → Int32} {f_seed : Int32} {a_other : Nat → Int32} {a_kept : Nat → Int32} {post : (Nat → Int32) → Prop} {x1 : Int32} {x2 : Int32} {x3 : Int32} {ls : Array Slot} {H : Heap} {locs : List Loc}
    (zc : zC p s m args meth c cX11_copyRow 5 RX11 none)
    (hK : zK E s)
    (hM : mW E q f_code a_tape a_size a_fault a_faultPlace a_many a_lands a_evenings a_sights a_choirs f_reached f_length f_begins f_sort f_value f_word f_wrongAt f_laterFault f_laterPlace a_told a_read f_farHut f_farSinger f_good f_land f_huts f_singers f_evening a_at a_knows a_climbed a_snow a_level f_begun f_minute f_avalanches a_run a_covers a_routes a_longest a_steep a_laid a_far f_sight a_runs f_choir f_voices a_rest a_wins f_seed a_other a_kept H)
    (hS : va_S (mA q) s.heap H locs)
    (hl : lv_has ls 5 [(0, .ref (q + 5)), (1, .int x1), (2, .int x2), (3, .int x3)])
    (hw : q_m_copyRow_5_0 a_many x1 x2 x3 post) :
    W p l e rm_m_copyRow_5 s m args below meth c H locs 0 0 (MQ below (zQv (S := (Nat → Int32)) (fun u => post u) (fun u H => mW E q f_code a_tape a_size a_fault a_faultPlace u a_lands a_evenings a_sights a_choirs f_reached f_length f_begins f_sort f_value f_word f_wrongAt f_laterFault f_laterPlace a_told a_read f_farHut f_farSinger f_good f_land f_huts f_singers f_evening a_at a_knows a_climbed a_snow a_level f_begun f_minute f_avalanches a_run a_covers a_routes a_longest a_steep a_laid a_far f_sight a_runs f_choir f_voices a_rest a_wins f_seed a_other a_kept H) (mA q)) args s 0 0 (mA q)) (F0 m 0 ls []) := by
  have hx := zc.1
  have hb := zc.2.1
  refine lv_iconst (v := (0 : Int32)) hx hb dX11_copyRow_0 (by decide) ?_
  refine lv_istore (lv' := [(4, .int (0 : Int32)), (0, .ref (q + 5)), (1, .int x1), (2, .int x2), (3, .int x3)]) hx hb dX11_copyRow_1 hl (by decide) rfl (fun ls hl => ?_)
  exact t_m_copyRow_5_3 zc hK hM hS  (lv_sub hl [1, 2, 3, 4, 0] rfl) hw
set_option maxRecDepth 20000 in
theorem c_m_copyRow_5 (l : Launch) {E : zE} {q : Nat} {f_code : Int32} {a_tape : Nat → Int32} {a_size : Nat → Int32} {a_fault : Nat → Int32} {a_faultPlace : Nat → Int32} {a_many : Nat → Int32} {a_lands : Nat → Int32} {a_evenings : Nat → Int32} {a_sights : Nat → Int32} {a_choirs : Nat → Int32} {f_reached : Int32} {f_length : Int32} {f_begins : Int32} {f_sort : Int32} {f_value : Int32} {f_word : Int64} {f_wrongAt : Int32} {f_laterFault : Int32} {f_laterPlace : Int32} {a_told : Nat → Int32} {a_read : Nat → Int32} {f_farHut : Int32} {f_farSinger : Int32} {f_good : Int32} {f_land : Int32} {f_huts : Int32} {f_singers : Int32} {f_evening : Int32} {a_at : Nat → Int32} {a_knows : Nat → Int32} {a_climbed : Nat → Int32} {a_snow : Nat → Int32} {a_level : Nat → Int32} {f_begun : Int32} {f_minute : Int32} {f_avalanches : Int32} {a_run : Nat → Int32} {a_covers : Nat → Int32} {a_routes : Nat → Int32} {a_longest : Nat → Int32} {a_steep : Nat → Int32} {a_laid : Nat → Int32} {a_far : Nat → Int32} {f_sight : Int32} {a_runs : Nat → Int32} {f_choir : Int32} {f_voices : Int32} {a_rest : Nat → Int64} {a_wins : Nat → Int32} {f_seed : Int32} {a_other : Nat → Int32} {a_kept : Nat → Int32} {x1 : Int32} {x2 : Int32} {x3 : Int32} {post : (Nat → Int32) → Prop} (hw : q_m_copyRow_5_0 a_many x1 x2 x3 post) : Met l yX11_copyRow (Cond.code yX11_copyRow cX11_copyRow 5 none :: zb) rm_m_copyRow_5 (va_Pc [.ref (q + 5), .int x1, .int x2, .int x3] (fun U => mW E q f_code a_tape a_size a_fault a_faultPlace a_many a_lands a_evenings a_sights a_choirs f_reached f_length f_begins f_sort f_value f_word f_wrongAt f_laterFault f_laterPlace a_told a_read f_farHut f_farSinger f_good f_land f_huts f_singers f_evening a_at a_knows a_climbed a_snow a_level f_begun f_minute f_avalanches a_run a_covers a_routes a_longest a_steep a_laid a_far f_sight a_runs f_choir f_voices a_rest a_wins f_seed a_other a_kept U.heap ∧ zK E U)) (zQv (S := (Nat → Int32)) (fun u => post u) (fun u H => mW E q f_code a_tape a_size a_fault a_faultPlace u a_lands a_evenings a_sights a_choirs f_reached f_length f_begins f_sort f_value f_word f_wrongAt f_laterFault f_laterPlace a_told a_read f_farHut f_farSinger f_good f_land f_huts f_singers f_evening a_at a_knows a_climbed a_snow a_level f_begun f_minute f_avalanches a_run a_covers a_routes a_longest a_steep a_laid a_far f_sight a_runs f_choir f_voices a_rest a_wins f_seed a_other a_kept H) (mA q)) 0 0 (mA q) := by
  refine Met.ofW (cc := cX11_copyRow) (maxL := 5) (ret := none) (by decide) rfl ?_
  intro p e s m args below meth c s₁ B hml hv
  obtain ⟨rfl, hM, hK⟩ := hv
  have zc := zc_of B hml
  have hl := lv_entry ([.ref (q + 5), .int x1, .int x2, .int x3]) (n := 5) (Nat.le_of_ble_eq_true rfl)
  rw [lg_entry_eq]
  generalize (lg_sl ([.ref (q + 5), .int x1, .int x2, .int x3]) ++ List.replicate (5 - (lg_sl ([.ref (q + 5), .int x1, .int x2, .int x3])).length) Slot.unset).toArray = ls at hl ⊢
  have hl : lv_has ls 5 [(0, .ref (q + 5)), (1, .int x1), (2, .int x2), (3, .int x3)] := hl
  exact t_m_copyRow_5_0 zc hK hM va_S.rf (lv_sub hl [0, 1, 2, 3] rfl) hw
-- m_copyRow_6
abbrev rm_m_copyRow_6 : Room := { frames := 0, cells := 0, slots := 0, locals := 0 }
def q_m_copyRow_6_3 (a_lands : Nat → Int32) (x1 : Int32) (x2 : Int32) (x3 : Int32) (x4 : Int32) (post : (Nat → Int32) → Prop) : Prop :=
  ∀ P3 : Int32 → (Nat → Int32) → Prop, (∀ (x4 : Int32) (a_lands : Nat → Int32), ((x1 ≤ x4 → (post a_lands)) ∧ (¬ x1 ≤ x4 → (vp_in ((x1 * x2) + x4) 1056 ∧ (∀ v_1 : Int32, v_1 = (a_lands (Int32.toNatClampNeg ((x1 * x2) + x4))) → (vp_in ((x1 * x3) + x4) 1056 ∧ (∀ a_lands_1 : Nat → Int32, a_lands_1 = upd a_lands (Int32.toNatClampNeg ((x1 * x3) + x4)) v_1 → (∀ v_2 : Int32, v_2 = x4 + (1 : Int32) → (P3 v_2 a_lands_1)))))))) → P3 x4 a_lands) → P3 x4 a_lands
def q_m_copyRow_6_0 (a_lands : Nat → Int32) (x1 : Int32) (x2 : Int32) (x3 : Int32) (post : (Nat → Int32) → Prop) : Prop :=
  q_m_copyRow_6_3 a_lands x1 x2 x3 (0 : Int32) post
set_option maxRecDepth 20000 in
theorem t_m_copyRow_6_3 {p : Program} {l : Launch} {e : Env} {s : State} {m : MethodId} {args : Array Value} {below : List Frame} {meth : Method} {c : Code} {E : zE} {q : Nat} {f_code : Int32} {a_tape : Nat → Int32} {a_size : Nat → Int32} {a_fault : Nat → Int32} {a_faultPlace : Nat → Int32} {a_many : Nat → Int32} {a_lands : Nat → Int32} {a_evenings : Nat → Int32} {a_sights : Nat → Int32} {a_choirs : Nat → Int32} {f_reached : Int32} {f_length : Int32} {f_begins : Int32} {f_sort : Int32} {f_value : Int32} {f_word : Int64} {f_wrongAt : Int32} {f_laterFault : Int32} {f_laterPlace : Int32} {a_told : Nat → Int32} {a_read : Nat → Int32} {f_farHut : Int32} {f_farSinger : Int32} {f_good : Int32} {f_land : Int32} {f_huts : Int32} {f_singers : Int32} {f_evening : Int32} {a_at : Nat → Int32} {a_knows : Nat → Int32} {a_climbed : Nat → Int32} {a_snow : Nat → Int32} {a_level : Nat → Int32} {f_begun : Int32} {f_minute : Int32} {f_avalanches : Int32} {a_run : Nat → Int32} {a_covers : Nat → Int32} {a_routes : Nat → Int32} {a_longest : Nat → Int32} {a_steep : Nat → Int32} {a_laid : Nat → Int32} {a_far : Nat → Int32} {f_sight : Int32} {a_runs : Nat → Int32} {f_choir : Int32} {f_voices : Int32} {a_rest : Nat → Int64} {a_wins : Nat → Int32} {f_seed : Int32} {a_other : Nat → Int32} {a_kept : Nat → Int32} {post : (Nat → Int32) → Prop} {x1 : Int32} {x2 : Int32} {x3 : Int32} {x4 : Int32} {ls : Array Slot} {H : Heap} {locs : List Loc}
    (zc : zC p s m args meth c cX11_copyRow 5 RX11 none)
    (hK : zK E s)
    (hM : mW E q f_code a_tape a_size a_fault a_faultPlace a_many a_lands a_evenings a_sights a_choirs f_reached f_length f_begins f_sort f_value f_word f_wrongAt f_laterFault f_laterPlace a_told a_read f_farHut f_farSinger f_good f_land f_huts f_singers f_evening a_at a_knows a_climbed a_snow a_level f_begun f_minute f_avalanches a_run a_covers a_routes a_longest a_steep a_laid a_far f_sight a_runs f_choir f_voices a_rest a_wins f_seed a_other a_kept H)
    (hS : va_S (mA q) s.heap H locs)
    (hl : lv_has ls 5 [(0, .ref (q + 6)), (1, .int x1), (2, .int x2), (3, .int x3), (4, .int x4)])
    (hw : q_m_copyRow_6_3 a_lands x1 x2 x3 x4 post) :
    W p l e rm_m_copyRow_6 s m args below meth c H locs 0 0 (MQ below (zQv (S := (Nat → Int32)) (fun u => post u) (fun u H => mW E q f_code a_tape a_size a_fault a_faultPlace a_many u a_evenings a_sights a_choirs f_reached f_length f_begins f_sort f_value f_word f_wrongAt f_laterFault f_laterPlace a_told a_read f_farHut f_farSinger f_good f_land f_huts f_singers f_evening a_at a_knows a_climbed a_snow a_level f_begun f_minute f_avalanches a_run a_covers a_routes a_longest a_steep a_laid a_far f_sight a_runs f_choir f_voices a_rest a_wins f_seed a_other a_kept H) (mA q)) args s 0 0 (mA q)) (F0 m 3 ls []) := by
  have hx := zc.1
  have hb := zc.2.1
  refine hw (fun x4 a_lands => ∀ (H : Heap) (locs : List Loc) (ls : Array Slot), lv_has ls 5 [(0, .ref (q + 6)), (1, .int x1), (2, .int x2), (3, .int x3), (4, .int x4)] → mW E q f_code a_tape a_size a_fault a_faultPlace a_many a_lands a_evenings a_sights a_choirs f_reached f_length f_begins f_sort f_value f_word f_wrongAt f_laterFault f_laterPlace a_told a_read f_farHut f_farSinger f_good f_land f_huts f_singers f_evening a_at a_knows a_climbed a_snow a_level f_begun f_minute f_avalanches a_run a_covers a_routes a_longest a_steep a_laid a_far f_sight a_runs f_choir f_voices a_rest a_wins f_seed a_other a_kept H → va_S (mA q) s.heap H locs → W p l e rm_m_copyRow_6 s m args below meth c H locs 0 0 (MQ below (zQv (S := (Nat → Int32)) (fun u => post u) (fun u H => mW E q f_code a_tape a_size a_fault a_faultPlace a_many u a_evenings a_sights a_choirs f_reached f_length f_begins f_sort f_value f_word f_wrongAt f_laterFault f_laterPlace a_told a_read f_farHut f_farSinger f_good f_land f_huts f_singers f_evening a_at a_knows a_climbed a_snow a_level f_begun f_minute f_avalanches a_run a_covers a_routes a_longest a_steep a_laid a_far f_sight a_runs f_choir f_voices a_rest a_wins f_seed a_other a_kept H) (mA q)) args s 0 0 (mA q)) (F0 m 3 ls [])) ?_ _ _ _ hl hM hS
  intro x4 a_lands hw H locs ls hl hM hS
  refine lv_iload hx hb dX11_copyRow_3 (lv_at hl 4 rfl) ?_
  refine lv_iload_n hx hb dX11_copyRow_5 rfl (lv_at hl 1 rfl) ?_
  refine lv_icmp_ge (tgt := 31) hx hb dX11_copyRow_6 (by decide) (fun hc => ?_) (fun hc => ?_)
  · have hw := hw.1 hc
    exact zret_vw a_lands zc hS hw hM dX11_copyRow_31
  · have hw := hw.2 hc
    refine lv_aload_n hx hb dX11_copyRow_9 rfl (lv_at hl 0 rfl) ?_
    refine lv_iload_n hx hb dX11_copyRow_10 rfl (lv_at hl 1 rfl) ?_
    refine lv_iload_n hx hb dX11_copyRow_11 rfl (lv_at hl 3 rfl) ?_
    refine lv_imul hx hb dX11_copyRow_12 ?_
    refine lv_iload hx hb dX11_copyRow_13 (lv_at hl 4 rfl) ?_
    refine lv_iadd hx hb dX11_copyRow_15 ?_
    refine lv_aload_n hx hb dX11_copyRow_16 rfl (lv_at hl 0 rfl) ?_
    refine lv_iload_n hx hb dX11_copyRow_17 rfl (lv_at hl 1 rfl) ?_
    refine lv_iload_n hx hb dX11_copyRow_18 rfl (lv_at hl 2 rfl) ?_
    refine lv_imul hx hb dX11_copyRow_19 ?_
    refine lv_iload hx hb dX11_copyRow_20 (lv_at hl 4 rfl) ?_
    refine lv_iadd hx hb dX11_copyRow_22 ?_
    refine mld_6 zc hK hM hw.1 dX11_copyRow_23 ?_
    have hw := hw.2
    refine lv_topi (fun v_1 ev_1 => ?_)
    have hw := hw v_1 ev_1
    refine mst_6 zc hK hM hS hw.1 dX11_copyRow_24 (fun a_lands_1 H locs ea_lands_1 hM hS => ?_)
    have hw := hw.2 a_lands_1 ea_lands_1
    obtain ⟨v_2, ev_2⟩ : ∃ y : Int32, y = x4 + (1 : Int32) := ⟨_, rfl⟩
    have hw := hw v_2 ev_2
    refine lv_iinc (v := v_2) (k := 4) (lv' := [(4, .int v_2), (0, .ref (q + 6)), (1, .int x1), (2, .int x2), (3, .int x3)]) hx hb dX11_copyRow_25 hl rfl (by rw [ev_2]; rfl) (by decide) rfl (fun ls hl => ?_)
    refine lv_goto (tgt := 3) hx hb dX11_copyRow_28 (by decide) ?_
    exact hw _ _ _ (lv_sub hl [1, 2, 3, 4, 0] rfl) hM hS
set_option maxRecDepth 20000 in
theorem t_m_copyRow_6_0 {p : Program} {l : Launch} {e : Env} {s : State} {m : MethodId} {args : Array Value} {below : List Frame} {meth : Method} {c : Code} {E : zE} {q : Nat} {f_code : Int32} {a_tape : Nat → Int32} {a_size : Nat → Int32} {a_fault : Nat → Int32} {a_faultPlace : Nat → Int32} {a_many : Nat → Int32} {a_lands : Nat → Int32} {a_evenings : Nat → Int32} {a_sights : Nat → Int32} {a_choirs : Nat → Int32} {f_reached : Int32} {f_length : Int32} {f_begins : Int32} {f_sort : Int32} {f_value : Int32} {f_word : Int64} {f_wrongAt : Int32} {f_laterFault : Int32} {f_laterPlace : Int32} {a_told : Nat → Int32} {a_read : Nat → Int32} {f_farHut : Int32} {f_farSinger : Int32} {f_good : Int32} {f_land : Int32} {f_huts : Int32} {f_singers : Int32} {f_evening : Int32} {a_at : Nat → Int32} {a_knows : Nat → Int32} {a_climbed : Nat → Int32} {a_snow : Nat → Int32} {a_level : Nat → Int32} {f_begun : Int32} {f_minute : Int32} {f_avalanches : Int32} {a_run : Nat → Int32} {a_covers : Nat → Int32} {a_routes : Nat → Int32} {a_longest : Nat → Int32} {a_steep : Nat → Int32} {a_laid : Nat → Int32} {a_far : Nat → Int32} {f_sight : Int32} {a_runs : Nat → Int32} {f_choir : Int32} {f_voices : Int32} {a_rest : Nat → Int64} {a_wins : Nat → Int32} {f_seed : Int32} {a_other : Nat → Int32} {a_kept : Nat → Int32} {post : (Nat → Int32) → Prop} {x1 : Int32} {x2 : Int32} {x3 : Int32} {ls : Array Slot} {H : Heap} {locs : List Loc}
    (zc : zC p s m args meth c cX11_copyRow 5 RX11 none)
    (hK : zK E s)
    (hM : mW E q f_code a_tape a_size a_fault a_faultPlace a_many a_lands a_evenings a_sights a_choirs f_reached f_length f_begins f_sort f_value f_word f_wrongAt f_laterFault f_laterPlace a_told a_read f_farHut f_farSinger f_good f_land f_huts f_singers f_evening a_at a_knows a_climbed a_snow a_level f_begun f_minute f_avalanches a_run a_covers a_routes a_longest a_steep a_laid a_far f_sight a_runs f_choir f_voices a_rest a_wins f_seed a_other a_kept H)
    (hS : va_S (mA q) s.heap H locs)
    (hl : lv_has ls 5 [(0, .ref (q + 6)), (1, .int x1), (2, .int x2), (3, .int x3)])
    (hw : q_m_copyRow_6_0 a_lands x1 x2 x3 post) :
    W p l e rm_m_copyRow_6 s m args below meth c H locs 0 0 (MQ below (zQv (S := (Nat → Int32)) (fun u => post u) (fun u H => mW E q f_code a_tape a_size a_fault a_faultPlace a_many u a_evenings a_sights a_choirs f_reached f_length f_begins f_sort f_value f_word f_wrongAt f_laterFault f_laterPlace a_told a_read f_farHut f_farSinger f_good f_land f_huts f_singers f_evening a_at a_knows a_climbed a_snow a_level f_begun f_minute f_avalanches a_run a_covers a_routes a_longest a_steep a_laid a_far f_sight a_runs f_choir f_voices a_rest a_wins f_seed a_other a_kept H) (mA q)) args s 0 0 (mA q)) (F0 m 0 ls []) := by
  have hx := zc.1
  have hb := zc.2.1
  refine lv_iconst (v := (0 : Int32)) hx hb dX11_copyRow_0 (by decide) ?_
  refine lv_istore (lv' := [(4, .int (0 : Int32)), (0, .ref (q + 6)), (1, .int x1), (2, .int x2), (3, .int x3)]) hx hb dX11_copyRow_1 hl (by decide) rfl (fun ls hl => ?_)
  exact t_m_copyRow_6_3 zc hK hM hS  (lv_sub hl [1, 2, 3, 4, 0] rfl) hw
set_option maxRecDepth 20000 in
theorem c_m_copyRow_6 (l : Launch) {E : zE} {q : Nat} {f_code : Int32} {a_tape : Nat → Int32} {a_size : Nat → Int32} {a_fault : Nat → Int32} {a_faultPlace : Nat → Int32} {a_many : Nat → Int32} {a_lands : Nat → Int32} {a_evenings : Nat → Int32} {a_sights : Nat → Int32} {a_choirs : Nat → Int32} {f_reached : Int32} {f_length : Int32} {f_begins : Int32} {f_sort : Int32} {f_value : Int32} {f_word : Int64} {f_wrongAt : Int32} {f_laterFault : Int32} {f_laterPlace : Int32} {a_told : Nat → Int32} {a_read : Nat → Int32} {f_farHut : Int32} {f_farSinger : Int32} {f_good : Int32} {f_land : Int32} {f_huts : Int32} {f_singers : Int32} {f_evening : Int32} {a_at : Nat → Int32} {a_knows : Nat → Int32} {a_climbed : Nat → Int32} {a_snow : Nat → Int32} {a_level : Nat → Int32} {f_begun : Int32} {f_minute : Int32} {f_avalanches : Int32} {a_run : Nat → Int32} {a_covers : Nat → Int32} {a_routes : Nat → Int32} {a_longest : Nat → Int32} {a_steep : Nat → Int32} {a_laid : Nat → Int32} {a_far : Nat → Int32} {f_sight : Int32} {a_runs : Nat → Int32} {f_choir : Int32} {f_voices : Int32} {a_rest : Nat → Int64} {a_wins : Nat → Int32} {f_seed : Int32} {a_other : Nat → Int32} {a_kept : Nat → Int32} {x1 : Int32} {x2 : Int32} {x3 : Int32} {post : (Nat → Int32) → Prop} (hw : q_m_copyRow_6_0 a_lands x1 x2 x3 post) : Met l yX11_copyRow (Cond.code yX11_copyRow cX11_copyRow 5 none :: zb) rm_m_copyRow_6 (va_Pc [.ref (q + 6), .int x1, .int x2, .int x3] (fun U => mW E q f_code a_tape a_size a_fault a_faultPlace a_many a_lands a_evenings a_sights a_choirs f_reached f_length f_begins f_sort f_value f_word f_wrongAt f_laterFault f_laterPlace a_told a_read f_farHut f_farSinger f_good f_land f_huts f_singers f_evening a_at a_knows a_climbed a_snow a_level f_begun f_minute f_avalanches a_run a_covers a_routes a_longest a_steep a_laid a_far f_sight a_runs f_choir f_voices a_rest a_wins f_seed a_other a_kept U.heap ∧ zK E U)) (zQv (S := (Nat → Int32)) (fun u => post u) (fun u H => mW E q f_code a_tape a_size a_fault a_faultPlace a_many u a_evenings a_sights a_choirs f_reached f_length f_begins f_sort f_value f_word f_wrongAt f_laterFault f_laterPlace a_told a_read f_farHut f_farSinger f_good f_land f_huts f_singers f_evening a_at a_knows a_climbed a_snow a_level f_begun f_minute f_avalanches a_run a_covers a_routes a_longest a_steep a_laid a_far f_sight a_runs f_choir f_voices a_rest a_wins f_seed a_other a_kept H) (mA q)) 0 0 (mA q) := by
  refine Met.ofW (cc := cX11_copyRow) (maxL := 5) (ret := none) (by decide) rfl ?_
  intro p e s m args below meth c s₁ B hml hv
  obtain ⟨rfl, hM, hK⟩ := hv
  have zc := zc_of B hml
  have hl := lv_entry ([.ref (q + 6), .int x1, .int x2, .int x3]) (n := 5) (Nat.le_of_ble_eq_true rfl)
  rw [lg_entry_eq]
  generalize (lg_sl ([.ref (q + 6), .int x1, .int x2, .int x3]) ++ List.replicate (5 - (lg_sl ([.ref (q + 6), .int x1, .int x2, .int x3])).length) Slot.unset).toArray = ls at hl ⊢
  have hl : lv_has ls 5 [(0, .ref (q + 6)), (1, .int x1), (2, .int x2), (3, .int x3)] := hl
  exact t_m_copyRow_6_0 zc hK hM va_S.rf (lv_sub hl [0, 1, 2, 3] rfl) hw
-- m_copyRow_7
abbrev rm_m_copyRow_7 : Room := { frames := 0, cells := 0, slots := 0, locals := 0 }
def q_m_copyRow_7_3 (a_evenings : Nat → Int32) (x1 : Int32) (x2 : Int32) (x3 : Int32) (x4 : Int32) (post : (Nat → Int32) → Prop) : Prop :=
  ∀ P3 : Int32 → (Nat → Int32) → Prop, (∀ (x4 : Int32) (a_evenings : Nat → Int32), ((x1 ≤ x4 → (post a_evenings)) ∧ (¬ x1 ≤ x4 → (vp_in ((x1 * x2) + x4) 968 ∧ (∀ v_1 : Int32, v_1 = (a_evenings (Int32.toNatClampNeg ((x1 * x2) + x4))) → (vp_in ((x1 * x3) + x4) 968 ∧ (∀ a_evenings_1 : Nat → Int32, a_evenings_1 = upd a_evenings (Int32.toNatClampNeg ((x1 * x3) + x4)) v_1 → (∀ v_2 : Int32, v_2 = x4 + (1 : Int32) → (P3 v_2 a_evenings_1)))))))) → P3 x4 a_evenings) → P3 x4 a_evenings
def q_m_copyRow_7_0 (a_evenings : Nat → Int32) (x1 : Int32) (x2 : Int32) (x3 : Int32) (post : (Nat → Int32) → Prop) : Prop :=
  q_m_copyRow_7_3 a_evenings x1 x2 x3 (0 : Int32) post
set_option maxRecDepth 20000 in
theorem t_m_copyRow_7_3 {p : Program} {l : Launch} {e : Env} {s : State} {m : MethodId} {args : Array Value} {below : List Frame} {meth : Method} {c : Code} {E : zE} {q : Nat} {f_code : Int32} {a_tape : Nat → Int32} {a_size : Nat → Int32} {a_fault : Nat → Int32} {a_faultPlace : Nat → Int32} {a_many : Nat → Int32} {a_lands : Nat → Int32} {a_evenings : Nat → Int32} {a_sights : Nat → Int32} {a_choirs : Nat → Int32} {f_reached : Int32} {f_length : Int32} {f_begins : Int32} {f_sort : Int32} {f_value : Int32} {f_word : Int64} {f_wrongAt : Int32} {f_laterFault : Int32} {f_laterPlace : Int32} {a_told : Nat → Int32} {a_read : Nat → Int32} {f_farHut : Int32} {f_farSinger : Int32} {f_good : Int32} {f_land : Int32} {f_huts : Int32} {f_singers : Int32} {f_evening : Int32} {a_at : Nat → Int32} {a_knows : Nat → Int32} {a_climbed : Nat → Int32} {a_snow : Nat → Int32} {a_level : Nat → Int32} {f_begun : Int32} {f_minute : Int32} {f_avalanches : Int32} {a_run : Nat → Int32} {a_covers : Nat → Int32} {a_routes : Nat → Int32} {a_longest : Nat → Int32} {a_steep : Nat → Int32} {a_laid : Nat → Int32} {a_far : Nat → Int32} {f_sight : Int32} {a_runs : Nat → Int32} {f_choir : Int32} {f_voices : Int32} {a_rest : Nat → Int64} {a_wins : Nat → Int32} {f_seed : Int32} {a_other : Nat → Int32} {a_kept : Nat → Int32} {post : (Nat → Int32) → Prop} {x1 : Int32} {x2 : Int32} {x3 : Int32} {x4 : Int32} {ls : Array Slot} {H : Heap} {locs : List Loc}
    (zc : zC p s m args meth c cX11_copyRow 5 RX11 none)
    (hK : zK E s)
    (hM : mW E q f_code a_tape a_size a_fault a_faultPlace a_many a_lands a_evenings a_sights a_choirs f_reached f_length f_begins f_sort f_value f_word f_wrongAt f_laterFault f_laterPlace a_told a_read f_farHut f_farSinger f_good f_land f_huts f_singers f_evening a_at a_knows a_climbed a_snow a_level f_begun f_minute f_avalanches a_run a_covers a_routes a_longest a_steep a_laid a_far f_sight a_runs f_choir f_voices a_rest a_wins f_seed a_other a_kept H)
    (hS : va_S (mA q) s.heap H locs)
    (hl : lv_has ls 5 [(0, .ref (q + 7)), (1, .int x1), (2, .int x2), (3, .int x3), (4, .int x4)])
    (hw : q_m_copyRow_7_3 a_evenings x1 x2 x3 x4 post) :
    W p l e rm_m_copyRow_7 s m args below meth c H locs 0 0 (MQ below (zQv (S := (Nat → Int32)) (fun u => post u) (fun u H => mW E q f_code a_tape a_size a_fault a_faultPlace a_many a_lands u a_sights a_choirs f_reached f_length f_begins f_sort f_value f_word f_wrongAt f_laterFault f_laterPlace a_told a_read f_farHut f_farSinger f_good f_land f_huts f_singers f_evening a_at a_knows a_climbed a_snow a_level f_begun f_minute f_avalanches a_run a_covers a_routes a_longest a_steep a_laid a_far f_sight a_runs f_choir f_voices a_rest a_wins f_seed a_other a_kept H) (mA q)) args s 0 0 (mA q)) (F0 m 3 ls []) := by
  have hx := zc.1
  have hb := zc.2.1
  refine hw (fun x4 a_evenings => ∀ (H : Heap) (locs : List Loc) (ls : Array Slot), lv_has ls 5 [(0, .ref (q + 7)), (1, .int x1), (2, .int x2), (3, .int x3), (4, .int x4)] → mW E q f_code a_tape a_size a_fault a_faultPlace a_many a_lands a_evenings a_sights a_choirs f_reached f_length f_begins f_sort f_value f_word f_wrongAt f_laterFault f_laterPlace a_told a_read f_farHut f_farSinger f_good f_land f_huts f_singers f_evening a_at a_knows a_climbed a_snow a_level f_begun f_minute f_avalanches a_run a_covers a_routes a_longest a_steep a_laid a_far f_sight a_runs f_choir f_voices a_rest a_wins f_seed a_other a_kept H → va_S (mA q) s.heap H locs → W p l e rm_m_copyRow_7 s m args below meth c H locs 0 0 (MQ below (zQv (S := (Nat → Int32)) (fun u => post u) (fun u H => mW E q f_code a_tape a_size a_fault a_faultPlace a_many a_lands u a_sights a_choirs f_reached f_length f_begins f_sort f_value f_word f_wrongAt f_laterFault f_laterPlace a_told a_read f_farHut f_farSinger f_good f_land f_huts f_singers f_evening a_at a_knows a_climbed a_snow a_level f_begun f_minute f_avalanches a_run a_covers a_routes a_longest a_steep a_laid a_far f_sight a_runs f_choir f_voices a_rest a_wins f_seed a_other a_kept H) (mA q)) args s 0 0 (mA q)) (F0 m 3 ls [])) ?_ _ _ _ hl hM hS
  intro x4 a_evenings hw H locs ls hl hM hS
  refine lv_iload hx hb dX11_copyRow_3 (lv_at hl 4 rfl) ?_
  refine lv_iload_n hx hb dX11_copyRow_5 rfl (lv_at hl 1 rfl) ?_
  refine lv_icmp_ge (tgt := 31) hx hb dX11_copyRow_6 (by decide) (fun hc => ?_) (fun hc => ?_)
  · have hw := hw.1 hc
    exact zret_vw a_evenings zc hS hw hM dX11_copyRow_31
  · have hw := hw.2 hc
    refine lv_aload_n hx hb dX11_copyRow_9 rfl (lv_at hl 0 rfl) ?_
    refine lv_iload_n hx hb dX11_copyRow_10 rfl (lv_at hl 1 rfl) ?_
    refine lv_iload_n hx hb dX11_copyRow_11 rfl (lv_at hl 3 rfl) ?_
    refine lv_imul hx hb dX11_copyRow_12 ?_
    refine lv_iload hx hb dX11_copyRow_13 (lv_at hl 4 rfl) ?_
    refine lv_iadd hx hb dX11_copyRow_15 ?_
    refine lv_aload_n hx hb dX11_copyRow_16 rfl (lv_at hl 0 rfl) ?_
    refine lv_iload_n hx hb dX11_copyRow_17 rfl (lv_at hl 1 rfl) ?_
    refine lv_iload_n hx hb dX11_copyRow_18 rfl (lv_at hl 2 rfl) ?_
    refine lv_imul hx hb dX11_copyRow_19 ?_
    refine lv_iload hx hb dX11_copyRow_20 (lv_at hl 4 rfl) ?_
    refine lv_iadd hx hb dX11_copyRow_22 ?_
    refine mld_7 zc hK hM hw.1 dX11_copyRow_23 ?_
    have hw := hw.2
    refine lv_topi (fun v_1 ev_1 => ?_)
    have hw := hw v_1 ev_1
    refine mst_7 zc hK hM hS hw.1 dX11_copyRow_24 (fun a_evenings_1 H locs ea_evenings_1 hM hS => ?_)
    have hw := hw.2 a_evenings_1 ea_evenings_1
    obtain ⟨v_2, ev_2⟩ : ∃ y : Int32, y = x4 + (1 : Int32) := ⟨_, rfl⟩
    have hw := hw v_2 ev_2
    refine lv_iinc (v := v_2) (k := 4) (lv' := [(4, .int v_2), (0, .ref (q + 7)), (1, .int x1), (2, .int x2), (3, .int x3)]) hx hb dX11_copyRow_25 hl rfl (by rw [ev_2]; rfl) (by decide) rfl (fun ls hl => ?_)
    refine lv_goto (tgt := 3) hx hb dX11_copyRow_28 (by decide) ?_
    exact hw _ _ _ (lv_sub hl [1, 2, 3, 4, 0] rfl) hM hS
set_option maxRecDepth 20000 in
theorem t_m_copyRow_7_0 {p : Program} {l : Launch} {e : Env} {s : State} {m : MethodId} {args : Array Value} {below : List Frame} {meth : Method} {c : Code} {E : zE} {q : Nat} {f_code : Int32} {a_tape : Nat → Int32} {a_size : Nat → Int32} {a_fault : Nat → Int32} {a_faultPlace : Nat → Int32} {a_many : Nat → Int32} {a_lands : Nat → Int32} {a_evenings : Nat → Int32} {a_sights : Nat → Int32} {a_choirs : Nat → Int32} {f_reached : Int32} {f_length : Int32} {f_begins : Int32} {f_sort : Int32} {f_value : Int32} {f_word : Int64} {f_wrongAt : Int32} {f_laterFault : Int32} {f_laterPlace : Int32} {a_told : Nat → Int32} {a_read : Nat → Int32} {f_farHut : Int32} {f_farSinger : Int32} {f_good : Int32} {f_land : Int32} {f_huts : Int32} {f_singers : Int32} {f_evening : Int32} {a_at : Nat → Int32} {a_knows : Nat → Int32} {a_climbed : Nat → Int32} {a_snow : Nat → Int32} {a_level : Nat → Int32} {f_begun : Int32} {f_minute : Int32} {f_avalanches : Int32} {a_run : Nat → Int32} {a_covers : Nat → Int32} {a_routes : Nat → Int32} {a_longest : Nat → Int32} {a_steep : Nat → Int32} {a_laid : Nat → Int32} {a_far : Nat → Int32} {f_sight : Int32} {a_runs : Nat → Int32} {f_choir : Int32} {f_voices : Int32} {a_rest : Nat → Int64} {a_wins : Nat → Int32} {f_seed : Int32} {a_other : Nat → Int32} {a_kept : Nat → Int32} {post : (Nat → Int32) → Prop} {x1 : Int32} {x2 : Int32} {x3 : Int32} {ls : Array Slot} {H : Heap} {locs : List Loc}
    (zc : zC p s m args meth c cX11_copyRow 5 RX11 none)
    (hK : zK E s)
    (hM : mW E q f_code a_tape a_size a_fault a_faultPlace a_many a_lands a_evenings a_sights a_choirs f_reached f_length f_begins f_sort f_value f_word f_wrongAt f_laterFault f_laterPlace a_told a_read f_farHut f_farSinger f_good f_land f_huts f_singers f_evening a_at a_knows a_climbed a_snow a_level f_begun f_minute f_avalanches a_run a_covers a_routes a_longest a_steep a_laid a_far f_sight a_runs f_choir f_voices a_rest a_wins f_seed a_other a_kept H)
    (hS : va_S (mA q) s.heap H locs)
    (hl : lv_has ls 5 [(0, .ref (q + 7)), (1, .int x1), (2, .int x2), (3, .int x3)])
    (hw : q_m_copyRow_7_0 a_evenings x1 x2 x3 post) :
    W p l e rm_m_copyRow_7 s m args below meth c H locs 0 0 (MQ below (zQv (S := (Nat → Int32)) (fun u => post u) (fun u H => mW E q f_code a_tape a_size a_fault a_faultPlace a_many a_lands u a_sights a_choirs f_reached f_length f_begins f_sort f_value f_word f_wrongAt f_laterFault f_laterPlace a_told a_read f_farHut f_farSinger f_good f_land f_huts f_singers f_evening a_at a_knows a_climbed a_snow a_level f_begun f_minute f_avalanches a_run a_covers a_routes a_longest a_steep a_laid a_far f_sight a_runs f_choir f_voices a_rest a_wins f_seed a_other a_kept H) (mA q)) args s 0 0 (mA q)) (F0 m 0 ls []) := by
  have hx := zc.1
  have hb := zc.2.1
  refine lv_iconst (v := (0 : Int32)) hx hb dX11_copyRow_0 (by decide) ?_
  refine lv_istore (lv' := [(4, .int (0 : Int32)), (0, .ref (q + 7)), (1, .int x1), (2, .int x2), (3, .int x3)]) hx hb dX11_copyRow_1 hl (by decide) rfl (fun ls hl => ?_)
  exact t_m_copyRow_7_3 zc hK hM hS  (lv_sub hl [1, 2, 3, 4, 0] rfl) hw
set_option maxRecDepth 20000 in
theorem c_m_copyRow_7 (l : Launch) {E : zE} {q : Nat} {f_code : Int32} {a_tape : Nat → Int32} {a_size : Nat → Int32} {a_fault : Nat → Int32} {a_faultPlace : Nat → Int32} {a_many : Nat → Int32} {a_lands : Nat → Int32} {a_evenings : Nat → Int32} {a_sights : Nat → Int32} {a_choirs : Nat → Int32} {f_reached : Int32} {f_length : Int32} {f_begins : Int32} {f_sort : Int32} {f_value : Int32} {f_word : Int64} {f_wrongAt : Int32} {f_laterFault : Int32} {f_laterPlace : Int32} {a_told : Nat → Int32} {a_read : Nat → Int32} {f_farHut : Int32} {f_farSinger : Int32} {f_good : Int32} {f_land : Int32} {f_huts : Int32} {f_singers : Int32} {f_evening : Int32} {a_at : Nat → Int32} {a_knows : Nat → Int32} {a_climbed : Nat → Int32} {a_snow : Nat → Int32} {a_level : Nat → Int32} {f_begun : Int32} {f_minute : Int32} {f_avalanches : Int32} {a_run : Nat → Int32} {a_covers : Nat → Int32} {a_routes : Nat → Int32} {a_longest : Nat → Int32} {a_steep : Nat → Int32} {a_laid : Nat → Int32} {a_far : Nat → Int32} {f_sight : Int32} {a_runs : Nat → Int32} {f_choir : Int32} {f_voices : Int32} {a_rest : Nat → Int64} {a_wins : Nat → Int32} {f_seed : Int32} {a_other : Nat → Int32} {a_kept : Nat → Int32} {x1 : Int32} {x2 : Int32} {x3 : Int32} {post : (Nat → Int32) → Prop} (hw : q_m_copyRow_7_0 a_evenings x1 x2 x3 post) : Met l yX11_copyRow (Cond.code yX11_copyRow cX11_copyRow 5 none :: zb) rm_m_copyRow_7 (va_Pc [.ref (q + 7), .int x1, .int x2, .int x3] (fun U => mW E q f_code a_tape a_size a_fault a_faultPlace a_many a_lands a_evenings a_sights a_choirs f_reached f_length f_begins f_sort f_value f_word f_wrongAt f_laterFault f_laterPlace a_told a_read f_farHut f_farSinger f_good f_land f_huts f_singers f_evening a_at a_knows a_climbed a_snow a_level f_begun f_minute f_avalanches a_run a_covers a_routes a_longest a_steep a_laid a_far f_sight a_runs f_choir f_voices a_rest a_wins f_seed a_other a_kept U.heap ∧ zK E U)) (zQv (S := (Nat → Int32)) (fun u => post u) (fun u H => mW E q f_code a_tape a_size a_fault a_faultPlace a_many a_lands u a_sights a_choirs f_reached f_length f_begins f_sort f_value f_word f_wrongAt f_laterFault f_laterPlace a_told a_read f_farHut f_farSinger f_good f_land f_huts f_singers f_evening a_at a_knows a_climbed a_snow a_level f_begun f_minute f_avalanches a_run a_covers a_routes a_longest a_steep a_laid a_far f_sight a_runs f_choir f_voices a_rest a_wins f_seed a_other a_kept H) (mA q)) 0 0 (mA q) := by
  refine Met.ofW (cc := cX11_copyRow) (maxL := 5) (ret := none) (by decide) rfl ?_
  intro p e s m args below meth c s₁ B hml hv
  obtain ⟨rfl, hM, hK⟩ := hv
  have zc := zc_of B hml
  have hl := lv_entry ([.ref (q + 7), .int x1, .int x2, .int x3]) (n := 5) (Nat.le_of_ble_eq_true rfl)
  rw [lg_entry_eq]
  generalize (lg_sl ([.ref (q + 7), .int x1, .int x2, .int x3]) ++ List.replicate (5 - (lg_sl ([.ref (q + 7), .int x1, .int x2, .int x3])).length) Slot.unset).toArray = ls at hl ⊢
  have hl : lv_has ls 5 [(0, .ref (q + 7)), (1, .int x1), (2, .int x2), (3, .int x3)] := hl
  exact t_m_copyRow_7_0 zc hK hM va_S.rf (lv_sub hl [0, 1, 2, 3] rfl) hw
-- m_copyRow_8
abbrev rm_m_copyRow_8 : Room := { frames := 0, cells := 0, slots := 0, locals := 0 }
def q_m_copyRow_8_3 (a_sights : Nat → Int32) (x1 : Int32) (x2 : Int32) (x3 : Int32) (x4 : Int32) (post : (Nat → Int32) → Prop) : Prop :=
  ∀ P3 : Int32 → (Nat → Int32) → Prop, (∀ (x4 : Int32) (a_sights : Nat → Int32), ((x1 ≤ x4 → (post a_sights)) ∧ (¬ x1 ≤ x4 → (vp_in ((x1 * x2) + x4) 248 ∧ (∀ v_1 : Int32, v_1 = (a_sights (Int32.toNatClampNeg ((x1 * x2) + x4))) → (vp_in ((x1 * x3) + x4) 248 ∧ (∀ a_sights_1 : Nat → Int32, a_sights_1 = upd a_sights (Int32.toNatClampNeg ((x1 * x3) + x4)) v_1 → (∀ v_2 : Int32, v_2 = x4 + (1 : Int32) → (P3 v_2 a_sights_1)))))))) → P3 x4 a_sights) → P3 x4 a_sights
def q_m_copyRow_8_0 (a_sights : Nat → Int32) (x1 : Int32) (x2 : Int32) (x3 : Int32) (post : (Nat → Int32) → Prop) : Prop :=
  q_m_copyRow_8_3 a_sights x1 x2 x3 (0 : Int32) post
set_option maxRecDepth 20000 in
theorem t_m_copyRow_8_3 {p : Program} {l : Launch} {e : Env} {s : State} {m : MethodId} {args : Array Value} {below : List Frame} {meth : Method} {c : Code} {E : zE} {q : Nat} {f_code : Int32} {a_tape : Nat → Int32} {a_size : Nat → Int32} {a_fault : Nat → Int32} {a_faultPlace : Nat → Int32} {a_many : Nat → Int32} {a_lands : Nat → Int32} {a_evenings : Nat → Int32} {a_sights : Nat → Int32} {a_choirs : Nat → Int32} {f_reached : Int32} {f_length : Int32} {f_begins : Int32} {f_sort : Int32} {f_value : Int32} {f_word : Int64} {f_wrongAt : Int32} {f_laterFault : Int32} {f_laterPlace : Int32} {a_told : Nat → Int32} {a_read : Nat → Int32} {f_farHut : Int32} {f_farSinger : Int32} {f_good : Int32} {f_land : Int32} {f_huts : Int32} {f_singers : Int32} {f_evening : Int32} {a_at : Nat → Int32} {a_knows : Nat → Int32} {a_climbed : Nat → Int32} {a_snow : Nat → Int32} {a_level : Nat → Int32} {f_begun : Int32} {f_minute : Int32} {f_avalanches : Int32} {a_run : Nat → Int32} {a_covers : Nat → Int32} {a_routes : Nat → Int32} {a_longest : Nat → Int32} {a_steep : Nat → Int32} {a_laid : Nat → Int32} {a_far : Nat → Int32} {f_sight : Int32} {a_runs : Nat → Int32} {f_choir : Int32} {f_voices : Int32} {a_rest : Nat → Int64} {a_wins : Nat → Int32} {f_seed : Int32} {a_other : Nat → Int32} {a_kept : Nat → Int32} {post : (Nat → Int32) → Prop} {x1 : Int32} {x2 : Int32} {x3 : Int32} {x4 : Int32} {ls : Array Slot} {H : Heap} {locs : List Loc}
    (zc : zC p s m args meth c cX11_copyRow 5 RX11 none)
    (hK : zK E s)
    (hM : mW E q f_code a_tape a_size a_fault a_faultPlace a_many a_lands a_evenings a_sights a_choirs f_reached f_length f_begins f_sort f_value f_word f_wrongAt f_laterFault f_laterPlace a_told a_read f_farHut f_farSinger f_good f_land f_huts f_singers f_evening a_at a_knows a_climbed a_snow a_level f_begun f_minute f_avalanches a_run a_covers a_routes a_longest a_steep a_laid a_far f_sight a_runs f_choir f_voices a_rest a_wins f_seed a_other a_kept H)
    (hS : va_S (mA q) s.heap H locs)
    (hl : lv_has ls 5 [(0, .ref (q + 8)), (1, .int x1), (2, .int x2), (3, .int x3), (4, .int x4)])
    (hw : q_m_copyRow_8_3 a_sights x1 x2 x3 x4 post) :
    W p l e rm_m_copyRow_8 s m args below meth c H locs 0 0 (MQ below (zQv (S := (Nat → Int32)) (fun u => post u) (fun u H => mW E q f_code a_tape a_size a_fault a_faultPlace a_many a_lands a_evenings u a_choirs f_reached f_length f_begins f_sort f_value f_word f_wrongAt f_laterFault f_laterPlace a_told a_read f_farHut f_farSinger f_good f_land f_huts f_singers f_evening a_at a_knows a_climbed a_snow a_level f_begun f_minute f_avalanches a_run a_covers a_routes a_longest a_steep a_laid a_far f_sight a_runs f_choir f_voices a_rest a_wins f_seed a_other a_kept H) (mA q)) args s 0 0 (mA q)) (F0 m 3 ls []) := by
  have hx := zc.1
  have hb := zc.2.1
  refine hw (fun x4 a_sights => ∀ (H : Heap) (locs : List Loc) (ls : Array Slot), lv_has ls 5 [(0, .ref (q + 8)), (1, .int x1), (2, .int x2), (3, .int x3), (4, .int x4)] → mW E q f_code a_tape a_size a_fault a_faultPlace a_many a_lands a_evenings a_sights a_choirs f_reached f_length f_begins f_sort f_value f_word f_wrongAt f_laterFault f_laterPlace a_told a_read f_farHut f_farSinger f_good f_land f_huts f_singers f_evening a_at a_knows a_climbed a_snow a_level f_begun f_minute f_avalanches a_run a_covers a_routes a_longest a_steep a_laid a_far f_sight a_runs f_choir f_voices a_rest a_wins f_seed a_other a_kept H → va_S (mA q) s.heap H locs → W p l e rm_m_copyRow_8 s m args below meth c H locs 0 0 (MQ below (zQv (S := (Nat → Int32)) (fun u => post u) (fun u H => mW E q f_code a_tape a_size a_fault a_faultPlace a_many a_lands a_evenings u a_choirs f_reached f_length f_begins f_sort f_value f_word f_wrongAt f_laterFault f_laterPlace a_told a_read f_farHut f_farSinger f_good f_land f_huts f_singers f_evening a_at a_knows a_climbed a_snow a_level f_begun f_minute f_avalanches a_run a_covers a_routes a_longest a_steep a_laid a_far f_sight a_runs f_choir f_voices a_rest a_wins f_seed a_other a_kept H) (mA q)) args s 0 0 (mA q)) (F0 m 3 ls [])) ?_ _ _ _ hl hM hS
  intro x4 a_sights hw H locs ls hl hM hS
  refine lv_iload hx hb dX11_copyRow_3 (lv_at hl 4 rfl) ?_
  refine lv_iload_n hx hb dX11_copyRow_5 rfl (lv_at hl 1 rfl) ?_
  refine lv_icmp_ge (tgt := 31) hx hb dX11_copyRow_6 (by decide) (fun hc => ?_) (fun hc => ?_)
  · have hw := hw.1 hc
    exact zret_vw a_sights zc hS hw hM dX11_copyRow_31
  · have hw := hw.2 hc
    refine lv_aload_n hx hb dX11_copyRow_9 rfl (lv_at hl 0 rfl) ?_
    refine lv_iload_n hx hb dX11_copyRow_10 rfl (lv_at hl 1 rfl) ?_
    refine lv_iload_n hx hb dX11_copyRow_11 rfl (lv_at hl 3 rfl) ?_
    refine lv_imul hx hb dX11_copyRow_12 ?_
    refine lv_iload hx hb dX11_copyRow_13 (lv_at hl 4 rfl) ?_
    refine lv_iadd hx hb dX11_copyRow_15 ?_
    refine lv_aload_n hx hb dX11_copyRow_16 rfl (lv_at hl 0 rfl) ?_
    refine lv_iload_n hx hb dX11_copyRow_17 rfl (lv_at hl 1 rfl) ?_
    refine lv_iload_n hx hb dX11_copyRow_18 rfl (lv_at hl 2 rfl) ?_
    refine lv_imul hx hb dX11_copyRow_19 ?_
    refine lv_iload hx hb dX11_copyRow_20 (lv_at hl 4 rfl) ?_
    refine lv_iadd hx hb dX11_copyRow_22 ?_
    refine mld_8 zc hK hM hw.1 dX11_copyRow_23 ?_
    have hw := hw.2
    refine lv_topi (fun v_1 ev_1 => ?_)
    have hw := hw v_1 ev_1
    refine mst_8 zc hK hM hS hw.1 dX11_copyRow_24 (fun a_sights_1 H locs ea_sights_1 hM hS => ?_)
    have hw := hw.2 a_sights_1 ea_sights_1
    obtain ⟨v_2, ev_2⟩ : ∃ y : Int32, y = x4 + (1 : Int32) := ⟨_, rfl⟩
    have hw := hw v_2 ev_2
    refine lv_iinc (v := v_2) (k := 4) (lv' := [(4, .int v_2), (0, .ref (q + 8)), (1, .int x1), (2, .int x2), (3, .int x3)]) hx hb dX11_copyRow_25 hl rfl (by rw [ev_2]; rfl) (by decide) rfl (fun ls hl => ?_)
    refine lv_goto (tgt := 3) hx hb dX11_copyRow_28 (by decide) ?_
    exact hw _ _ _ (lv_sub hl [1, 2, 3, 4, 0] rfl) hM hS
set_option maxRecDepth 20000 in
theorem t_m_copyRow_8_0 {p : Program} {l : Launch} {e : Env} {s : State} {m : MethodId} {args : Array Value} {below : List Frame} {meth : Method} {c : Code} {E : zE} {q : Nat} {f_code : Int32} {a_tape : Nat → Int32} {a_size : Nat → Int32} {a_fault : Nat → Int32} {a_faultPlace : Nat → Int32} {a_many : Nat → Int32} {a_lands : Nat → Int32} {a_evenings : Nat → Int32} {a_sights : Nat → Int32} {a_choirs : Nat → Int32} {f_reached : Int32} {f_length : Int32} {f_begins : Int32} {f_sort : Int32} {f_value : Int32} {f_word : Int64} {f_wrongAt : Int32} {f_laterFault : Int32} {f_laterPlace : Int32} {a_told : Nat → Int32} {a_read : Nat → Int32} {f_farHut : Int32} {f_farSinger : Int32} {f_good : Int32} {f_land : Int32} {f_huts : Int32} {f_singers : Int32} {f_evening : Int32} {a_at : Nat → Int32} {a_knows : Nat → Int32} {a_climbed : Nat → Int32} {a_snow : Nat → Int32} {a_level : Nat → Int32} {f_begun : Int32} {f_minute : Int32} {f_avalanches : Int32} {a_run : Nat → Int32} {a_covers : Nat → Int32} {a_routes : Nat → Int32} {a_longest : Nat → Int32} {a_steep : Nat → Int32} {a_laid : Nat → Int32} {a_far : Nat → Int32} {f_sight : Int32} {a_runs : Nat → Int32} {f_choir : Int32} {f_voices : Int32} {a_rest : Nat → Int64} {a_wins : Nat → Int32} {f_seed : Int32} {a_other : Nat → Int32} {a_kept : Nat → Int32} {post : (Nat → Int32) → Prop} {x1 : Int32} {x2 : Int32} {x3 : Int32} {ls : Array Slot} {H : Heap} {locs : List Loc}
    (zc : zC p s m args meth c cX11_copyRow 5 RX11 none)
    (hK : zK E s)
    (hM : mW E q f_code a_tape a_size a_fault a_faultPlace a_many a_lands a_evenings a_sights a_choirs f_reached f_length f_begins f_sort f_value f_word f_wrongAt f_laterFault f_laterPlace a_told a_read f_farHut f_farSinger f_good f_land f_huts f_singers f_evening a_at a_knows a_climbed a_snow a_level f_begun f_minute f_avalanches a_run a_covers a_routes a_longest a_steep a_laid a_far f_sight a_runs f_choir f_voices a_rest a_wins f_seed a_other a_kept H)
    (hS : va_S (mA q) s.heap H locs)
    (hl : lv_has ls 5 [(0, .ref (q + 8)), (1, .int x1), (2, .int x2), (3, .int x3)])
    (hw : q_m_copyRow_8_0 a_sights x1 x2 x3 post) :
    W p l e rm_m_copyRow_8 s m args below meth c H locs 0 0 (MQ below (zQv (S := (Nat → Int32)) (fun u => post u) (fun u H => mW E q f_code a_tape a_size a_fault a_faultPlace a_many a_lands a_evenings u a_choirs f_reached f_length f_begins f_sort f_value f_word f_wrongAt f_laterFault f_laterPlace a_told a_read f_farHut f_farSinger f_good f_land f_huts f_singers f_evening a_at a_knows a_climbed a_snow a_level f_begun f_minute f_avalanches a_run a_covers a_routes a_longest a_steep a_laid a_far f_sight a_runs f_choir f_voices a_rest a_wins f_seed a_other a_kept H) (mA q)) args s 0 0 (mA q)) (F0 m 0 ls []) := by
  have hx := zc.1
  have hb := zc.2.1
  refine lv_iconst (v := (0 : Int32)) hx hb dX11_copyRow_0 (by decide) ?_
  refine lv_istore (lv' := [(4, .int (0 : Int32)), (0, .ref (q + 8)), (1, .int x1), (2, .int x2), (3, .int x3)]) hx hb dX11_copyRow_1 hl (by decide) rfl (fun ls hl => ?_)
  exact t_m_copyRow_8_3 zc hK hM hS  (lv_sub hl [1, 2, 3, 4, 0] rfl) hw
set_option maxRecDepth 20000 in
theorem c_m_copyRow_8 (l : Launch) {E : zE} {q : Nat} {f_code : Int32} {a_tape : Nat → Int32} {a_size : Nat → Int32} {a_fault : Nat → Int32} {a_faultPlace : Nat → Int32} {a_many : Nat → Int32} {a_lands : Nat → Int32} {a_evenings : Nat → Int32} {a_sights : Nat → Int32} {a_choirs : Nat → Int32} {f_reached : Int32} {f_length : Int32} {f_begins : Int32} {f_sort : Int32} {f_value : Int32} {f_word : Int64} {f_wrongAt : Int32} {f_laterFault : Int32} {f_laterPlace : Int32} {a_told : Nat → Int32} {a_read : Nat → Int32} {f_farHut : Int32} {f_farSinger : Int32} {f_good : Int32} {f_land : Int32} {f_huts : Int32} {f_singers : Int32} {f_evening : Int32} {a_at : Nat → Int32} {a_knows : Nat → Int32} {a_climbed : Nat → Int32} {a_snow : Nat → Int32} {a_level : Nat → Int32} {f_begun : Int32} {f_minute : Int32} {f_avalanches : Int32} {a_run : Nat → Int32} {a_covers : Nat → Int32} {a_routes : Nat → Int32} {a_longest : Nat → Int32} {a_steep : Nat → Int32} {a_laid : Nat → Int32} {a_far : Nat → Int32} {f_sight : Int32} {a_runs : Nat → Int32} {f_choir : Int32} {f_voices : Int32} {a_rest : Nat → Int64} {a_wins : Nat → Int32} {f_seed : Int32} {a_other : Nat → Int32} {a_kept : Nat → Int32} {x1 : Int32} {x2 : Int32} {x3 : Int32} {post : (Nat → Int32) → Prop} (hw : q_m_copyRow_8_0 a_sights x1 x2 x3 post) : Met l yX11_copyRow (Cond.code yX11_copyRow cX11_copyRow 5 none :: zb) rm_m_copyRow_8 (va_Pc [.ref (q + 8), .int x1, .int x2, .int x3] (fun U => mW E q f_code a_tape a_size a_fault a_faultPlace a_many a_lands a_evenings a_sights a_choirs f_reached f_length f_begins f_sort f_value f_word f_wrongAt f_laterFault f_laterPlace a_told a_read f_farHut f_farSinger f_good f_land f_huts f_singers f_evening a_at a_knows a_climbed a_snow a_level f_begun f_minute f_avalanches a_run a_covers a_routes a_longest a_steep a_laid a_far f_sight a_runs f_choir f_voices a_rest a_wins f_seed a_other a_kept U.heap ∧ zK E U)) (zQv (S := (Nat → Int32)) (fun u => post u) (fun u H => mW E q f_code a_tape a_size a_fault a_faultPlace a_many a_lands a_evenings u a_choirs f_reached f_length f_begins f_sort f_value f_word f_wrongAt f_laterFault f_laterPlace a_told a_read f_farHut f_farSinger f_good f_land f_huts f_singers f_evening a_at a_knows a_climbed a_snow a_level f_begun f_minute f_avalanches a_run a_covers a_routes a_longest a_steep a_laid a_far f_sight a_runs f_choir f_voices a_rest a_wins f_seed a_other a_kept H) (mA q)) 0 0 (mA q) := by
  refine Met.ofW (cc := cX11_copyRow) (maxL := 5) (ret := none) (by decide) rfl ?_
  intro p e s m args below meth c s₁ B hml hv
  obtain ⟨rfl, hM, hK⟩ := hv
  have zc := zc_of B hml
  have hl := lv_entry ([.ref (q + 8), .int x1, .int x2, .int x3]) (n := 5) (Nat.le_of_ble_eq_true rfl)
  rw [lg_entry_eq]
  generalize (lg_sl ([.ref (q + 8), .int x1, .int x2, .int x3]) ++ List.replicate (5 - (lg_sl ([.ref (q + 8), .int x1, .int x2, .int x3])).length) Slot.unset).toArray = ls at hl ⊢
  have hl : lv_has ls 5 [(0, .ref (q + 8)), (1, .int x1), (2, .int x2), (3, .int x3)] := hl
  exact t_m_copyRow_8_0 zc hK hM va_S.rf (lv_sub hl [0, 1, 2, 3] rfl) hw
-- m_copyRow_9
abbrev rm_m_copyRow_9 : Room := { frames := 0, cells := 0, slots := 0, locals := 0 }
def q_m_copyRow_9_3 (a_choirs : Nat → Int32) (x1 : Int32) (x2 : Int32) (x3 : Int32) (x4 : Int32) (post : (Nat → Int32) → Prop) : Prop :=
  ∀ P3 : Int32 → (Nat → Int32) → Prop, (∀ (x4 : Int32) (a_choirs : Nat → Int32), ((x1 ≤ x4 → (post a_choirs)) ∧ (¬ x1 ≤ x4 → (vp_in ((x1 * x2) + x4) 160 ∧ (∀ v_1 : Int32, v_1 = (a_choirs (Int32.toNatClampNeg ((x1 * x2) + x4))) → (vp_in ((x1 * x3) + x4) 160 ∧ (∀ a_choirs_1 : Nat → Int32, a_choirs_1 = upd a_choirs (Int32.toNatClampNeg ((x1 * x3) + x4)) v_1 → (∀ v_2 : Int32, v_2 = x4 + (1 : Int32) → (P3 v_2 a_choirs_1)))))))) → P3 x4 a_choirs) → P3 x4 a_choirs
def q_m_copyRow_9_0 (a_choirs : Nat → Int32) (x1 : Int32) (x2 : Int32) (x3 : Int32) (post : (Nat → Int32) → Prop) : Prop :=
  q_m_copyRow_9_3 a_choirs x1 x2 x3 (0 : Int32) post
set_option maxRecDepth 20000 in
theorem t_m_copyRow_9_3 {p : Program} {l : Launch} {e : Env} {s : State} {m : MethodId} {args : Array Value} {below : List Frame} {meth : Method} {c : Code} {E : zE} {q : Nat} {f_code : Int32} {a_tape : Nat → Int32} {a_size : Nat → Int32} {a_fault : Nat → Int32} {a_faultPlace : Nat → Int32} {a_many : Nat → Int32} {a_lands : Nat → Int32} {a_evenings : Nat → Int32} {a_sights : Nat → Int32} {a_choirs : Nat → Int32} {f_reached : Int32} {f_length : Int32} {f_begins : Int32} {f_sort : Int32} {f_value : Int32} {f_word : Int64} {f_wrongAt : Int32} {f_laterFault : Int32} {f_laterPlace : Int32} {a_told : Nat → Int32} {a_read : Nat → Int32} {f_farHut : Int32} {f_farSinger : Int32} {f_good : Int32} {f_land : Int32} {f_huts : Int32} {f_singers : Int32} {f_evening : Int32} {a_at : Nat → Int32} {a_knows : Nat → Int32} {a_climbed : Nat → Int32} {a_snow : Nat → Int32} {a_level : Nat → Int32} {f_begun : Int32} {f_minute : Int32} {f_avalanches : Int32} {a_run : Nat → Int32} {a_covers : Nat → Int32} {a_routes : Nat → Int32} {a_longest : Nat → Int32} {a_steep : Nat → Int32} {a_laid : Nat → Int32} {a_far : Nat → Int32} {f_sight : Int32} {a_runs : Nat → Int32} {f_choir : Int32} {f_voices : Int32} {a_rest : Nat → Int64} {a_wins : Nat → Int32} {f_seed : Int32} {a_other : Nat → Int32} {a_kept : Nat → Int32} {post : (Nat → Int32) → Prop} {x1 : Int32} {x2 : Int32} {x3 : Int32} {x4 : Int32} {ls : Array Slot} {H : Heap} {locs : List Loc}
    (zc : zC p s m args meth c cX11_copyRow 5 RX11 none)
    (hK : zK E s)
    (hM : mW E q f_code a_tape a_size a_fault a_faultPlace a_many a_lands a_evenings a_sights a_choirs f_reached f_length f_begins f_sort f_value f_word f_wrongAt f_laterFault f_laterPlace a_told a_read f_farHut f_farSinger f_good f_land f_huts f_singers f_evening a_at a_knows a_climbed a_snow a_level f_begun f_minute f_avalanches a_run a_covers a_routes a_longest a_steep a_laid a_far f_sight a_runs f_choir f_voices a_rest a_wins f_seed a_other a_kept H)
    (hS : va_S (mA q) s.heap H locs)
    (hl : lv_has ls 5 [(0, .ref (q + 9)), (1, .int x1), (2, .int x2), (3, .int x3), (4, .int x4)])
    (hw : q_m_copyRow_9_3 a_choirs x1 x2 x3 x4 post) :
    W p l e rm_m_copyRow_9 s m args below meth c H locs 0 0 (MQ below (zQv (S := (Nat → Int32)) (fun u => post u) (fun u H => mW E q f_code a_tape a_size a_fault a_faultPlace a_many a_lands a_evenings a_sights u f_reached f_length f_begins f_sort f_value f_word f_wrongAt f_laterFault f_laterPlace a_told a_read f_farHut f_farSinger f_good f_land f_huts f_singers f_evening a_at a_knows a_climbed a_snow a_level f_begun f_minute f_avalanches a_run a_covers a_routes a_longest a_steep a_laid a_far f_sight a_runs f_choir f_voices a_rest a_wins f_seed a_other a_kept H) (mA q)) args s 0 0 (mA q)) (F0 m 3 ls []) := by
  have hx := zc.1
  have hb := zc.2.1
  refine hw (fun x4 a_choirs => ∀ (H : Heap) (locs : List Loc) (ls : Array Slot), lv_has ls 5 [(0, .ref (q + 9)), (1, .int x1), (2, .int x2), (3, .int x3), (4, .int x4)] → mW E q f_code a_tape a_size a_fault a_faultPlace a_many a_lands a_evenings a_sights a_choirs f_reached f_length f_begins f_sort f_value f_word f_wrongAt f_laterFault f_laterPlace a_told a_read f_farHut f_farSinger f_good f_land f_huts f_singers f_evening a_at a_knows a_climbed a_snow a_level f_begun f_minute f_avalanches a_run a_covers a_routes a_longest a_steep a_laid a_far f_sight a_runs f_choir f_voices a_rest a_wins f_seed a_other a_kept H → va_S (mA q) s.heap H locs → W p l e rm_m_copyRow_9 s m args below meth c H locs 0 0 (MQ below (zQv (S := (Nat → Int32)) (fun u => post u) (fun u H => mW E q f_code a_tape a_size a_fault a_faultPlace a_many a_lands a_evenings a_sights u f_reached f_length f_begins f_sort f_value f_word f_wrongAt f_laterFault f_laterPlace a_told a_read f_farHut f_farSinger f_good f_land f_huts f_singers f_evening a_at a_knows a_climbed a_snow a_level f_begun f_minute f_avalanches a_run a_covers a_routes a_longest a_steep a_laid a_far f_sight a_runs f_choir f_voices a_rest a_wins f_seed a_other a_kept H) (mA q)) args s 0 0 (mA q)) (F0 m 3 ls [])) ?_ _ _ _ hl hM hS
  intro x4 a_choirs hw H locs ls hl hM hS
  refine lv_iload hx hb dX11_copyRow_3 (lv_at hl 4 rfl) ?_
  refine lv_iload_n hx hb dX11_copyRow_5 rfl (lv_at hl 1 rfl) ?_
  refine lv_icmp_ge (tgt := 31) hx hb dX11_copyRow_6 (by decide) (fun hc => ?_) (fun hc => ?_)
  · have hw := hw.1 hc
    exact zret_vw a_choirs zc hS hw hM dX11_copyRow_31
  · have hw := hw.2 hc
    refine lv_aload_n hx hb dX11_copyRow_9 rfl (lv_at hl 0 rfl) ?_
    refine lv_iload_n hx hb dX11_copyRow_10 rfl (lv_at hl 1 rfl) ?_
    refine lv_iload_n hx hb dX11_copyRow_11 rfl (lv_at hl 3 rfl) ?_
    refine lv_imul hx hb dX11_copyRow_12 ?_
    refine lv_iload hx hb dX11_copyRow_13 (lv_at hl 4 rfl) ?_
    refine lv_iadd hx hb dX11_copyRow_15 ?_
    refine lv_aload_n hx hb dX11_copyRow_16 rfl (lv_at hl 0 rfl) ?_
    refine lv_iload_n hx hb dX11_copyRow_17 rfl (lv_at hl 1 rfl) ?_
    refine lv_iload_n hx hb dX11_copyRow_18 rfl (lv_at hl 2 rfl) ?_
    refine lv_imul hx hb dX11_copyRow_19 ?_
    refine lv_iload hx hb dX11_copyRow_20 (lv_at hl 4 rfl) ?_
    refine lv_iadd hx hb dX11_copyRow_22 ?_
    refine mld_9 zc hK hM hw.1 dX11_copyRow_23 ?_
    have hw := hw.2
    refine lv_topi (fun v_1 ev_1 => ?_)
    have hw := hw v_1 ev_1
    refine mst_9 zc hK hM hS hw.1 dX11_copyRow_24 (fun a_choirs_1 H locs ea_choirs_1 hM hS => ?_)
    have hw := hw.2 a_choirs_1 ea_choirs_1
    obtain ⟨v_2, ev_2⟩ : ∃ y : Int32, y = x4 + (1 : Int32) := ⟨_, rfl⟩
    have hw := hw v_2 ev_2
    refine lv_iinc (v := v_2) (k := 4) (lv' := [(4, .int v_2), (0, .ref (q + 9)), (1, .int x1), (2, .int x2), (3, .int x3)]) hx hb dX11_copyRow_25 hl rfl (by rw [ev_2]; rfl) (by decide) rfl (fun ls hl => ?_)
    refine lv_goto (tgt := 3) hx hb dX11_copyRow_28 (by decide) ?_
    exact hw _ _ _ (lv_sub hl [1, 2, 3, 4, 0] rfl) hM hS
set_option maxRecDepth 20000 in
theorem t_m_copyRow_9_0 {p : Program} {l : Launch} {e : Env} {s : State} {m : MethodId} {args : Array Value} {below : List Frame} {meth : Method} {c : Code} {E : zE} {q : Nat} {f_code : Int32} {a_tape : Nat → Int32} {a_size : Nat → Int32} {a_fault : Nat → Int32} {a_faultPlace : Nat → Int32} {a_many : Nat → Int32} {a_lands : Nat → Int32} {a_evenings : Nat → Int32} {a_sights : Nat → Int32} {a_choirs : Nat → Int32} {f_reached : Int32} {f_length : Int32} {f_begins : Int32} {f_sort : Int32} {f_value : Int32} {f_word : Int64} {f_wrongAt : Int32} {f_laterFault : Int32} {f_laterPlace : Int32} {a_told : Nat → Int32} {a_read : Nat → Int32} {f_farHut : Int32} {f_farSinger : Int32} {f_good : Int32} {f_land : Int32} {f_huts : Int32} {f_singers : Int32} {f_evening : Int32} {a_at : Nat → Int32} {a_knows : Nat → Int32} {a_climbed : Nat → Int32} {a_snow : Nat → Int32} {a_level : Nat → Int32} {f_begun : Int32} {f_minute : Int32} {f_avalanches : Int32} {a_run : Nat → Int32} {a_covers : Nat → Int32} {a_routes : Nat → Int32} {a_longest : Nat → Int32} {a_steep : Nat → Int32} {a_laid : Nat → Int32} {a_far : Nat → Int32} {f_sight : Int32} {a_runs : Nat → Int32} {f_choir : Int32} {f_voices : Int32} {a_rest : Nat → Int64} {a_wins : Nat → Int32} {f_seed : Int32} {a_other : Nat → Int32} {a_kept : Nat → Int32} {post : (Nat → Int32) → Prop} {x1 : Int32} {x2 : Int32} {x3 : Int32} {ls : Array Slot} {H : Heap} {locs : List Loc}
    (zc : zC p s m args meth c cX11_copyRow 5 RX11 none)
    (hK : zK E s)
    (hM : mW E q f_code a_tape a_size a_fault a_faultPlace a_many a_lands a_evenings a_sights a_choirs f_reached f_length f_begins f_sort f_value f_word f_wrongAt f_laterFault f_laterPlace a_told a_read f_farHut f_farSinger f_good f_land f_huts f_singers f_evening a_at a_knows a_climbed a_snow a_level f_begun f_minute f_avalanches a_run a_covers a_routes a_longest a_steep a_laid a_far f_sight a_runs f_choir f_voices a_rest a_wins f_seed a_other a_kept H)
    (hS : va_S (mA q) s.heap H locs)
    (hl : lv_has ls 5 [(0, .ref (q + 9)), (1, .int x1), (2, .int x2), (3, .int x3)])
    (hw : q_m_copyRow_9_0 a_choirs x1 x2 x3 post) :
    W p l e rm_m_copyRow_9 s m args below meth c H locs 0 0 (MQ below (zQv (S := (Nat → Int32)) (fun u => post u) (fun u H => mW E q f_code a_tape a_size a_fault a_faultPlace a_many a_lands a_evenings a_sights u f_reached f_length f_begins f_sort f_value f_word f_wrongAt f_laterFault f_laterPlace a_told a_read f_farHut f_farSinger f_good f_land f_huts f_singers f_evening a_at a_knows a_climbed a_snow a_level f_begun f_minute f_avalanches a_run a_covers a_routes a_longest a_steep a_laid a_far f_sight a_runs f_choir f_voices a_rest a_wins f_seed a_other a_kept H) (mA q)) args s 0 0 (mA q)) (F0 m 0 ls []) := by
  have hx := zc.1
  have hb := zc.2.1
  refine lv_iconst (v := (0 : Int32)) hx hb dX11_copyRow_0 (by decide) ?_
  refine lv_istore (lv' := [(4, .int (0 : Int32)), (0, .ref (q + 9)), (1, .int x1), (2, .int x2), (3, .int x3)]) hx hb dX11_copyRow_1 hl (by decide) rfl (fun ls hl => ?_)
  exact t_m_copyRow_9_3 zc hK hM hS  (lv_sub hl [1, 2, 3, 4, 0] rfl) hw
set_option maxRecDepth 20000 in
theorem c_m_copyRow_9 (l : Launch) {E : zE} {q : Nat} {f_code : Int32} {a_tape : Nat → Int32} {a_size : Nat → Int32} {a_fault : Nat → Int32} {a_faultPlace : Nat → Int32} {a_many : Nat → Int32} {a_lands : Nat → Int32} {a_evenings : Nat → Int32} {a_sights : Nat → Int32} {a_choirs : Nat → Int32} {f_reached : Int32} {f_length : Int32} {f_begins : Int32} {f_sort : Int32} {f_value : Int32} {f_word : Int64} {f_wrongAt : Int32} {f_laterFault : Int32} {f_laterPlace : Int32} {a_told : Nat → Int32} {a_read : Nat → Int32} {f_farHut : Int32} {f_farSinger : Int32} {f_good : Int32} {f_land : Int32} {f_huts : Int32} {f_singers : Int32} {f_evening : Int32} {a_at : Nat → Int32} {a_knows : Nat → Int32} {a_climbed : Nat → Int32} {a_snow : Nat → Int32} {a_level : Nat → Int32} {f_begun : Int32} {f_minute : Int32} {f_avalanches : Int32} {a_run : Nat → Int32} {a_covers : Nat → Int32} {a_routes : Nat → Int32} {a_longest : Nat → Int32} {a_steep : Nat → Int32} {a_laid : Nat → Int32} {a_far : Nat → Int32} {f_sight : Int32} {a_runs : Nat → Int32} {f_choir : Int32} {f_voices : Int32} {a_rest : Nat → Int64} {a_wins : Nat → Int32} {f_seed : Int32} {a_other : Nat → Int32} {a_kept : Nat → Int32} {x1 : Int32} {x2 : Int32} {x3 : Int32} {post : (Nat → Int32) → Prop} (hw : q_m_copyRow_9_0 a_choirs x1 x2 x3 post) : Met l yX11_copyRow (Cond.code yX11_copyRow cX11_copyRow 5 none :: zb) rm_m_copyRow_9 (va_Pc [.ref (q + 9), .int x1, .int x2, .int x3] (fun U => mW E q f_code a_tape a_size a_fault a_faultPlace a_many a_lands a_evenings a_sights a_choirs f_reached f_length f_begins f_sort f_value f_word f_wrongAt f_laterFault f_laterPlace a_told a_read f_farHut f_farSinger f_good f_land f_huts f_singers f_evening a_at a_knows a_climbed a_snow a_level f_begun f_minute f_avalanches a_run a_covers a_routes a_longest a_steep a_laid a_far f_sight a_runs f_choir f_voices a_rest a_wins f_seed a_other a_kept U.heap ∧ zK E U)) (zQv (S := (Nat → Int32)) (fun u => post u) (fun u H => mW E q f_code a_tape a_size a_fault a_faultPlace a_many a_lands a_evenings a_sights u f_reached f_length f_begins f_sort f_value f_word f_wrongAt f_laterFault f_laterPlace a_told a_read f_farHut f_farSinger f_good f_land f_huts f_singers f_evening a_at a_knows a_climbed a_snow a_level f_begun f_minute f_avalanches a_run a_covers a_routes a_longest a_steep a_laid a_far f_sight a_runs f_choir f_voices a_rest a_wins f_seed a_other a_kept H) (mA q)) 0 0 (mA q) := by
  refine Met.ofW (cc := cX11_copyRow) (maxL := 5) (ret := none) (by decide) rfl ?_
  intro p e s m args below meth c s₁ B hml hv
  obtain ⟨rfl, hM, hK⟩ := hv
  have zc := zc_of B hml
  have hl := lv_entry ([.ref (q + 9), .int x1, .int x2, .int x3]) (n := 5) (Nat.le_of_ble_eq_true rfl)
  rw [lg_entry_eq]
  generalize (lg_sl ([.ref (q + 9), .int x1, .int x2, .int x3]) ++ List.replicate (5 - (lg_sl ([.ref (q + 9), .int x1, .int x2, .int x3])).length) Slot.unset).toArray = ls at hl ⊢
  have hl : lv_has ls 5 [(0, .ref (q + 9)), (1, .int x1), (2, .int x2), (3, .int x3)] := hl
  exact t_m_copyRow_9_0 zc hK hM va_S.rf (lv_sub hl [0, 1, 2, 3] rfl) hw
-- m_copyAll
abbrev rm_m_copyAll : Room := { frames := 1, cells := 0, slots := 0, locals := 24 }
def q_m_copyAll_2 (a_tape : Nat → Int32) (a_size : Nat → Int32) (a_fault : Nat → Int32) (a_faultPlace : Nat → Int32) (a_many : Nat → Int32) (a_lands : Nat → Int32) (a_evenings : Nat → Int32) (a_sights : Nat → Int32) (a_choirs : Nat → Int32) (x1 : Int32) (x2 : Int32) (x3 : Int32) (post : (Nat → Int32) → (Nat → Int32) → (Nat → Int32) → (Nat → Int32) → (Nat → Int32) → (Nat → Int32) → (Nat → Int32) → (Nat → Int32) → (Nat → Int32) → Prop) : Prop :=
  ∀ P2 : Int32 → (Nat → Int32) → Prop, (∀ (x3 : Int32) (a_tape : Nat → Int32), (((600 : Int32) ≤ x3 → (q_m_copyRow_2_0 a_size (1 : Int32) x1 x2 (fun a_size_1 => q_m_copyRow_3_0 a_fault (1 : Int32) x1 x2 (fun a_fault_1 => q_m_copyRow_4_0 a_faultPlace (1 : Int32) x1 x2 (fun a_faultPlace_1 => q_m_copyRow_5_0 a_many (4 : Int32) x1 x2 (fun a_many_1 => q_m_copyRow_6_0 a_lands (264 : Int32) x1 x2 (fun a_lands_1 => q_m_copyRow_7_0 a_evenings (242 : Int32) x1 x2 (fun a_evenings_1 => q_m_copyRow_8_0 a_sights (62 : Int32) x1 x2 (fun a_sights_1 => q_m_copyRow_9_0 a_choirs (40 : Int32) x1 x2 (fun a_choirs_1 => post a_tape a_size_1 a_fault_1 a_faultPlace_1 a_many_1 a_lands_1 a_evenings_1 a_sights_1 a_choirs_1)))))))))) ∧ (¬ (600 : Int32) ≤ x3 → (vp_in (((600 : Int32) * x1) + x3) 2400 ∧ (∀ v_1 : Int32, v_1 = (a_tape (Int32.toNatClampNeg (((600 : Int32) * x1) + x3))) → (vp_in (((600 : Int32) * x2) + x3) 2400 ∧ (∀ a_tape_1 : Nat → Int32, a_tape_1 = upd a_tape (Int32.toNatClampNeg (((600 : Int32) * x2) + x3)) (vp_nar .byte v_1) → (∀ v_2 : Int32, v_2 = x3 + (1 : Int32) → (P2 v_2 a_tape_1)))))))) → P2 x3 a_tape) → P2 x3 a_tape
def q_m_copyAll_0 (a_tape : Nat → Int32) (a_size : Nat → Int32) (a_fault : Nat → Int32) (a_faultPlace : Nat → Int32) (a_many : Nat → Int32) (a_lands : Nat → Int32) (a_evenings : Nat → Int32) (a_sights : Nat → Int32) (a_choirs : Nat → Int32) (x1 : Int32) (x2 : Int32) (post : (Nat → Int32) → (Nat → Int32) → (Nat → Int32) → (Nat → Int32) → (Nat → Int32) → (Nat → Int32) → (Nat → Int32) → (Nat → Int32) → (Nat → Int32) → Prop) : Prop :=
  q_m_copyAll_2 a_tape a_size a_fault a_faultPlace a_many a_lands a_evenings a_sights a_choirs x1 x2 (0 : Int32) post
set_option maxRecDepth 20000 in
theorem t_m_copyAll_2 {p : Program} {l : Launch} {e : Env} {s : State} {m : MethodId} {args : Array Value} {below : List Frame} {meth : Method} {c : Code} {E : zE} {q : Nat} {f_code : Int32} {a_tape : Nat → Int32} {a_size : Nat → Int32} {a_fault : Nat → Int32} {a_faultPlace : Nat → Int32} {a_many : Nat → Int32} {a_lands : Nat → Int32} {a_evenings : Nat → Int32} {a_sights : Nat → Int32} {a_choirs : Nat → Int32} {f_reached : Int32} {f_length : Int32} {f_begins : Int32} {f_sort : Int32} {f_value : Int32} {f_word : Int64} {f_wrongAt : Int32} {f_laterFault : Int32} {f_laterPlace : Int32} {a_told : Nat → Int32} {a_read : Nat → Int32} {f_farHut : Int32} {f_farSinger : Int32} {f_good : Int32} {f_land : Int32} {f_huts : Int32} {f_singers : Int32} {f_evening : Int32} {a_at : Nat → Int32} {a_knows : Nat → Int32} {a_climbed : Nat → Int32} {a_snow : Nat → Int32} {a_level : Nat → Int32} {f_begun : Int32} {f_minute : Int32} {f_avalanches : Int32} {a_run : Nat → Int32} {a_covers : Nat → Int32} {a_routes : Nat → Int32} {a_longest : Nat → Int32} {a_steep : Nat → Int32} {a_laid : Nat → Int32} {a_far : Nat → Int32} {f_sight : Int32} {a_runs : Nat → Int32} {f_choir : Int32} {f_voices : Int32} {a_rest : Nat → Int64} {a_wins : Nat → Int32} {f_seed : Int32} {a_other : Nat → Int32} {a_kept : Nat → Int32} {post : (Nat → Int32) → (Nat → Int32) → (Nat → Int32) → (Nat → Int32) → (Nat → Int32) → (Nat → Int32) → (Nat → Int32) → (Nat → Int32) → (Nat → Int32) → Prop} {x1 : Int32} {x2 : Int32} {x3 : Int32} {ls : Array Slot} {H : Heap} {locs : List Loc}
    (zc : zC p s m args meth c cX11_copyAll 4 RX11 none)
    (hK : zK E s)
    (hM : mW E q f_code a_tape a_size a_fault a_faultPlace a_many a_lands a_evenings a_sights a_choirs f_reached f_length f_begins f_sort f_value f_word f_wrongAt f_laterFault f_laterPlace a_told a_read f_farHut f_farSinger f_good f_land f_huts f_singers f_evening a_at a_knows a_climbed a_snow a_level f_begun f_minute f_avalanches a_run a_covers a_routes a_longest a_steep a_laid a_far f_sight a_runs f_choir f_voices a_rest a_wins f_seed a_other a_kept H)
    (hS : va_S (mA q) s.heap H locs)
    (hl : lv_has ls 4 [(0, .ref q), (1, .int x1), (2, .int x2), (3, .int x3)])
    (hw : q_m_copyAll_2 a_tape a_size a_fault a_faultPlace a_many a_lands a_evenings a_sights a_choirs x1 x2 x3 post) :
    W p l e rm_m_copyAll s m args below meth c H locs 0 0 (MQ below (zQv (S := (Nat → Int32) × (Nat → Int32) × (Nat → Int32) × (Nat → Int32) × (Nat → Int32) × (Nat → Int32) × (Nat → Int32) × (Nat → Int32) × (Nat → Int32)) (fun u => post u.1 u.2.1 u.2.2.1 u.2.2.2.1 u.2.2.2.2.1 u.2.2.2.2.2.1 u.2.2.2.2.2.2.1 u.2.2.2.2.2.2.2.1 u.2.2.2.2.2.2.2.2) (fun u H => mW E q f_code u.1 u.2.1 u.2.2.1 u.2.2.2.1 u.2.2.2.2.1 u.2.2.2.2.2.1 u.2.2.2.2.2.2.1 u.2.2.2.2.2.2.2.1 u.2.2.2.2.2.2.2.2 f_reached f_length f_begins f_sort f_value f_word f_wrongAt f_laterFault f_laterPlace a_told a_read f_farHut f_farSinger f_good f_land f_huts f_singers f_evening a_at a_knows a_climbed a_snow a_level f_begun f_minute f_avalanches a_run a_covers a_routes a_longest a_steep a_laid a_far f_sight a_runs f_choir f_voices a_rest a_wins f_seed a_other a_kept H) (mA q)) args s 0 0 (mA q)) (F0 m 2 ls []) := by
  have hx := zc.1
  have hb := zc.2.1
  refine hw (fun x3 a_tape => ∀ (H : Heap) (locs : List Loc) (ls : Array Slot), lv_has ls 4 [(0, .ref q), (1, .int x1), (2, .int x2), (3, .int x3)] → mW E q f_code a_tape a_size a_fault a_faultPlace a_many a_lands a_evenings a_sights a_choirs f_reached f_length f_begins f_sort f_value f_word f_wrongAt f_laterFault f_laterPlace a_told a_read f_farHut f_farSinger f_good f_land f_huts f_singers f_evening a_at a_knows a_climbed a_snow a_level f_begun f_minute f_avalanches a_run a_covers a_routes a_longest a_steep a_laid a_far f_sight a_runs f_choir f_voices a_rest a_wins f_seed a_other a_kept H → va_S (mA q) s.heap H locs → W p l e rm_m_copyAll s m args below meth c H locs 0 0 (MQ below (zQv (S := (Nat → Int32) × (Nat → Int32) × (Nat → Int32) × (Nat → Int32) × (Nat → Int32) × (Nat → Int32) × (Nat → Int32) × (Nat → Int32) × (Nat → Int32)) (fun u => post u.1 u.2.1 u.2.2.1 u.2.2.2.1 u.2.2.2.2.1 u.2.2.2.2.2.1 u.2.2.2.2.2.2.1 u.2.2.2.2.2.2.2.1 u.2.2.2.2.2.2.2.2) (fun u H => mW E q f_code u.1 u.2.1 u.2.2.1 u.2.2.2.1 u.2.2.2.2.1 u.2.2.2.2.2.1 u.2.2.2.2.2.2.1 u.2.2.2.2.2.2.2.1 u.2.2.2.2.2.2.2.2 f_reached f_length f_begins f_sort f_value f_word f_wrongAt f_laterFault f_laterPlace a_told a_read f_farHut f_farSinger f_good f_land f_huts f_singers f_evening a_at a_knows a_climbed a_snow a_level f_begun f_minute f_avalanches a_run a_covers a_routes a_longest a_steep a_laid a_far f_sight a_runs f_choir f_voices a_rest a_wins f_seed a_other a_kept H) (mA q)) args s 0 0 (mA q)) (F0 m 2 ls [])) ?_ _ _ _ hl hM hS
  intro x3 a_tape hw H locs ls hl hM hS
  refine lv_iload_n hx hb dX11_copyAll_2 rfl (lv_at hl 3 rfl) ?_
  refine lv_sipush (v := (600 : Int32)) hx hb dX11_copyAll_3 (by decide) ?_
  refine lv_icmp_ge (tgt := 39) hx hb dX11_copyAll_6 (by decide) (fun hc => ?_) (fun hc => ?_)
  · have hw := hw.1 hc
    refine lv_aload_n hx hb dX11_copyAll_39 rfl (lv_at hl 0 rfl) ?_
    refine mg_11_13_0 zc hK hM dX11_copyAll_40 ?_
    refine lv_iconst (v := (1 : Int32)) hx hb dX11_copyAll_43 (by decide) ?_
    refine lv_iload_n hx hb dX11_copyAll_44 rfl (lv_at hl 1 rfl) ?_
    refine lv_iload_n hx hb dX11_copyAll_45 rfl (lv_at hl 2 rfl) ?_
    refine zSw_v [.ref (q + 2), .int (1 : Int32), .int x1, .int x2] [] zc ky_X11_copyRow kz_X11_copyRow km_11_105 (c_m_copyRow_2 l hw) (mPreS hK hM) hS rfl rfl hl.1 (Nat.le_of_ble_eq_true rfl) ⟨rfl, rfl⟩ ⟨Nat.le_of_ble_eq_true rfl, Nat.le_of_ble_eq_true rfl⟩ ⟨(Nat.zero_le _), (Nat.zero_le _)⟩ dX11_copyAll_46 (fun a_size_1 H locs hw hM hS => ?_)
    refine lv_aload_n hx hb dX11_copyAll_49 rfl (lv_at hl 0 rfl) ?_
    refine mg_11_17_0 zc hK hM dX11_copyAll_50 ?_
    refine lv_iconst (v := (1 : Int32)) hx hb dX11_copyAll_53 (by decide) ?_
    refine lv_iload_n hx hb dX11_copyAll_54 rfl (lv_at hl 1 rfl) ?_
    refine lv_iload_n hx hb dX11_copyAll_55 rfl (lv_at hl 2 rfl) ?_
    refine zSw_v [.ref (q + 3), .int (1 : Int32), .int x1, .int x2] [] zc ky_X11_copyRow kz_X11_copyRow km_11_105 (c_m_copyRow_3 l hw) (mPreS hK hM) hS rfl rfl hl.1 (Nat.le_of_ble_eq_true rfl) ⟨rfl, rfl⟩ ⟨Nat.le_of_ble_eq_true rfl, Nat.le_of_ble_eq_true rfl⟩ ⟨(Nat.zero_le _), (Nat.zero_le _)⟩ dX11_copyAll_56 (fun a_fault_1 H locs hw hM hS => ?_)
    refine lv_aload_n hx hb dX11_copyAll_59 rfl (lv_at hl 0 rfl) ?_
    refine mg_11_20_0 zc hK hM dX11_copyAll_60 ?_
    refine lv_iconst (v := (1 : Int32)) hx hb dX11_copyAll_63 (by decide) ?_
    refine lv_iload_n hx hb dX11_copyAll_64 rfl (lv_at hl 1 rfl) ?_
    refine lv_iload_n hx hb dX11_copyAll_65 rfl (lv_at hl 2 rfl) ?_
    refine zSw_v [.ref (q + 4), .int (1 : Int32), .int x1, .int x2] [] zc ky_X11_copyRow kz_X11_copyRow km_11_105 (c_m_copyRow_4 l hw) (mPreS hK hM) hS rfl rfl hl.1 (Nat.le_of_ble_eq_true rfl) ⟨rfl, rfl⟩ ⟨Nat.le_of_ble_eq_true rfl, Nat.le_of_ble_eq_true rfl⟩ ⟨(Nat.zero_le _), (Nat.zero_le _)⟩ dX11_copyAll_66 (fun a_faultPlace_1 H locs hw hM hS => ?_)
    refine lv_aload_n hx hb dX11_copyAll_69 rfl (lv_at hl 0 rfl) ?_
    refine mg_11_23_0 zc hK hM dX11_copyAll_70 ?_
    refine lv_iconst (v := (4 : Int32)) hx hb dX11_copyAll_73 (by decide) ?_
    refine lv_iload_n hx hb dX11_copyAll_74 rfl (lv_at hl 1 rfl) ?_
    refine lv_iload_n hx hb dX11_copyAll_75 rfl (lv_at hl 2 rfl) ?_
    refine zSw_v [.ref (q + 5), .int (4 : Int32), .int x1, .int x2] [] zc ky_X11_copyRow kz_X11_copyRow km_11_105 (c_m_copyRow_5 l hw) (mPreS hK hM) hS rfl rfl hl.1 (Nat.le_of_ble_eq_true rfl) ⟨rfl, rfl⟩ ⟨Nat.le_of_ble_eq_true rfl, Nat.le_of_ble_eq_true rfl⟩ ⟨(Nat.zero_le _), (Nat.zero_le _)⟩ dX11_copyAll_76 (fun a_many_1 H locs hw hM hS => ?_)
    refine lv_aload_n hx hb dX11_copyAll_79 rfl (lv_at hl 0 rfl) ?_
    refine mg_11_26_0 zc hK hM dX11_copyAll_80 ?_
    refine lv_sipush (v := (264 : Int32)) hx hb dX11_copyAll_83 (by decide) ?_
    refine lv_iload_n hx hb dX11_copyAll_86 rfl (lv_at hl 1 rfl) ?_
    refine lv_iload_n hx hb dX11_copyAll_87 rfl (lv_at hl 2 rfl) ?_
    refine zSw_v [.ref (q + 6), .int (264 : Int32), .int x1, .int x2] [] zc ky_X11_copyRow kz_X11_copyRow km_11_105 (c_m_copyRow_6 l hw) (mPreS hK hM) hS rfl rfl hl.1 (Nat.le_of_ble_eq_true rfl) ⟨rfl, rfl⟩ ⟨Nat.le_of_ble_eq_true rfl, Nat.le_of_ble_eq_true rfl⟩ ⟨(Nat.zero_le _), (Nat.zero_le _)⟩ dX11_copyAll_88 (fun a_lands_1 H locs hw hM hS => ?_)
    refine lv_aload_n hx hb dX11_copyAll_91 rfl (lv_at hl 0 rfl) ?_
    refine mg_11_29_0 zc hK hM dX11_copyAll_92 ?_
    refine lv_sipush (v := (242 : Int32)) hx hb dX11_copyAll_95 (by decide) ?_
    refine lv_iload_n hx hb dX11_copyAll_98 rfl (lv_at hl 1 rfl) ?_
    refine lv_iload_n hx hb dX11_copyAll_99 rfl (lv_at hl 2 rfl) ?_
    refine zSw_v [.ref (q + 7), .int (242 : Int32), .int x1, .int x2] [] zc ky_X11_copyRow kz_X11_copyRow km_11_105 (c_m_copyRow_7 l hw) (mPreS hK hM) hS rfl rfl hl.1 (Nat.le_of_ble_eq_true rfl) ⟨rfl, rfl⟩ ⟨Nat.le_of_ble_eq_true rfl, Nat.le_of_ble_eq_true rfl⟩ ⟨(Nat.zero_le _), (Nat.zero_le _)⟩ dX11_copyAll_100 (fun a_evenings_1 H locs hw hM hS => ?_)
    refine lv_aload_n hx hb dX11_copyAll_103 rfl (lv_at hl 0 rfl) ?_
    refine mg_11_32_0 zc hK hM dX11_copyAll_104 ?_
    refine lv_bipush (v := (62 : Int32)) hx hb dX11_copyAll_107 (by decide) ?_
    refine lv_iload_n hx hb dX11_copyAll_109 rfl (lv_at hl 1 rfl) ?_
    refine lv_iload_n hx hb dX11_copyAll_110 rfl (lv_at hl 2 rfl) ?_
    refine zSw_v [.ref (q + 8), .int (62 : Int32), .int x1, .int x2] [] zc ky_X11_copyRow kz_X11_copyRow km_11_105 (c_m_copyRow_8 l hw) (mPreS hK hM) hS rfl rfl hl.1 (Nat.le_of_ble_eq_true rfl) ⟨rfl, rfl⟩ ⟨Nat.le_of_ble_eq_true rfl, Nat.le_of_ble_eq_true rfl⟩ ⟨(Nat.zero_le _), (Nat.zero_le _)⟩ dX11_copyAll_111 (fun a_sights_1 H locs hw hM hS => ?_)
    refine lv_aload_n hx hb dX11_copyAll_114 rfl (lv_at hl 0 rfl) ?_
    refine mg_11_35_0 zc hK hM dX11_copyAll_115 ?_
    refine lv_bipush (v := (40 : Int32)) hx hb dX11_copyAll_118 (by decide) ?_
    refine lv_iload_n hx hb dX11_copyAll_120 rfl (lv_at hl 1 rfl) ?_
    refine lv_iload_n hx hb dX11_copyAll_121 rfl (lv_at hl 2 rfl) ?_
    refine zSw_v [.ref (q + 9), .int (40 : Int32), .int x1, .int x2] [] zc ky_X11_copyRow kz_X11_copyRow km_11_105 (c_m_copyRow_9 l hw) (mPreS hK hM) hS rfl rfl hl.1 (Nat.le_of_ble_eq_true rfl) ⟨rfl, rfl⟩ ⟨Nat.le_of_ble_eq_true rfl, Nat.le_of_ble_eq_true rfl⟩ ⟨(Nat.zero_le _), (Nat.zero_le _)⟩ dX11_copyAll_122 (fun a_choirs_1 H locs hw hM hS => ?_)
    exact zret_vw ⟨a_tape, a_size_1, a_fault_1, a_faultPlace_1, a_many_1, a_lands_1, a_evenings_1, a_sights_1, a_choirs_1⟩ zc hS hw hM dX11_copyAll_125
  · have hw := hw.2 hc
    refine lv_aload_n hx hb dX11_copyAll_9 rfl (lv_at hl 0 rfl) ?_
    refine mg_11_7_0 zc hK hM dX11_copyAll_10 ?_
    refine lv_sipush (v := (600 : Int32)) hx hb dX11_copyAll_13 (by decide) ?_
    refine lv_iload_n hx hb dX11_copyAll_16 rfl (lv_at hl 2 rfl) ?_
    refine lv_imul hx hb dX11_copyAll_17 ?_
    refine lv_iload_n hx hb dX11_copyAll_18 rfl (lv_at hl 3 rfl) ?_
    refine lv_iadd hx hb dX11_copyAll_19 ?_
    refine lv_aload_n hx hb dX11_copyAll_20 rfl (lv_at hl 0 rfl) ?_
    refine mg_11_7_0 zc hK hM dX11_copyAll_21 ?_
    refine lv_sipush (v := (600 : Int32)) hx hb dX11_copyAll_24 (by decide) ?_
    refine lv_iload_n hx hb dX11_copyAll_27 rfl (lv_at hl 1 rfl) ?_
    refine lv_imul hx hb dX11_copyAll_28 ?_
    refine lv_iload_n hx hb dX11_copyAll_29 rfl (lv_at hl 3 rfl) ?_
    refine lv_iadd hx hb dX11_copyAll_30 ?_
    refine mld_1 zc hK hM hw.1 dX11_copyAll_31 ?_
    have hw := hw.2
    refine lv_topi (fun v_1 ev_1 => ?_)
    have hw := hw v_1 ev_1
    refine mst_1 zc hK hM hS hw.1 dX11_copyAll_32 (fun a_tape_1 H locs ea_tape_1 hM hS => ?_)
    have hw := hw.2 a_tape_1 ea_tape_1
    obtain ⟨v_2, ev_2⟩ : ∃ y : Int32, y = x3 + (1 : Int32) := ⟨_, rfl⟩
    have hw := hw v_2 ev_2
    refine lv_iinc (v := v_2) (k := 3) (lv' := [(3, .int v_2), (0, .ref q), (1, .int x1), (2, .int x2)]) hx hb dX11_copyAll_33 hl rfl (by rw [ev_2]; rfl) (by decide) rfl (fun ls hl => ?_)
    refine lv_goto (tgt := 2) hx hb dX11_copyAll_36 (by decide) ?_
    exact hw _ _ _ (lv_sub hl [1, 2, 3, 0] rfl) hM hS
set_option maxRecDepth 20000 in
theorem t_m_copyAll_0 {p : Program} {l : Launch} {e : Env} {s : State} {m : MethodId} {args : Array Value} {below : List Frame} {meth : Method} {c : Code} {E : zE} {q : Nat} {f_code : Int32} {a_tape : Nat → Int32} {a_size : Nat → Int32} {a_fault : Nat → Int32} {a_faultPlace : Nat → Int32} {a_many : Nat → Int32} {a_lands : Nat → Int32} {a_evenings : Nat → Int32} {a_sights : Nat → Int32} {a_choirs : Nat → Int32} {f_reached : Int32} {f_length : Int32} {f_begins : Int32} {f_sort : Int32} {f_value : Int32} {f_word : Int64} {f_wrongAt : Int32} {f_laterFault : Int32} {f_laterPlace : Int32} {a_told : Nat → Int32} {a_read : Nat → Int32} {f_farHut : Int32} {f_farSinger : Int32} {f_good : Int32} {f_land : Int32} {f_huts : Int32} {f_singers : Int32} {f_evening : Int32} {a_at : Nat → Int32} {a_knows : Nat → Int32} {a_climbed : Nat → Int32} {a_snow : Nat → Int32} {a_level : Nat → Int32} {f_begun : Int32} {f_minute : Int32} {f_avalanches : Int32} {a_run : Nat → Int32} {a_covers : Nat → Int32} {a_routes : Nat → Int32} {a_longest : Nat → Int32} {a_steep : Nat → Int32} {a_laid : Nat → Int32} {a_far : Nat → Int32} {f_sight : Int32} {a_runs : Nat → Int32} {f_choir : Int32} {f_voices : Int32} {a_rest : Nat → Int64} {a_wins : Nat → Int32} {f_seed : Int32} {a_other : Nat → Int32} {a_kept : Nat → Int32} {post : (Nat → Int32) → (Nat → Int32) → (Nat → Int32) → (Nat → Int32) → (Nat → Int32) → (Nat → Int32) → (Nat → Int32) → (Nat → Int32) → (Nat → Int32) → Prop} {x1 : Int32} {x2 : Int32} {ls : Array Slot} {H : Heap} {locs : List Loc}
    (zc : zC p s m args meth c cX11_copyAll 4 RX11 none)
    (hK : zK E s)
    (hM : mW E q f_code a_tape a_size a_fault a_faultPlace a_many a_lands a_evenings a_sights a_choirs f_reached f_length f_begins f_sort f_value f_word f_wrongAt f_laterFault f_laterPlace a_told a_read f_farHut f_farSinger f_good f_land f_huts f_singers f_evening a_at a_knows a_climbed a_snow a_level f_begun f_minute f_avalanches a_run a_covers a_routes a_longest a_steep a_laid a_far f_sight a_runs f_choir f_voices a_rest a_wins f_seed a_other a_kept H)
    (hS : va_S (mA q) s.heap H locs)
    (hl : lv_has ls 4 [(0, .ref q), (1, .int x1), (2, .int x2)])
    (hw : q_m_copyAll_0 a_tape a_size a_fault a_faultPlace a_many a_lands a_evenings a_sights a_choirs x1 x2 post) :
    W p l e rm_m_copyAll s m args below meth c H locs 0 0 (MQ below (zQv (S := (Nat → Int32) × (Nat → Int32) × (Nat → Int32) × (Nat → Int32) × (Nat → Int32) × (Nat → Int32) × (Nat → Int32) × (Nat → Int32) × (Nat → Int32)) (fun u => post u.1 u.2.1 u.2.2.1 u.2.2.2.1 u.2.2.2.2.1 u.2.2.2.2.2.1 u.2.2.2.2.2.2.1 u.2.2.2.2.2.2.2.1 u.2.2.2.2.2.2.2.2) (fun u H => mW E q f_code u.1 u.2.1 u.2.2.1 u.2.2.2.1 u.2.2.2.2.1 u.2.2.2.2.2.1 u.2.2.2.2.2.2.1 u.2.2.2.2.2.2.2.1 u.2.2.2.2.2.2.2.2 f_reached f_length f_begins f_sort f_value f_word f_wrongAt f_laterFault f_laterPlace a_told a_read f_farHut f_farSinger f_good f_land f_huts f_singers f_evening a_at a_knows a_climbed a_snow a_level f_begun f_minute f_avalanches a_run a_covers a_routes a_longest a_steep a_laid a_far f_sight a_runs f_choir f_voices a_rest a_wins f_seed a_other a_kept H) (mA q)) args s 0 0 (mA q)) (F0 m 0 ls []) := by
  have hx := zc.1
  have hb := zc.2.1
  refine lv_iconst (v := (0 : Int32)) hx hb dX11_copyAll_0 (by decide) ?_
  refine lv_istore_n (lv' := [(3, .int (0 : Int32)), (0, .ref q), (1, .int x1), (2, .int x2)]) hx hb dX11_copyAll_1 rfl hl (by decide) rfl (fun ls hl => ?_)
  exact t_m_copyAll_2 zc hK hM hS  (lv_sub hl [1, 2, 3, 0] rfl) hw
set_option maxRecDepth 20000 in
theorem c_m_copyAll (l : Launch) {E : zE} {q : Nat} {f_code : Int32} {a_tape : Nat → Int32} {a_size : Nat → Int32} {a_fault : Nat → Int32} {a_faultPlace : Nat → Int32} {a_many : Nat → Int32} {a_lands : Nat → Int32} {a_evenings : Nat → Int32} {a_sights : Nat → Int32} {a_choirs : Nat → Int32} {f_reached : Int32} {f_length : Int32} {f_begins : Int32} {f_sort : Int32} {f_value : Int32} {f_word : Int64} {f_wrongAt : Int32} {f_laterFault : Int32} {f_laterPlace : Int32} {a_told : Nat → Int32} {a_read : Nat → Int32} {f_farHut : Int32} {f_farSinger : Int32} {f_good : Int32} {f_land : Int32} {f_huts : Int32} {f_singers : Int32} {f_evening : Int32} {a_at : Nat → Int32} {a_knows : Nat → Int32} {a_climbed : Nat → Int32} {a_snow : Nat → Int32} {a_level : Nat → Int32} {f_begun : Int32} {f_minute : Int32} {f_avalanches : Int32} {a_run : Nat → Int32} {a_covers : Nat → Int32} {a_routes : Nat → Int32} {a_longest : Nat → Int32} {a_steep : Nat → Int32} {a_laid : Nat → Int32} {a_far : Nat → Int32} {f_sight : Int32} {a_runs : Nat → Int32} {f_choir : Int32} {f_voices : Int32} {a_rest : Nat → Int64} {a_wins : Nat → Int32} {f_seed : Int32} {a_other : Nat → Int32} {a_kept : Nat → Int32} {x1 : Int32} {x2 : Int32} {post : (Nat → Int32) → (Nat → Int32) → (Nat → Int32) → (Nat → Int32) → (Nat → Int32) → (Nat → Int32) → (Nat → Int32) → (Nat → Int32) → (Nat → Int32) → Prop} (hw : q_m_copyAll_0 a_tape a_size a_fault a_faultPlace a_many a_lands a_evenings a_sights a_choirs x1 x2 post) : Met l yX11_copyAll (Cond.code yX11_copyAll cX11_copyAll 4 none :: zb) rm_m_copyAll (va_Pc [.ref q, .int x1, .int x2] (fun U => mW E q f_code a_tape a_size a_fault a_faultPlace a_many a_lands a_evenings a_sights a_choirs f_reached f_length f_begins f_sort f_value f_word f_wrongAt f_laterFault f_laterPlace a_told a_read f_farHut f_farSinger f_good f_land f_huts f_singers f_evening a_at a_knows a_climbed a_snow a_level f_begun f_minute f_avalanches a_run a_covers a_routes a_longest a_steep a_laid a_far f_sight a_runs f_choir f_voices a_rest a_wins f_seed a_other a_kept U.heap ∧ zK E U)) (zQv (S := (Nat → Int32) × (Nat → Int32) × (Nat → Int32) × (Nat → Int32) × (Nat → Int32) × (Nat → Int32) × (Nat → Int32) × (Nat → Int32) × (Nat → Int32)) (fun u => post u.1 u.2.1 u.2.2.1 u.2.2.2.1 u.2.2.2.2.1 u.2.2.2.2.2.1 u.2.2.2.2.2.2.1 u.2.2.2.2.2.2.2.1 u.2.2.2.2.2.2.2.2) (fun u H => mW E q f_code u.1 u.2.1 u.2.2.1 u.2.2.2.1 u.2.2.2.2.1 u.2.2.2.2.2.1 u.2.2.2.2.2.2.1 u.2.2.2.2.2.2.2.1 u.2.2.2.2.2.2.2.2 f_reached f_length f_begins f_sort f_value f_word f_wrongAt f_laterFault f_laterPlace a_told a_read f_farHut f_farSinger f_good f_land f_huts f_singers f_evening a_at a_knows a_climbed a_snow a_level f_begun f_minute f_avalanches a_run a_covers a_routes a_longest a_steep a_laid a_far f_sight a_runs f_choir f_voices a_rest a_wins f_seed a_other a_kept H) (mA q)) 0 0 (mA q) := by
  refine Met.ofW (cc := cX11_copyAll) (maxL := 4) (ret := none) (by decide) rfl ?_
  intro p e s m args below meth c s₁ B hml hv
  obtain ⟨rfl, hM, hK⟩ := hv
  have zc := zc_of B hml
  have hl := lv_entry ([.ref q, .int x1, .int x2]) (n := 4) (Nat.le_of_ble_eq_true rfl)
  rw [lg_entry_eq]
  generalize (lg_sl ([.ref q, .int x1, .int x2]) ++ List.replicate (4 - (lg_sl ([.ref q, .int x1, .int x2])).length) Slot.unset).toArray = ls at hl ⊢
  have hl : lv_has ls 4 [(0, .ref q), (1, .int x1), (2, .int x2)] := hl
  exact t_m_copyAll_0 zc hK hM va_S.rf (lv_sub hl [0, 1, 2] rfl) hw
-- m_is
abbrev rm_m_is : Room := { frames := 1, cells := 0, slots := 0, locals := 22 }
def q_m_is_0 (a_many : Nat → Int32) (x1 : Int32) (x2 : Int32) (post : Int32 → Prop) : Prop :=
  vp_in x1 16 ∧ (q_m_in_0 x2 (0 : Int32) ((a_many (Int32.toNatClampNeg x1)) - (1 : Int32)) (fun r_1 => narrow .boolean (.int r_1) = .int r_1 ∧ post r_1))
set_option maxRecDepth 20000 in
theorem t_m_is_0 {p : Program} {l : Launch} {e : Env} {s : State} {m : MethodId} {args : Array Value} {below : List Frame} {meth : Method} {c : Code} {E : zE} {q : Nat} {f_code : Int32} {a_tape : Nat → Int32} {a_size : Nat → Int32} {a_fault : Nat → Int32} {a_faultPlace : Nat → Int32} {a_many : Nat → Int32} {a_lands : Nat → Int32} {a_evenings : Nat → Int32} {a_sights : Nat → Int32} {a_choirs : Nat → Int32} {f_reached : Int32} {f_length : Int32} {f_begins : Int32} {f_sort : Int32} {f_value : Int32} {f_word : Int64} {f_wrongAt : Int32} {f_laterFault : Int32} {f_laterPlace : Int32} {a_told : Nat → Int32} {a_read : Nat → Int32} {f_farHut : Int32} {f_farSinger : Int32} {f_good : Int32} {f_land : Int32} {f_huts : Int32} {f_singers : Int32} {f_evening : Int32} {a_at : Nat → Int32} {a_knows : Nat → Int32} {a_climbed : Nat → Int32} {a_snow : Nat → Int32} {a_level : Nat → Int32} {f_begun : Int32} {f_minute : Int32} {f_avalanches : Int32} {a_run : Nat → Int32} {a_covers : Nat → Int32} {a_routes : Nat → Int32} {a_longest : Nat → Int32} {a_steep : Nat → Int32} {a_laid : Nat → Int32} {a_far : Nat → Int32} {f_sight : Int32} {a_runs : Nat → Int32} {f_choir : Int32} {f_voices : Int32} {a_rest : Nat → Int64} {a_wins : Nat → Int32} {f_seed : Int32} {a_other : Nat → Int32} {a_kept : Nat → Int32} {post : Int32 → Prop} {x1 : Int32} {x2 : Int32} {ls : Array Slot}
    (zc : zC p s m args meth c cX11_is 3 RX11 (some .boolean))
    (hK : zK E s)
    (hM : mW E q f_code a_tape a_size a_fault a_faultPlace a_many a_lands a_evenings a_sights a_choirs f_reached f_length f_begins f_sort f_value f_word f_wrongAt f_laterFault f_laterPlace a_told a_read f_farHut f_farSinger f_good f_land f_huts f_singers f_evening a_at a_knows a_climbed a_snow a_level f_begun f_minute f_avalanches a_run a_covers a_routes a_longest a_steep a_laid a_far f_sight a_runs f_choir f_voices a_rest a_wins f_seed a_other a_kept s.heap)
    (hl : lv_has ls 3 [(0, .ref q), (1, .int x1), (2, .int x2)])
    (hw : q_m_is_0 a_many x1 x2 post) :
    W p l e rm_m_is s m args below meth c s.heap [] 0 0 (MQ below (vp_Si post) args s 0 0 (fun _ => False)) (F0 m 0 ls []) := by
  have hx := zc.1
  have hb := zc.2.1
  refine lv_iload_n hx hb dX11_is_0 rfl (lv_at hl 2 rfl) ?_
  refine lv_iconst (v := (0 : Int32)) hx hb dX11_is_1 (by decide) ?_
  refine lv_aload_n hx hb dX11_is_2 rfl (lv_at hl 0 rfl) ?_
  refine mg_11_23_0 zc hK hM dX11_is_3 ?_
  refine lv_iload_n hx hb dX11_is_6 rfl (lv_at hl 1 rfl) ?_
  refine mld_5 zc hK hM hw.1 dX11_is_7 ?_
  have hw := hw.2
  refine lv_iconst (v := (1 : Int32)) hx hb dX11_is_8 (by decide) ?_
  refine lv_isub hx hb dX11_is_9 ?_
  refine zS_i [.int x2, .int (0 : Int32), .int ((a_many (Int32.toNatClampNeg x1)) - (1 : Int32))] [] zc ky_X11_in kz_X11_in km_11_109 (c_m_in l hw) (zPre0 _) rfl rfl hl.1 (Nat.le_of_ble_eq_true rfl) ⟨rfl, rfl⟩ ⟨Nat.le_of_ble_eq_true rfl, Nat.le_of_ble_eq_true rfl⟩ ⟨(Nat.zero_le _), (Nat.zero_le _)⟩ dX11_is_10 (fun r_1 hw => ?_)
  exact zret_z zc hw.1 hw.2 dX11_is_13
set_option maxRecDepth 20000 in
theorem c_m_is (l : Launch) {E : zE} {q : Nat} {f_code : Int32} {a_tape : Nat → Int32} {a_size : Nat → Int32} {a_fault : Nat → Int32} {a_faultPlace : Nat → Int32} {a_many : Nat → Int32} {a_lands : Nat → Int32} {a_evenings : Nat → Int32} {a_sights : Nat → Int32} {a_choirs : Nat → Int32} {f_reached : Int32} {f_length : Int32} {f_begins : Int32} {f_sort : Int32} {f_value : Int32} {f_word : Int64} {f_wrongAt : Int32} {f_laterFault : Int32} {f_laterPlace : Int32} {a_told : Nat → Int32} {a_read : Nat → Int32} {f_farHut : Int32} {f_farSinger : Int32} {f_good : Int32} {f_land : Int32} {f_huts : Int32} {f_singers : Int32} {f_evening : Int32} {a_at : Nat → Int32} {a_knows : Nat → Int32} {a_climbed : Nat → Int32} {a_snow : Nat → Int32} {a_level : Nat → Int32} {f_begun : Int32} {f_minute : Int32} {f_avalanches : Int32} {a_run : Nat → Int32} {a_covers : Nat → Int32} {a_routes : Nat → Int32} {a_longest : Nat → Int32} {a_steep : Nat → Int32} {a_laid : Nat → Int32} {a_far : Nat → Int32} {f_sight : Int32} {a_runs : Nat → Int32} {f_choir : Int32} {f_voices : Int32} {a_rest : Nat → Int64} {a_wins : Nat → Int32} {f_seed : Int32} {a_other : Nat → Int32} {a_kept : Nat → Int32} {x1 : Int32} {x2 : Int32} {post : Int32 → Prop} (hw : q_m_is_0 a_many x1 x2 post) : Met l yX11_is (Cond.code yX11_is cX11_is 3 (some .boolean) :: zb) rm_m_is (va_Pc [.ref q, .int x1, .int x2] (fun U => mW E q f_code a_tape a_size a_fault a_faultPlace a_many a_lands a_evenings a_sights a_choirs f_reached f_length f_begins f_sort f_value f_word f_wrongAt f_laterFault f_laterPlace a_told a_read f_farHut f_farSinger f_good f_land f_huts f_singers f_evening a_at a_knows a_climbed a_snow a_level f_begun f_minute f_avalanches a_run a_covers a_routes a_longest a_steep a_laid a_far f_sight a_runs f_choir f_voices a_rest a_wins f_seed a_other a_kept U.heap ∧ zK E U)) (vp_Si post) 0 0 (fun _ => False) := by
  refine Met.ofW (cc := cX11_is) (maxL := 3) (ret := (some .boolean)) (by decide) rfl ?_
  intro p e s m args below meth c s₁ B hml hv
  obtain ⟨rfl, hM, hK⟩ := hv
  have zc := zc_of B hml
  have hl := lv_entry ([.ref q, .int x1, .int x2]) (n := 3) (Nat.le_of_ble_eq_true rfl)
  rw [lg_entry_eq]
  generalize (lg_sl ([.ref q, .int x1, .int x2]) ++ List.replicate (3 - (lg_sl ([.ref q, .int x1, .int x2])).length) Slot.unset).toArray = ls at hl ⊢
  have hl : lv_has ls 3 [(0, .ref q), (1, .int x1), (2, .int x2)] := hl
  exact t_m_is_0 zc hK hM (lv_sub hl [0, 1, 2] rfl) hw
-- m_four
abbrev rm_m_four : Room := { frames := 0, cells := 0, slots := 0, locals := 0 }
def q_m_four_3 (a_tape : Nat → Int32) (a_size : Nat → Int32) (x1 : Int32) (x2 : Int32) (post : (Nat → Int32) → (Nat → Int32) → Prop) : Prop :=
  ∀ P3 : Int32 → (Nat → Int32) → (Nat → Int32) → Prop, (∀ (x2 : Int32) (a_tape : Nat → Int32) (a_size : Nat → Int32), ((x2 < 0 → (post a_tape a_size)) ∧ (¬ x2 < 0 → (∀ v_1 : Int32, v_1 = (Int32.toInt8 (x1 >>> (x2 &&& 31))).toInt32 → (vp_in (a_size (Int32.toNatClampNeg (0 : Int32))) 2400 ∧ (∀ a_tape_1 : Nat → Int32, a_tape_1 = upd a_tape (Int32.toNatClampNeg (a_size (Int32.toNatClampNeg (0 : Int32)))) (vp_nar .byte v_1) → (∀ v_2 : Int32, v_2 = ((a_size (Int32.toNatClampNeg (0 : Int32))) + (1 : Int32)) → (∀ a_size_1 : Nat → Int32, a_size_1 = upd a_size (Int32.toNatClampNeg (0 : Int32)) v_2 → (∀ v_3 : Int32, v_3 = x2 + (-8 : Int32) → (P3 v_3 a_tape_1 a_size_1))))))))) → P3 x2 a_tape a_size) → P3 x2 a_tape a_size
def q_m_four_0 (a_tape : Nat → Int32) (a_size : Nat → Int32) (x1 : Int32) (post : (Nat → Int32) → (Nat → Int32) → Prop) : Prop :=
  q_m_four_3 a_tape a_size x1 (24 : Int32) post
set_option maxRecDepth 20000 in
theorem t_m_four_3 {p : Program} {l : Launch} {e : Env} {s : State} {m : MethodId} {args : Array Value} {below : List Frame} {meth : Method} {c : Code} {E : zE} {q : Nat} {f_code : Int32} {a_tape : Nat → Int32} {a_size : Nat → Int32} {a_fault : Nat → Int32} {a_faultPlace : Nat → Int32} {a_many : Nat → Int32} {a_lands : Nat → Int32} {a_evenings : Nat → Int32} {a_sights : Nat → Int32} {a_choirs : Nat → Int32} {f_reached : Int32} {f_length : Int32} {f_begins : Int32} {f_sort : Int32} {f_value : Int32} {f_word : Int64} {f_wrongAt : Int32} {f_laterFault : Int32} {f_laterPlace : Int32} {a_told : Nat → Int32} {a_read : Nat → Int32} {f_farHut : Int32} {f_farSinger : Int32} {f_good : Int32} {f_land : Int32} {f_huts : Int32} {f_singers : Int32} {f_evening : Int32} {a_at : Nat → Int32} {a_knows : Nat → Int32} {a_climbed : Nat → Int32} {a_snow : Nat → Int32} {a_level : Nat → Int32} {f_begun : Int32} {f_minute : Int32} {f_avalanches : Int32} {a_run : Nat → Int32} {a_covers : Nat → Int32} {a_routes : Nat → Int32} {a_longest : Nat → Int32} {a_steep : Nat → Int32} {a_laid : Nat → Int32} {a_far : Nat → Int32} {f_sight : Int32} {a_runs : Nat → Int32} {f_choir : Int32} {f_voices : Int32} {a_rest : Nat → Int64} {a_wins : Nat → Int32} {f_seed : Int32} {a_other : Nat → Int32} {a_kept : Nat → Int32} {post : (Nat → Int32) → (Nat → Int32) → Prop} {x1 : Int32} {x2 : Int32} {ls : Array Slot} {H : Heap} {locs : List Loc}
    (zc : zC p s m args meth c cX11_four 3 RX11 none)
    (hK : zK E s)
    (hM : mW E q f_code a_tape a_size a_fault a_faultPlace a_many a_lands a_evenings a_sights a_choirs f_reached f_length f_begins f_sort f_value f_word f_wrongAt f_laterFault f_laterPlace a_told a_read f_farHut f_farSinger f_good f_land f_huts f_singers f_evening a_at a_knows a_climbed a_snow a_level f_begun f_minute f_avalanches a_run a_covers a_routes a_longest a_steep a_laid a_far f_sight a_runs f_choir f_voices a_rest a_wins f_seed a_other a_kept H)
    (hS : va_S (mA q) s.heap H locs)
    (hl : lv_has ls 3 [(0, .ref q), (1, .int x1), (2, .int x2)])
    (hw : q_m_four_3 a_tape a_size x1 x2 post) :
    W p l e rm_m_four s m args below meth c H locs 0 0 (MQ below (zQv (S := (Nat → Int32) × (Nat → Int32)) (fun u => post u.1 u.2) (fun u H => mW E q f_code u.1 u.2 a_fault a_faultPlace a_many a_lands a_evenings a_sights a_choirs f_reached f_length f_begins f_sort f_value f_word f_wrongAt f_laterFault f_laterPlace a_told a_read f_farHut f_farSinger f_good f_land f_huts f_singers f_evening a_at a_knows a_climbed a_snow a_level f_begun f_minute f_avalanches a_run a_covers a_routes a_longest a_steep a_laid a_far f_sight a_runs f_choir f_voices a_rest a_wins f_seed a_other a_kept H) (mA q)) args s 0 0 (mA q)) (F0 m 3 ls []) := by
  have hx := zc.1
  have hb := zc.2.1
  refine hw (fun x2 a_tape a_size => ∀ (H : Heap) (locs : List Loc) (ls : Array Slot), lv_has ls 3 [(0, .ref q), (1, .int x1), (2, .int x2)] → mW E q f_code a_tape a_size a_fault a_faultPlace a_many a_lands a_evenings a_sights a_choirs f_reached f_length f_begins f_sort f_value f_word f_wrongAt f_laterFault f_laterPlace a_told a_read f_farHut f_farSinger f_good f_land f_huts f_singers f_evening a_at a_knows a_climbed a_snow a_level f_begun f_minute f_avalanches a_run a_covers a_routes a_longest a_steep a_laid a_far f_sight a_runs f_choir f_voices a_rest a_wins f_seed a_other a_kept H → va_S (mA q) s.heap H locs → W p l e rm_m_four s m args below meth c H locs 0 0 (MQ below (zQv (S := (Nat → Int32) × (Nat → Int32)) (fun u => post u.1 u.2) (fun u H => mW E q f_code u.1 u.2 a_fault a_faultPlace a_many a_lands a_evenings a_sights a_choirs f_reached f_length f_begins f_sort f_value f_word f_wrongAt f_laterFault f_laterPlace a_told a_read f_farHut f_farSinger f_good f_land f_huts f_singers f_evening a_at a_knows a_climbed a_snow a_level f_begun f_minute f_avalanches a_run a_covers a_routes a_longest a_steep a_laid a_far f_sight a_runs f_choir f_voices a_rest a_wins f_seed a_other a_kept H) (mA q)) args s 0 0 (mA q)) (F0 m 3 ls [])) ?_ _ _ _ hl hM hS
  intro x2 a_tape a_size hw H locs ls hl hM hS
  refine lv_iload_n hx hb dX11_four_3 rfl (lv_at hl 2 rfl) ?_
  refine lv_if_lt (tgt := 38) hx hb dX11_four_4 (by decide) (fun hc => ?_) (fun hc => ?_)
  · have hw := hw.1 hc
    exact zret_vw ⟨a_tape, a_size⟩ zc hS hw hM dX11_four_38
  · have hw := hw.2 hc
    refine lv_aload_n hx hb dX11_four_7 rfl (lv_at hl 0 rfl) ?_
    refine mg_11_7_0 zc hK hM dX11_four_8 ?_
    refine lv_aload_n hx hb dX11_four_11 rfl (lv_at hl 0 rfl) ?_
    refine mg_11_13_0 zc hK hM dX11_four_12 ?_
    refine lv_iconst (v := (0 : Int32)) hx hb dX11_four_15 (by decide) ?_
    refine mld_2 zc hK hM (by unfold vp_in; decide) dX11_four_16 ?_
    refine lv_iload_n hx hb dX11_four_17 rfl (lv_at hl 1 rfl) ?_
    refine lv_iload_n hx hb dX11_four_18 rfl (lv_at hl 2 rfl) ?_
    refine lv_ishr hx hb dX11_four_19 ?_
    refine lv_i2b hx hb dX11_four_20 rfl ?_
    refine lv_topi (fun v_1 ev_1 => ?_)
    have hw := hw v_1 ev_1
    refine mst_1 zc hK hM hS hw.1 dX11_four_21 (fun a_tape_1 H locs ea_tape_1 hM hS => ?_)
    have hw := hw.2 a_tape_1 ea_tape_1
    refine lv_aload_n hx hb dX11_four_22 rfl (lv_at hl 0 rfl) ?_
    refine mg_11_13_0 zc hK hM dX11_four_23 ?_
    refine lv_iconst (v := (0 : Int32)) hx hb dX11_four_26 (by decide) ?_
    refine lv_dup2_11 hx hb dX11_four_27 rfl rfl ?_
    refine mld_2 zc hK hM (by unfold vp_in; decide) dX11_four_28 ?_
    refine lv_iconst (v := (1 : Int32)) hx hb dX11_four_29 (by decide) ?_
    refine lv_iadd hx hb dX11_four_30 ?_
    refine lv_topi (fun v_2 ev_2 => ?_)
    have hw := hw v_2 ev_2
    refine mst_2 zc hK hM hS (by unfold vp_in; decide) dX11_four_31 (fun a_size_1 H locs ea_size_1 hM hS => ?_)
    have hw := hw a_size_1 ea_size_1
    obtain ⟨v_3, ev_3⟩ : ∃ y : Int32, y = x2 + (-8 : Int32) := ⟨_, rfl⟩
    have hw := hw v_3 ev_3
    refine lv_iinc (v := v_3) (k := 2) (lv' := [(2, .int v_3), (0, .ref q), (1, .int x1)]) hx hb dX11_four_32 hl rfl (by rw [ev_3]; rfl) (by decide) rfl (fun ls hl => ?_)
    refine lv_goto (tgt := 3) hx hb dX11_four_35 (by decide) ?_
    exact hw _ _ _ (lv_sub hl [1, 2, 0] rfl) hM hS
set_option maxRecDepth 20000 in
theorem t_m_four_0 {p : Program} {l : Launch} {e : Env} {s : State} {m : MethodId} {args : Array Value} {below : List Frame} {meth : Method} {c : Code} {E : zE} {q : Nat} {f_code : Int32} {a_tape : Nat → Int32} {a_size : Nat → Int32} {a_fault : Nat → Int32} {a_faultPlace : Nat → Int32} {a_many : Nat → Int32} {a_lands : Nat → Int32} {a_evenings : Nat → Int32} {a_sights : Nat → Int32} {a_choirs : Nat → Int32} {f_reached : Int32} {f_length : Int32} {f_begins : Int32} {f_sort : Int32} {f_value : Int32} {f_word : Int64} {f_wrongAt : Int32} {f_laterFault : Int32} {f_laterPlace : Int32} {a_told : Nat → Int32} {a_read : Nat → Int32} {f_farHut : Int32} {f_farSinger : Int32} {f_good : Int32} {f_land : Int32} {f_huts : Int32} {f_singers : Int32} {f_evening : Int32} {a_at : Nat → Int32} {a_knows : Nat → Int32} {a_climbed : Nat → Int32} {a_snow : Nat → Int32} {a_level : Nat → Int32} {f_begun : Int32} {f_minute : Int32} {f_avalanches : Int32} {a_run : Nat → Int32} {a_covers : Nat → Int32} {a_routes : Nat → Int32} {a_longest : Nat → Int32} {a_steep : Nat → Int32} {a_laid : Nat → Int32} {a_far : Nat → Int32} {f_sight : Int32} {a_runs : Nat → Int32} {f_choir : Int32} {f_voices : Int32} {a_rest : Nat → Int64} {a_wins : Nat → Int32} {f_seed : Int32} {a_other : Nat → Int32} {a_kept : Nat → Int32} {post : (Nat → Int32) → (Nat → Int32) → Prop} {x1 : Int32} {ls : Array Slot} {H : Heap} {locs : List Loc}
    (zc : zC p s m args meth c cX11_four 3 RX11 none)
    (hK : zK E s)
    (hM : mW E q f_code a_tape a_size a_fault a_faultPlace a_many a_lands a_evenings a_sights a_choirs f_reached f_length f_begins f_sort f_value f_word f_wrongAt f_laterFault f_laterPlace a_told a_read f_farHut f_farSinger f_good f_land f_huts f_singers f_evening a_at a_knows a_climbed a_snow a_level f_begun f_minute f_avalanches a_run a_covers a_routes a_longest a_steep a_laid a_far f_sight a_runs f_choir f_voices a_rest a_wins f_seed a_other a_kept H)
    (hS : va_S (mA q) s.heap H locs)
    (hl : lv_has ls 3 [(0, .ref q), (1, .int x1)])
    (hw : q_m_four_0 a_tape a_size x1 post) :
    W p l e rm_m_four s m args below meth c H locs 0 0 (MQ below (zQv (S := (Nat → Int32) × (Nat → Int32)) (fun u => post u.1 u.2) (fun u H => mW E q f_code u.1 u.2 a_fault a_faultPlace a_many a_lands a_evenings a_sights a_choirs f_reached f_length f_begins f_sort f_value f_word f_wrongAt f_laterFault f_laterPlace a_told a_read f_farHut f_farSinger f_good f_land f_huts f_singers f_evening a_at a_knows a_climbed a_snow a_level f_begun f_minute f_avalanches a_run a_covers a_routes a_longest a_steep a_laid a_far f_sight a_runs f_choir f_voices a_rest a_wins f_seed a_other a_kept H) (mA q)) args s 0 0 (mA q)) (F0 m 0 ls []) := by
  have hx := zc.1
  have hb := zc.2.1
  refine lv_bipush (v := (24 : Int32)) hx hb dX11_four_0 (by decide) ?_
  refine lv_istore_n (lv' := [(2, .int (24 : Int32)), (0, .ref q), (1, .int x1)]) hx hb dX11_four_2 rfl hl (by decide) rfl (fun ls hl => ?_)
  exact t_m_four_3 zc hK hM hS  (lv_sub hl [1, 2, 0] rfl) hw
set_option maxRecDepth 20000 in
theorem c_m_four (l : Launch) {E : zE} {q : Nat} {f_code : Int32} {a_tape : Nat → Int32} {a_size : Nat → Int32} {a_fault : Nat → Int32} {a_faultPlace : Nat → Int32} {a_many : Nat → Int32} {a_lands : Nat → Int32} {a_evenings : Nat → Int32} {a_sights : Nat → Int32} {a_choirs : Nat → Int32} {f_reached : Int32} {f_length : Int32} {f_begins : Int32} {f_sort : Int32} {f_value : Int32} {f_word : Int64} {f_wrongAt : Int32} {f_laterFault : Int32} {f_laterPlace : Int32} {a_told : Nat → Int32} {a_read : Nat → Int32} {f_farHut : Int32} {f_farSinger : Int32} {f_good : Int32} {f_land : Int32} {f_huts : Int32} {f_singers : Int32} {f_evening : Int32} {a_at : Nat → Int32} {a_knows : Nat → Int32} {a_climbed : Nat → Int32} {a_snow : Nat → Int32} {a_level : Nat → Int32} {f_begun : Int32} {f_minute : Int32} {f_avalanches : Int32} {a_run : Nat → Int32} {a_covers : Nat → Int32} {a_routes : Nat → Int32} {a_longest : Nat → Int32} {a_steep : Nat → Int32} {a_laid : Nat → Int32} {a_far : Nat → Int32} {f_sight : Int32} {a_runs : Nat → Int32} {f_choir : Int32} {f_voices : Int32} {a_rest : Nat → Int64} {a_wins : Nat → Int32} {f_seed : Int32} {a_other : Nat → Int32} {a_kept : Nat → Int32} {x1 : Int32} {post : (Nat → Int32) → (Nat → Int32) → Prop} (hw : q_m_four_0 a_tape a_size x1 post) : Met l yX11_four (Cond.code yX11_four cX11_four 3 none :: zb) rm_m_four (va_Pc [.ref q, .int x1] (fun U => mW E q f_code a_tape a_size a_fault a_faultPlace a_many a_lands a_evenings a_sights a_choirs f_reached f_length f_begins f_sort f_value f_word f_wrongAt f_laterFault f_laterPlace a_told a_read f_farHut f_farSinger f_good f_land f_huts f_singers f_evening a_at a_knows a_climbed a_snow a_level f_begun f_minute f_avalanches a_run a_covers a_routes a_longest a_steep a_laid a_far f_sight a_runs f_choir f_voices a_rest a_wins f_seed a_other a_kept U.heap ∧ zK E U)) (zQv (S := (Nat → Int32) × (Nat → Int32)) (fun u => post u.1 u.2) (fun u H => mW E q f_code u.1 u.2 a_fault a_faultPlace a_many a_lands a_evenings a_sights a_choirs f_reached f_length f_begins f_sort f_value f_word f_wrongAt f_laterFault f_laterPlace a_told a_read f_farHut f_farSinger f_good f_land f_huts f_singers f_evening a_at a_knows a_climbed a_snow a_level f_begun f_minute f_avalanches a_run a_covers a_routes a_longest a_steep a_laid a_far f_sight a_runs f_choir f_voices a_rest a_wins f_seed a_other a_kept H) (mA q)) 0 0 (mA q) := by
  refine Met.ofW (cc := cX11_four) (maxL := 3) (ret := none) (by decide) rfl ?_
  intro p e s m args below meth c s₁ B hml hv
  obtain ⟨rfl, hM, hK⟩ := hv
  have zc := zc_of B hml
  have hl := lv_entry ([.ref q, .int x1]) (n := 3) (Nat.le_of_ble_eq_true rfl)
  rw [lg_entry_eq]
  generalize (lg_sl ([.ref q, .int x1]) ++ List.replicate (3 - (lg_sl ([.ref q, .int x1])).length) Slot.unset).toArray = ls at hl ⊢
  have hl : lv_has ls 3 [(0, .ref q), (1, .int x1)] := hl
  exact t_m_four_0 zc hK hM va_S.rf (lv_sub hl [0, 1] rfl) hw
-- m_feed
abbrev rm_m_feed : Room := { frames := 1, cells := 0, slots := 0, locals := 22 }
def q_m_feed_0 (f_code : Int32) (a_tape : Nat → Int32) (a_size : Nat → Int32) (x1 : Int32) (x2 : Int32) (x3 : Int32) (x4 : Int32) (x5 : Int32) (post : Int32 → (Int32) → (Nat → Int32) → (Nat → Int32) → Prop) : Prop :=
  (((a_size (Int32.toNatClampNeg (0 : Int32))) + (20 : Int32)) ≤ (600 : Int32) → (q_m_four_0 a_tape a_size x1 (fun a_tape_1 a_size_1 => q_m_four_0 a_tape_1 a_size_1 x2 (fun a_tape_2 a_size_2 => q_m_four_0 a_tape_2 a_size_2 x3 (fun a_tape_3 a_size_3 => q_m_four_0 a_tape_3 a_size_3 x4 (fun a_tape_4 a_size_4 => q_m_four_0 a_tape_4 a_size_4 x5 (fun a_tape_5 a_size_5 => post (a_size_5 (Int32.toNatClampNeg (0 : Int32))) (0 : Int32) a_tape_5 a_size_5))))))) ∧ (¬ ((a_size (Int32.toNatClampNeg (0 : Int32))) + (20 : Int32)) ≤ (600 : Int32) → (post (-1 : Int32) (0 : Int32) a_tape a_size))
set_option maxRecDepth 20000 in
theorem t_m_feed_0 {p : Program} {l : Launch} {e : Env} {s : State} {m : MethodId} {args : Array Value} {below : List Frame} {meth : Method} {c : Code} {E : zE} {q : Nat} {f_code : Int32} {a_tape : Nat → Int32} {a_size : Nat → Int32} {a_fault : Nat → Int32} {a_faultPlace : Nat → Int32} {a_many : Nat → Int32} {a_lands : Nat → Int32} {a_evenings : Nat → Int32} {a_sights : Nat → Int32} {a_choirs : Nat → Int32} {f_reached : Int32} {f_length : Int32} {f_begins : Int32} {f_sort : Int32} {f_value : Int32} {f_word : Int64} {f_wrongAt : Int32} {f_laterFault : Int32} {f_laterPlace : Int32} {a_told : Nat → Int32} {a_read : Nat → Int32} {f_farHut : Int32} {f_farSinger : Int32} {f_good : Int32} {f_land : Int32} {f_huts : Int32} {f_singers : Int32} {f_evening : Int32} {a_at : Nat → Int32} {a_knows : Nat → Int32} {a_climbed : Nat → Int32} {a_snow : Nat → Int32} {a_level : Nat → Int32} {f_begun : Int32} {f_minute : Int32} {f_avalanches : Int32} {a_run : Nat → Int32} {a_covers : Nat → Int32} {a_routes : Nat → Int32} {a_longest : Nat → Int32} {a_steep : Nat → Int32} {a_laid : Nat → Int32} {a_far : Nat → Int32} {f_sight : Int32} {a_runs : Nat → Int32} {f_choir : Int32} {f_voices : Int32} {a_rest : Nat → Int64} {a_wins : Nat → Int32} {f_seed : Int32} {a_other : Nat → Int32} {a_kept : Nat → Int32} {post : Int32 → (Int32) → (Nat → Int32) → (Nat → Int32) → Prop} {x1 : Int32} {x2 : Int32} {x3 : Int32} {x4 : Int32} {x5 : Int32} {ls : Array Slot} {H : Heap} {locs : List Loc}
    (zc : zC p s m args meth c cX11_feed 6 RX11 (some .int))
    (hK : zK E s)
    (hM : mW E q f_code a_tape a_size a_fault a_faultPlace a_many a_lands a_evenings a_sights a_choirs f_reached f_length f_begins f_sort f_value f_word f_wrongAt f_laterFault f_laterPlace a_told a_read f_farHut f_farSinger f_good f_land f_huts f_singers f_evening a_at a_knows a_climbed a_snow a_level f_begun f_minute f_avalanches a_run a_covers a_routes a_longest a_steep a_laid a_far f_sight a_runs f_choir f_voices a_rest a_wins f_seed a_other a_kept H)
    (hS : va_S (mA q) s.heap H locs)
    (hl : lv_has ls 6 [(0, .ref q), (1, .int x1), (2, .int x2), (3, .int x3), (4, .int x4), (5, .int x5)])
    (hw : q_m_feed_0 f_code a_tape a_size x1 x2 x3 x4 x5 post) :
    W p l e rm_m_feed s m args below meth c H locs 0 0 (MQ below (zQi (S := (Int32) × (Nat → Int32) × (Nat → Int32)) (fun r u => post r u.1 u.2.1 u.2.2) (fun u H => mW E q u.1 u.2.1 u.2.2 a_fault a_faultPlace a_many a_lands a_evenings a_sights a_choirs f_reached f_length f_begins f_sort f_value f_word f_wrongAt f_laterFault f_laterPlace a_told a_read f_farHut f_farSinger f_good f_land f_huts f_singers f_evening a_at a_knows a_climbed a_snow a_level f_begun f_minute f_avalanches a_run a_covers a_routes a_longest a_steep a_laid a_far f_sight a_runs f_choir f_voices a_rest a_wins f_seed a_other a_kept H) (mA q)) args s 0 0 (mA q)) (F0 m 0 ls []) := by
  have hx := zc.1
  have hb := zc.2.1
  refine lv_aload_n hx hb dX11_feed_0 rfl (lv_at hl 0 rfl) ?_
  refine lv_iconst (v := (0 : Int32)) hx hb dX11_feed_1 (by decide) ?_
  refine mp_11_97_0 zc hK hM hS dX11_feed_2 (fun H locs hM hS => ?_)
  refine lv_aload_n hx hb dX11_feed_5 rfl (lv_at hl 0 rfl) ?_
  refine mg_11_13_0 zc hK hM dX11_feed_6 ?_
  refine lv_iconst (v := (0 : Int32)) hx hb dX11_feed_9 (by decide) ?_
  refine mld_2 zc hK hM (by unfold vp_in; decide) dX11_feed_10 ?_
  refine lv_bipush (v := (20 : Int32)) hx hb dX11_feed_11 (by decide) ?_
  refine lv_iadd hx hb dX11_feed_13 ?_
  refine lv_sipush (v := (600 : Int32)) hx hb dX11_feed_14 (by decide) ?_
  refine lv_icmp_le (tgt := 22) hx hb dX11_feed_17 (by decide) (fun hc => ?_) (fun hc => ?_)
  · have hw := hw.1 hc
    refine lv_aload_n hx hb dX11_feed_22 rfl (lv_at hl 0 rfl) ?_
    refine lv_iload_n hx hb dX11_feed_23 rfl (lv_at hl 1 rfl) ?_
    refine zVw_v [.int x1] [] zc ky_X11_four kz_X11_four km_11_113 (c_m_four l hw) (mPreV0 hK hM) hS rfl rfl hl.1 (Nat.le_of_ble_eq_true rfl) ⟨rfl, rfl⟩ ⟨Nat.le_of_ble_eq_true rfl, Nat.le_of_ble_eq_true rfl⟩ ⟨(Nat.zero_le _), (Nat.zero_le _)⟩ dX11_feed_24 (fun u H locs hw hM hS => ?_)
    obtain ⟨a_tape_1, a_size_1⟩ := u
    refine lv_aload_n hx hb dX11_feed_27 rfl (lv_at hl 0 rfl) ?_
    refine lv_iload_n hx hb dX11_feed_28 rfl (lv_at hl 2 rfl) ?_
    refine zVw_v [.int x2] [] zc ky_X11_four kz_X11_four km_11_113 (c_m_four l hw) (mPreV0 hK hM) hS rfl rfl hl.1 (Nat.le_of_ble_eq_true rfl) ⟨rfl, rfl⟩ ⟨Nat.le_of_ble_eq_true rfl, Nat.le_of_ble_eq_true rfl⟩ ⟨(Nat.zero_le _), (Nat.zero_le _)⟩ dX11_feed_29 (fun u H locs hw hM hS => ?_)
    obtain ⟨a_tape_2, a_size_2⟩ := u
    refine lv_aload_n hx hb dX11_feed_32 rfl (lv_at hl 0 rfl) ?_
    refine lv_iload_n hx hb dX11_feed_33 rfl (lv_at hl 3 rfl) ?_
    refine zVw_v [.int x3] [] zc ky_X11_four kz_X11_four km_11_113 (c_m_four l hw) (mPreV0 hK hM) hS rfl rfl hl.1 (Nat.le_of_ble_eq_true rfl) ⟨rfl, rfl⟩ ⟨Nat.le_of_ble_eq_true rfl, Nat.le_of_ble_eq_true rfl⟩ ⟨(Nat.zero_le _), (Nat.zero_le _)⟩ dX11_feed_34 (fun u H locs hw hM hS => ?_)
    obtain ⟨a_tape_3, a_size_3⟩ := u
    refine lv_aload_n hx hb dX11_feed_37 rfl (lv_at hl 0 rfl) ?_
    refine lv_iload hx hb dX11_feed_38 (lv_at hl 4 rfl) ?_
    refine zVw_v [.int x4] [] zc ky_X11_four kz_X11_four km_11_113 (c_m_four l hw) (mPreV0 hK hM) hS rfl rfl hl.1 (Nat.le_of_ble_eq_true rfl) ⟨rfl, rfl⟩ ⟨Nat.le_of_ble_eq_true rfl, Nat.le_of_ble_eq_true rfl⟩ ⟨(Nat.zero_le _), (Nat.zero_le _)⟩ dX11_feed_40 (fun u H locs hw hM hS => ?_)
    obtain ⟨a_tape_4, a_size_4⟩ := u
    refine lv_aload_n hx hb dX11_feed_43 rfl (lv_at hl 0 rfl) ?_
    refine lv_iload hx hb dX11_feed_44 (lv_at hl 5 rfl) ?_
    refine zVw_v [.int x5] [] zc ky_X11_four kz_X11_four km_11_113 (c_m_four l hw) (mPreV0 hK hM) hS rfl rfl hl.1 (Nat.le_of_ble_eq_true rfl) ⟨rfl, rfl⟩ ⟨Nat.le_of_ble_eq_true rfl, Nat.le_of_ble_eq_true rfl⟩ ⟨(Nat.zero_le _), (Nat.zero_le _)⟩ dX11_feed_46 (fun u H locs hw hM hS => ?_)
    obtain ⟨a_tape_5, a_size_5⟩ := u
    refine lv_aload_n hx hb dX11_feed_49 rfl (lv_at hl 0 rfl) ?_
    refine mg_11_13_0 zc hK hM dX11_feed_50 ?_
    refine lv_iconst (v := (0 : Int32)) hx hb dX11_feed_53 (by decide) ?_
    refine mld_2 zc hK hM (by unfold vp_in; decide) dX11_feed_54 ?_
    exact zret_iw ⟨(0 : Int32), a_tape_5, a_size_5⟩ zc hS hw hM dX11_feed_55
  · have hw := hw.2 hc
    refine lv_iconst (v := (-1 : Int32)) hx hb dX11_feed_20 (by decide) ?_
    exact zret_iw ⟨(0 : Int32), a_tape, a_size⟩ zc hS hw hM dX11_feed_21
set_option maxRecDepth 20000 in
theorem c_m_feed (l : Launch) {E : zE} {q : Nat} {f_code : Int32} {a_tape : Nat → Int32} {a_size : Nat → Int32} {a_fault : Nat → Int32} {a_faultPlace : Nat → Int32} {a_many : Nat → Int32} {a_lands : Nat → Int32} {a_evenings : Nat → Int32} {a_sights : Nat → Int32} {a_choirs : Nat → Int32} {f_reached : Int32} {f_length : Int32} {f_begins : Int32} {f_sort : Int32} {f_value : Int32} {f_word : Int64} {f_wrongAt : Int32} {f_laterFault : Int32} {f_laterPlace : Int32} {a_told : Nat → Int32} {a_read : Nat → Int32} {f_farHut : Int32} {f_farSinger : Int32} {f_good : Int32} {f_land : Int32} {f_huts : Int32} {f_singers : Int32} {f_evening : Int32} {a_at : Nat → Int32} {a_knows : Nat → Int32} {a_climbed : Nat → Int32} {a_snow : Nat → Int32} {a_level : Nat → Int32} {f_begun : Int32} {f_minute : Int32} {f_avalanches : Int32} {a_run : Nat → Int32} {a_covers : Nat → Int32} {a_routes : Nat → Int32} {a_longest : Nat → Int32} {a_steep : Nat → Int32} {a_laid : Nat → Int32} {a_far : Nat → Int32} {f_sight : Int32} {a_runs : Nat → Int32} {f_choir : Int32} {f_voices : Int32} {a_rest : Nat → Int64} {a_wins : Nat → Int32} {f_seed : Int32} {a_other : Nat → Int32} {a_kept : Nat → Int32} {x1 : Int32} {x2 : Int32} {x3 : Int32} {x4 : Int32} {x5 : Int32} {post : Int32 → (Int32) → (Nat → Int32) → (Nat → Int32) → Prop} (hw : q_m_feed_0 f_code a_tape a_size x1 x2 x3 x4 x5 post) : Met l yX11_feed (Cond.code yX11_feed cX11_feed 6 (some .int) :: zb) rm_m_feed (va_Pc [.ref q, .int x1, .int x2, .int x3, .int x4, .int x5] (fun U => mW E q f_code a_tape a_size a_fault a_faultPlace a_many a_lands a_evenings a_sights a_choirs f_reached f_length f_begins f_sort f_value f_word f_wrongAt f_laterFault f_laterPlace a_told a_read f_farHut f_farSinger f_good f_land f_huts f_singers f_evening a_at a_knows a_climbed a_snow a_level f_begun f_minute f_avalanches a_run a_covers a_routes a_longest a_steep a_laid a_far f_sight a_runs f_choir f_voices a_rest a_wins f_seed a_other a_kept U.heap ∧ zK E U)) (zQi (S := (Int32) × (Nat → Int32) × (Nat → Int32)) (fun r u => post r u.1 u.2.1 u.2.2) (fun u H => mW E q u.1 u.2.1 u.2.2 a_fault a_faultPlace a_many a_lands a_evenings a_sights a_choirs f_reached f_length f_begins f_sort f_value f_word f_wrongAt f_laterFault f_laterPlace a_told a_read f_farHut f_farSinger f_good f_land f_huts f_singers f_evening a_at a_knows a_climbed a_snow a_level f_begun f_minute f_avalanches a_run a_covers a_routes a_longest a_steep a_laid a_far f_sight a_runs f_choir f_voices a_rest a_wins f_seed a_other a_kept H) (mA q)) 0 0 (mA q) := by
  refine Met.ofW (cc := cX11_feed) (maxL := 6) (ret := (some .int)) (by decide) rfl ?_
  intro p e s m args below meth c s₁ B hml hv
  obtain ⟨rfl, hM, hK⟩ := hv
  have zc := zc_of B hml
  have hl := lv_entry ([.ref q, .int x1, .int x2, .int x3, .int x4, .int x5]) (n := 6) (Nat.le_of_ble_eq_true rfl)
  rw [lg_entry_eq]
  generalize (lg_sl ([.ref q, .int x1, .int x2, .int x3, .int x4, .int x5]) ++ List.replicate (6 - (lg_sl ([.ref q, .int x1, .int x2, .int x3, .int x4, .int x5])).length) Slot.unset).toArray = ls at hl ⊢
  have hl : lv_has ls 6 [(0, .ref q), (1, .int x1), (2, .int x2), (3, .int x3), (4, .int x4), (5, .int x5)] := hl
  exact t_m_feed_0 zc hK hM va_S.rf (lv_sub hl [0, 1, 2, 3, 4, 5] rfl) hw
end
section
-- m_end
abbrev rm_m_end : Room := { frames := 1, cells := 0, slots := 0, locals := 22 }
def q_m_end_0 (f_code : Int32) (a_size : Nat → Int32) (x1 : Int32) (post : Int32 → (Int32) → (Nat → Int32) → Prop) : Prop :=
  q_m_in_0 x1 (0 : Int32) (a_size (Int32.toNatClampNeg (0 : Int32))) (fun r_1 => (¬ r_1 = 0 → (∀ a_size_1 : Nat → Int32, a_size_1 = upd a_size (Int32.toNatClampNeg (0 : Int32)) x1 → (post x1 (0 : Int32) a_size_1))) ∧ (r_1 = 0 → (post (-1 : Int32) (0 : Int32) a_size)))
set_option maxRecDepth 20000 in
theorem t_m_end_0 {p : Program} {l : Launch} {e : Env} {s : State} {m : MethodId} {args : Array Value} {below : List Frame} {meth : Method} {c : Code} {E : zE} {q : Nat} {f_code : Int32} {a_tape : Nat → Int32} {a_size : Nat → Int32} {a_fault : Nat → Int32} {a_faultPlace : Nat → Int32} {a_many : Nat → Int32} {a_lands : Nat → Int32} {a_evenings : Nat → Int32} {a_sights : Nat → Int32} {a_choirs : Nat → Int32} {f_reached : Int32} {f_length : Int32} {f_begins : Int32} {f_sort : Int32} {f_value : Int32} {f_word : Int64} {f_wrongAt : Int32} {f_laterFault : Int32} {f_laterPlace : Int32} {a_told : Nat → Int32} {a_read : Nat → Int32} {f_farHut : Int32} {f_farSinger : Int32} {f_good : Int32} {f_land : Int32} {f_huts : Int32} {f_singers : Int32} {f_evening : Int32} {a_at : Nat → Int32} {a_knows : Nat → Int32} {a_climbed : Nat → Int32} {a_snow : Nat → Int32} {a_level : Nat → Int32} {f_begun : Int32} {f_minute : Int32} {f_avalanches : Int32} {a_run : Nat → Int32} {a_covers : Nat → Int32} {a_routes : Nat → Int32} {a_longest : Nat → Int32} {a_steep : Nat → Int32} {a_laid : Nat → Int32} {a_far : Nat → Int32} {f_sight : Int32} {a_runs : Nat → Int32} {f_choir : Int32} {f_voices : Int32} {a_rest : Nat → Int64} {a_wins : Nat → Int32} {f_seed : Int32} {a_other : Nat → Int32} {a_kept : Nat → Int32} {post : Int32 → (Int32) → (Nat → Int32) → Prop} {x1 : Int32} {ls : Array Slot} {H : Heap} {locs : List Loc}
    (zc : zC p s m args meth c cX11_end 2 RX11 (some .int))
    (hK : zK E s)
    (hM : mW E q f_code a_tape a_size a_fault a_faultPlace a_many a_lands a_evenings a_sights a_choirs f_reached f_length f_begins f_sort f_value f_word f_wrongAt f_laterFault f_laterPlace a_told a_read f_farHut f_farSinger f_good f_land f_huts f_singers f_evening a_at a_knows a_climbed a_snow a_level f_begun f_minute f_avalanches a_run a_covers a_routes a_longest a_steep a_laid a_far f_sight a_runs f_choir f_voices a_rest a_wins f_seed a_other a_kept H)
    (hS : va_S (mA q) s.heap H locs)
    (hl : lv_has ls 2 [(0, .ref q), (1, .int x1)])
    (hw : q_m_end_0 f_code a_size x1 post) :
    W p l e rm_m_end s m args below meth c H locs 0 0 (MQ below (zQi (S := (Int32) × (Nat → Int32)) (fun r u => post r u.1 u.2) (fun u H => mW E q u.1 a_tape u.2 a_fault a_faultPlace a_many a_lands a_evenings a_sights a_choirs f_reached f_length f_begins f_sort f_value f_word f_wrongAt f_laterFault f_laterPlace a_told a_read f_farHut f_farSinger f_good f_land f_huts f_singers f_evening a_at a_knows a_climbed a_snow a_level f_begun f_minute f_avalanches a_run a_covers a_routes a_longest a_steep a_laid a_far f_sight a_runs f_choir f_voices a_rest a_wins f_seed a_other a_kept H) (mA q)) args s 0 0 (mA q)) (F0 m 0 ls []) := by
  have hx := zc.1
  have hb := zc.2.1
  refine lv_aload_n hx hb dX11_end_0 rfl (lv_at hl 0 rfl) ?_
  refine lv_iconst (v := (0 : Int32)) hx hb dX11_end_1 (by decide) ?_
  refine mp_11_97_0 zc hK hM hS dX11_end_2 (fun H locs hM hS => ?_)
  refine lv_iload_n hx hb dX11_end_5 rfl (lv_at hl 1 rfl) ?_
  refine lv_iconst (v := (0 : Int32)) hx hb dX11_end_6 (by decide) ?_
  refine lv_aload_n hx hb dX11_end_7 rfl (lv_at hl 0 rfl) ?_
  refine mg_11_13_0 zc hK hM dX11_end_8 ?_
  refine lv_iconst (v := (0 : Int32)) hx hb dX11_end_11 (by decide) ?_
  refine mld_2 zc hK hM (by unfold vp_in; decide) dX11_end_12 ?_
  refine zS_i [.int x1, .int (0 : Int32), .int (a_size (Int32.toNatClampNeg (0 : Int32)))] [] zc ky_X11_in kz_X11_in km_11_109 (c_m_in l hw) (zPre0 _) rfl rfl hl.1 (Nat.le_of_ble_eq_true rfl) ⟨rfl, rfl⟩ ⟨Nat.le_of_ble_eq_true rfl, Nat.le_of_ble_eq_true rfl⟩ ⟨(Nat.zero_le _), (Nat.zero_le _)⟩ dX11_end_13 (fun r_1 hw => ?_)
  refine lv_if_ne (tgt := 21) hx hb dX11_end_16 (by decide) (fun hc => ?_) (fun hc => ?_)
  · have hw := hw.1 hc
    refine lv_aload_n hx hb dX11_end_21 rfl (lv_at hl 0 rfl) ?_
    refine mg_11_13_0 zc hK hM dX11_end_22 ?_
    refine lv_iconst (v := (0 : Int32)) hx hb dX11_end_25 (by decide) ?_
    refine lv_iload_n hx hb dX11_end_26 rfl (lv_at hl 1 rfl) ?_
    refine mst_2 zc hK hM hS (by unfold vp_in; decide) dX11_end_27 (fun a_size_1 H locs ea_size_1 hM hS => ?_)
    have hw := hw a_size_1 ea_size_1
    refine lv_iload_n hx hb dX11_end_28 rfl (lv_at hl 1 rfl) ?_
    exact zret_iw ⟨(0 : Int32), a_size_1⟩ zc hS hw hM dX11_end_29
  · have hw := hw.2 hc
    refine lv_iconst (v := (-1 : Int32)) hx hb dX11_end_19 (by decide) ?_
    exact zret_iw ⟨(0 : Int32), a_size⟩ zc hS hw hM dX11_end_20
set_option maxRecDepth 20000 in
theorem c_m_end (l : Launch) {E : zE} {q : Nat} {f_code : Int32} {a_tape : Nat → Int32} {a_size : Nat → Int32} {a_fault : Nat → Int32} {a_faultPlace : Nat → Int32} {a_many : Nat → Int32} {a_lands : Nat → Int32} {a_evenings : Nat → Int32} {a_sights : Nat → Int32} {a_choirs : Nat → Int32} {f_reached : Int32} {f_length : Int32} {f_begins : Int32} {f_sort : Int32} {f_value : Int32} {f_word : Int64} {f_wrongAt : Int32} {f_laterFault : Int32} {f_laterPlace : Int32} {a_told : Nat → Int32} {a_read : Nat → Int32} {f_farHut : Int32} {f_farSinger : Int32} {f_good : Int32} {f_land : Int32} {f_huts : Int32} {f_singers : Int32} {f_evening : Int32} {a_at : Nat → Int32} {a_knows : Nat → Int32} {a_climbed : Nat → Int32} {a_snow : Nat → Int32} {a_level : Nat → Int32} {f_begun : Int32} {f_minute : Int32} {f_avalanches : Int32} {a_run : Nat → Int32} {a_covers : Nat → Int32} {a_routes : Nat → Int32} {a_longest : Nat → Int32} {a_steep : Nat → Int32} {a_laid : Nat → Int32} {a_far : Nat → Int32} {f_sight : Int32} {a_runs : Nat → Int32} {f_choir : Int32} {f_voices : Int32} {a_rest : Nat → Int64} {a_wins : Nat → Int32} {f_seed : Int32} {a_other : Nat → Int32} {a_kept : Nat → Int32} {x1 : Int32} {post : Int32 → (Int32) → (Nat → Int32) → Prop} (hw : q_m_end_0 f_code a_size x1 post) : Met l yX11_end (Cond.code yX11_end cX11_end 2 (some .int) :: zb) rm_m_end (va_Pc [.ref q, .int x1] (fun U => mW E q f_code a_tape a_size a_fault a_faultPlace a_many a_lands a_evenings a_sights a_choirs f_reached f_length f_begins f_sort f_value f_word f_wrongAt f_laterFault f_laterPlace a_told a_read f_farHut f_farSinger f_good f_land f_huts f_singers f_evening a_at a_knows a_climbed a_snow a_level f_begun f_minute f_avalanches a_run a_covers a_routes a_longest a_steep a_laid a_far f_sight a_runs f_choir f_voices a_rest a_wins f_seed a_other a_kept U.heap ∧ zK E U)) (zQi (S := (Int32) × (Nat → Int32)) (fun r u => post r u.1 u.2) (fun u H => mW E q u.1 a_tape u.2 a_fault a_faultPlace a_many a_lands a_evenings a_sights a_choirs f_reached f_length f_begins f_sort f_value f_word f_wrongAt f_laterFault f_laterPlace a_told a_read f_farHut f_farSinger f_good f_land f_huts f_singers f_evening a_at a_knows a_climbed a_snow a_level f_begun f_minute f_avalanches a_run a_covers a_routes a_longest a_steep a_laid a_far f_sight a_runs f_choir f_voices a_rest a_wins f_seed a_other a_kept H) (mA q)) 0 0 (mA q) := by
  refine Met.ofW (cc := cX11_end) (maxL := 2) (ret := (some .int)) (by decide) rfl ?_
  intro p e s m args below meth c s₁ B hml hv
  obtain ⟨rfl, hM, hK⟩ := hv
  have zc := zc_of B hml
  have hl := lv_entry ([.ref q, .int x1]) (n := 2) (Nat.le_of_ble_eq_true rfl)
  rw [lg_entry_eq]
  generalize (lg_sl ([.ref q, .int x1]) ++ List.replicate (2 - (lg_sl ([.ref q, .int x1])).length) Slot.unset).toArray = ls at hl ⊢
  have hl : lv_has ls 2 [(0, .ref q), (1, .int x1)] := hl
  exact t_m_end_0 zc hK hM va_S.rf (lv_sub hl [0, 1] rfl) hw
-- m_see
abbrev rm_m_see : Room := { frames := 0, cells := 0, slots := 0, locals := 0 }
def q_m_see_0 (a_tape : Nat → Int32) (f_reached : Int32) (f_length : Int32) (post : Int32 → Prop) : Prop :=
  (f_length ≤ f_reached → (post (-1 : Int32))) ∧ (¬ f_length ≤ f_reached → (vp_in f_reached 2400 ∧ (post ((a_tape (Int32.toNatClampNeg f_reached)) &&& (255 : Int32)))))
set_option maxRecDepth 20000 in
theorem t_m_see_0 {p : Program} {l : Launch} {e : Env} {s : State} {m : MethodId} {args : Array Value} {below : List Frame} {meth : Method} {c : Code} {E : zE} {q : Nat} {f_code : Int32} {a_tape : Nat → Int32} {a_size : Nat → Int32} {a_fault : Nat → Int32} {a_faultPlace : Nat → Int32} {a_many : Nat → Int32} {a_lands : Nat → Int32} {a_evenings : Nat → Int32} {a_sights : Nat → Int32} {a_choirs : Nat → Int32} {f_reached : Int32} {f_length : Int32} {f_begins : Int32} {f_sort : Int32} {f_value : Int32} {f_word : Int64} {f_wrongAt : Int32} {f_laterFault : Int32} {f_laterPlace : Int32} {a_told : Nat → Int32} {a_read : Nat → Int32} {f_farHut : Int32} {f_farSinger : Int32} {f_good : Int32} {f_land : Int32} {f_huts : Int32} {f_singers : Int32} {f_evening : Int32} {a_at : Nat → Int32} {a_knows : Nat → Int32} {a_climbed : Nat → Int32} {a_snow : Nat → Int32} {a_level : Nat → Int32} {f_begun : Int32} {f_minute : Int32} {f_avalanches : Int32} {a_run : Nat → Int32} {a_covers : Nat → Int32} {a_routes : Nat → Int32} {a_longest : Nat → Int32} {a_steep : Nat → Int32} {a_laid : Nat → Int32} {a_far : Nat → Int32} {f_sight : Int32} {a_runs : Nat → Int32} {f_choir : Int32} {f_voices : Int32} {a_rest : Nat → Int64} {a_wins : Nat → Int32} {f_seed : Int32} {a_other : Nat → Int32} {a_kept : Nat → Int32} {post : Int32 → Prop} {ls : Array Slot}
    (zc : zC p s m args meth c cX11_see 1 RX11 (some .int))
    (hK : zK E s)
    (hM : mW E q f_code a_tape a_size a_fault a_faultPlace a_many a_lands a_evenings a_sights a_choirs f_reached f_length f_begins f_sort f_value f_word f_wrongAt f_laterFault f_laterPlace a_told a_read f_farHut f_farSinger f_good f_land f_huts f_singers f_evening a_at a_knows a_climbed a_snow a_level f_begun f_minute f_avalanches a_run a_covers a_routes a_longest a_steep a_laid a_far f_sight a_runs f_choir f_voices a_rest a_wins f_seed a_other a_kept s.heap)
    (hl : lv_has ls 1 [(0, .ref q)])
    (hw : q_m_see_0 a_tape f_reached f_length post) :
    W p l e rm_m_see s m args below meth c s.heap [] 0 0 (MQ below (vp_Si post) args s 0 0 (fun _ => False)) (F0 m 0 ls []) := by
  have hx := zc.1
  have hb := zc.2.1
  refine lv_aload_n hx hb dX11_see_0 rfl (lv_at hl 0 rfl) ?_
  refine mg_11_117_0 zc hK hM dX11_see_1 ?_
  refine lv_aload_n hx hb dX11_see_4 rfl (lv_at hl 0 rfl) ?_
  refine mg_11_120_0 zc hK hM dX11_see_5 ?_
  refine lv_icmp_ge (tgt := 27) hx hb dX11_see_8 (by decide) (fun hc => ?_) (fun hc => ?_)
  · have hw := hw.1 hc
    refine lv_iconst (v := (-1 : Int32)) hx hb dX11_see_27 (by decide) ?_
    exact zret_i zc hw dX11_see_28
  · have hw := hw.2 hc
    refine lv_aload_n hx hb dX11_see_11 rfl (lv_at hl 0 rfl) ?_
    refine mg_11_7_0 zc hK hM dX11_see_12 ?_
    refine lv_aload_n hx hb dX11_see_15 rfl (lv_at hl 0 rfl) ?_
    refine mg_11_117_0 zc hK hM dX11_see_16 ?_
    refine mld_1 zc hK hM hw.1 dX11_see_19 ?_
    have hw := hw.2
    refine lv_sipush (v := (255 : Int32)) hx hb dX11_see_20 (by decide) ?_
    refine lv_iand hx hb dX11_see_23 ?_
    refine lv_goto (tgt := 28) hx hb dX11_see_24 (by decide) ?_
    exact zret_i zc hw dX11_see_28
set_option maxRecDepth 20000 in
theorem c_m_see (l : Launch) {E : zE} {q : Nat} {f_code : Int32} {a_tape : Nat → Int32} {a_size : Nat → Int32} {a_fault : Nat → Int32} {a_faultPlace : Nat → Int32} {a_many : Nat → Int32} {a_lands : Nat → Int32} {a_evenings : Nat → Int32} {a_sights : Nat → Int32} {a_choirs : Nat → Int32} {f_reached : Int32} {f_length : Int32} {f_begins : Int32} {f_sort : Int32} {f_value : Int32} {f_word : Int64} {f_wrongAt : Int32} {f_laterFault : Int32} {f_laterPlace : Int32} {a_told : Nat → Int32} {a_read : Nat → Int32} {f_farHut : Int32} {f_farSinger : Int32} {f_good : Int32} {f_land : Int32} {f_huts : Int32} {f_singers : Int32} {f_evening : Int32} {a_at : Nat → Int32} {a_knows : Nat → Int32} {a_climbed : Nat → Int32} {a_snow : Nat → Int32} {a_level : Nat → Int32} {f_begun : Int32} {f_minute : Int32} {f_avalanches : Int32} {a_run : Nat → Int32} {a_covers : Nat → Int32} {a_routes : Nat → Int32} {a_longest : Nat → Int32} {a_steep : Nat → Int32} {a_laid : Nat → Int32} {a_far : Nat → Int32} {f_sight : Int32} {a_runs : Nat → Int32} {f_choir : Int32} {f_voices : Int32} {a_rest : Nat → Int64} {a_wins : Nat → Int32} {f_seed : Int32} {a_other : Nat → Int32} {a_kept : Nat → Int32} {post : Int32 → Prop} (hw : q_m_see_0 a_tape f_reached f_length post) : Met l yX11_see (Cond.code yX11_see cX11_see 1 (some .int) :: zb) rm_m_see (va_Pc [.ref q] (fun U => mW E q f_code a_tape a_size a_fault a_faultPlace a_many a_lands a_evenings a_sights a_choirs f_reached f_length f_begins f_sort f_value f_word f_wrongAt f_laterFault f_laterPlace a_told a_read f_farHut f_farSinger f_good f_land f_huts f_singers f_evening a_at a_knows a_climbed a_snow a_level f_begun f_minute f_avalanches a_run a_covers a_routes a_longest a_steep a_laid a_far f_sight a_runs f_choir f_voices a_rest a_wins f_seed a_other a_kept U.heap ∧ zK E U)) (vp_Si post) 0 0 (fun _ => False) := by
  refine Met.ofW (cc := cX11_see) (maxL := 1) (ret := (some .int)) (by decide) rfl ?_
  intro p e s m args below meth c s₁ B hml hv
  obtain ⟨rfl, hM, hK⟩ := hv
  have zc := zc_of B hml
  have hl := lv_entry ([.ref q]) (n := 1) (Nat.le_of_ble_eq_true rfl)
  rw [lg_entry_eq]
  generalize (lg_sl ([.ref q]) ++ List.replicate (1 - (lg_sl ([.ref q])).length) Slot.unset).toArray = ls at hl ⊢
  have hl : lv_has ls 1 [(0, .ref q)] := hl
  exact t_m_see_0 zc hK hM (lv_sub hl [0] rfl) hw
-- m_token
abbrev rm_m_token : Room := { frames := 1, cells := 0, slots := 0, locals := 22 }
def q_m_token_205 (P163 : Int32 → (Int32) → (Int32) → Prop) (a_tape : Nat → Int32) (f_reached : Int32) (f_length : Int32) (f_begins : Int32) (f_sort : Int32) (f_value : Int32) (f_word : Int64) (x2 : Int32) (y0 : Int32) (post : (Int32) → (Int32) → (Int32) → (Int32) → (Int64) → Prop) : Prop :=
  ∀ v_1 : Int32, v_1 = (f_reached + (1 : Int32)) → (∀ v_2 : Int32, v_2 = x2 + (1 : Int32) → (P163 v_2 v_1 y0))
def q_m_token_235 (a_tape : Nat → Int32) (f_reached : Int32) (f_length : Int32) (f_begins : Int32) (f_sort : Int32) (f_value : Int32) (f_word : Int64) (y0 : Int32) (post : (Int32) → (Int32) → (Int32) → (Int32) → (Int64) → Prop) : Prop :=
  post f_reached f_begins y0 f_value f_word
def q_m_token_163 (a_tape : Nat → Int32) (f_reached : Int32) (f_length : Int32) (f_begins : Int32) (f_sort : Int32) (f_value : Int32) (f_word : Int64) (x2 : Int32) (post : (Int32) → (Int32) → (Int32) → (Int32) → (Int64) → Prop) : Prop :=
  ∀ P163 : Int32 → (Int32) → (Int32) → Prop, (∀ (x2 : Int32) (f_reached : Int32) (f_value : Int32), (q_m_see_0 a_tape f_reached f_length (fun r_1 => q_m_in_0 r_1 (48 : Int32) (57 : Int32) (fun r_2 => (r_2 = 0 → ((x2 ≤ (2 : Int32) → (q_m_token_235 a_tape f_reached f_length f_begins f_sort f_value f_word (3 : Int32) post)) ∧ (¬ x2 ≤ (2 : Int32) → (q_m_token_235 a_tape f_reached f_length f_begins f_sort f_value f_word (1 : Int32) post)))) ∧ (¬ r_2 = 0 → (((2 : Int32) ≤ x2 → (q_m_token_205 P163 a_tape f_reached f_length f_begins f_sort f_value f_word x2 f_value post)) ∧ (¬ (2 : Int32) ≤ x2 → (q_m_see_0 a_tape f_reached f_length (fun r_3 => q_m_token_205 P163 a_tape f_reached f_length f_begins f_sort f_value f_word x2 ((((10 : Int32) * f_value) + r_3) - (48 : Int32)) post)))))))) → P163 x2 f_reached f_value) → P163 x2 f_reached f_value
def q_m_token_18 (P0 : (Int32) → Prop) (a_tape : Nat → Int32) (f_reached : Int32) (f_length : Int32) (f_begins : Int32) (f_sort : Int32) (f_value : Int32) (f_word : Int64) (post : (Int32) → (Int32) → (Int32) → (Int32) → (Int64) → Prop) : Prop :=
  ∀ v_1 : Int32, v_1 = (f_reached + (1 : Int32)) → (P0 v_1)
def q_m_token_263 (a_tape : Nat → Int32) (f_reached : Int32) (f_length : Int32) (f_begins : Int32) (f_sort : Int32) (f_value : Int32) (f_word : Int64) (y0 : Int32) (post : (Int32) → (Int32) → (Int32) → (Int32) → (Int64) → Prop) : Prop :=
  post f_reached f_begins y0 f_value f_word
def q_m_token_136 (a_tape : Nat → Int32) (f_reached : Int32) (f_length : Int32) (f_begins : Int32) (f_sort : Int32) (f_value : Int32) (f_word : Int64) (y0 : Int64) (post : (Int32) → (Int32) → (Int32) → (Int32) → (Int64) → Prop) : Prop :=
  post f_reached f_begins (2 : Int32) f_value y0
def q_m_token_74 (a_tape : Nat → Int32) (f_reached : Int32) (f_length : Int32) (f_begins : Int32) (f_sort : Int32) (f_value : Int32) (f_word : Int64) (x2 : Int32) (post : (Int32) → (Int32) → (Int32) → (Int32) → (Int64) → Prop) : Prop :=
  ∀ P74 : Int32 → (Int32) → (Int64) → Prop, (∀ (x2 : Int32) (f_reached : Int32) (f_word : Int64), (q_m_see_0 a_tape f_reached f_length (fun r_1 => q_m_in_0 r_1 (97 : Int32) (122 : Int32) (fun r_2 => (r_2 = 0 → ((x2 ≤ (8 : Int32) → (q_m_token_136 a_tape f_reached f_length f_begins f_sort f_value f_word f_word post)) ∧ (¬ x2 ≤ (8 : Int32) → (q_m_token_136 a_tape f_reached f_length f_begins f_sort f_value f_word (0 : Int64) post)))) ∧ (¬ r_2 = 0 → (q_m_see_0 a_tape f_reached f_length (fun r_3 => ∀ v_1 : Int64, v_1 = ((f_word <<< (Int32.toInt64 (8 : Int32) &&& 63)) ||| (Int32.toInt64 r_3)) → (∀ v_2 : Int32, v_2 = (f_reached + (1 : Int32)) → (∀ v_3 : Int32, v_3 = x2 + (1 : Int32) → (P74 v_3 v_2 v_1))))))))) → P74 x2 f_reached f_word) → P74 x2 f_reached f_word
def q_m_token_0 (a_tape : Nat → Int32) (f_reached : Int32) (f_length : Int32) (f_begins : Int32) (f_sort : Int32) (f_value : Int32) (f_word : Int64) (post : (Int32) → (Int32) → (Int32) → (Int32) → (Int64) → Prop) : Prop :=
  ∀ P0 : (Int32) → Prop, (∀ (f_reached : Int32), (q_m_see_0 a_tape f_reached f_length (fun r_1 => (r_1 = (10 : Int32) → (q_m_token_18 P0 a_tape f_reached f_length f_begins f_sort f_value f_word post)) ∧ (¬ r_1 = (10 : Int32) → (q_m_see_0 a_tape f_reached f_length (fun r_2 => (¬ r_2 = (32 : Int32) → (q_m_see_0 a_tape f_reached f_length (fun r_3 => (0 ≤ r_3 → (q_m_in_0 r_3 (97 : Int32) (122 : Int32) (fun r_4 => (r_4 = 0 → (q_m_in_0 r_3 (48 : Int32) (57 : Int32) (fun r_5 => (r_5 = 0 → (∀ v_1 : Int32, v_1 = (f_reached + (1 : Int32)) → ((¬ r_3 = (59 : Int32) → (q_m_token_263 a_tape v_1 f_length f_reached f_sort f_value (0 : Int64) (1 : Int32) post)) ∧ (r_3 = (59 : Int32) → (q_m_token_263 a_tape v_1 f_length f_reached f_sort f_value (0 : Int64) (4 : Int32) post))))) ∧ (¬ r_5 = 0 → (q_m_token_163 a_tape f_reached f_length f_reached f_sort (0 : Int32) (0 : Int64) (0 : Int32) post))))) ∧ (¬ r_4 = 0 → (q_m_token_74 a_tape f_reached f_length f_reached f_sort f_value (0 : Int64) (0 : Int32) post))))) ∧ (¬ 0 ≤ r_3 → (post f_reached f_reached (0 : Int32) f_value (0 : Int64)))))) ∧ (r_2 = (32 : Int32) → (q_m_token_18 P0 a_tape f_reached f_length f_begins f_sort f_value f_word post))))))) → P0 f_reached) → P0 f_reached
set_option maxRecDepth 20000 in
theorem t_m_token_205 {p : Program} {l : Launch} {e : Env} {s : State} {m : MethodId} {args : Array Value} {below : List Frame} {meth : Method} {c : Code} {E : zE} {q : Nat} {f_code : Int32} {a_tape : Nat → Int32} {a_size : Nat → Int32} {a_fault : Nat → Int32} {a_faultPlace : Nat → Int32} {a_many : Nat → Int32} {a_lands : Nat → Int32} {a_evenings : Nat → Int32} {a_sights : Nat → Int32} {a_choirs : Nat → Int32} {f_reached : Int32} {f_length : Int32} {f_begins : Int32} {f_sort : Int32} {f_value : Int32} {f_word : Int64} {f_wrongAt : Int32} {f_laterFault : Int32} {f_laterPlace : Int32} {a_told : Nat → Int32} {a_read : Nat → Int32} {f_farHut : Int32} {f_farSinger : Int32} {f_good : Int32} {f_land : Int32} {f_huts : Int32} {f_singers : Int32} {f_evening : Int32} {a_at : Nat → Int32} {a_knows : Nat → Int32} {a_climbed : Nat → Int32} {a_snow : Nat → Int32} {a_level : Nat → Int32} {f_begun : Int32} {f_minute : Int32} {f_avalanches : Int32} {a_run : Nat → Int32} {a_covers : Nat → Int32} {a_routes : Nat → Int32} {a_longest : Nat → Int32} {a_steep : Nat → Int32} {a_laid : Nat → Int32} {a_far : Nat → Int32} {f_sight : Int32} {a_runs : Nat → Int32} {f_choir : Int32} {f_voices : Int32} {a_rest : Nat → Int64} {a_wins : Nat → Int32} {f_seed : Int32} {a_other : Nat → Int32} {a_kept : Nat → Int32} {P163 : Int32 → (Int32) → (Int32) → Prop} {post : (Int32) → (Int32) → (Int32) → (Int32) → (Int64) → Prop} {x2 : Int32} {y0 : Int32} {ls : Array Slot} {H : Heap} {locs : List Loc}
    (zc : zC p s m args meth c cX11_token 3 RX11 none)
    (hK : zK E s)
    (hM : mW E q f_code a_tape a_size a_fault a_faultPlace a_many a_lands a_evenings a_sights a_choirs f_reached f_length f_begins f_sort f_value f_word f_wrongAt f_laterFault f_laterPlace a_told a_read f_farHut f_farSinger f_good f_land f_huts f_singers f_evening a_at a_knows a_climbed a_snow a_level f_begun f_minute f_avalanches a_run a_covers a_routes a_longest a_steep a_laid a_far f_sight a_runs f_choir f_voices a_rest a_wins f_seed a_other a_kept H)
    (hS : va_S (mA q) s.heap H locs)
    (hP163 : ∀ (x2 : Int32) (f_reached : Int32) (f_value : Int32) (H : Heap) (locs : List Loc) (ls : Array Slot), P163 x2 f_reached f_value → lv_has ls 3 [(0, .ref q), (2, .int x2)] → mW E q f_code a_tape a_size a_fault a_faultPlace a_many a_lands a_evenings a_sights a_choirs f_reached f_length f_begins f_sort f_value f_word f_wrongAt f_laterFault f_laterPlace a_told a_read f_farHut f_farSinger f_good f_land f_huts f_singers f_evening a_at a_knows a_climbed a_snow a_level f_begun f_minute f_avalanches a_run a_covers a_routes a_longest a_steep a_laid a_far f_sight a_runs f_choir f_voices a_rest a_wins f_seed a_other a_kept H → va_S (mA q) s.heap H locs → W p l e rm_m_token s m args below meth c H locs 0 0 (MQ below (zQv (S := (Int32) × (Int32) × (Int32) × (Int32) × (Int64)) (fun u => post u.1 u.2.1 u.2.2.1 u.2.2.2.1 u.2.2.2.2) (fun u H => mW E q f_code a_tape a_size a_fault a_faultPlace a_many a_lands a_evenings a_sights a_choirs u.1 f_length u.2.1 u.2.2.1 u.2.2.2.1 u.2.2.2.2 f_wrongAt f_laterFault f_laterPlace a_told a_read f_farHut f_farSinger f_good f_land f_huts f_singers f_evening a_at a_knows a_climbed a_snow a_level f_begun f_minute f_avalanches a_run a_covers a_routes a_longest a_steep a_laid a_far f_sight a_runs f_choir f_voices a_rest a_wins f_seed a_other a_kept H) (mA q)) args s 0 0 (mA q)) (F0 m 163 ls []))
    (hl : lv_has ls 3 [(0, .ref q), (2, .int x2)])
    (hw : q_m_token_205 P163 a_tape f_reached f_length f_begins f_sort f_value f_word x2 y0 post) :
    W p l e rm_m_token s m args below meth c H locs 0 0 (MQ below (zQv (S := (Int32) × (Int32) × (Int32) × (Int32) × (Int64)) (fun u => post u.1 u.2.1 u.2.2.1 u.2.2.2.1 u.2.2.2.2) (fun u H => mW E q f_code a_tape a_size a_fault a_faultPlace a_many a_lands a_evenings a_sights a_choirs u.1 f_length u.2.1 u.2.2.1 u.2.2.2.1 u.2.2.2.2 f_wrongAt f_laterFault f_laterPlace a_told a_read f_farHut f_farSinger f_good f_land f_huts f_singers f_evening a_at a_knows a_climbed a_snow a_level f_begun f_minute f_avalanches a_run a_covers a_routes a_longest a_steep a_laid a_far f_sight a_runs f_choir f_voices a_rest a_wins f_seed a_other a_kept H) (mA q)) args s 0 0 (mA q)) (F0 m 205 ls [.int y0, .ref q]) := by
  have hx := zc.1
  have hb := zc.2.1
  refine mp_11_137_0 zc hK hM hS dX11_token_205 (fun H locs hM hS => ?_)
  refine lv_aload_n hx hb dX11_token_208 rfl (lv_at hl 0 rfl) ?_
  refine lv_dup hx hb dX11_token_209 rfl ?_
  refine mg_11_117_0 zc hK hM dX11_token_210 ?_
  refine lv_iconst (v := (1 : Int32)) hx hb dX11_token_213 (by decide) ?_
  refine lv_iadd hx hb dX11_token_214 ?_
  refine lv_topi (fun v_1 ev_1 => ?_)
  have hw := hw v_1 ev_1
  refine mp_11_117_0 zc hK hM hS dX11_token_215 (fun H locs hM hS => ?_)
  obtain ⟨v_2, ev_2⟩ : ∃ y : Int32, y = x2 + (1 : Int32) := ⟨_, rfl⟩
  have hw := hw v_2 ev_2
  refine lv_iinc (v := v_2) (k := 1) (lv' := [(2, .int v_2), (0, .ref q)]) hx hb dX11_token_218 hl rfl (by rw [ev_2]; rfl) (by decide) rfl (fun ls hl => ?_)
  refine lv_goto (tgt := 163) hx hb dX11_token_221 (by decide) ?_
  exact hP163 _ _ _ _ _ _ hw (lv_sub hl [1, 0] rfl) hM hS
set_option maxRecDepth 20000 in
theorem t_m_token_235 {p : Program} {l : Launch} {e : Env} {s : State} {m : MethodId} {args : Array Value} {below : List Frame} {meth : Method} {c : Code} {E : zE} {q : Nat} {f_code : Int32} {a_tape : Nat → Int32} {a_size : Nat → Int32} {a_fault : Nat → Int32} {a_faultPlace : Nat → Int32} {a_many : Nat → Int32} {a_lands : Nat → Int32} {a_evenings : Nat → Int32} {a_sights : Nat → Int32} {a_choirs : Nat → Int32} {f_reached : Int32} {f_length : Int32} {f_begins : Int32} {f_sort : Int32} {f_value : Int32} {f_word : Int64} {f_wrongAt : Int32} {f_laterFault : Int32} {f_laterPlace : Int32} {a_told : Nat → Int32} {a_read : Nat → Int32} {f_farHut : Int32} {f_farSinger : Int32} {f_good : Int32} {f_land : Int32} {f_huts : Int32} {f_singers : Int32} {f_evening : Int32} {a_at : Nat → Int32} {a_knows : Nat → Int32} {a_climbed : Nat → Int32} {a_snow : Nat → Int32} {a_level : Nat → Int32} {f_begun : Int32} {f_minute : Int32} {f_avalanches : Int32} {a_run : Nat → Int32} {a_covers : Nat → Int32} {a_routes : Nat → Int32} {a_longest : Nat → Int32} {a_steep : Nat → Int32} {a_laid : Nat → Int32} {a_far : Nat → Int32} {f_sight : Int32} {a_runs : Nat → Int32} {f_choir : Int32} {f_voices : Int32} {a_rest : Nat → Int64} {a_wins : Nat → Int32} {f_seed : Int32} {a_other : Nat → Int32} {a_kept : Nat → Int32} {post : (Int32) → (Int32) → (Int32) → (Int32) → (Int64) → Prop} {y0 : Int32} {ls : Array Slot} {H : Heap} {locs : List Loc}
    (zc : zC p s m args meth c cX11_token 3 RX11 none)
    (hK : zK E s)
    (hM : mW E q f_code a_tape a_size a_fault a_faultPlace a_many a_lands a_evenings a_sights a_choirs f_reached f_length f_begins f_sort f_value f_word f_wrongAt f_laterFault f_laterPlace a_told a_read f_farHut f_farSinger f_good f_land f_huts f_singers f_evening a_at a_knows a_climbed a_snow a_level f_begun f_minute f_avalanches a_run a_covers a_routes a_longest a_steep a_laid a_far f_sight a_runs f_choir f_voices a_rest a_wins f_seed a_other a_kept H)
    (hS : va_S (mA q) s.heap H locs)
    (hl : lv_has ls 3 [])
    (hw : q_m_token_235 a_tape f_reached f_length f_begins f_sort f_value f_word y0 post) :
    W p l e rm_m_token s m args below meth c H locs 0 0 (MQ below (zQv (S := (Int32) × (Int32) × (Int32) × (Int32) × (Int64)) (fun u => post u.1 u.2.1 u.2.2.1 u.2.2.2.1 u.2.2.2.2) (fun u H => mW E q f_code a_tape a_size a_fault a_faultPlace a_many a_lands a_evenings a_sights a_choirs u.1 f_length u.2.1 u.2.2.1 u.2.2.2.1 u.2.2.2.2 f_wrongAt f_laterFault f_laterPlace a_told a_read f_farHut f_farSinger f_good f_land f_huts f_singers f_evening a_at a_knows a_climbed a_snow a_level f_begun f_minute f_avalanches a_run a_covers a_routes a_longest a_steep a_laid a_far f_sight a_runs f_choir f_voices a_rest a_wins f_seed a_other a_kept H) (mA q)) args s 0 0 (mA q)) (F0 m 235 ls [.int y0, .ref q]) := by
  have hx := zc.1
  have hb := zc.2.1
  refine mp_11_134_0 zc hK hM hS dX11_token_235 (fun H locs hM hS => ?_)
  refine lv_goto (tgt := 266) hx hb dX11_token_238 (by decide) ?_
  exact zret_vw ⟨f_reached, f_begins, y0, f_value, f_word⟩ zc hS hw hM dX11_token_266
set_option maxRecDepth 20000 in
theorem t_m_token_163 {p : Program} {l : Launch} {e : Env} {s : State} {m : MethodId} {args : Array Value} {below : List Frame} {meth : Method} {c : Code} {E : zE} {q : Nat} {f_code : Int32} {a_tape : Nat → Int32} {a_size : Nat → Int32} {a_fault : Nat → Int32} {a_faultPlace : Nat → Int32} {a_many : Nat → Int32} {a_lands : Nat → Int32} {a_evenings : Nat → Int32} {a_sights : Nat → Int32} {a_choirs : Nat → Int32} {f_reached : Int32} {f_length : Int32} {f_begins : Int32} {f_sort : Int32} {f_value : Int32} {f_word : Int64} {f_wrongAt : Int32} {f_laterFault : Int32} {f_laterPlace : Int32} {a_told : Nat → Int32} {a_read : Nat → Int32} {f_farHut : Int32} {f_farSinger : Int32} {f_good : Int32} {f_land : Int32} {f_huts : Int32} {f_singers : Int32} {f_evening : Int32} {a_at : Nat → Int32} {a_knows : Nat → Int32} {a_climbed : Nat → Int32} {a_snow : Nat → Int32} {a_level : Nat → Int32} {f_begun : Int32} {f_minute : Int32} {f_avalanches : Int32} {a_run : Nat → Int32} {a_covers : Nat → Int32} {a_routes : Nat → Int32} {a_longest : Nat → Int32} {a_steep : Nat → Int32} {a_laid : Nat → Int32} {a_far : Nat → Int32} {f_sight : Int32} {a_runs : Nat → Int32} {f_choir : Int32} {f_voices : Int32} {a_rest : Nat → Int64} {a_wins : Nat → Int32} {f_seed : Int32} {a_other : Nat → Int32} {a_kept : Nat → Int32} {post : (Int32) → (Int32) → (Int32) → (Int32) → (Int64) → Prop} {x2 : Int32} {ls : Array Slot} {H : Heap} {locs : List Loc}
    (zc : zC p s m args meth c cX11_token 3 RX11 none)
    (hK : zK E s)
    (hM : mW E q f_code a_tape a_size a_fault a_faultPlace a_many a_lands a_evenings a_sights a_choirs f_reached f_length f_begins f_sort f_value f_word f_wrongAt f_laterFault f_laterPlace a_told a_read f_farHut f_farSinger f_good f_land f_huts f_singers f_evening a_at a_knows a_climbed a_snow a_level f_begun f_minute f_avalanches a_run a_covers a_routes a_longest a_steep a_laid a_far f_sight a_runs f_choir f_voices a_rest a_wins f_seed a_other a_kept H)
    (hS : va_S (mA q) s.heap H locs)
    (hl : lv_has ls 3 [(0, .ref q), (2, .int x2)])
    (hw : q_m_token_163 a_tape f_reached f_length f_begins f_sort f_value f_word x2 post) :
    W p l e rm_m_token s m args below meth c H locs 0 0 (MQ below (zQv (S := (Int32) × (Int32) × (Int32) × (Int32) × (Int64)) (fun u => post u.1 u.2.1 u.2.2.1 u.2.2.2.1 u.2.2.2.2) (fun u H => mW E q f_code a_tape a_size a_fault a_faultPlace a_many a_lands a_evenings a_sights a_choirs u.1 f_length u.2.1 u.2.2.1 u.2.2.2.1 u.2.2.2.2 f_wrongAt f_laterFault f_laterPlace a_told a_read f_farHut f_farSinger f_good f_land f_huts f_singers f_evening a_at a_knows a_climbed a_snow a_level f_begun f_minute f_avalanches a_run a_covers a_routes a_longest a_steep a_laid a_far f_sight a_runs f_choir f_voices a_rest a_wins f_seed a_other a_kept H) (mA q)) args s 0 0 (mA q)) (F0 m 163 ls []) := by
  have hx := zc.1
  have hb := zc.2.1
  refine hw (fun x2 f_reached f_value => ∀ (H : Heap) (locs : List Loc) (ls : Array Slot), lv_has ls 3 [(0, .ref q), (2, .int x2)] → mW E q f_code a_tape a_size a_fault a_faultPlace a_many a_lands a_evenings a_sights a_choirs f_reached f_length f_begins f_sort f_value f_word f_wrongAt f_laterFault f_laterPlace a_told a_read f_farHut f_farSinger f_good f_land f_huts f_singers f_evening a_at a_knows a_climbed a_snow a_level f_begun f_minute f_avalanches a_run a_covers a_routes a_longest a_steep a_laid a_far f_sight a_runs f_choir f_voices a_rest a_wins f_seed a_other a_kept H → va_S (mA q) s.heap H locs → W p l e rm_m_token s m args below meth c H locs 0 0 (MQ below (zQv (S := (Int32) × (Int32) × (Int32) × (Int32) × (Int64)) (fun u => post u.1 u.2.1 u.2.2.1 u.2.2.2.1 u.2.2.2.2) (fun u H => mW E q f_code a_tape a_size a_fault a_faultPlace a_many a_lands a_evenings a_sights a_choirs u.1 f_length u.2.1 u.2.2.1 u.2.2.2.1 u.2.2.2.2 f_wrongAt f_laterFault f_laterPlace a_told a_read f_farHut f_farSinger f_good f_land f_huts f_singers f_evening a_at a_knows a_climbed a_snow a_level f_begun f_minute f_avalanches a_run a_covers a_routes a_longest a_steep a_laid a_far f_sight a_runs f_choir f_voices a_rest a_wins f_seed a_other a_kept H) (mA q)) args s 0 0 (mA q)) (F0 m 163 ls [])) ?_ _ _ _ hl hM hS
  intro x2 f_reached f_value hw H locs ls hl hM hS
  refine lv_aload_n hx hb dX11_token_163 rfl (lv_at hl 0 rfl) ?_
  refine zV_i [] [] zc ky_X11_see kz_X11_see km_11_123 (c_m_see l hw) (mPreV0 hK hM) rfl rfl hl.1 (Nat.le_of_ble_eq_true rfl) ⟨rfl, rfl⟩ ⟨Nat.le_of_ble_eq_true rfl, Nat.le_of_ble_eq_true rfl⟩ ⟨(Nat.zero_le _), (Nat.zero_le _)⟩ dX11_token_164 (fun r_1 hw => ?_)
  refine lv_bipush (v := (48 : Int32)) hx hb dX11_token_167 (by decide) ?_
  refine lv_bipush (v := (57 : Int32)) hx hb dX11_token_169 (by decide) ?_
  refine zS_i [.int r_1, .int (48 : Int32), .int (57 : Int32)] [] zc ky_X11_in kz_X11_in km_11_109 (c_m_in l hw) (zPre0 _) rfl rfl hl.1 (Nat.le_of_ble_eq_true rfl) ⟨rfl, rfl⟩ ⟨Nat.le_of_ble_eq_true rfl, Nat.le_of_ble_eq_true rfl⟩ ⟨(Nat.zero_le _), (Nat.zero_le _)⟩ dX11_token_171 (fun r_2 hw => ?_)
  refine lv_if_eq (tgt := 224) hx hb dX11_token_174 (by decide) (fun hc => ?_) (fun hc => ?_)
  · have hw := hw.1 hc
    refine lv_aload_n hx hb dX11_token_224 rfl (lv_at hl 0 rfl) ?_
    refine lv_iload_n hx hb dX11_token_225 rfl (lv_at hl 1 rfl) ?_
    refine lv_iconst (v := (2 : Int32)) hx hb dX11_token_226 (by decide) ?_
    refine lv_icmp_le (tgt := 234) hx hb dX11_token_227 (by decide) (fun hc => ?_) (fun hc => ?_)
    · have hw := hw.1 hc
      refine lv_iconst (v := (3 : Int32)) hx hb dX11_token_234 (by decide) ?_
      exact t_m_token_235 zc hK hM hS  (lv_sub hl [] rfl) hw
    · have hw := hw.2 hc
      refine lv_iconst (v := (1 : Int32)) hx hb dX11_token_230 (by decide) ?_
      refine lv_goto (tgt := 235) hx hb dX11_token_231 (by decide) ?_
      exact t_m_token_235 zc hK hM hS  (lv_sub hl [] rfl) hw
  · have hw := hw.2 hc
    refine lv_aload_n hx hb dX11_token_177 rfl (lv_at hl 0 rfl) ?_
    refine lv_iload_n hx hb dX11_token_178 rfl (lv_at hl 1 rfl) ?_
    refine lv_iconst (v := (2 : Int32)) hx hb dX11_token_179 (by decide) ?_
    refine lv_icmp_ge (tgt := 201) hx hb dX11_token_180 (by decide) (fun hc => ?_) (fun hc => ?_)
    · have hw := hw.1 hc
      refine lv_aload_n hx hb dX11_token_201 rfl (lv_at hl 0 rfl) ?_
      refine mg_11_137_0 zc hK hM dX11_token_202 ?_
      exact t_m_token_205 zc hK hM hS (fun _ _ _ H locs ls h hl hM hS => h H locs ls hl hM hS) (lv_sub hl [0, 1] rfl) hw
    · have hw := hw.2 hc
      refine lv_bipush (v := (10 : Int32)) hx hb dX11_token_183 (by decide) ?_
      refine lv_aload_n hx hb dX11_token_185 rfl (lv_at hl 0 rfl) ?_
      refine mg_11_137_0 zc hK hM dX11_token_186 ?_
      refine lv_imul hx hb dX11_token_189 ?_
      refine lv_aload_n hx hb dX11_token_190 rfl (lv_at hl 0 rfl) ?_
      refine zV_i [] [.int ((10 : Int32) * f_value), .ref q] zc ky_X11_see kz_X11_see km_11_123 (c_m_see l hw) (mPreV0 hK hM) rfl rfl hl.1 (Nat.le_of_ble_eq_true rfl) ⟨rfl, rfl⟩ ⟨Nat.le_of_ble_eq_true rfl, Nat.le_of_ble_eq_true rfl⟩ ⟨(Nat.zero_le _), (Nat.zero_le _)⟩ dX11_token_191 (fun r_3 hw => ?_)
      refine lv_iadd hx hb dX11_token_194 ?_
      refine lv_bipush (v := (48 : Int32)) hx hb dX11_token_195 (by decide) ?_
      refine lv_isub hx hb dX11_token_197 ?_
      refine lv_goto (tgt := 205) hx hb dX11_token_198 (by decide) ?_
      exact t_m_token_205 zc hK hM hS (fun _ _ _ H locs ls h hl hM hS => h H locs ls hl hM hS) (lv_sub hl [0, 1] rfl) hw
set_option maxRecDepth 20000 in
theorem t_m_token_18 {p : Program} {l : Launch} {e : Env} {s : State} {m : MethodId} {args : Array Value} {below : List Frame} {meth : Method} {c : Code} {E : zE} {q : Nat} {f_code : Int32} {a_tape : Nat → Int32} {a_size : Nat → Int32} {a_fault : Nat → Int32} {a_faultPlace : Nat → Int32} {a_many : Nat → Int32} {a_lands : Nat → Int32} {a_evenings : Nat → Int32} {a_sights : Nat → Int32} {a_choirs : Nat → Int32} {f_reached : Int32} {f_length : Int32} {f_begins : Int32} {f_sort : Int32} {f_value : Int32} {f_word : Int64} {f_wrongAt : Int32} {f_laterFault : Int32} {f_laterPlace : Int32} {a_told : Nat → Int32} {a_read : Nat → Int32} {f_farHut : Int32} {f_farSinger : Int32} {f_good : Int32} {f_land : Int32} {f_huts : Int32} {f_singers : Int32} {f_evening : Int32} {a_at : Nat → Int32} {a_knows : Nat → Int32} {a_climbed : Nat → Int32} {a_snow : Nat → Int32} {a_level : Nat → Int32} {f_begun : Int32} {f_minute : Int32} {f_avalanches : Int32} {a_run : Nat → Int32} {a_covers : Nat → Int32} {a_routes : Nat → Int32} {a_longest : Nat → Int32} {a_steep : Nat → Int32} {a_laid : Nat → Int32} {a_far : Nat → Int32} {f_sight : Int32} {a_runs : Nat → Int32} {f_choir : Int32} {f_voices : Int32} {a_rest : Nat → Int64} {a_wins : Nat → Int32} {f_seed : Int32} {a_other : Nat → Int32} {a_kept : Nat → Int32} {P0 : (Int32) → Prop} {post : (Int32) → (Int32) → (Int32) → (Int32) → (Int64) → Prop} {ls : Array Slot} {H : Heap} {locs : List Loc}
    (zc : zC p s m args meth c cX11_token 3 RX11 none)
    (hK : zK E s)
    (hM : mW E q f_code a_tape a_size a_fault a_faultPlace a_many a_lands a_evenings a_sights a_choirs f_reached f_length f_begins f_sort f_value f_word f_wrongAt f_laterFault f_laterPlace a_told a_read f_farHut f_farSinger f_good f_land f_huts f_singers f_evening a_at a_knows a_climbed a_snow a_level f_begun f_minute f_avalanches a_run a_covers a_routes a_longest a_steep a_laid a_far f_sight a_runs f_choir f_voices a_rest a_wins f_seed a_other a_kept H)
    (hS : va_S (mA q) s.heap H locs)
    (hP0 : ∀ (f_reached : Int32) (H : Heap) (locs : List Loc) (ls : Array Slot), P0 f_reached → lv_has ls 3 [(0, .ref q)] → mW E q f_code a_tape a_size a_fault a_faultPlace a_many a_lands a_evenings a_sights a_choirs f_reached f_length f_begins f_sort f_value f_word f_wrongAt f_laterFault f_laterPlace a_told a_read f_farHut f_farSinger f_good f_land f_huts f_singers f_evening a_at a_knows a_climbed a_snow a_level f_begun f_minute f_avalanches a_run a_covers a_routes a_longest a_steep a_laid a_far f_sight a_runs f_choir f_voices a_rest a_wins f_seed a_other a_kept H → va_S (mA q) s.heap H locs → W p l e rm_m_token s m args below meth c H locs 0 0 (MQ below (zQv (S := (Int32) × (Int32) × (Int32) × (Int32) × (Int64)) (fun u => post u.1 u.2.1 u.2.2.1 u.2.2.2.1 u.2.2.2.2) (fun u H => mW E q f_code a_tape a_size a_fault a_faultPlace a_many a_lands a_evenings a_sights a_choirs u.1 f_length u.2.1 u.2.2.1 u.2.2.2.1 u.2.2.2.2 f_wrongAt f_laterFault f_laterPlace a_told a_read f_farHut f_farSinger f_good f_land f_huts f_singers f_evening a_at a_knows a_climbed a_snow a_level f_begun f_minute f_avalanches a_run a_covers a_routes a_longest a_steep a_laid a_far f_sight a_runs f_choir f_voices a_rest a_wins f_seed a_other a_kept H) (mA q)) args s 0 0 (mA q)) (F0 m 0 ls []))
    (hl : lv_has ls 3 [(0, .ref q)])
    (hw : q_m_token_18 P0 a_tape f_reached f_length f_begins f_sort f_value f_word post) :
    W p l e rm_m_token s m args below meth c H locs 0 0 (MQ below (zQv (S := (Int32) × (Int32) × (Int32) × (Int32) × (Int64)) (fun u => post u.1 u.2.1 u.2.2.1 u.2.2.2.1 u.2.2.2.2) (fun u H => mW E q f_code a_tape a_size a_fault a_faultPlace a_many a_lands a_evenings a_sights a_choirs u.1 f_length u.2.1 u.2.2.1 u.2.2.2.1 u.2.2.2.2 f_wrongAt f_laterFault f_laterPlace a_told a_read f_farHut f_farSinger f_good f_land f_huts f_singers f_evening a_at a_knows a_climbed a_snow a_level f_begun f_minute f_avalanches a_run a_covers a_routes a_longest a_steep a_laid a_far f_sight a_runs f_choir f_voices a_rest a_wins f_seed a_other a_kept H) (mA q)) args s 0 0 (mA q)) (F0 m 18 ls []) := by
  have hx := zc.1
  have hb := zc.2.1
  refine lv_aload_n hx hb dX11_token_18 rfl (lv_at hl 0 rfl) ?_
  refine lv_dup hx hb dX11_token_19 rfl ?_
  refine mg_11_117_0 zc hK hM dX11_token_20 ?_
  refine lv_iconst (v := (1 : Int32)) hx hb dX11_token_23 (by decide) ?_
  refine lv_iadd hx hb dX11_token_24 ?_
  refine lv_topi (fun v_1 ev_1 => ?_)
  have hw := hw v_1 ev_1
  refine mp_11_117_0 zc hK hM hS dX11_token_25 (fun H locs hM hS => ?_)
  refine lv_goto (tgt := 0) hx hb dX11_token_28 (by decide) ?_
  exact hP0 _ _ _ _ hw (lv_sub hl [0] rfl) hM hS
set_option maxRecDepth 20000 in
theorem t_m_token_263 {p : Program} {l : Launch} {e : Env} {s : State} {m : MethodId} {args : Array Value} {below : List Frame} {meth : Method} {c : Code} {E : zE} {q : Nat} {f_code : Int32} {a_tape : Nat → Int32} {a_size : Nat → Int32} {a_fault : Nat → Int32} {a_faultPlace : Nat → Int32} {a_many : Nat → Int32} {a_lands : Nat → Int32} {a_evenings : Nat → Int32} {a_sights : Nat → Int32} {a_choirs : Nat → Int32} {f_reached : Int32} {f_length : Int32} {f_begins : Int32} {f_sort : Int32} {f_value : Int32} {f_word : Int64} {f_wrongAt : Int32} {f_laterFault : Int32} {f_laterPlace : Int32} {a_told : Nat → Int32} {a_read : Nat → Int32} {f_farHut : Int32} {f_farSinger : Int32} {f_good : Int32} {f_land : Int32} {f_huts : Int32} {f_singers : Int32} {f_evening : Int32} {a_at : Nat → Int32} {a_knows : Nat → Int32} {a_climbed : Nat → Int32} {a_snow : Nat → Int32} {a_level : Nat → Int32} {f_begun : Int32} {f_minute : Int32} {f_avalanches : Int32} {a_run : Nat → Int32} {a_covers : Nat → Int32} {a_routes : Nat → Int32} {a_longest : Nat → Int32} {a_steep : Nat → Int32} {a_laid : Nat → Int32} {a_far : Nat → Int32} {f_sight : Int32} {a_runs : Nat → Int32} {f_choir : Int32} {f_voices : Int32} {a_rest : Nat → Int64} {a_wins : Nat → Int32} {f_seed : Int32} {a_other : Nat → Int32} {a_kept : Nat → Int32} {post : (Int32) → (Int32) → (Int32) → (Int32) → (Int64) → Prop} {y0 : Int32} {ls : Array Slot} {H : Heap} {locs : List Loc}
    (zc : zC p s m args meth c cX11_token 3 RX11 none)
    (hK : zK E s)
    (hM : mW E q f_code a_tape a_size a_fault a_faultPlace a_many a_lands a_evenings a_sights a_choirs f_reached f_length f_begins f_sort f_value f_word f_wrongAt f_laterFault f_laterPlace a_told a_read f_farHut f_farSinger f_good f_land f_huts f_singers f_evening a_at a_knows a_climbed a_snow a_level f_begun f_minute f_avalanches a_run a_covers a_routes a_longest a_steep a_laid a_far f_sight a_runs f_choir f_voices a_rest a_wins f_seed a_other a_kept H)
    (hS : va_S (mA q) s.heap H locs)
    (hl : lv_has ls 3 [])
    (hw : q_m_token_263 a_tape f_reached f_length f_begins f_sort f_value f_word y0 post) :
    W p l e rm_m_token s m args below meth c H locs 0 0 (MQ below (zQv (S := (Int32) × (Int32) × (Int32) × (Int32) × (Int64)) (fun u => post u.1 u.2.1 u.2.2.1 u.2.2.2.1 u.2.2.2.2) (fun u H => mW E q f_code a_tape a_size a_fault a_faultPlace a_many a_lands a_evenings a_sights a_choirs u.1 f_length u.2.1 u.2.2.1 u.2.2.2.1 u.2.2.2.2 f_wrongAt f_laterFault f_laterPlace a_told a_read f_farHut f_farSinger f_good f_land f_huts f_singers f_evening a_at a_knows a_climbed a_snow a_level f_begun f_minute f_avalanches a_run a_covers a_routes a_longest a_steep a_laid a_far f_sight a_runs f_choir f_voices a_rest a_wins f_seed a_other a_kept H) (mA q)) args s 0 0 (mA q)) (F0 m 263 ls [.int y0, .ref q]) := by
  have hx := zc.1
  have hb := zc.2.1
  refine mp_11_134_0 zc hK hM hS dX11_token_263 (fun H locs hM hS => ?_)
  exact zret_vw ⟨f_reached, f_begins, y0, f_value, f_word⟩ zc hS hw hM dX11_token_266
set_option maxRecDepth 20000 in
theorem t_m_token_136 {p : Program} {l : Launch} {e : Env} {s : State} {m : MethodId} {args : Array Value} {below : List Frame} {meth : Method} {c : Code} {E : zE} {q : Nat} {f_code : Int32} {a_tape : Nat → Int32} {a_size : Nat → Int32} {a_fault : Nat → Int32} {a_faultPlace : Nat → Int32} {a_many : Nat → Int32} {a_lands : Nat → Int32} {a_evenings : Nat → Int32} {a_sights : Nat → Int32} {a_choirs : Nat → Int32} {f_reached : Int32} {f_length : Int32} {f_begins : Int32} {f_sort : Int32} {f_value : Int32} {f_word : Int64} {f_wrongAt : Int32} {f_laterFault : Int32} {f_laterPlace : Int32} {a_told : Nat → Int32} {a_read : Nat → Int32} {f_farHut : Int32} {f_farSinger : Int32} {f_good : Int32} {f_land : Int32} {f_huts : Int32} {f_singers : Int32} {f_evening : Int32} {a_at : Nat → Int32} {a_knows : Nat → Int32} {a_climbed : Nat → Int32} {a_snow : Nat → Int32} {a_level : Nat → Int32} {f_begun : Int32} {f_minute : Int32} {f_avalanches : Int32} {a_run : Nat → Int32} {a_covers : Nat → Int32} {a_routes : Nat → Int32} {a_longest : Nat → Int32} {a_steep : Nat → Int32} {a_laid : Nat → Int32} {a_far : Nat → Int32} {f_sight : Int32} {a_runs : Nat → Int32} {f_choir : Int32} {f_voices : Int32} {a_rest : Nat → Int64} {a_wins : Nat → Int32} {f_seed : Int32} {a_other : Nat → Int32} {a_kept : Nat → Int32} {post : (Int32) → (Int32) → (Int32) → (Int32) → (Int64) → Prop} {y0 : Int64} {ls : Array Slot} {H : Heap} {locs : List Loc}
    (zc : zC p s m args meth c cX11_token 3 RX11 none)
    (hK : zK E s)
    (hM : mW E q f_code a_tape a_size a_fault a_faultPlace a_many a_lands a_evenings a_sights a_choirs f_reached f_length f_begins f_sort f_value f_word f_wrongAt f_laterFault f_laterPlace a_told a_read f_farHut f_farSinger f_good f_land f_huts f_singers f_evening a_at a_knows a_climbed a_snow a_level f_begun f_minute f_avalanches a_run a_covers a_routes a_longest a_steep a_laid a_far f_sight a_runs f_choir f_voices a_rest a_wins f_seed a_other a_kept H)
    (hS : va_S (mA q) s.heap H locs)
    (hl : lv_has ls 3 [(0, .ref q)])
    (hw : q_m_token_136 a_tape f_reached f_length f_begins f_sort f_value f_word y0 post) :
    W p l e rm_m_token s m args below meth c H locs 0 0 (MQ below (zQv (S := (Int32) × (Int32) × (Int32) × (Int32) × (Int64)) (fun u => post u.1 u.2.1 u.2.2.1 u.2.2.2.1 u.2.2.2.2) (fun u H => mW E q f_code a_tape a_size a_fault a_faultPlace a_many a_lands a_evenings a_sights a_choirs u.1 f_length u.2.1 u.2.2.1 u.2.2.2.1 u.2.2.2.2 f_wrongAt f_laterFault f_laterPlace a_told a_read f_farHut f_farSinger f_good f_land f_huts f_singers f_evening a_at a_knows a_climbed a_snow a_level f_begun f_minute f_avalanches a_run a_covers a_routes a_longest a_steep a_laid a_far f_sight a_runs f_choir f_voices a_rest a_wins f_seed a_other a_kept H) (mA q)) args s 0 0 (mA q)) (F0 m 136 ls [.long y0, .ref q]) := by
  have hx := zc.1
  have hb := zc.2.1
  refine mp_11_130_0 zc hK hM hS dX11_token_136 (fun H locs hM hS => ?_)
  refine lv_aload_n hx hb dX11_token_139 rfl (lv_at hl 0 rfl) ?_
  refine lv_iconst (v := (2 : Int32)) hx hb dX11_token_140 (by decide) ?_
  refine mp_11_134_0 zc hK hM hS dX11_token_141 (fun H locs hM hS => ?_)
  refine lv_goto (tgt := 266) hx hb dX11_token_144 (by decide) ?_
  exact zret_vw ⟨f_reached, f_begins, (2 : Int32), f_value, y0⟩ zc hS hw hM dX11_token_266
set_option maxRecDepth 20000 in
theorem t_m_token_74 {p : Program} {l : Launch} {e : Env} {s : State} {m : MethodId} {args : Array Value} {below : List Frame} {meth : Method} {c : Code} {E : zE} {q : Nat} {f_code : Int32} {a_tape : Nat → Int32} {a_size : Nat → Int32} {a_fault : Nat → Int32} {a_faultPlace : Nat → Int32} {a_many : Nat → Int32} {a_lands : Nat → Int32} {a_evenings : Nat → Int32} {a_sights : Nat → Int32} {a_choirs : Nat → Int32} {f_reached : Int32} {f_length : Int32} {f_begins : Int32} {f_sort : Int32} {f_value : Int32} {f_word : Int64} {f_wrongAt : Int32} {f_laterFault : Int32} {f_laterPlace : Int32} {a_told : Nat → Int32} {a_read : Nat → Int32} {f_farHut : Int32} {f_farSinger : Int32} {f_good : Int32} {f_land : Int32} {f_huts : Int32} {f_singers : Int32} {f_evening : Int32} {a_at : Nat → Int32} {a_knows : Nat → Int32} {a_climbed : Nat → Int32} {a_snow : Nat → Int32} {a_level : Nat → Int32} {f_begun : Int32} {f_minute : Int32} {f_avalanches : Int32} {a_run : Nat → Int32} {a_covers : Nat → Int32} {a_routes : Nat → Int32} {a_longest : Nat → Int32} {a_steep : Nat → Int32} {a_laid : Nat → Int32} {a_far : Nat → Int32} {f_sight : Int32} {a_runs : Nat → Int32} {f_choir : Int32} {f_voices : Int32} {a_rest : Nat → Int64} {a_wins : Nat → Int32} {f_seed : Int32} {a_other : Nat → Int32} {a_kept : Nat → Int32} {post : (Int32) → (Int32) → (Int32) → (Int32) → (Int64) → Prop} {x2 : Int32} {ls : Array Slot} {H : Heap} {locs : List Loc}
    (zc : zC p s m args meth c cX11_token 3 RX11 none)
    (hK : zK E s)
    (hM : mW E q f_code a_tape a_size a_fault a_faultPlace a_many a_lands a_evenings a_sights a_choirs f_reached f_length f_begins f_sort f_value f_word f_wrongAt f_laterFault f_laterPlace a_told a_read f_farHut f_farSinger f_good f_land f_huts f_singers f_evening a_at a_knows a_climbed a_snow a_level f_begun f_minute f_avalanches a_run a_covers a_routes a_longest a_steep a_laid a_far f_sight a_runs f_choir f_voices a_rest a_wins f_seed a_other a_kept H)
    (hS : va_S (mA q) s.heap H locs)
    (hl : lv_has ls 3 [(0, .ref q), (2, .int x2)])
    (hw : q_m_token_74 a_tape f_reached f_length f_begins f_sort f_value f_word x2 post) :
    W p l e rm_m_token s m args below meth c H locs 0 0 (MQ below (zQv (S := (Int32) × (Int32) × (Int32) × (Int32) × (Int64)) (fun u => post u.1 u.2.1 u.2.2.1 u.2.2.2.1 u.2.2.2.2) (fun u H => mW E q f_code a_tape a_size a_fault a_faultPlace a_many a_lands a_evenings a_sights a_choirs u.1 f_length u.2.1 u.2.2.1 u.2.2.2.1 u.2.2.2.2 f_wrongAt f_laterFault f_laterPlace a_told a_read f_farHut f_farSinger f_good f_land f_huts f_singers f_evening a_at a_knows a_climbed a_snow a_level f_begun f_minute f_avalanches a_run a_covers a_routes a_longest a_steep a_laid a_far f_sight a_runs f_choir f_voices a_rest a_wins f_seed a_other a_kept H) (mA q)) args s 0 0 (mA q)) (F0 m 74 ls []) := by
  have hx := zc.1
  have hb := zc.2.1
  refine hw (fun x2 f_reached f_word => ∀ (H : Heap) (locs : List Loc) (ls : Array Slot), lv_has ls 3 [(0, .ref q), (2, .int x2)] → mW E q f_code a_tape a_size a_fault a_faultPlace a_many a_lands a_evenings a_sights a_choirs f_reached f_length f_begins f_sort f_value f_word f_wrongAt f_laterFault f_laterPlace a_told a_read f_farHut f_farSinger f_good f_land f_huts f_singers f_evening a_at a_knows a_climbed a_snow a_level f_begun f_minute f_avalanches a_run a_covers a_routes a_longest a_steep a_laid a_far f_sight a_runs f_choir f_voices a_rest a_wins f_seed a_other a_kept H → va_S (mA q) s.heap H locs → W p l e rm_m_token s m args below meth c H locs 0 0 (MQ below (zQv (S := (Int32) × (Int32) × (Int32) × (Int32) × (Int64)) (fun u => post u.1 u.2.1 u.2.2.1 u.2.2.2.1 u.2.2.2.2) (fun u H => mW E q f_code a_tape a_size a_fault a_faultPlace a_many a_lands a_evenings a_sights a_choirs u.1 f_length u.2.1 u.2.2.1 u.2.2.2.1 u.2.2.2.2 f_wrongAt f_laterFault f_laterPlace a_told a_read f_farHut f_farSinger f_good f_land f_huts f_singers f_evening a_at a_knows a_climbed a_snow a_level f_begun f_minute f_avalanches a_run a_covers a_routes a_longest a_steep a_laid a_far f_sight a_runs f_choir f_voices a_rest a_wins f_seed a_other a_kept H) (mA q)) args s 0 0 (mA q)) (F0 m 74 ls [])) ?_ _ _ _ hl hM hS
  intro x2 f_reached f_word hw H locs ls hl hM hS
  refine lv_aload_n hx hb dX11_token_74 rfl (lv_at hl 0 rfl) ?_
  refine zV_i [] [] zc ky_X11_see kz_X11_see km_11_123 (c_m_see l hw) (mPreV0 hK hM) rfl rfl hl.1 (Nat.le_of_ble_eq_true rfl) ⟨rfl, rfl⟩ ⟨Nat.le_of_ble_eq_true rfl, Nat.le_of_ble_eq_true rfl⟩ ⟨(Nat.zero_le _), (Nat.zero_le _)⟩ dX11_token_75 (fun r_1 hw => ?_)
  refine lv_bipush (v := (97 : Int32)) hx hb dX11_token_78 (by decide) ?_
  refine lv_bipush (v := (122 : Int32)) hx hb dX11_token_80 (by decide) ?_
  refine zS_i [.int r_1, .int (97 : Int32), .int (122 : Int32)] [] zc ky_X11_in kz_X11_in km_11_109 (c_m_in l hw) (zPre0 _) rfl rfl hl.1 (Nat.le_of_ble_eq_true rfl) ⟨rfl, rfl⟩ ⟨Nat.le_of_ble_eq_true rfl, Nat.le_of_ble_eq_true rfl⟩ ⟨(Nat.zero_le _), (Nat.zero_le _)⟩ dX11_token_82 (fun r_2 hw => ?_)
  refine lv_if_eq (tgt := 121) hx hb dX11_token_85 (by decide) (fun hc => ?_) (fun hc => ?_)
  · have hw := hw.1 hc
    refine lv_aload_n hx hb dX11_token_121 rfl (lv_at hl 0 rfl) ?_
    refine lv_iload_n hx hb dX11_token_122 rfl (lv_at hl 1 rfl) ?_
    refine lv_bipush (v := (8 : Int32)) hx hb dX11_token_123 (by decide) ?_
    refine lv_icmp_le (tgt := 132) hx hb dX11_token_125 (by decide) (fun hc => ?_) (fun hc => ?_)
    · have hw := hw.1 hc
      refine lv_aload_n hx hb dX11_token_132 rfl (lv_at hl 0 rfl) ?_
      refine mg_11_130_0 zc hK hM dX11_token_133 ?_
      exact t_m_token_136 zc hK hM hS  (lv_sub hl [0] rfl) hw
    · have hw := hw.2 hc
      refine lv_lconst (v := (0 : Int64)) hx hb dX11_token_128 (by decide) ?_
      refine lv_goto (tgt := 136) hx hb dX11_token_129 (by decide) ?_
      exact t_m_token_136 zc hK hM hS  (lv_sub hl [0] rfl) hw
  · have hw := hw.2 hc
    refine lv_aload_n hx hb dX11_token_88 rfl (lv_at hl 0 rfl) ?_
    refine lv_aload_n hx hb dX11_token_89 rfl (lv_at hl 0 rfl) ?_
    refine mg_11_130_0 zc hK hM dX11_token_90 ?_
    refine lv_bipush (v := (8 : Int32)) hx hb dX11_token_93 (by decide) ?_
    refine lv_lshl hx hb dX11_token_95 rfl ?_
    refine lv_aload_n hx hb dX11_token_96 rfl (lv_at hl 0 rfl) ?_
    refine zV_i [] [.long (f_word <<< (Int32.toInt64 (8 : Int32) &&& 63)), .ref q] zc ky_X11_see kz_X11_see km_11_123 (c_m_see l hw) (mPreV0 hK hM) rfl rfl hl.1 (Nat.le_of_ble_eq_true rfl) ⟨rfl, rfl⟩ ⟨Nat.le_of_ble_eq_true rfl, Nat.le_of_ble_eq_true rfl⟩ ⟨(Nat.zero_le _), (Nat.zero_le _)⟩ dX11_token_97 (fun r_3 hw => ?_)
    refine lv_i2l hx hb dX11_token_100 rfl ?_
    refine lv_lor hx hb dX11_token_101 ?_
    refine lv_topl (fun v_1 ev_1 => ?_)
    have hw := hw v_1 ev_1
    refine mp_11_130_0 zc hK hM hS dX11_token_102 (fun H locs hM hS => ?_)
    refine lv_aload_n hx hb dX11_token_105 rfl (lv_at hl 0 rfl) ?_
    refine lv_dup hx hb dX11_token_106 rfl ?_
    refine mg_11_117_0 zc hK hM dX11_token_107 ?_
    refine lv_iconst (v := (1 : Int32)) hx hb dX11_token_110 (by decide) ?_
    refine lv_iadd hx hb dX11_token_111 ?_
    refine lv_topi (fun v_2 ev_2 => ?_)
    have hw := hw v_2 ev_2
    refine mp_11_117_0 zc hK hM hS dX11_token_112 (fun H locs hM hS => ?_)
    obtain ⟨v_3, ev_3⟩ : ∃ y : Int32, y = x2 + (1 : Int32) := ⟨_, rfl⟩
    have hw := hw v_3 ev_3
    refine lv_iinc (v := v_3) (k := 1) (lv' := [(2, .int v_3), (0, .ref q)]) hx hb dX11_token_115 hl rfl (by rw [ev_3]; rfl) (by decide) rfl (fun ls hl => ?_)
    refine lv_goto (tgt := 74) hx hb dX11_token_118 (by decide) ?_
    exact hw _ _ _ (lv_sub hl [1, 0] rfl) hM hS
set_option maxRecDepth 20000 in
theorem t_m_token_0 {p : Program} {l : Launch} {e : Env} {s : State} {m : MethodId} {args : Array Value} {below : List Frame} {meth : Method} {c : Code} {E : zE} {q : Nat} {f_code : Int32} {a_tape : Nat → Int32} {a_size : Nat → Int32} {a_fault : Nat → Int32} {a_faultPlace : Nat → Int32} {a_many : Nat → Int32} {a_lands : Nat → Int32} {a_evenings : Nat → Int32} {a_sights : Nat → Int32} {a_choirs : Nat → Int32} {f_reached : Int32} {f_length : Int32} {f_begins : Int32} {f_sort : Int32} {f_value : Int32} {f_word : Int64} {f_wrongAt : Int32} {f_laterFault : Int32} {f_laterPlace : Int32} {a_told : Nat → Int32} {a_read : Nat → Int32} {f_farHut : Int32} {f_farSinger : Int32} {f_good : Int32} {f_land : Int32} {f_huts : Int32} {f_singers : Int32} {f_evening : Int32} {a_at : Nat → Int32} {a_knows : Nat → Int32} {a_climbed : Nat → Int32} {a_snow : Nat → Int32} {a_level : Nat → Int32} {f_begun : Int32} {f_minute : Int32} {f_avalanches : Int32} {a_run : Nat → Int32} {a_covers : Nat → Int32} {a_routes : Nat → Int32} {a_longest : Nat → Int32} {a_steep : Nat → Int32} {a_laid : Nat → Int32} {a_far : Nat → Int32} {f_sight : Int32} {a_runs : Nat → Int32} {f_choir : Int32} {f_voices : Int32} {a_rest : Nat → Int64} {a_wins : Nat → Int32} {f_seed : Int32} {a_other : Nat → Int32} {a_kept : Nat → Int32} {post : (Int32) → (Int32) → (Int32) → (Int32) → (Int64) → Prop} {ls : Array Slot} {H : Heap} {locs : List Loc}
    (zc : zC p s m args meth c cX11_token 3 RX11 none)
    (hK : zK E s)
    (hM : mW E q f_code a_tape a_size a_fault a_faultPlace a_many a_lands a_evenings a_sights a_choirs f_reached f_length f_begins f_sort f_value f_word f_wrongAt f_laterFault f_laterPlace a_told a_read f_farHut f_farSinger f_good f_land f_huts f_singers f_evening a_at a_knows a_climbed a_snow a_level f_begun f_minute f_avalanches a_run a_covers a_routes a_longest a_steep a_laid a_far f_sight a_runs f_choir f_voices a_rest a_wins f_seed a_other a_kept H)
    (hS : va_S (mA q) s.heap H locs)
    (hl : lv_has ls 3 [(0, .ref q)])
    (hw : q_m_token_0 a_tape f_reached f_length f_begins f_sort f_value f_word post) :
    W p l e rm_m_token s m args below meth c H locs 0 0 (MQ below (zQv (S := (Int32) × (Int32) × (Int32) × (Int32) × (Int64)) (fun u => post u.1 u.2.1 u.2.2.1 u.2.2.2.1 u.2.2.2.2) (fun u H => mW E q f_code a_tape a_size a_fault a_faultPlace a_many a_lands a_evenings a_sights a_choirs u.1 f_length u.2.1 u.2.2.1 u.2.2.2.1 u.2.2.2.2 f_wrongAt f_laterFault f_laterPlace a_told a_read f_farHut f_farSinger f_good f_land f_huts f_singers f_evening a_at a_knows a_climbed a_snow a_level f_begun f_minute f_avalanches a_run a_covers a_routes a_longest a_steep a_laid a_far f_sight a_runs f_choir f_voices a_rest a_wins f_seed a_other a_kept H) (mA q)) args s 0 0 (mA q)) (F0 m 0 ls []) := by
  have hx := zc.1
  have hb := zc.2.1
  refine hw (fun f_reached => ∀ (H : Heap) (locs : List Loc) (ls : Array Slot), lv_has ls 3 [(0, .ref q)] → mW E q f_code a_tape a_size a_fault a_faultPlace a_many a_lands a_evenings a_sights a_choirs f_reached f_length f_begins f_sort f_value f_word f_wrongAt f_laterFault f_laterPlace a_told a_read f_farHut f_farSinger f_good f_land f_huts f_singers f_evening a_at a_knows a_climbed a_snow a_level f_begun f_minute f_avalanches a_run a_covers a_routes a_longest a_steep a_laid a_far f_sight a_runs f_choir f_voices a_rest a_wins f_seed a_other a_kept H → va_S (mA q) s.heap H locs → W p l e rm_m_token s m args below meth c H locs 0 0 (MQ below (zQv (S := (Int32) × (Int32) × (Int32) × (Int32) × (Int64)) (fun u => post u.1 u.2.1 u.2.2.1 u.2.2.2.1 u.2.2.2.2) (fun u H => mW E q f_code a_tape a_size a_fault a_faultPlace a_many a_lands a_evenings a_sights a_choirs u.1 f_length u.2.1 u.2.2.1 u.2.2.2.1 u.2.2.2.2 f_wrongAt f_laterFault f_laterPlace a_told a_read f_farHut f_farSinger f_good f_land f_huts f_singers f_evening a_at a_knows a_climbed a_snow a_level f_begun f_minute f_avalanches a_run a_covers a_routes a_longest a_steep a_laid a_far f_sight a_runs f_choir f_voices a_rest a_wins f_seed a_other a_kept H) (mA q)) args s 0 0 (mA q)) (F0 m 0 ls [])) ?_ _ _ _ hl hM hS
  intro f_reached hw H locs ls hl hM hS
  refine lv_aload_n hx hb dX11_token_0 rfl (lv_at hl 0 rfl) ?_
  refine zV_i [] [] zc ky_X11_see kz_X11_see km_11_123 (c_m_see l hw) (mPreV0 hK hM) rfl rfl hl.1 (Nat.le_of_ble_eq_true rfl) ⟨rfl, rfl⟩ ⟨Nat.le_of_ble_eq_true rfl, Nat.le_of_ble_eq_true rfl⟩ ⟨(Nat.zero_le _), (Nat.zero_le _)⟩ dX11_token_1 (fun r_1 hw => ?_)
  refine lv_bipush (v := (10 : Int32)) hx hb dX11_token_4 (by decide) ?_
  refine lv_icmp_eq (tgt := 18) hx hb dX11_token_6 (by decide) (fun hc => ?_) (fun hc => ?_)
  · have hw := hw.1 hc
    exact t_m_token_18 zc hK hM hS (fun _ H locs ls h hl hM hS => h H locs ls hl hM hS) (lv_sub hl [0] rfl) hw
  · have hw := hw.2 hc
    refine lv_aload_n hx hb dX11_token_9 rfl (lv_at hl 0 rfl) ?_
    refine zV_i [] [] zc ky_X11_see kz_X11_see km_11_123 (c_m_see l hw) (mPreV0 hK hM) rfl rfl hl.1 (Nat.le_of_ble_eq_true rfl) ⟨rfl, rfl⟩ ⟨Nat.le_of_ble_eq_true rfl, Nat.le_of_ble_eq_true rfl⟩ ⟨(Nat.zero_le _), (Nat.zero_le _)⟩ dX11_token_10 (fun r_2 hw => ?_)
    refine lv_bipush (v := (32 : Int32)) hx hb dX11_token_13 (by decide) ?_
    refine lv_icmp_ne (tgt := 31) hx hb dX11_token_15 (by decide) (fun hc => ?_) (fun hc => ?_)
    · have hw := hw.1 hc
      refine lv_aload_n hx hb dX11_token_31 rfl (lv_at hl 0 rfl) ?_
      refine lv_aload_n hx hb dX11_token_32 rfl (lv_at hl 0 rfl) ?_
      refine mg_11_117_0 zc hK hM dX11_token_33 ?_
      refine mp_11_127_0 zc hK hM hS dX11_token_36 (fun H locs hM hS => ?_)
      refine lv_aload_n hx hb dX11_token_39 rfl (lv_at hl 0 rfl) ?_
      refine zV_i [] [] zc ky_X11_see kz_X11_see km_11_123 (c_m_see l hw) (mPreV0 hK hM) rfl rfl hl.1 (Nat.le_of_ble_eq_true rfl) ⟨rfl, rfl⟩ ⟨Nat.le_of_ble_eq_true rfl, Nat.le_of_ble_eq_true rfl⟩ ⟨(Nat.zero_le _), (Nat.zero_le _)⟩ dX11_token_40 (fun r_3 hw => ?_)
      refine lv_istore_n (lv' := [(1, .int r_3), (0, .ref q)]) hx hb dX11_token_43 rfl hl (by decide) rfl (fun ls hl => ?_)
      refine lv_aload_n hx hb dX11_token_44 rfl (lv_at hl 1 rfl) ?_
      refine lv_lconst (v := (0 : Int64)) hx hb dX11_token_45 (by decide) ?_
      refine mp_11_130_0 zc hK hM hS dX11_token_46 (fun H locs hM hS => ?_)
      refine lv_iconst (v := (0 : Int32)) hx hb dX11_token_49 (by decide) ?_
      refine lv_istore_n (lv' := [(2, .int (0 : Int32)), (1, .int r_3), (0, .ref q)]) hx hb dX11_token_50 rfl hl (by decide) rfl (fun ls hl => ?_)
      refine lv_iload_n hx hb dX11_token_51 rfl (lv_at hl 1 rfl) ?_
      refine lv_if_ge (tgt := 63) hx hb dX11_token_52 (by decide) (fun hc => ?_) (fun hc => ?_)
      · have hw := hw.1 hc
        refine lv_iload_n hx hb dX11_token_63 rfl (lv_at hl 1 rfl) ?_
        refine lv_bipush (v := (97 : Int32)) hx hb dX11_token_64 (by decide) ?_
        refine lv_bipush (v := (122 : Int32)) hx hb dX11_token_66 (by decide) ?_
        refine zS_i [.int r_3, .int (97 : Int32), .int (122 : Int32)] [] zc ky_X11_in kz_X11_in km_11_109 (c_m_in l hw) (zPre0 _) rfl rfl hl.1 (Nat.le_of_ble_eq_true rfl) ⟨rfl, rfl⟩ ⟨Nat.le_of_ble_eq_true rfl, Nat.le_of_ble_eq_true rfl⟩ ⟨(Nat.zero_le _), (Nat.zero_le _)⟩ dX11_token_68 (fun r_4 hw => ?_)
        refine lv_if_eq (tgt := 147) hx hb dX11_token_71 (by decide) (fun hc => ?_) (fun hc => ?_)
        · have hw := hw.1 hc
          refine lv_iload_n hx hb dX11_token_147 rfl (lv_at hl 1 rfl) ?_
          refine lv_bipush (v := (48 : Int32)) hx hb dX11_token_148 (by decide) ?_
          refine lv_bipush (v := (57 : Int32)) hx hb dX11_token_150 (by decide) ?_
          refine zS_i [.int r_3, .int (48 : Int32), .int (57 : Int32)] [] zc ky_X11_in kz_X11_in km_11_109 (c_m_in l hw) (zPre0 _) rfl rfl hl.1 (Nat.le_of_ble_eq_true rfl) ⟨rfl, rfl⟩ ⟨Nat.le_of_ble_eq_true rfl, Nat.le_of_ble_eq_true rfl⟩ ⟨(Nat.zero_le _), (Nat.zero_le _)⟩ dX11_token_152 (fun r_5 hw => ?_)
          refine lv_if_eq (tgt := 241) hx hb dX11_token_155 (by decide) (fun hc => ?_) (fun hc => ?_)
          · have hw := hw.1 hc
            refine lv_aload_n hx hb dX11_token_241 rfl (lv_at hl 2 rfl) ?_
            refine lv_dup hx hb dX11_token_242 rfl ?_
            refine mg_11_117_0 zc hK hM dX11_token_243 ?_
            refine lv_iconst (v := (1 : Int32)) hx hb dX11_token_246 (by decide) ?_
            refine lv_iadd hx hb dX11_token_247 ?_
            refine lv_topi (fun v_1 ev_1 => ?_)
            have hw := hw v_1 ev_1
            refine mp_11_117_0 zc hK hM hS dX11_token_248 (fun H locs hM hS => ?_)
            refine lv_aload_n hx hb dX11_token_251 rfl (lv_at hl 2 rfl) ?_
            refine lv_iload_n hx hb dX11_token_252 rfl (lv_at hl 1 rfl) ?_
            refine lv_bipush (v := (59 : Int32)) hx hb dX11_token_253 (by decide) ?_
            refine lv_icmp_ne (tgt := 262) hx hb dX11_token_255 (by decide) (fun hc => ?_) (fun hc => ?_)
            · have hw := hw.1 hc
              refine lv_iconst (v := (1 : Int32)) hx hb dX11_token_262 (by decide) ?_
              exact t_m_token_263 zc hK hM hS  (lv_sub hl [] rfl) hw
            · have hw := hw.2 hc
              refine lv_iconst (v := (4 : Int32)) hx hb dX11_token_258 (by decide) ?_
              refine lv_goto (tgt := 263) hx hb dX11_token_259 (by decide) ?_
              exact t_m_token_263 zc hK hM hS  (lv_sub hl [] rfl) hw
          · have hw := hw.2 hc
            refine lv_aload_n hx hb dX11_token_158 rfl (lv_at hl 2 rfl) ?_
            refine lv_iconst (v := (0 : Int32)) hx hb dX11_token_159 (by decide) ?_
            refine mp_11_137_0 zc hK hM hS dX11_token_160 (fun H locs hM hS => ?_)
            exact t_m_token_163 zc hK hM hS  (lv_sub hl [2, 0] rfl) hw
        · have hw := hw.2 hc
          exact t_m_token_74 zc hK hM hS  (lv_sub hl [2, 0] rfl) hw
      · have hw := hw.2 hc
        refine lv_aload_n hx hb dX11_token_55 rfl (lv_at hl 2 rfl) ?_
        refine lv_iconst (v := (0 : Int32)) hx hb dX11_token_56 (by decide) ?_
        refine mp_11_134_0 zc hK hM hS dX11_token_57 (fun H locs hM hS => ?_)
        refine lv_goto (tgt := 266) hx hb dX11_token_60 (by decide) ?_
        exact zret_vw ⟨f_reached, f_reached, (0 : Int32), f_value, (0 : Int64)⟩ zc hS hw hM dX11_token_266
    · have hw := hw.2 hc
      exact t_m_token_18 zc hK hM hS (fun _ H locs ls h hl hM hS => h H locs ls hl hM hS) (lv_sub hl [0] rfl) hw
set_option maxRecDepth 20000 in
theorem c_m_token (l : Launch) {E : zE} {q : Nat} {f_code : Int32} {a_tape : Nat → Int32} {a_size : Nat → Int32} {a_fault : Nat → Int32} {a_faultPlace : Nat → Int32} {a_many : Nat → Int32} {a_lands : Nat → Int32} {a_evenings : Nat → Int32} {a_sights : Nat → Int32} {a_choirs : Nat → Int32} {f_reached : Int32} {f_length : Int32} {f_begins : Int32} {f_sort : Int32} {f_value : Int32} {f_word : Int64} {f_wrongAt : Int32} {f_laterFault : Int32} {f_laterPlace : Int32} {a_told : Nat → Int32} {a_read : Nat → Int32} {f_farHut : Int32} {f_farSinger : Int32} {f_good : Int32} {f_land : Int32} {f_huts : Int32} {f_singers : Int32} {f_evening : Int32} {a_at : Nat → Int32} {a_knows : Nat → Int32} {a_climbed : Nat → Int32} {a_snow : Nat → Int32} {a_level : Nat → Int32} {f_begun : Int32} {f_minute : Int32} {f_avalanches : Int32} {a_run : Nat → Int32} {a_covers : Nat → Int32} {a_routes : Nat → Int32} {a_longest : Nat → Int32} {a_steep : Nat → Int32} {a_laid : Nat → Int32} {a_far : Nat → Int32} {f_sight : Int32} {a_runs : Nat → Int32} {f_choir : Int32} {f_voices : Int32} {a_rest : Nat → Int64} {a_wins : Nat → Int32} {f_seed : Int32} {a_other : Nat → Int32} {a_kept : Nat → Int32} {post : (Int32) → (Int32) → (Int32) → (Int32) → (Int64) → Prop} (hw : q_m_token_0 a_tape f_reached f_length f_begins f_sort f_value f_word post) : Met l yX11_token (Cond.code yX11_token cX11_token 3 none :: zb) rm_m_token (va_Pc [.ref q] (fun U => mW E q f_code a_tape a_size a_fault a_faultPlace a_many a_lands a_evenings a_sights a_choirs f_reached f_length f_begins f_sort f_value f_word f_wrongAt f_laterFault f_laterPlace a_told a_read f_farHut f_farSinger f_good f_land f_huts f_singers f_evening a_at a_knows a_climbed a_snow a_level f_begun f_minute f_avalanches a_run a_covers a_routes a_longest a_steep a_laid a_far f_sight a_runs f_choir f_voices a_rest a_wins f_seed a_other a_kept U.heap ∧ zK E U)) (zQv (S := (Int32) × (Int32) × (Int32) × (Int32) × (Int64)) (fun u => post u.1 u.2.1 u.2.2.1 u.2.2.2.1 u.2.2.2.2) (fun u H => mW E q f_code a_tape a_size a_fault a_faultPlace a_many a_lands a_evenings a_sights a_choirs u.1 f_length u.2.1 u.2.2.1 u.2.2.2.1 u.2.2.2.2 f_wrongAt f_laterFault f_laterPlace a_told a_read f_farHut f_farSinger f_good f_land f_huts f_singers f_evening a_at a_knows a_climbed a_snow a_level f_begun f_minute f_avalanches a_run a_covers a_routes a_longest a_steep a_laid a_far f_sight a_runs f_choir f_voices a_rest a_wins f_seed a_other a_kept H) (mA q)) 0 0 (mA q) := by
  refine Met.ofW (cc := cX11_token) (maxL := 3) (ret := none) (by decide) rfl ?_
  intro p e s m args below meth c s₁ B hml hv
  obtain ⟨rfl, hM, hK⟩ := hv
  have zc := zc_of B hml
  have hl := lv_entry ([.ref q]) (n := 3) (Nat.le_of_ble_eq_true rfl)
  rw [lg_entry_eq]
  generalize (lg_sl ([.ref q]) ++ List.replicate (3 - (lg_sl ([.ref q])).length) Slot.unset).toArray = ls at hl ⊢
  have hl : lv_has ls 3 [(0, .ref q)] := hl
  exact t_m_token_0 zc hK hM va_S.rf (lv_sub hl [0] rfl) hw
-- m_fails
abbrev rm_m_fails : Room := { frames := 0, cells := 0, slots := 0, locals := 0 }
def q_m_fails_0 (f_begins : Int32) (f_wrongAt : Int32) (post : Int32 → (Int32) → Prop) : Prop :=
  post (0 : Int32) f_begins
set_option maxRecDepth 20000 in
theorem t_m_fails_0 {p : Program} {l : Launch} {e : Env} {s : State} {m : MethodId} {args : Array Value} {below : List Frame} {meth : Method} {c : Code} {E : zE} {q : Nat} {f_code : Int32} {a_tape : Nat → Int32} {a_size : Nat → Int32} {a_fault : Nat → Int32} {a_faultPlace : Nat → Int32} {a_many : Nat → Int32} {a_lands : Nat → Int32} {a_evenings : Nat → Int32} {a_sights : Nat → Int32} {a_choirs : Nat → Int32} {f_reached : Int32} {f_length : Int32} {f_begins : Int32} {f_sort : Int32} {f_value : Int32} {f_word : Int64} {f_wrongAt : Int32} {f_laterFault : Int32} {f_laterPlace : Int32} {a_told : Nat → Int32} {a_read : Nat → Int32} {f_farHut : Int32} {f_farSinger : Int32} {f_good : Int32} {f_land : Int32} {f_huts : Int32} {f_singers : Int32} {f_evening : Int32} {a_at : Nat → Int32} {a_knows : Nat → Int32} {a_climbed : Nat → Int32} {a_snow : Nat → Int32} {a_level : Nat → Int32} {f_begun : Int32} {f_minute : Int32} {f_avalanches : Int32} {a_run : Nat → Int32} {a_covers : Nat → Int32} {a_routes : Nat → Int32} {a_longest : Nat → Int32} {a_steep : Nat → Int32} {a_laid : Nat → Int32} {a_far : Nat → Int32} {f_sight : Int32} {a_runs : Nat → Int32} {f_choir : Int32} {f_voices : Int32} {a_rest : Nat → Int64} {a_wins : Nat → Int32} {f_seed : Int32} {a_other : Nat → Int32} {a_kept : Nat → Int32} {post : Int32 → (Int32) → Prop} {ls : Array Slot} {H : Heap} {locs : List Loc}
    (zc : zC p s m args meth c cX11_fails 1 RX11 (some .boolean))
    (hK : zK E s)
    (hM : mW E q f_code a_tape a_size a_fault a_faultPlace a_many a_lands a_evenings a_sights a_choirs f_reached f_length f_begins f_sort f_value f_word f_wrongAt f_laterFault f_laterPlace a_told a_read f_farHut f_farSinger f_good f_land f_huts f_singers f_evening a_at a_knows a_climbed a_snow a_level f_begun f_minute f_avalanches a_run a_covers a_routes a_longest a_steep a_laid a_far f_sight a_runs f_choir f_voices a_rest a_wins f_seed a_other a_kept H)
    (hS : va_S (mA q) s.heap H locs)
    (hl : lv_has ls 1 [(0, .ref q)])
    (hw : q_m_fails_0 f_begins f_wrongAt post) :
    W p l e rm_m_fails s m args below meth c H locs 0 0 (MQ below (zQi (S := (Int32)) (fun r u => post r u) (fun u H => mW E q f_code a_tape a_size a_fault a_faultPlace a_many a_lands a_evenings a_sights a_choirs f_reached f_length f_begins f_sort f_value f_word u f_laterFault f_laterPlace a_told a_read f_farHut f_farSinger f_good f_land f_huts f_singers f_evening a_at a_knows a_climbed a_snow a_level f_begun f_minute f_avalanches a_run a_covers a_routes a_longest a_steep a_laid a_far f_sight a_runs f_choir f_voices a_rest a_wins f_seed a_other a_kept H) (mA q)) args s 0 0 (mA q)) (F0 m 0 ls []) := by
  have hx := zc.1
  have hb := zc.2.1
  refine lv_aload_n hx hb dX11_fails_0 rfl (lv_at hl 0 rfl) ?_
  refine lv_aload_n hx hb dX11_fails_1 rfl (lv_at hl 0 rfl) ?_
  refine mg_11_127_0 zc hK hM dX11_fails_2 ?_
  refine mp_11_140_0 zc hK hM hS dX11_fails_5 (fun H locs hM hS => ?_)
  refine lv_iconst (v := (0 : Int32)) hx hb dX11_fails_8 (by decide) ?_
  exact zret_zw f_begins zc hS rfl hw hM dX11_fails_9
set_option maxRecDepth 20000 in
theorem c_m_fails (l : Launch) {E : zE} {q : Nat} {f_code : Int32} {a_tape : Nat → Int32} {a_size : Nat → Int32} {a_fault : Nat → Int32} {a_faultPlace : Nat → Int32} {a_many : Nat → Int32} {a_lands : Nat → Int32} {a_evenings : Nat → Int32} {a_sights : Nat → Int32} {a_choirs : Nat → Int32} {f_reached : Int32} {f_length : Int32} {f_begins : Int32} {f_sort : Int32} {f_value : Int32} {f_word : Int64} {f_wrongAt : Int32} {f_laterFault : Int32} {f_laterPlace : Int32} {a_told : Nat → Int32} {a_read : Nat → Int32} {f_farHut : Int32} {f_farSinger : Int32} {f_good : Int32} {f_land : Int32} {f_huts : Int32} {f_singers : Int32} {f_evening : Int32} {a_at : Nat → Int32} {a_knows : Nat → Int32} {a_climbed : Nat → Int32} {a_snow : Nat → Int32} {a_level : Nat → Int32} {f_begun : Int32} {f_minute : Int32} {f_avalanches : Int32} {a_run : Nat → Int32} {a_covers : Nat → Int32} {a_routes : Nat → Int32} {a_longest : Nat → Int32} {a_steep : Nat → Int32} {a_laid : Nat → Int32} {a_far : Nat → Int32} {f_sight : Int32} {a_runs : Nat → Int32} {f_choir : Int32} {f_voices : Int32} {a_rest : Nat → Int64} {a_wins : Nat → Int32} {f_seed : Int32} {a_other : Nat → Int32} {a_kept : Nat → Int32} {post : Int32 → (Int32) → Prop} (hw : q_m_fails_0 f_begins f_wrongAt post) : Met l yX11_fails (Cond.code yX11_fails cX11_fails 1 (some .boolean) :: zb) rm_m_fails (va_Pc [.ref q] (fun U => mW E q f_code a_tape a_size a_fault a_faultPlace a_many a_lands a_evenings a_sights a_choirs f_reached f_length f_begins f_sort f_value f_word f_wrongAt f_laterFault f_laterPlace a_told a_read f_farHut f_farSinger f_good f_land f_huts f_singers f_evening a_at a_knows a_climbed a_snow a_level f_begun f_minute f_avalanches a_run a_covers a_routes a_longest a_steep a_laid a_far f_sight a_runs f_choir f_voices a_rest a_wins f_seed a_other a_kept U.heap ∧ zK E U)) (zQi (S := (Int32)) (fun r u => post r u) (fun u H => mW E q f_code a_tape a_size a_fault a_faultPlace a_many a_lands a_evenings a_sights a_choirs f_reached f_length f_begins f_sort f_value f_word u f_laterFault f_laterPlace a_told a_read f_farHut f_farSinger f_good f_land f_huts f_singers f_evening a_at a_knows a_climbed a_snow a_level f_begun f_minute f_avalanches a_run a_covers a_routes a_longest a_steep a_laid a_far f_sight a_runs f_choir f_voices a_rest a_wins f_seed a_other a_kept H) (mA q)) 0 0 (mA q) := by
  refine Met.ofW (cc := cX11_fails) (maxL := 1) (ret := (some .boolean)) (by decide) rfl ?_
  intro p e s m args below meth c s₁ B hml hv
  obtain ⟨rfl, hM, hK⟩ := hv
  have zc := zc_of B hml
  have hl := lv_entry ([.ref q]) (n := 1) (Nat.le_of_ble_eq_true rfl)
  rw [lg_entry_eq]
  generalize (lg_sl ([.ref q]) ++ List.replicate (1 - (lg_sl ([.ref q])).length) Slot.unset).toArray = ls at hl ⊢
  have hl : lv_has ls 1 [(0, .ref q)] := hl
  exact t_m_fails_0 zc hK hM va_S.rf (lv_sub hl [0] rfl) hw
-- m_later
abbrev rm_m_later : Room := { frames := 0, cells := 0, slots := 0, locals := 0 }
def q_m_later_31 (f_laterFault : Int32) (f_laterPlace : Int32) (x1 : Int32) (x2 : Int32) (post : (Int32) → (Int32) → Prop) : Prop :=
  post x1 x2
def q_m_later_0 (f_laterFault : Int32) (f_laterPlace : Int32) (x1 : Int32) (x2 : Int32) (post : (Int32) → (Int32) → Prop) : Prop :=
  (f_laterFault = 0 → (q_m_later_31 f_laterFault f_laterPlace x1 x2 post)) ∧ (¬ f_laterFault = 0 → ((x2 < f_laterPlace → (q_m_later_31 f_laterFault f_laterPlace x1 x2 post)) ∧ (¬ x2 < f_laterPlace → ((¬ x2 = f_laterPlace → (post f_laterFault f_laterPlace)) ∧ (x2 = f_laterPlace → ((f_laterFault ≤ x1 → (post f_laterFault f_laterPlace)) ∧ (¬ f_laterFault ≤ x1 → (q_m_later_31 f_laterFault f_laterPlace x1 x2 post))))))))
set_option maxRecDepth 20000 in
theorem t_m_later_31 {p : Program} {l : Launch} {e : Env} {s : State} {m : MethodId} {args : Array Value} {below : List Frame} {meth : Method} {c : Code} {E : zE} {q : Nat} {f_code : Int32} {a_tape : Nat → Int32} {a_size : Nat → Int32} {a_fault : Nat → Int32} {a_faultPlace : Nat → Int32} {a_many : Nat → Int32} {a_lands : Nat → Int32} {a_evenings : Nat → Int32} {a_sights : Nat → Int32} {a_choirs : Nat → Int32} {f_reached : Int32} {f_length : Int32} {f_begins : Int32} {f_sort : Int32} {f_value : Int32} {f_word : Int64} {f_wrongAt : Int32} {f_laterFault : Int32} {f_laterPlace : Int32} {a_told : Nat → Int32} {a_read : Nat → Int32} {f_farHut : Int32} {f_farSinger : Int32} {f_good : Int32} {f_land : Int32} {f_huts : Int32} {f_singers : Int32} {f_evening : Int32} {a_at : Nat → Int32} {a_knows : Nat → Int32} {a_climbed : Nat → Int32} {a_snow : Nat → Int32} {a_level : Nat → Int32} {f_begun : Int32} {f_minute : Int32} {f_avalanches : Int32} {a_run : Nat → Int32} {a_covers : Nat → Int32} {a_routes : Nat → Int32} {a_longest : Nat → Int32} {a_steep : Nat → Int32} {a_laid : Nat → Int32} {a_far : Nat → Int32} {f_sight : Int32} {a_runs : Nat → Int32} {f_choir : Int32} {f_voices : Int32} {a_rest : Nat → Int64} {a_wins : Nat → Int32} {f_seed : Int32} {a_other : Nat → Int32} {a_kept : Nat → Int32} {post : (Int32) → (Int32) → Prop} {x1 : Int32} {x2 : Int32} {ls : Array Slot} {H : Heap} {locs : List Loc}
    (zc : zC p s m args meth c cX11_later 3 RX11 none)
    (hK : zK E s)
    (hM : mW E q f_code a_tape a_size a_fault a_faultPlace a_many a_lands a_evenings a_sights a_choirs f_reached f_length f_begins f_sort f_value f_word f_wrongAt f_laterFault f_laterPlace a_told a_read f_farHut f_farSinger f_good f_land f_huts f_singers f_evening a_at a_knows a_climbed a_snow a_level f_begun f_minute f_avalanches a_run a_covers a_routes a_longest a_steep a_laid a_far f_sight a_runs f_choir f_voices a_rest a_wins f_seed a_other a_kept H)
    (hS : va_S (mA q) s.heap H locs)
    (hl : lv_has ls 3 [(0, .ref q), (1, .int x1), (2, .int x2)])
    (hw : q_m_later_31 f_laterFault f_laterPlace x1 x2 post) :
    W p l e rm_m_later s m args below meth c H locs 0 0 (MQ below (zQv (S := (Int32) × (Int32)) (fun u => post u.1 u.2) (fun u H => mW E q f_code a_tape a_size a_fault a_faultPlace a_many a_lands a_evenings a_sights a_choirs f_reached f_length f_begins f_sort f_value f_word f_wrongAt u.1 u.2 a_told a_read f_farHut f_farSinger f_good f_land f_huts f_singers f_evening a_at a_knows a_climbed a_snow a_level f_begun f_minute f_avalanches a_run a_covers a_routes a_longest a_steep a_laid a_far f_sight a_runs f_choir f_voices a_rest a_wins f_seed a_other a_kept H) (mA q)) args s 0 0 (mA q)) (F0 m 31 ls []) := by
  have hx := zc.1
  have hb := zc.2.1
  refine lv_aload_n hx hb dX11_later_31 rfl (lv_at hl 0 rfl) ?_
  refine lv_iload_n hx hb dX11_later_32 rfl (lv_at hl 1 rfl) ?_
  refine mp_11_143_0 zc hK hM hS dX11_later_33 (fun H locs hM hS => ?_)
  refine lv_aload_n hx hb dX11_later_36 rfl (lv_at hl 0 rfl) ?_
  refine lv_iload_n hx hb dX11_later_37 rfl (lv_at hl 2 rfl) ?_
  refine mp_11_146_0 zc hK hM hS dX11_later_38 (fun H locs hM hS => ?_)
  exact zret_vw ⟨x1, x2⟩ zc hS hw hM dX11_later_41
set_option maxRecDepth 20000 in
theorem t_m_later_0 {p : Program} {l : Launch} {e : Env} {s : State} {m : MethodId} {args : Array Value} {below : List Frame} {meth : Method} {c : Code} {E : zE} {q : Nat} {f_code : Int32} {a_tape : Nat → Int32} {a_size : Nat → Int32} {a_fault : Nat → Int32} {a_faultPlace : Nat → Int32} {a_many : Nat → Int32} {a_lands : Nat → Int32} {a_evenings : Nat → Int32} {a_sights : Nat → Int32} {a_choirs : Nat → Int32} {f_reached : Int32} {f_length : Int32} {f_begins : Int32} {f_sort : Int32} {f_value : Int32} {f_word : Int64} {f_wrongAt : Int32} {f_laterFault : Int32} {f_laterPlace : Int32} {a_told : Nat → Int32} {a_read : Nat → Int32} {f_farHut : Int32} {f_farSinger : Int32} {f_good : Int32} {f_land : Int32} {f_huts : Int32} {f_singers : Int32} {f_evening : Int32} {a_at : Nat → Int32} {a_knows : Nat → Int32} {a_climbed : Nat → Int32} {a_snow : Nat → Int32} {a_level : Nat → Int32} {f_begun : Int32} {f_minute : Int32} {f_avalanches : Int32} {a_run : Nat → Int32} {a_covers : Nat → Int32} {a_routes : Nat → Int32} {a_longest : Nat → Int32} {a_steep : Nat → Int32} {a_laid : Nat → Int32} {a_far : Nat → Int32} {f_sight : Int32} {a_runs : Nat → Int32} {f_choir : Int32} {f_voices : Int32} {a_rest : Nat → Int64} {a_wins : Nat → Int32} {f_seed : Int32} {a_other : Nat → Int32} {a_kept : Nat → Int32} {post : (Int32) → (Int32) → Prop} {x1 : Int32} {x2 : Int32} {ls : Array Slot} {H : Heap} {locs : List Loc}
    (zc : zC p s m args meth c cX11_later 3 RX11 none)
    (hK : zK E s)
    (hM : mW E q f_code a_tape a_size a_fault a_faultPlace a_many a_lands a_evenings a_sights a_choirs f_reached f_length f_begins f_sort f_value f_word f_wrongAt f_laterFault f_laterPlace a_told a_read f_farHut f_farSinger f_good f_land f_huts f_singers f_evening a_at a_knows a_climbed a_snow a_level f_begun f_minute f_avalanches a_run a_covers a_routes a_longest a_steep a_laid a_far f_sight a_runs f_choir f_voices a_rest a_wins f_seed a_other a_kept H)
    (hS : va_S (mA q) s.heap H locs)
    (hl : lv_has ls 3 [(0, .ref q), (1, .int x1), (2, .int x2)])
    (hw : q_m_later_0 f_laterFault f_laterPlace x1 x2 post) :
    W p l e rm_m_later s m args below meth c H locs 0 0 (MQ below (zQv (S := (Int32) × (Int32)) (fun u => post u.1 u.2) (fun u H => mW E q f_code a_tape a_size a_fault a_faultPlace a_many a_lands a_evenings a_sights a_choirs f_reached f_length f_begins f_sort f_value f_word f_wrongAt u.1 u.2 a_told a_read f_farHut f_farSinger f_good f_land f_huts f_singers f_evening a_at a_knows a_climbed a_snow a_level f_begun f_minute f_avalanches a_run a_covers a_routes a_longest a_steep a_laid a_far f_sight a_runs f_choir f_voices a_rest a_wins f_seed a_other a_kept H) (mA q)) args s 0 0 (mA q)) (F0 m 0 ls []) := by
  have hx := zc.1
  have hb := zc.2.1
  refine lv_aload_n hx hb dX11_later_0 rfl (lv_at hl 0 rfl) ?_
  refine mg_11_143_0 zc hK hM dX11_later_1 ?_
  refine lv_if_eq (tgt := 31) hx hb dX11_later_4 (by decide) (fun hc => ?_) (fun hc => ?_)
  · have hw := hw.1 hc
    exact t_m_later_31 zc hK hM hS  (lv_sub hl [0, 1, 2] rfl) hw
  · have hw := hw.2 hc
    refine lv_iload_n hx hb dX11_later_7 rfl (lv_at hl 2 rfl) ?_
    refine lv_aload_n hx hb dX11_later_8 rfl (lv_at hl 0 rfl) ?_
    refine mg_11_146_0 zc hK hM dX11_later_9 ?_
    refine lv_icmp_lt (tgt := 31) hx hb dX11_later_12 (by decide) (fun hc => ?_) (fun hc => ?_)
    · have hw := hw.1 hc
      exact t_m_later_31 zc hK hM hS  (lv_sub hl [0, 1, 2] rfl) hw
    · have hw := hw.2 hc
      refine lv_iload_n hx hb dX11_later_15 rfl (lv_at hl 2 rfl) ?_
      refine lv_aload_n hx hb dX11_later_16 rfl (lv_at hl 0 rfl) ?_
      refine mg_11_146_0 zc hK hM dX11_later_17 ?_
      refine lv_icmp_ne (tgt := 41) hx hb dX11_later_20 (by decide) (fun hc => ?_) (fun hc => ?_)
      · have hw := hw.1 hc
        exact zret_vw ⟨f_laterFault, f_laterPlace⟩ zc hS hw hM dX11_later_41
      · have hw := hw.2 hc
        refine lv_iload_n hx hb dX11_later_23 rfl (lv_at hl 1 rfl) ?_
        refine lv_aload_n hx hb dX11_later_24 rfl (lv_at hl 0 rfl) ?_
        refine mg_11_143_0 zc hK hM dX11_later_25 ?_
        refine lv_icmp_ge (tgt := 41) hx hb dX11_later_28 (by decide) (fun hc => ?_) (fun hc => ?_)
        · have hw := hw.1 hc
          exact zret_vw ⟨f_laterFault, f_laterPlace⟩ zc hS hw hM dX11_later_41
        · have hw := hw.2 hc
          exact t_m_later_31 zc hK hM hS  (lv_sub hl [0, 1, 2] rfl) hw
set_option maxRecDepth 20000 in
theorem c_m_later (l : Launch) {E : zE} {q : Nat} {f_code : Int32} {a_tape : Nat → Int32} {a_size : Nat → Int32} {a_fault : Nat → Int32} {a_faultPlace : Nat → Int32} {a_many : Nat → Int32} {a_lands : Nat → Int32} {a_evenings : Nat → Int32} {a_sights : Nat → Int32} {a_choirs : Nat → Int32} {f_reached : Int32} {f_length : Int32} {f_begins : Int32} {f_sort : Int32} {f_value : Int32} {f_word : Int64} {f_wrongAt : Int32} {f_laterFault : Int32} {f_laterPlace : Int32} {a_told : Nat → Int32} {a_read : Nat → Int32} {f_farHut : Int32} {f_farSinger : Int32} {f_good : Int32} {f_land : Int32} {f_huts : Int32} {f_singers : Int32} {f_evening : Int32} {a_at : Nat → Int32} {a_knows : Nat → Int32} {a_climbed : Nat → Int32} {a_snow : Nat → Int32} {a_level : Nat → Int32} {f_begun : Int32} {f_minute : Int32} {f_avalanches : Int32} {a_run : Nat → Int32} {a_covers : Nat → Int32} {a_routes : Nat → Int32} {a_longest : Nat → Int32} {a_steep : Nat → Int32} {a_laid : Nat → Int32} {a_far : Nat → Int32} {f_sight : Int32} {a_runs : Nat → Int32} {f_choir : Int32} {f_voices : Int32} {a_rest : Nat → Int64} {a_wins : Nat → Int32} {f_seed : Int32} {a_other : Nat → Int32} {a_kept : Nat → Int32} {x1 : Int32} {x2 : Int32} {post : (Int32) → (Int32) → Prop} (hw : q_m_later_0 f_laterFault f_laterPlace x1 x2 post) : Met l yX11_later (Cond.code yX11_later cX11_later 3 none :: zb) rm_m_later (va_Pc [.ref q, .int x1, .int x2] (fun U => mW E q f_code a_tape a_size a_fault a_faultPlace a_many a_lands a_evenings a_sights a_choirs f_reached f_length f_begins f_sort f_value f_word f_wrongAt f_laterFault f_laterPlace a_told a_read f_farHut f_farSinger f_good f_land f_huts f_singers f_evening a_at a_knows a_climbed a_snow a_level f_begun f_minute f_avalanches a_run a_covers a_routes a_longest a_steep a_laid a_far f_sight a_runs f_choir f_voices a_rest a_wins f_seed a_other a_kept U.heap ∧ zK E U)) (zQv (S := (Int32) × (Int32)) (fun u => post u.1 u.2) (fun u H => mW E q f_code a_tape a_size a_fault a_faultPlace a_many a_lands a_evenings a_sights a_choirs f_reached f_length f_begins f_sort f_value f_word f_wrongAt u.1 u.2 a_told a_read f_farHut f_farSinger f_good f_land f_huts f_singers f_evening a_at a_knows a_climbed a_snow a_level f_begun f_minute f_avalanches a_run a_covers a_routes a_longest a_steep a_laid a_far f_sight a_runs f_choir f_voices a_rest a_wins f_seed a_other a_kept H) (mA q)) 0 0 (mA q) := by
  refine Met.ofW (cc := cX11_later) (maxL := 3) (ret := none) (by decide) rfl ?_
  intro p e s m args below meth c s₁ B hml hv
  obtain ⟨rfl, hM, hK⟩ := hv
  have zc := zc_of B hml
  have hl := lv_entry ([.ref q, .int x1, .int x2]) (n := 3) (Nat.le_of_ble_eq_true rfl)
  rw [lg_entry_eq]
  generalize (lg_sl ([.ref q, .int x1, .int x2]) ++ List.replicate (3 - (lg_sl ([.ref q, .int x1, .int x2])).length) Slot.unset).toArray = ls at hl ⊢
  have hl : lv_has ls 3 [(0, .ref q), (1, .int x1), (2, .int x2)] := hl
  exact t_m_later_0 zc hK hM va_S.rf (lv_sub hl [0, 1, 2] rfl) hw
-- m_takeBut
abbrev rm_m_takeBut : Room := { frames := 2, cells := 0, slots := 0, locals := 44 }
def q_m_takeBut_58 (a_tape : Nat → Int32) (f_reached : Int32) (f_length : Int32) (f_begins : Int32) (f_sort : Int32) (f_value : Int32) (f_word : Int64) (f_wrongAt : Int32) (f_laterFault : Int32) (f_laterPlace : Int32) (a_read : Nat → Int32) (f_good : Int32) (post : Int32 → (Int32) → (Int32) → (Int32) → (Int32) → (Int64) → (Int32) → (Int32) → (Int32) → (Nat → Int32) → (Int32) → Prop) : Prop :=
  q_m_token_0 a_tape f_reached f_length f_begins f_sort f_value f_word (fun f_reached_1 f_begins_1 f_sort_1 f_value_1 f_word_1 => post (1 : Int32) f_reached_1 f_begins_1 f_sort_1 f_value_1 f_word_1 f_wrongAt f_laterFault f_laterPlace a_read f_good)
def q_m_takeBut_44 (a_tape : Nat → Int32) (f_reached : Int32) (f_length : Int32) (f_begins : Int32) (f_sort : Int32) (f_value : Int32) (f_word : Int64) (f_wrongAt : Int32) (f_laterFault : Int32) (f_laterPlace : Int32) (a_read : Nat → Int32) (f_good : Int32) (post : Int32 → (Int32) → (Int32) → (Int32) → (Int32) → (Int64) → (Int32) → (Int32) → (Int32) → (Nat → Int32) → (Int32) → Prop) : Prop :=
  q_m_later_0 f_laterFault f_laterPlace (2 : Int32) f_begins (fun f_laterFault_1 f_laterPlace_1 => q_m_takeBut_58 a_tape f_reached f_length f_begins f_sort f_value f_word f_wrongAt f_laterFault_1 f_laterPlace_1 a_read (0 : Int32) post)
def q_m_takeBut_0 (a_tape : Nat → Int32) (f_reached : Int32) (f_length : Int32) (f_begins : Int32) (f_sort : Int32) (f_value : Int32) (f_word : Int64) (f_wrongAt : Int32) (f_laterFault : Int32) (f_laterPlace : Int32) (a_read : Nat → Int32) (f_good : Int32) (x1 : Int32) (x2 : Int32) (x3 : Int32) (x4 : Int32) (post : Int32 → (Int32) → (Int32) → (Int32) → (Int32) → (Int64) → (Int32) → (Int32) → (Int32) → (Nat → Int32) → (Int32) → Prop) : Prop :=
  (f_sort = (3 : Int32) → (vp_in x1 3 ∧ (∀ a_read_1 : Nat → Int32, a_read_1 = upd a_read (Int32.toNatClampNeg x1) f_value → (q_m_in_0 f_value x2 x3 (fun r_1 => (r_1 = 0 → (q_m_takeBut_44 a_tape f_reached f_length f_begins f_sort f_value f_word f_wrongAt f_laterFault f_laterPlace a_read_1 f_good post)) ∧ (¬ r_1 = 0 → ((¬ f_value = x4 → (q_m_takeBut_58 a_tape f_reached f_length f_begins f_sort f_value f_word f_wrongAt f_laterFault f_laterPlace a_read_1 f_good post)) ∧ (f_value = x4 → (q_m_takeBut_44 a_tape f_reached f_length f_begins f_sort f_value f_word f_wrongAt f_laterFault f_laterPlace a_read_1 f_good post))))))))) ∧ (¬ f_sort = (3 : Int32) → (q_m_fails_0 f_begins f_wrongAt (fun r_2 f_wrongAt_1 => narrow .boolean (.int r_2) = .int r_2 ∧ post r_2 f_reached f_begins f_sort f_value f_word f_wrongAt_1 f_laterFault f_laterPlace a_read f_good)))
set_option maxRecDepth 20000 in
theorem t_m_takeBut_58 {p : Program} {l : Launch} {e : Env} {s : State} {m : MethodId} {args : Array Value} {below : List Frame} {meth : Method} {c : Code} {E : zE} {q : Nat} {f_code : Int32} {a_tape : Nat → Int32} {a_size : Nat → Int32} {a_fault : Nat → Int32} {a_faultPlace : Nat → Int32} {a_many : Nat → Int32} {a_lands : Nat → Int32} {a_evenings : Nat → Int32} {a_sights : Nat → Int32} {a_choirs : Nat → Int32} {f_reached : Int32} {f_length : Int32} {f_begins : Int32} {f_sort : Int32} {f_value : Int32} {f_word : Int64} {f_wrongAt : Int32} {f_laterFault : Int32} {f_laterPlace : Int32} {a_told : Nat → Int32} {a_read : Nat → Int32} {f_farHut : Int32} {f_farSinger : Int32} {f_good : Int32} {f_land : Int32} {f_huts : Int32} {f_singers : Int32} {f_evening : Int32} {a_at : Nat → Int32} {a_knows : Nat → Int32} {a_climbed : Nat → Int32} {a_snow : Nat → Int32} {a_level : Nat → Int32} {f_begun : Int32} {f_minute : Int32} {f_avalanches : Int32} {a_run : Nat → Int32} {a_covers : Nat → Int32} {a_routes : Nat → Int32} {a_longest : Nat → Int32} {a_steep : Nat → Int32} {a_laid : Nat → Int32} {a_far : Nat → Int32} {f_sight : Int32} {a_runs : Nat → Int32} {f_choir : Int32} {f_voices : Int32} {a_rest : Nat → Int64} {a_wins : Nat → Int32} {f_seed : Int32} {a_other : Nat → Int32} {a_kept : Nat → Int32} {post : Int32 → (Int32) → (Int32) → (Int32) → (Int32) → (Int64) → (Int32) → (Int32) → (Int32) → (Nat → Int32) → (Int32) → Prop} {ls : Array Slot} {H : Heap} {locs : List Loc}
    (zc : zC p s m args meth c cX11_takeBut 5 RX11 (some .boolean))
    (hK : zK E s)
    (hM : mW E q f_code a_tape a_size a_fault a_faultPlace a_many a_lands a_evenings a_sights a_choirs f_reached f_length f_begins f_sort f_value f_word f_wrongAt f_laterFault f_laterPlace a_told a_read f_farHut f_farSinger f_good f_land f_huts f_singers f_evening a_at a_knows a_climbed a_snow a_level f_begun f_minute f_avalanches a_run a_covers a_routes a_longest a_steep a_laid a_far f_sight a_runs f_choir f_voices a_rest a_wins f_seed a_other a_kept H)
    (hS : va_S (mA q) s.heap H locs)
    (hl : lv_has ls 5 [(0, .ref q)])
    (hw : q_m_takeBut_58 a_tape f_reached f_length f_begins f_sort f_value f_word f_wrongAt f_laterFault f_laterPlace a_read f_good post) :
    W p l e rm_m_takeBut s m args below meth c H locs 0 0 (MQ below (zQi (S := (Int32) × (Int32) × (Int32) × (Int32) × (Int64) × (Int32) × (Int32) × (Int32) × (Nat → Int32) × (Int32)) (fun r u => post r u.1 u.2.1 u.2.2.1 u.2.2.2.1 u.2.2.2.2.1 u.2.2.2.2.2.1 u.2.2.2.2.2.2.1 u.2.2.2.2.2.2.2.1 u.2.2.2.2.2.2.2.2.1 u.2.2.2.2.2.2.2.2.2) (fun u H => mW E q f_code a_tape a_size a_fault a_faultPlace a_many a_lands a_evenings a_sights a_choirs u.1 f_length u.2.1 u.2.2.1 u.2.2.2.1 u.2.2.2.2.1 u.2.2.2.2.2.1 u.2.2.2.2.2.2.1 u.2.2.2.2.2.2.2.1 a_told u.2.2.2.2.2.2.2.2.1 f_farHut f_farSinger u.2.2.2.2.2.2.2.2.2 f_land f_huts f_singers f_evening a_at a_knows a_climbed a_snow a_level f_begun f_minute f_avalanches a_run a_covers a_routes a_longest a_steep a_laid a_far f_sight a_runs f_choir f_voices a_rest a_wins f_seed a_other a_kept H) (mA q)) args s 0 0 (mA q)) (F0 m 58 ls []) := by
  have hx := zc.1
  have hb := zc.2.1
  refine lv_aload_n hx hb dX11_takeBut_58 rfl (lv_at hl 0 rfl) ?_
  refine zVw_v [] [] zc ky_X11_token kz_X11_token km_11_161 (c_m_token l hw) (mPreV0 hK hM) hS rfl rfl hl.1 (Nat.le_of_ble_eq_true rfl) ⟨rfl, rfl⟩ ⟨Nat.le_of_ble_eq_true rfl, Nat.le_of_ble_eq_true rfl⟩ ⟨(Nat.zero_le _), (Nat.zero_le _)⟩ dX11_takeBut_59 (fun u H locs hw hM hS => ?_)
  obtain ⟨f_reached_1, f_begins_1, f_sort_1, f_value_1, f_word_1⟩ := u
  refine lv_iconst (v := (1 : Int32)) hx hb dX11_takeBut_62 (by decide) ?_
  exact zret_zw ⟨f_reached_1, f_begins_1, f_sort_1, f_value_1, f_word_1, f_wrongAt, f_laterFault, f_laterPlace, a_read, f_good⟩ zc hS rfl hw hM dX11_takeBut_63
set_option maxRecDepth 20000 in
theorem t_m_takeBut_44 {p : Program} {l : Launch} {e : Env} {s : State} {m : MethodId} {args : Array Value} {below : List Frame} {meth : Method} {c : Code} {E : zE} {q : Nat} {f_code : Int32} {a_tape : Nat → Int32} {a_size : Nat → Int32} {a_fault : Nat → Int32} {a_faultPlace : Nat → Int32} {a_many : Nat → Int32} {a_lands : Nat → Int32} {a_evenings : Nat → Int32} {a_sights : Nat → Int32} {a_choirs : Nat → Int32} {f_reached : Int32} {f_length : Int32} {f_begins : Int32} {f_sort : Int32} {f_value : Int32} {f_word : Int64} {f_wrongAt : Int32} {f_laterFault : Int32} {f_laterPlace : Int32} {a_told : Nat → Int32} {a_read : Nat → Int32} {f_farHut : Int32} {f_farSinger : Int32} {f_good : Int32} {f_land : Int32} {f_huts : Int32} {f_singers : Int32} {f_evening : Int32} {a_at : Nat → Int32} {a_knows : Nat → Int32} {a_climbed : Nat → Int32} {a_snow : Nat → Int32} {a_level : Nat → Int32} {f_begun : Int32} {f_minute : Int32} {f_avalanches : Int32} {a_run : Nat → Int32} {a_covers : Nat → Int32} {a_routes : Nat → Int32} {a_longest : Nat → Int32} {a_steep : Nat → Int32} {a_laid : Nat → Int32} {a_far : Nat → Int32} {f_sight : Int32} {a_runs : Nat → Int32} {f_choir : Int32} {f_voices : Int32} {a_rest : Nat → Int64} {a_wins : Nat → Int32} {f_seed : Int32} {a_other : Nat → Int32} {a_kept : Nat → Int32} {post : Int32 → (Int32) → (Int32) → (Int32) → (Int32) → (Int64) → (Int32) → (Int32) → (Int32) → (Nat → Int32) → (Int32) → Prop} {ls : Array Slot} {H : Heap} {locs : List Loc}
    (zc : zC p s m args meth c cX11_takeBut 5 RX11 (some .boolean))
    (hK : zK E s)
    (hM : mW E q f_code a_tape a_size a_fault a_faultPlace a_many a_lands a_evenings a_sights a_choirs f_reached f_length f_begins f_sort f_value f_word f_wrongAt f_laterFault f_laterPlace a_told a_read f_farHut f_farSinger f_good f_land f_huts f_singers f_evening a_at a_knows a_climbed a_snow a_level f_begun f_minute f_avalanches a_run a_covers a_routes a_longest a_steep a_laid a_far f_sight a_runs f_choir f_voices a_rest a_wins f_seed a_other a_kept H)
    (hS : va_S (mA q) s.heap H locs)
    (hl : lv_has ls 5 [(0, .ref q)])
    (hw : q_m_takeBut_44 a_tape f_reached f_length f_begins f_sort f_value f_word f_wrongAt f_laterFault f_laterPlace a_read f_good post) :
    W p l e rm_m_takeBut s m args below meth c H locs 0 0 (MQ below (zQi (S := (Int32) × (Int32) × (Int32) × (Int32) × (Int64) × (Int32) × (Int32) × (Int32) × (Nat → Int32) × (Int32)) (fun r u => post r u.1 u.2.1 u.2.2.1 u.2.2.2.1 u.2.2.2.2.1 u.2.2.2.2.2.1 u.2.2.2.2.2.2.1 u.2.2.2.2.2.2.2.1 u.2.2.2.2.2.2.2.2.1 u.2.2.2.2.2.2.2.2.2) (fun u H => mW E q f_code a_tape a_size a_fault a_faultPlace a_many a_lands a_evenings a_sights a_choirs u.1 f_length u.2.1 u.2.2.1 u.2.2.2.1 u.2.2.2.2.1 u.2.2.2.2.2.1 u.2.2.2.2.2.2.1 u.2.2.2.2.2.2.2.1 a_told u.2.2.2.2.2.2.2.2.1 f_farHut f_farSinger u.2.2.2.2.2.2.2.2.2 f_land f_huts f_singers f_evening a_at a_knows a_climbed a_snow a_level f_begun f_minute f_avalanches a_run a_covers a_routes a_longest a_steep a_laid a_far f_sight a_runs f_choir f_voices a_rest a_wins f_seed a_other a_kept H) (mA q)) args s 0 0 (mA q)) (F0 m 44 ls []) := by
  have hx := zc.1
  have hb := zc.2.1
  refine lv_aload_n hx hb dX11_takeBut_44 rfl (lv_at hl 0 rfl) ?_
  refine lv_iconst (v := (2 : Int32)) hx hb dX11_takeBut_45 (by decide) ?_
  refine lv_aload_n hx hb dX11_takeBut_46 rfl (lv_at hl 0 rfl) ?_
  refine mg_11_127_0 zc hK hM dX11_takeBut_47 ?_
  refine zVw_v [.int (2 : Int32), .int f_begins] [] zc ky_X11_later kz_X11_later km_11_153 (c_m_later l hw) (mPreV0 hK hM) hS rfl rfl hl.1 (Nat.le_of_ble_eq_true rfl) ⟨rfl, rfl⟩ ⟨Nat.le_of_ble_eq_true rfl, Nat.le_of_ble_eq_true rfl⟩ ⟨(Nat.zero_le _), (Nat.zero_le _)⟩ dX11_takeBut_50 (fun u H locs hw hM hS => ?_)
  obtain ⟨f_laterFault_1, f_laterPlace_1⟩ := u
  refine lv_aload_n hx hb dX11_takeBut_53 rfl (lv_at hl 0 rfl) ?_
  refine lv_iconst (v := (0 : Int32)) hx hb dX11_takeBut_54 (by decide) ?_
  refine mp_11_157_0 zc hK hM hS rfl rfl dX11_takeBut_55 (fun H locs hM hS => ?_)
  exact t_m_takeBut_58 zc hK hM hS  (lv_sub hl [0] rfl) hw
set_option maxRecDepth 20000 in
theorem t_m_takeBut_0 {p : Program} {l : Launch} {e : Env} {s : State} {m : MethodId} {args : Array Value} {below : List Frame} {meth : Method} {c : Code} {E : zE} {q : Nat} {f_code : Int32} {a_tape : Nat → Int32} {a_size : Nat → Int32} {a_fault : Nat → Int32} {a_faultPlace : Nat → Int32} {a_many : Nat → Int32} {a_lands : Nat → Int32} {a_evenings : Nat → Int32} {a_sights : Nat → Int32} {a_choirs : Nat → Int32} {f_reached : Int32} {f_length : Int32} {f_begins : Int32} {f_sort : Int32} {f_value : Int32} {f_word : Int64} {f_wrongAt : Int32} {f_laterFault : Int32} {f_laterPlace : Int32} {a_told : Nat → Int32} {a_read : Nat → Int32} {f_farHut : Int32} {f_farSinger : Int32} {f_good : Int32} {f_land : Int32} {f_huts : Int32} {f_singers : Int32} {f_evening : Int32} {a_at : Nat → Int32} {a_knows : Nat → Int32} {a_climbed : Nat → Int32} {a_snow : Nat → Int32} {a_level : Nat → Int32} {f_begun : Int32} {f_minute : Int32} {f_avalanches : Int32} {a_run : Nat → Int32} {a_covers : Nat → Int32} {a_routes : Nat → Int32} {a_longest : Nat → Int32} {a_steep : Nat → Int32} {a_laid : Nat → Int32} {a_far : Nat → Int32} {f_sight : Int32} {a_runs : Nat → Int32} {f_choir : Int32} {f_voices : Int32} {a_rest : Nat → Int64} {a_wins : Nat → Int32} {f_seed : Int32} {a_other : Nat → Int32} {a_kept : Nat → Int32} {post : Int32 → (Int32) → (Int32) → (Int32) → (Int32) → (Int64) → (Int32) → (Int32) → (Int32) → (Nat → Int32) → (Int32) → Prop} {x1 : Int32} {x2 : Int32} {x3 : Int32} {x4 : Int32} {ls : Array Slot} {H : Heap} {locs : List Loc}
    (zc : zC p s m args meth c cX11_takeBut 5 RX11 (some .boolean))
    (hK : zK E s)
    (hM : mW E q f_code a_tape a_size a_fault a_faultPlace a_many a_lands a_evenings a_sights a_choirs f_reached f_length f_begins f_sort f_value f_word f_wrongAt f_laterFault f_laterPlace a_told a_read f_farHut f_farSinger f_good f_land f_huts f_singers f_evening a_at a_knows a_climbed a_snow a_level f_begun f_minute f_avalanches a_run a_covers a_routes a_longest a_steep a_laid a_far f_sight a_runs f_choir f_voices a_rest a_wins f_seed a_other a_kept H)
    (hS : va_S (mA q) s.heap H locs)
    (hl : lv_has ls 5 [(0, .ref q), (1, .int x1), (2, .int x2), (3, .int x3), (4, .int x4)])
    (hw : q_m_takeBut_0 a_tape f_reached f_length f_begins f_sort f_value f_word f_wrongAt f_laterFault f_laterPlace a_read f_good x1 x2 x3 x4 post) :
    W p l e rm_m_takeBut s m args below meth c H locs 0 0 (MQ below (zQi (S := (Int32) × (Int32) × (Int32) × (Int32) × (Int64) × (Int32) × (Int32) × (Int32) × (Nat → Int32) × (Int32)) (fun r u => post r u.1 u.2.1 u.2.2.1 u.2.2.2.1 u.2.2.2.2.1 u.2.2.2.2.2.1 u.2.2.2.2.2.2.1 u.2.2.2.2.2.2.2.1 u.2.2.2.2.2.2.2.2.1 u.2.2.2.2.2.2.2.2.2) (fun u H => mW E q f_code a_tape a_size a_fault a_faultPlace a_many a_lands a_evenings a_sights a_choirs u.1 f_length u.2.1 u.2.2.1 u.2.2.2.1 u.2.2.2.2.1 u.2.2.2.2.2.1 u.2.2.2.2.2.2.1 u.2.2.2.2.2.2.2.1 a_told u.2.2.2.2.2.2.2.2.1 f_farHut f_farSinger u.2.2.2.2.2.2.2.2.2 f_land f_huts f_singers f_evening a_at a_knows a_climbed a_snow a_level f_begun f_minute f_avalanches a_run a_covers a_routes a_longest a_steep a_laid a_far f_sight a_runs f_choir f_voices a_rest a_wins f_seed a_other a_kept H) (mA q)) args s 0 0 (mA q)) (F0 m 0 ls []) := by
  have hx := zc.1
  have hb := zc.2.1
  refine lv_aload_n hx hb dX11_takeBut_0 rfl (lv_at hl 0 rfl) ?_
  refine mg_11_134_0 zc hK hM dX11_takeBut_1 ?_
  refine lv_iconst (v := (3 : Int32)) hx hb dX11_takeBut_4 (by decide) ?_
  refine lv_icmp_eq (tgt := 13) hx hb dX11_takeBut_5 (by decide) (fun hc => ?_) (fun hc => ?_)
  · have hw := hw.1 hc
    refine lv_aload_n hx hb dX11_takeBut_13 rfl (lv_at hl 0 rfl) ?_
    refine mg_11_41_0 zc hK hM dX11_takeBut_14 ?_
    refine lv_iload_n hx hb dX11_takeBut_17 rfl (lv_at hl 1 rfl) ?_
    refine lv_aload_n hx hb dX11_takeBut_18 rfl (lv_at hl 0 rfl) ?_
    refine mg_11_137_0 zc hK hM dX11_takeBut_19 ?_
    refine mst_11 zc hK hM hS hw.1 dX11_takeBut_22 (fun a_read_1 H locs ea_read_1 hM hS => ?_)
    have hw := hw.2 a_read_1 ea_read_1
    refine lv_aload_n hx hb dX11_takeBut_23 rfl (lv_at hl 0 rfl) ?_
    refine mg_11_137_0 zc hK hM dX11_takeBut_24 ?_
    refine lv_iload_n hx hb dX11_takeBut_27 rfl (lv_at hl 2 rfl) ?_
    refine lv_iload_n hx hb dX11_takeBut_28 rfl (lv_at hl 3 rfl) ?_
    refine zS_i [.int f_value, .int x2, .int x3] [] zc ky_X11_in kz_X11_in km_11_109 (c_m_in l hw) (zPre0 _) rfl rfl hl.1 (Nat.le_of_ble_eq_true rfl) ⟨rfl, rfl⟩ ⟨Nat.le_of_ble_eq_true rfl, Nat.le_of_ble_eq_true rfl⟩ ⟨(Nat.zero_le _), (Nat.zero_le _)⟩ dX11_takeBut_29 (fun r_1 hw => ?_)
    refine lv_if_eq (tgt := 44) hx hb dX11_takeBut_32 (by decide) (fun hc => ?_) (fun hc => ?_)
    · have hw := hw.1 hc
      exact t_m_takeBut_44 zc hK hM hS  (lv_sub hl [0] rfl) hw
    · have hw := hw.2 hc
      refine lv_aload_n hx hb dX11_takeBut_35 rfl (lv_at hl 0 rfl) ?_
      refine mg_11_137_0 zc hK hM dX11_takeBut_36 ?_
      refine lv_iload hx hb dX11_takeBut_39 (lv_at hl 4 rfl) ?_
      refine lv_icmp_ne (tgt := 58) hx hb dX11_takeBut_41 (by decide) (fun hc => ?_) (fun hc => ?_)
      · have hw := hw.1 hc
        exact t_m_takeBut_58 zc hK hM hS  (lv_sub hl [0] rfl) hw
      · have hw := hw.2 hc
        exact t_m_takeBut_44 zc hK hM hS  (lv_sub hl [0] rfl) hw
  · have hw := hw.2 hc
    refine lv_aload_n hx hb dX11_takeBut_8 rfl (lv_at hl 0 rfl) ?_
    refine zVw_i [] [] zc ky_X11_fails kz_X11_fails km_11_149 (c_m_fails l hw) (mPreV0 hK hM) hS rfl rfl hl.1 (Nat.le_of_ble_eq_true rfl) ⟨rfl, rfl⟩ ⟨Nat.le_of_ble_eq_true rfl, Nat.le_of_ble_eq_true rfl⟩ ⟨(Nat.zero_le _), (Nat.zero_le _)⟩ dX11_takeBut_9 (fun r_2 f_wrongAt_1 H locs hw hM hS => ?_)
    exact zret_zw ⟨f_reached, f_begins, f_sort, f_value, f_word, f_wrongAt_1, f_laterFault, f_laterPlace, a_read, f_good⟩ zc hS hw.1 hw.2 hM dX11_takeBut_12
set_option maxRecDepth 20000 in
theorem c_m_takeBut (l : Launch) {E : zE} {q : Nat} {f_code : Int32} {a_tape : Nat → Int32} {a_size : Nat → Int32} {a_fault : Nat → Int32} {a_faultPlace : Nat → Int32} {a_many : Nat → Int32} {a_lands : Nat → Int32} {a_evenings : Nat → Int32} {a_sights : Nat → Int32} {a_choirs : Nat → Int32} {f_reached : Int32} {f_length : Int32} {f_begins : Int32} {f_sort : Int32} {f_value : Int32} {f_word : Int64} {f_wrongAt : Int32} {f_laterFault : Int32} {f_laterPlace : Int32} {a_told : Nat → Int32} {a_read : Nat → Int32} {f_farHut : Int32} {f_farSinger : Int32} {f_good : Int32} {f_land : Int32} {f_huts : Int32} {f_singers : Int32} {f_evening : Int32} {a_at : Nat → Int32} {a_knows : Nat → Int32} {a_climbed : Nat → Int32} {a_snow : Nat → Int32} {a_level : Nat → Int32} {f_begun : Int32} {f_minute : Int32} {f_avalanches : Int32} {a_run : Nat → Int32} {a_covers : Nat → Int32} {a_routes : Nat → Int32} {a_longest : Nat → Int32} {a_steep : Nat → Int32} {a_laid : Nat → Int32} {a_far : Nat → Int32} {f_sight : Int32} {a_runs : Nat → Int32} {f_choir : Int32} {f_voices : Int32} {a_rest : Nat → Int64} {a_wins : Nat → Int32} {f_seed : Int32} {a_other : Nat → Int32} {a_kept : Nat → Int32} {x1 : Int32} {x2 : Int32} {x3 : Int32} {x4 : Int32} {post : Int32 → (Int32) → (Int32) → (Int32) → (Int32) → (Int64) → (Int32) → (Int32) → (Int32) → (Nat → Int32) → (Int32) → Prop} (hw : q_m_takeBut_0 a_tape f_reached f_length f_begins f_sort f_value f_word f_wrongAt f_laterFault f_laterPlace a_read f_good x1 x2 x3 x4 post) : Met l yX11_takeBut (Cond.code yX11_takeBut cX11_takeBut 5 (some .boolean) :: zb) rm_m_takeBut (va_Pc [.ref q, .int x1, .int x2, .int x3, .int x4] (fun U => mW E q f_code a_tape a_size a_fault a_faultPlace a_many a_lands a_evenings a_sights a_choirs f_reached f_length f_begins f_sort f_value f_word f_wrongAt f_laterFault f_laterPlace a_told a_read f_farHut f_farSinger f_good f_land f_huts f_singers f_evening a_at a_knows a_climbed a_snow a_level f_begun f_minute f_avalanches a_run a_covers a_routes a_longest a_steep a_laid a_far f_sight a_runs f_choir f_voices a_rest a_wins f_seed a_other a_kept U.heap ∧ zK E U)) (zQi (S := (Int32) × (Int32) × (Int32) × (Int32) × (Int64) × (Int32) × (Int32) × (Int32) × (Nat → Int32) × (Int32)) (fun r u => post r u.1 u.2.1 u.2.2.1 u.2.2.2.1 u.2.2.2.2.1 u.2.2.2.2.2.1 u.2.2.2.2.2.2.1 u.2.2.2.2.2.2.2.1 u.2.2.2.2.2.2.2.2.1 u.2.2.2.2.2.2.2.2.2) (fun u H => mW E q f_code a_tape a_size a_fault a_faultPlace a_many a_lands a_evenings a_sights a_choirs u.1 f_length u.2.1 u.2.2.1 u.2.2.2.1 u.2.2.2.2.1 u.2.2.2.2.2.1 u.2.2.2.2.2.2.1 u.2.2.2.2.2.2.2.1 a_told u.2.2.2.2.2.2.2.2.1 f_farHut f_farSinger u.2.2.2.2.2.2.2.2.2 f_land f_huts f_singers f_evening a_at a_knows a_climbed a_snow a_level f_begun f_minute f_avalanches a_run a_covers a_routes a_longest a_steep a_laid a_far f_sight a_runs f_choir f_voices a_rest a_wins f_seed a_other a_kept H) (mA q)) 0 0 (mA q) := by
  refine Met.ofW (cc := cX11_takeBut) (maxL := 5) (ret := (some .boolean)) (by decide) rfl ?_
  intro p e s m args below meth c s₁ B hml hv
  obtain ⟨rfl, hM, hK⟩ := hv
  have zc := zc_of B hml
  have hl := lv_entry ([.ref q, .int x1, .int x2, .int x3, .int x4]) (n := 5) (Nat.le_of_ble_eq_true rfl)
  rw [lg_entry_eq]
  generalize (lg_sl ([.ref q, .int x1, .int x2, .int x3, .int x4]) ++ List.replicate (5 - (lg_sl ([.ref q, .int x1, .int x2, .int x3, .int x4])).length) Slot.unset).toArray = ls at hl ⊢
  have hl : lv_has ls 5 [(0, .ref q), (1, .int x1), (2, .int x2), (3, .int x3), (4, .int x4)] := hl
  exact t_m_takeBut_0 zc hK hM va_S.rf (lv_sub hl [0, 1, 2, 3, 4] rfl) hw
-- m_take
abbrev rm_m_take : Room := { frames := 3, cells := 0, slots := 0, locals := 68 }
def q_m_take_0 (a_tape : Nat → Int32) (f_reached : Int32) (f_length : Int32) (f_begins : Int32) (f_sort : Int32) (f_value : Int32) (f_word : Int64) (f_wrongAt : Int32) (f_laterFault : Int32) (f_laterPlace : Int32) (a_read : Nat → Int32) (f_good : Int32) (x1 : Int32) (x2 : Int32) (x3 : Int32) (post : Int32 → (Int32) → (Int32) → (Int32) → (Int32) → (Int64) → (Int32) → (Int32) → (Int32) → (Nat → Int32) → (Int32) → Prop) : Prop :=
  q_m_takeBut_0 a_tape f_reached f_length f_begins f_sort f_value f_word f_wrongAt f_laterFault f_laterPlace a_read f_good x1 x2 x3 (-1 : Int32) (fun r_1 f_reached_1 f_begins_1 f_sort_1 f_value_1 f_word_1 f_wrongAt_1 f_laterFault_1 f_laterPlace_1 a_read_1 f_good_1 => narrow .boolean (.int r_1) = .int r_1 ∧ post r_1 f_reached_1 f_begins_1 f_sort_1 f_value_1 f_word_1 f_wrongAt_1 f_laterFault_1 f_laterPlace_1 a_read_1 f_good_1)
set_option maxRecDepth 20000 in
theorem t_m_take_0 {p : Program} {l : Launch} {e : Env} {s : State} {m : MethodId} {args : Array Value} {below : List Frame} {meth : Method} {c : Code} {E : zE} {q : Nat} {f_code : Int32} {a_tape : Nat → Int32} {a_size : Nat → Int32} {a_fault : Nat → Int32} {a_faultPlace : Nat → Int32} {a_many : Nat → Int32} {a_lands : Nat → Int32} {a_evenings : Nat → Int32} {a_sights : Nat → Int32} {a_choirs : Nat → Int32} {f_reached : Int32} {f_length : Int32} {f_begins : Int32} {f_sort : Int32} {f_value : Int32} {f_word : Int64} {f_wrongAt : Int32} {f_laterFault : Int32} {f_laterPlace : Int32} {a_told : Nat → Int32} {a_read : Nat → Int32} {f_farHut : Int32} {f_farSinger : Int32} {f_good : Int32} {f_land : Int32} {f_huts : Int32} {f_singers : Int32} {f_evening : Int32} {a_at : Nat → Int32} {a_knows : Nat → Int32} {a_climbed : Nat → Int32} {a_snow : Nat → Int32} {a_level : Nat → Int32} {f_begun : Int32} {f_minute : Int32} {f_avalanches : Int32} {a_run : Nat → Int32} {a_covers : Nat → Int32} {a_routes : Nat → Int32} {a_longest : Nat → Int32} {a_steep : Nat → Int32} {a_laid : Nat → Int32} {a_far : Nat → Int32} {f_sight : Int32} {a_runs : Nat → Int32} {f_choir : Int32} {f_voices : Int32} {a_rest : Nat → Int64} {a_wins : Nat → Int32} {f_seed : Int32} {a_other : Nat → Int32} {a_kept : Nat → Int32} {post : Int32 → (Int32) → (Int32) → (Int32) → (Int32) → (Int64) → (Int32) → (Int32) → (Int32) → (Nat → Int32) → (Int32) → Prop} {x1 : Int32} {x2 : Int32} {x3 : Int32} {ls : Array Slot} {H : Heap} {locs : List Loc}
    (zc : zC p s m args meth c cX11_take 4 RX11 (some .boolean))
    (hK : zK E s)
    (hM : mW E q f_code a_tape a_size a_fault a_faultPlace a_many a_lands a_evenings a_sights a_choirs f_reached f_length f_begins f_sort f_value f_word f_wrongAt f_laterFault f_laterPlace a_told a_read f_farHut f_farSinger f_good f_land f_huts f_singers f_evening a_at a_knows a_climbed a_snow a_level f_begun f_minute f_avalanches a_run a_covers a_routes a_longest a_steep a_laid a_far f_sight a_runs f_choir f_voices a_rest a_wins f_seed a_other a_kept H)
    (hS : va_S (mA q) s.heap H locs)
    (hl : lv_has ls 4 [(0, .ref q), (1, .int x1), (2, .int x2), (3, .int x3)])
    (hw : q_m_take_0 a_tape f_reached f_length f_begins f_sort f_value f_word f_wrongAt f_laterFault f_laterPlace a_read f_good x1 x2 x3 post) :
    W p l e rm_m_take s m args below meth c H locs 0 0 (MQ below (zQi (S := (Int32) × (Int32) × (Int32) × (Int32) × (Int64) × (Int32) × (Int32) × (Int32) × (Nat → Int32) × (Int32)) (fun r u => post r u.1 u.2.1 u.2.2.1 u.2.2.2.1 u.2.2.2.2.1 u.2.2.2.2.2.1 u.2.2.2.2.2.2.1 u.2.2.2.2.2.2.2.1 u.2.2.2.2.2.2.2.2.1 u.2.2.2.2.2.2.2.2.2) (fun u H => mW E q f_code a_tape a_size a_fault a_faultPlace a_many a_lands a_evenings a_sights a_choirs u.1 f_length u.2.1 u.2.2.1 u.2.2.2.1 u.2.2.2.2.1 u.2.2.2.2.2.1 u.2.2.2.2.2.2.1 u.2.2.2.2.2.2.2.1 a_told u.2.2.2.2.2.2.2.2.1 f_farHut f_farSinger u.2.2.2.2.2.2.2.2.2 f_land f_huts f_singers f_evening a_at a_knows a_climbed a_snow a_level f_begun f_minute f_avalanches a_run a_covers a_routes a_longest a_steep a_laid a_far f_sight a_runs f_choir f_voices a_rest a_wins f_seed a_other a_kept H) (mA q)) args s 0 0 (mA q)) (F0 m 0 ls []) := by
  have hx := zc.1
  have hb := zc.2.1
  refine lv_aload_n hx hb dX11_take_0 rfl (lv_at hl 0 rfl) ?_
  refine lv_iload_n hx hb dX11_take_1 rfl (lv_at hl 1 rfl) ?_
  refine lv_iload_n hx hb dX11_take_2 rfl (lv_at hl 2 rfl) ?_
  refine lv_iload_n hx hb dX11_take_3 rfl (lv_at hl 3 rfl) ?_
  refine lv_iconst (v := (-1 : Int32)) hx hb dX11_take_4 (by decide) ?_
  refine zVw_i [.int x1, .int x2, .int x3, .int (-1 : Int32)] [] zc ky_X11_takeBut kz_X11_takeBut km_11_164 (c_m_takeBut l hw) (mPreV0 hK hM) hS rfl rfl hl.1 (Nat.le_of_ble_eq_true rfl) ⟨rfl, rfl⟩ ⟨Nat.le_of_ble_eq_true rfl, Nat.le_of_ble_eq_true rfl⟩ ⟨(Nat.zero_le _), (Nat.zero_le _)⟩ dX11_take_5 (fun r_1 u H locs hw hM hS => ?_)
  obtain ⟨f_reached_1, f_begins_1, f_sort_1, f_value_1, f_word_1, f_wrongAt_1, f_laterFault_1, f_laterPlace_1, a_read_1, f_good_1⟩ := u
  exact zret_zw ⟨f_reached_1, f_begins_1, f_sort_1, f_value_1, f_word_1, f_wrongAt_1, f_laterFault_1, f_laterPlace_1, a_read_1, f_good_1⟩ zc hS hw.1 hw.2 hM dX11_take_8
set_option maxRecDepth 20000 in
theorem c_m_take (l : Launch) {E : zE} {q : Nat} {f_code : Int32} {a_tape : Nat → Int32} {a_size : Nat → Int32} {a_fault : Nat → Int32} {a_faultPlace : Nat → Int32} {a_many : Nat → Int32} {a_lands : Nat → Int32} {a_evenings : Nat → Int32} {a_sights : Nat → Int32} {a_choirs : Nat → Int32} {f_reached : Int32} {f_length : Int32} {f_begins : Int32} {f_sort : Int32} {f_value : Int32} {f_word : Int64} {f_wrongAt : Int32} {f_laterFault : Int32} {f_laterPlace : Int32} {a_told : Nat → Int32} {a_read : Nat → Int32} {f_farHut : Int32} {f_farSinger : Int32} {f_good : Int32} {f_land : Int32} {f_huts : Int32} {f_singers : Int32} {f_evening : Int32} {a_at : Nat → Int32} {a_knows : Nat → Int32} {a_climbed : Nat → Int32} {a_snow : Nat → Int32} {a_level : Nat → Int32} {f_begun : Int32} {f_minute : Int32} {f_avalanches : Int32} {a_run : Nat → Int32} {a_covers : Nat → Int32} {a_routes : Nat → Int32} {a_longest : Nat → Int32} {a_steep : Nat → Int32} {a_laid : Nat → Int32} {a_far : Nat → Int32} {f_sight : Int32} {a_runs : Nat → Int32} {f_choir : Int32} {f_voices : Int32} {a_rest : Nat → Int64} {a_wins : Nat → Int32} {f_seed : Int32} {a_other : Nat → Int32} {a_kept : Nat → Int32} {x1 : Int32} {x2 : Int32} {x3 : Int32} {post : Int32 → (Int32) → (Int32) → (Int32) → (Int32) → (Int64) → (Int32) → (Int32) → (Int32) → (Nat → Int32) → (Int32) → Prop} (hw : q_m_take_0 a_tape f_reached f_length f_begins f_sort f_value f_word f_wrongAt f_laterFault f_laterPlace a_read f_good x1 x2 x3 post) : Met l yX11_take (Cond.code yX11_take cX11_take 4 (some .boolean) :: zb) rm_m_take (va_Pc [.ref q, .int x1, .int x2, .int x3] (fun U => mW E q f_code a_tape a_size a_fault a_faultPlace a_many a_lands a_evenings a_sights a_choirs f_reached f_length f_begins f_sort f_value f_word f_wrongAt f_laterFault f_laterPlace a_told a_read f_farHut f_farSinger f_good f_land f_huts f_singers f_evening a_at a_knows a_climbed a_snow a_level f_begun f_minute f_avalanches a_run a_covers a_routes a_longest a_steep a_laid a_far f_sight a_runs f_choir f_voices a_rest a_wins f_seed a_other a_kept U.heap ∧ zK E U)) (zQi (S := (Int32) × (Int32) × (Int32) × (Int32) × (Int64) × (Int32) × (Int32) × (Int32) × (Nat → Int32) × (Int32)) (fun r u => post r u.1 u.2.1 u.2.2.1 u.2.2.2.1 u.2.2.2.2.1 u.2.2.2.2.2.1 u.2.2.2.2.2.2.1 u.2.2.2.2.2.2.2.1 u.2.2.2.2.2.2.2.2.1 u.2.2.2.2.2.2.2.2.2) (fun u H => mW E q f_code a_tape a_size a_fault a_faultPlace a_many a_lands a_evenings a_sights a_choirs u.1 f_length u.2.1 u.2.2.1 u.2.2.2.1 u.2.2.2.2.1 u.2.2.2.2.2.1 u.2.2.2.2.2.2.1 u.2.2.2.2.2.2.2.1 a_told u.2.2.2.2.2.2.2.2.1 f_farHut f_farSinger u.2.2.2.2.2.2.2.2.2 f_land f_huts f_singers f_evening a_at a_knows a_climbed a_snow a_level f_begun f_minute f_avalanches a_run a_covers a_routes a_longest a_steep a_laid a_far f_sight a_runs f_choir f_voices a_rest a_wins f_seed a_other a_kept H) (mA q)) 0 0 (mA q) := by
  refine Met.ofW (cc := cX11_take) (maxL := 4) (ret := (some .boolean)) (by decide) rfl ?_
  intro p e s m args below meth c s₁ B hml hv
  obtain ⟨rfl, hM, hK⟩ := hv
  have zc := zc_of B hml
  have hl := lv_entry ([.ref q, .int x1, .int x2, .int x3]) (n := 4) (Nat.le_of_ble_eq_true rfl)
  rw [lg_entry_eq]
  generalize (lg_sl ([.ref q, .int x1, .int x2, .int x3]) ++ List.replicate (4 - (lg_sl ([.ref q, .int x1, .int x2, .int x3])).length) Slot.unset).toArray = ls at hl ⊢
  have hl : lv_has ls 4 [(0, .ref q), (1, .int x1), (2, .int x2), (3, .int x3)] := hl
  exact t_m_take_0 zc hK hM va_S.rf (lv_sub hl [0, 1, 2, 3] rfl) hw
-- m_takeHut
abbrev rm_m_takeHut : Room := { frames := 3, cells := 0, slots := 0, locals := 68 }
def q_m_takeHut_0 (a_tape : Nat → Int32) (f_reached : Int32) (f_length : Int32) (f_begins : Int32) (f_sort : Int32) (f_value : Int32) (f_word : Int64) (f_wrongAt : Int32) (f_laterFault : Int32) (f_laterPlace : Int32) (a_read : Nat → Int32) (f_farHut : Int32) (f_good : Int32) (x1 : Int32) (x2 : Int32) (post : Int32 → (Int32) → (Int32) → (Int32) → (Int32) → (Int64) → (Int32) → (Int32) → (Int32) → (Nat → Int32) → (Int32) → (Int32) → Prop) : Prop :=
  q_m_takeBut_0 a_tape f_reached f_length f_begins f_sort f_value f_word f_wrongAt f_laterFault f_laterPlace a_read f_good x1 (0 : Int32) (8 : Int32) x2 (fun r_1 f_reached_1 f_begins_1 f_sort_1 f_value_1 f_word_1 f_wrongAt_1 f_laterFault_1 f_laterPlace_1 a_read_1 f_good_1 => (¬ r_1 = 0 → (vp_in x1 3 ∧ (q_m_greater_0 f_farHut (a_read_1 (Int32.toNatClampNeg x1)) (fun r_2 => post (1 : Int32) f_reached_1 f_begins_1 f_sort_1 f_value_1 f_word_1 f_wrongAt_1 f_laterFault_1 f_laterPlace_1 a_read_1 r_2 f_good_1)))) ∧ (r_1 = 0 → (post (0 : Int32) f_reached_1 f_begins_1 f_sort_1 f_value_1 f_word_1 f_wrongAt_1 f_laterFault_1 f_laterPlace_1 a_read_1 f_farHut f_good_1)))
set_option maxRecDepth 20000 in
theorem t_m_takeHut_0 {p : Program} {l : Launch} {e : Env} {s : State} {m : MethodId} {args : Array Value} {below : List Frame} {meth : Method} {c : Code} {E : zE} {q : Nat} {f_code : Int32} {a_tape : Nat → Int32} {a_size : Nat → Int32} {a_fault : Nat → Int32} {a_faultPlace : Nat → Int32} {a_many : Nat → Int32} {a_lands : Nat → Int32} {a_evenings : Nat → Int32} {a_sights : Nat → Int32} {a_choirs : Nat → Int32} {f_reached : Int32} {f_length : Int32} {f_begins : Int32} {f_sort : Int32} {f_value : Int32} {f_word : Int64} {f_wrongAt : Int32} {f_laterFault : Int32} {f_laterPlace : Int32} {a_told : Nat → Int32} {a_read : Nat → Int32} {f_farHut : Int32} {f_farSinger : Int32} {f_good : Int32} {f_land : Int32} {f_huts : Int32} {f_singers : Int32} {f_evening : Int32} {a_at : Nat → Int32} {a_knows : Nat → Int32} {a_climbed : Nat → Int32} {a_snow : Nat → Int32} {a_level : Nat → Int32} {f_begun : Int32} {f_minute : Int32} {f_avalanches : Int32} {a_run : Nat → Int32} {a_covers : Nat → Int32} {a_routes : Nat → Int32} {a_longest : Nat → Int32} {a_steep : Nat → Int32} {a_laid : Nat → Int32} {a_far : Nat → Int32} {f_sight : Int32} {a_runs : Nat → Int32} {f_choir : Int32} {f_voices : Int32} {a_rest : Nat → Int64} {a_wins : Nat → Int32} {f_seed : Int32} {a_other : Nat → Int32} {a_kept : Nat → Int32} {post : Int32 → (Int32) → (Int32) → (Int32) → (Int32) → (Int64) → (Int32) → (Int32) → (Int32) → (Nat → Int32) → (Int32) → (Int32) → Prop} {x1 : Int32} {x2 : Int32} {ls : Array Slot} {H : Heap} {locs : List Loc}
    (zc : zC p s m args meth c cX11_takeHut 3 RX11 (some .boolean))
    (hK : zK E s)
    (hM : mW E q f_code a_tape a_size a_fault a_faultPlace a_many a_lands a_evenings a_sights a_choirs f_reached f_length f_begins f_sort f_value f_word f_wrongAt f_laterFault f_laterPlace a_told a_read f_farHut f_farSinger f_good f_land f_huts f_singers f_evening a_at a_knows a_climbed a_snow a_level f_begun f_minute f_avalanches a_run a_covers a_routes a_longest a_steep a_laid a_far f_sight a_runs f_choir f_voices a_rest a_wins f_seed a_other a_kept H)
    (hS : va_S (mA q) s.heap H locs)
    (hl : lv_has ls 3 [(0, .ref q), (1, .int x1), (2, .int x2)])
    (hw : q_m_takeHut_0 a_tape f_reached f_length f_begins f_sort f_value f_word f_wrongAt f_laterFault f_laterPlace a_read f_farHut f_good x1 x2 post) :
    W p l e rm_m_takeHut s m args below meth c H locs 0 0 (MQ below (zQi (S := (Int32) × (Int32) × (Int32) × (Int32) × (Int64) × (Int32) × (Int32) × (Int32) × (Nat → Int32) × (Int32) × (Int32)) (fun r u => post r u.1 u.2.1 u.2.2.1 u.2.2.2.1 u.2.2.2.2.1 u.2.2.2.2.2.1 u.2.2.2.2.2.2.1 u.2.2.2.2.2.2.2.1 u.2.2.2.2.2.2.2.2.1 u.2.2.2.2.2.2.2.2.2.1 u.2.2.2.2.2.2.2.2.2.2) (fun u H => mW E q f_code a_tape a_size a_fault a_faultPlace a_many a_lands a_evenings a_sights a_choirs u.1 f_length u.2.1 u.2.2.1 u.2.2.2.1 u.2.2.2.2.1 u.2.2.2.2.2.1 u.2.2.2.2.2.2.1 u.2.2.2.2.2.2.2.1 a_told u.2.2.2.2.2.2.2.2.1 u.2.2.2.2.2.2.2.2.2.1 f_farSinger u.2.2.2.2.2.2.2.2.2.2 f_land f_huts f_singers f_evening a_at a_knows a_climbed a_snow a_level f_begun f_minute f_avalanches a_run a_covers a_routes a_longest a_steep a_laid a_far f_sight a_runs f_choir f_voices a_rest a_wins f_seed a_other a_kept H) (mA q)) args s 0 0 (mA q)) (F0 m 0 ls []) := by
  have hx := zc.1
  have hb := zc.2.1
  refine lv_aload_n hx hb dX11_takeHut_0 rfl (lv_at hl 0 rfl) ?_
  refine lv_iload_n hx hb dX11_takeHut_1 rfl (lv_at hl 1 rfl) ?_
  refine lv_iconst (v := (0 : Int32)) hx hb dX11_takeHut_2 (by decide) ?_
  refine lv_bipush (v := (8 : Int32)) hx hb dX11_takeHut_3 (by decide) ?_
  refine lv_iload_n hx hb dX11_takeHut_5 rfl (lv_at hl 2 rfl) ?_
  refine zVw_i [.int x1, .int (0 : Int32), .int (8 : Int32), .int x2] [] zc ky_X11_takeBut kz_X11_takeBut km_11_164 (c_m_takeBut l hw) (mPreV0 hK hM) hS rfl rfl hl.1 (Nat.le_of_ble_eq_true rfl) ⟨rfl, rfl⟩ ⟨Nat.le_of_ble_eq_true rfl, Nat.le_of_ble_eq_true rfl⟩ ⟨(Nat.zero_le _), (Nat.zero_le _)⟩ dX11_takeHut_6 (fun r_1 u H locs hw hM hS => ?_)
  obtain ⟨f_reached_1, f_begins_1, f_sort_1, f_value_1, f_word_1, f_wrongAt_1, f_laterFault_1, f_laterPlace_1, a_read_1, f_good_1⟩ := u
  refine lv_if_ne (tgt := 14) hx hb dX11_takeHut_9 (by decide) (fun hc => ?_) (fun hc => ?_)
  · have hw := hw.1 hc
    refine lv_aload_n hx hb dX11_takeHut_14 rfl (lv_at hl 0 rfl) ?_
    refine lv_aload_n hx hb dX11_takeHut_15 rfl (lv_at hl 0 rfl) ?_
    refine mg_11_168_0 zc hK hM dX11_takeHut_16 ?_
    refine lv_aload_n hx hb dX11_takeHut_19 rfl (lv_at hl 0 rfl) ?_
    refine mg_11_41_0 zc hK hM dX11_takeHut_20 ?_
    refine lv_iload_n hx hb dX11_takeHut_23 rfl (lv_at hl 1 rfl) ?_
    refine mld_11 zc hK hM hw.1 dX11_takeHut_24 ?_
    have hw := hw.2
    refine zS_i [.int f_farHut, .int (a_read_1 (Int32.toNatClampNeg x1))] [.ref q] zc ky_X11_greater kz_X11_greater km_11_171 (c_m_greater l hw) (zPre0 _) rfl rfl hl.1 (Nat.le_of_ble_eq_true rfl) ⟨rfl, rfl⟩ ⟨Nat.le_of_ble_eq_true rfl, Nat.le_of_ble_eq_true rfl⟩ ⟨(Nat.zero_le _), (Nat.zero_le _)⟩ dX11_takeHut_25 (fun r_2 hw => ?_)
    refine mp_11_168_0 zc hK hM hS dX11_takeHut_28 (fun H locs hM hS => ?_)
    refine lv_iconst (v := (1 : Int32)) hx hb dX11_takeHut_31 (by decide) ?_
    exact zret_zw ⟨f_reached_1, f_begins_1, f_sort_1, f_value_1, f_word_1, f_wrongAt_1, f_laterFault_1, f_laterPlace_1, a_read_1, r_2, f_good_1⟩ zc hS rfl hw hM dX11_takeHut_32
  · have hw := hw.2 hc
    refine lv_iconst (v := (0 : Int32)) hx hb dX11_takeHut_12 (by decide) ?_
    exact zret_zw ⟨f_reached_1, f_begins_1, f_sort_1, f_value_1, f_word_1, f_wrongAt_1, f_laterFault_1, f_laterPlace_1, a_read_1, f_farHut, f_good_1⟩ zc hS rfl hw hM dX11_takeHut_13
set_option maxRecDepth 20000 in
theorem c_m_takeHut (l : Launch) {E : zE} {q : Nat} {f_code : Int32} {a_tape : Nat → Int32} {a_size : Nat → Int32} {a_fault : Nat → Int32} {a_faultPlace : Nat → Int32} {a_many : Nat → Int32} {a_lands : Nat → Int32} {a_evenings : Nat → Int32} {a_sights : Nat → Int32} {a_choirs : Nat → Int32} {f_reached : Int32} {f_length : Int32} {f_begins : Int32} {f_sort : Int32} {f_value : Int32} {f_word : Int64} {f_wrongAt : Int32} {f_laterFault : Int32} {f_laterPlace : Int32} {a_told : Nat → Int32} {a_read : Nat → Int32} {f_farHut : Int32} {f_farSinger : Int32} {f_good : Int32} {f_land : Int32} {f_huts : Int32} {f_singers : Int32} {f_evening : Int32} {a_at : Nat → Int32} {a_knows : Nat → Int32} {a_climbed : Nat → Int32} {a_snow : Nat → Int32} {a_level : Nat → Int32} {f_begun : Int32} {f_minute : Int32} {f_avalanches : Int32} {a_run : Nat → Int32} {a_covers : Nat → Int32} {a_routes : Nat → Int32} {a_longest : Nat → Int32} {a_steep : Nat → Int32} {a_laid : Nat → Int32} {a_far : Nat → Int32} {f_sight : Int32} {a_runs : Nat → Int32} {f_choir : Int32} {f_voices : Int32} {a_rest : Nat → Int64} {a_wins : Nat → Int32} {f_seed : Int32} {a_other : Nat → Int32} {a_kept : Nat → Int32} {x1 : Int32} {x2 : Int32} {post : Int32 → (Int32) → (Int32) → (Int32) → (Int32) → (Int64) → (Int32) → (Int32) → (Int32) → (Nat → Int32) → (Int32) → (Int32) → Prop} (hw : q_m_takeHut_0 a_tape f_reached f_length f_begins f_sort f_value f_word f_wrongAt f_laterFault f_laterPlace a_read f_farHut f_good x1 x2 post) : Met l yX11_takeHut (Cond.code yX11_takeHut cX11_takeHut 3 (some .boolean) :: zb) rm_m_takeHut (va_Pc [.ref q, .int x1, .int x2] (fun U => mW E q f_code a_tape a_size a_fault a_faultPlace a_many a_lands a_evenings a_sights a_choirs f_reached f_length f_begins f_sort f_value f_word f_wrongAt f_laterFault f_laterPlace a_told a_read f_farHut f_farSinger f_good f_land f_huts f_singers f_evening a_at a_knows a_climbed a_snow a_level f_begun f_minute f_avalanches a_run a_covers a_routes a_longest a_steep a_laid a_far f_sight a_runs f_choir f_voices a_rest a_wins f_seed a_other a_kept U.heap ∧ zK E U)) (zQi (S := (Int32) × (Int32) × (Int32) × (Int32) × (Int64) × (Int32) × (Int32) × (Int32) × (Nat → Int32) × (Int32) × (Int32)) (fun r u => post r u.1 u.2.1 u.2.2.1 u.2.2.2.1 u.2.2.2.2.1 u.2.2.2.2.2.1 u.2.2.2.2.2.2.1 u.2.2.2.2.2.2.2.1 u.2.2.2.2.2.2.2.2.1 u.2.2.2.2.2.2.2.2.2.1 u.2.2.2.2.2.2.2.2.2.2) (fun u H => mW E q f_code a_tape a_size a_fault a_faultPlace a_many a_lands a_evenings a_sights a_choirs u.1 f_length u.2.1 u.2.2.1 u.2.2.2.1 u.2.2.2.2.1 u.2.2.2.2.2.1 u.2.2.2.2.2.2.1 u.2.2.2.2.2.2.2.1 a_told u.2.2.2.2.2.2.2.2.1 u.2.2.2.2.2.2.2.2.2.1 f_farSinger u.2.2.2.2.2.2.2.2.2.2 f_land f_huts f_singers f_evening a_at a_knows a_climbed a_snow a_level f_begun f_minute f_avalanches a_run a_covers a_routes a_longest a_steep a_laid a_far f_sight a_runs f_choir f_voices a_rest a_wins f_seed a_other a_kept H) (mA q)) 0 0 (mA q) := by
  refine Met.ofW (cc := cX11_takeHut) (maxL := 3) (ret := (some .boolean)) (by decide) rfl ?_
  intro p e s m args below meth c s₁ B hml hv
  obtain ⟨rfl, hM, hK⟩ := hv
  have zc := zc_of B hml
  have hl := lv_entry ([.ref q, .int x1, .int x2]) (n := 3) (Nat.le_of_ble_eq_true rfl)
  rw [lg_entry_eq]
  generalize (lg_sl ([.ref q, .int x1, .int x2]) ++ List.replicate (3 - (lg_sl ([.ref q, .int x1, .int x2])).length) Slot.unset).toArray = ls at hl ⊢
  have hl : lv_has ls 3 [(0, .ref q), (1, .int x1), (2, .int x2)] := hl
  exact t_m_takeHut_0 zc hK hM va_S.rf (lv_sub hl [0, 1, 2] rfl) hw
-- m_full
abbrev rm_m_full : Room := { frames := 1, cells := 0, slots := 0, locals := 22 }
def q_m_full_0 (f_laterFault : Int32) (f_laterPlace : Int32) (a_told : Nat → Int32) (x1 : Int32) (x2 : Int32) (x3 : Int32) (post : (Int32) → (Int32) → Prop) : Prop :=
  vp_in x1 132 ∧ ((¬ (a_told (Int32.toNatClampNeg x1)) = x2 → (post f_laterFault f_laterPlace)) ∧ ((a_told (Int32.toNatClampNeg x1)) = x2 → (q_m_later_0 f_laterFault f_laterPlace (3 : Int32) x3 (fun f_laterFault_1 f_laterPlace_1 => post f_laterFault_1 f_laterPlace_1))))
set_option maxRecDepth 20000 in
theorem t_m_full_0 {p : Program} {l : Launch} {e : Env} {s : State} {m : MethodId} {args : Array Value} {below : List Frame} {meth : Method} {c : Code} {E : zE} {q : Nat} {f_code : Int32} {a_tape : Nat → Int32} {a_size : Nat → Int32} {a_fault : Nat → Int32} {a_faultPlace : Nat → Int32} {a_many : Nat → Int32} {a_lands : Nat → Int32} {a_evenings : Nat → Int32} {a_sights : Nat → Int32} {a_choirs : Nat → Int32} {f_reached : Int32} {f_length : Int32} {f_begins : Int32} {f_sort : Int32} {f_value : Int32} {f_word : Int64} {f_wrongAt : Int32} {f_laterFault : Int32} {f_laterPlace : Int32} {a_told : Nat → Int32} {a_read : Nat → Int32} {f_farHut : Int32} {f_farSinger : Int32} {f_good : Int32} {f_land : Int32} {f_huts : Int32} {f_singers : Int32} {f_evening : Int32} {a_at : Nat → Int32} {a_knows : Nat → Int32} {a_climbed : Nat → Int32} {a_snow : Nat → Int32} {a_level : Nat → Int32} {f_begun : Int32} {f_minute : Int32} {f_avalanches : Int32} {a_run : Nat → Int32} {a_covers : Nat → Int32} {a_routes : Nat → Int32} {a_longest : Nat → Int32} {a_steep : Nat → Int32} {a_laid : Nat → Int32} {a_far : Nat → Int32} {f_sight : Int32} {a_runs : Nat → Int32} {f_choir : Int32} {f_voices : Int32} {a_rest : Nat → Int64} {a_wins : Nat → Int32} {f_seed : Int32} {a_other : Nat → Int32} {a_kept : Nat → Int32} {post : (Int32) → (Int32) → Prop} {x1 : Int32} {x2 : Int32} {x3 : Int32} {ls : Array Slot} {H : Heap} {locs : List Loc}
    (zc : zC p s m args meth c cX11_full 4 RX11 none)
    (hK : zK E s)
    (hM : mW E q f_code a_tape a_size a_fault a_faultPlace a_many a_lands a_evenings a_sights a_choirs f_reached f_length f_begins f_sort f_value f_word f_wrongAt f_laterFault f_laterPlace a_told a_read f_farHut f_farSinger f_good f_land f_huts f_singers f_evening a_at a_knows a_climbed a_snow a_level f_begun f_minute f_avalanches a_run a_covers a_routes a_longest a_steep a_laid a_far f_sight a_runs f_choir f_voices a_rest a_wins f_seed a_other a_kept H)
    (hS : va_S (mA q) s.heap H locs)
    (hl : lv_has ls 4 [(0, .ref q), (1, .int x1), (2, .int x2), (3, .int x3)])
    (hw : q_m_full_0 f_laterFault f_laterPlace a_told x1 x2 x3 post) :
    W p l e rm_m_full s m args below meth c H locs 0 0 (MQ below (zQv (S := (Int32) × (Int32)) (fun u => post u.1 u.2) (fun u H => mW E q f_code a_tape a_size a_fault a_faultPlace a_many a_lands a_evenings a_sights a_choirs f_reached f_length f_begins f_sort f_value f_word f_wrongAt u.1 u.2 a_told a_read f_farHut f_farSinger f_good f_land f_huts f_singers f_evening a_at a_knows a_climbed a_snow a_level f_begun f_minute f_avalanches a_run a_covers a_routes a_longest a_steep a_laid a_far f_sight a_runs f_choir f_voices a_rest a_wins f_seed a_other a_kept H) (mA q)) args s 0 0 (mA q)) (F0 m 0 ls []) := by
  have hx := zc.1
  have hb := zc.2.1
  refine lv_aload_n hx hb dX11_full_0 rfl (lv_at hl 0 rfl) ?_
  refine mg_11_38_0 zc hK hM dX11_full_1 ?_
  refine lv_iload_n hx hb dX11_full_4 rfl (lv_at hl 1 rfl) ?_
  refine mld_10 zc hK hM hw.1 dX11_full_5 ?_
  have hw := hw.2
  refine lv_iload_n hx hb dX11_full_6 rfl (lv_at hl 2 rfl) ?_
  refine lv_icmp_ne (tgt := 16) hx hb dX11_full_7 (by decide) (fun hc => ?_) (fun hc => ?_)
  · have hw := hw.1 hc
    exact zret_vw ⟨f_laterFault, f_laterPlace⟩ zc hS hw hM dX11_full_16
  · have hw := hw.2 hc
    refine lv_aload_n hx hb dX11_full_10 rfl (lv_at hl 0 rfl) ?_
    refine lv_iconst (v := (3 : Int32)) hx hb dX11_full_11 (by decide) ?_
    refine lv_iload_n hx hb dX11_full_12 rfl (lv_at hl 3 rfl) ?_
    refine zVw_v [.int (3 : Int32), .int x3] [] zc ky_X11_later kz_X11_later km_11_153 (c_m_later l hw) (mPreV0 hK hM) hS rfl rfl hl.1 (Nat.le_of_ble_eq_true rfl) ⟨rfl, rfl⟩ ⟨Nat.le_of_ble_eq_true rfl, Nat.le_of_ble_eq_true rfl⟩ ⟨(Nat.zero_le _), (Nat.zero_le _)⟩ dX11_full_13 (fun u H locs hw hM hS => ?_)
    obtain ⟨f_laterFault_1, f_laterPlace_1⟩ := u
    exact zret_vw ⟨f_laterFault_1, f_laterPlace_1⟩ zc hS hw hM dX11_full_16
set_option maxRecDepth 20000 in
theorem c_m_full (l : Launch) {E : zE} {q : Nat} {f_code : Int32} {a_tape : Nat → Int32} {a_size : Nat → Int32} {a_fault : Nat → Int32} {a_faultPlace : Nat → Int32} {a_many : Nat → Int32} {a_lands : Nat → Int32} {a_evenings : Nat → Int32} {a_sights : Nat → Int32} {a_choirs : Nat → Int32} {f_reached : Int32} {f_length : Int32} {f_begins : Int32} {f_sort : Int32} {f_value : Int32} {f_word : Int64} {f_wrongAt : Int32} {f_laterFault : Int32} {f_laterPlace : Int32} {a_told : Nat → Int32} {a_read : Nat → Int32} {f_farHut : Int32} {f_farSinger : Int32} {f_good : Int32} {f_land : Int32} {f_huts : Int32} {f_singers : Int32} {f_evening : Int32} {a_at : Nat → Int32} {a_knows : Nat → Int32} {a_climbed : Nat → Int32} {a_snow : Nat → Int32} {a_level : Nat → Int32} {f_begun : Int32} {f_minute : Int32} {f_avalanches : Int32} {a_run : Nat → Int32} {a_covers : Nat → Int32} {a_routes : Nat → Int32} {a_longest : Nat → Int32} {a_steep : Nat → Int32} {a_laid : Nat → Int32} {a_far : Nat → Int32} {f_sight : Int32} {a_runs : Nat → Int32} {f_choir : Int32} {f_voices : Int32} {a_rest : Nat → Int64} {a_wins : Nat → Int32} {f_seed : Int32} {a_other : Nat → Int32} {a_kept : Nat → Int32} {x1 : Int32} {x2 : Int32} {x3 : Int32} {post : (Int32) → (Int32) → Prop} (hw : q_m_full_0 f_laterFault f_laterPlace a_told x1 x2 x3 post) : Met l yX11_full (Cond.code yX11_full cX11_full 4 none :: zb) rm_m_full (va_Pc [.ref q, .int x1, .int x2, .int x3] (fun U => mW E q f_code a_tape a_size a_fault a_faultPlace a_many a_lands a_evenings a_sights a_choirs f_reached f_length f_begins f_sort f_value f_word f_wrongAt f_laterFault f_laterPlace a_told a_read f_farHut f_farSinger f_good f_land f_huts f_singers f_evening a_at a_knows a_climbed a_snow a_level f_begun f_minute f_avalanches a_run a_covers a_routes a_longest a_steep a_laid a_far f_sight a_runs f_choir f_voices a_rest a_wins f_seed a_other a_kept U.heap ∧ zK E U)) (zQv (S := (Int32) × (Int32)) (fun u => post u.1 u.2) (fun u H => mW E q f_code a_tape a_size a_fault a_faultPlace a_many a_lands a_evenings a_sights a_choirs f_reached f_length f_begins f_sort f_value f_word f_wrongAt u.1 u.2 a_told a_read f_farHut f_farSinger f_good f_land f_huts f_singers f_evening a_at a_knows a_climbed a_snow a_level f_begun f_minute f_avalanches a_run a_covers a_routes a_longest a_steep a_laid a_far f_sight a_runs f_choir f_voices a_rest a_wins f_seed a_other a_kept H) (mA q)) 0 0 (mA q) := by
  refine Met.ofW (cc := cX11_full) (maxL := 4) (ret := none) (by decide) rfl ?_
  intro p e s m args below meth c s₁ B hml hv
  obtain ⟨rfl, hM, hK⟩ := hv
  have zc := zc_of B hml
  have hl := lv_entry ([.ref q, .int x1, .int x2, .int x3]) (n := 4) (Nat.le_of_ble_eq_true rfl)
  rw [lg_entry_eq]
  generalize (lg_sl ([.ref q, .int x1, .int x2, .int x3]) ++ List.replicate (4 - (lg_sl ([.ref q, .int x1, .int x2, .int x3])).length) Slot.unset).toArray = ls at hl ⊢
  have hl : lv_has ls 4 [(0, .ref q), (1, .int x1), (2, .int x2), (3, .int x3)] := hl
  exact t_m_full_0 zc hK hM va_S.rf (lv_sub hl [0, 1, 2, 3] rfl) hw
-- m_further
abbrev rm_m_further : Room := { frames := 0, cells := 0, slots := 0, locals := 0 }
def q_m_further_0 (a_told : Nat → Int32) (x1 : Int32) (x2 : Int32) (post : Int32 → (Nat → Int32) → Prop) : Prop :=
  vp_in x1 132 ∧ (∀ v_1 : Int32, v_1 = (a_told (Int32.toNatClampNeg x1)) → ((¬ v_1 = x2 → (vp_in x1 132 ∧ (∀ v_2 : Int32, v_2 = ((a_told (Int32.toNatClampNeg x1)) + (1 : Int32)) → (vp_in x1 132 ∧ (∀ a_told_1 : Nat → Int32, a_told_1 = upd a_told (Int32.toNatClampNeg x1) v_2 → (post v_1 a_told_1)))))) ∧ (v_1 = x2 → (post (-1 : Int32) a_told))))
set_option maxRecDepth 20000 in
theorem t_m_further_0 {p : Program} {l : Launch} {e : Env} {s : State} {m : MethodId} {args : Array Value} {below : List Frame} {meth : Method} {c : Code} {E : zE} {q : Nat} {f_code : Int32} {a_tape : Nat → Int32} {a_size : Nat → Int32} {a_fault : Nat → Int32} {a_faultPlace : Nat → Int32} {a_many : Nat → Int32} {a_lands : Nat → Int32} {a_evenings : Nat → Int32} {a_sights : Nat → Int32} {a_choirs : Nat → Int32} {f_reached : Int32} {f_length : Int32} {f_begins : Int32} {f_sort : Int32} {f_value : Int32} {f_word : Int64} {f_wrongAt : Int32} {f_laterFault : Int32} {f_laterPlace : Int32} {a_told : Nat → Int32} {a_read : Nat → Int32} {f_farHut : Int32} {f_farSinger : Int32} {f_good : Int32} {f_land : Int32} {f_huts : Int32} {f_singers : Int32} {f_evening : Int32} {a_at : Nat → Int32} {a_knows : Nat → Int32} {a_climbed : Nat → Int32} {a_snow : Nat → Int32} {a_level : Nat → Int32} {f_begun : Int32} {f_minute : Int32} {f_avalanches : Int32} {a_run : Nat → Int32} {a_covers : Nat → Int32} {a_routes : Nat → Int32} {a_longest : Nat → Int32} {a_steep : Nat → Int32} {a_laid : Nat → Int32} {a_far : Nat → Int32} {f_sight : Int32} {a_runs : Nat → Int32} {f_choir : Int32} {f_voices : Int32} {a_rest : Nat → Int64} {a_wins : Nat → Int32} {f_seed : Int32} {a_other : Nat → Int32} {a_kept : Nat → Int32} {post : Int32 → (Nat → Int32) → Prop} {x1 : Int32} {x2 : Int32} {ls : Array Slot} {H : Heap} {locs : List Loc}
    (zc : zC p s m args meth c cX11_further 4 RX11 (some .int))
    (hK : zK E s)
    (hM : mW E q f_code a_tape a_size a_fault a_faultPlace a_many a_lands a_evenings a_sights a_choirs f_reached f_length f_begins f_sort f_value f_word f_wrongAt f_laterFault f_laterPlace a_told a_read f_farHut f_farSinger f_good f_land f_huts f_singers f_evening a_at a_knows a_climbed a_snow a_level f_begun f_minute f_avalanches a_run a_covers a_routes a_longest a_steep a_laid a_far f_sight a_runs f_choir f_voices a_rest a_wins f_seed a_other a_kept H)
    (hS : va_S (mA q) s.heap H locs)
    (hl : lv_has ls 4 [(0, .ref q), (1, .int x1), (2, .int x2)])
    (hw : q_m_further_0 a_told x1 x2 post) :
    W p l e rm_m_further s m args below meth c H locs 0 0 (MQ below (zQi (S := (Nat → Int32)) (fun r u => post r u) (fun u H => mW E q f_code a_tape a_size a_fault a_faultPlace a_many a_lands a_evenings a_sights a_choirs f_reached f_length f_begins f_sort f_value f_word f_wrongAt f_laterFault f_laterPlace u a_read f_farHut f_farSinger f_good f_land f_huts f_singers f_evening a_at a_knows a_climbed a_snow a_level f_begun f_minute f_avalanches a_run a_covers a_routes a_longest a_steep a_laid a_far f_sight a_runs f_choir f_voices a_rest a_wins f_seed a_other a_kept H) (mA q)) args s 0 0 (mA q)) (F0 m 0 ls []) := by
  have hx := zc.1
  have hb := zc.2.1
  refine lv_aload_n hx hb dX11_further_0 rfl (lv_at hl 0 rfl) ?_
  refine mg_11_38_0 zc hK hM dX11_further_1 ?_
  refine lv_iload_n hx hb dX11_further_4 rfl (lv_at hl 1 rfl) ?_
  refine mld_10 zc hK hM hw.1 dX11_further_5 ?_
  have hw := hw.2
  refine lv_topi (fun v_1 ev_1 => ?_)
  have hw := hw v_1 ev_1
  refine lv_istore_n (lv' := [(3, .int v_1), (0, .ref q), (1, .int x1), (2, .int x2)]) hx hb dX11_further_6 rfl hl (by decide) rfl (fun ls hl => ?_)
  refine lv_iload_n hx hb dX11_further_7 rfl (lv_at hl 0 rfl) ?_
  refine lv_iload_n hx hb dX11_further_8 rfl (lv_at hl 3 rfl) ?_
  refine lv_icmp_ne (tgt := 14) hx hb dX11_further_9 (by decide) (fun hc => ?_) (fun hc => ?_)
  · have hw := hw.1 hc
    refine lv_aload_n hx hb dX11_further_14 rfl (lv_at hl 1 rfl) ?_
    refine mg_11_38_0 zc hK hM dX11_further_15 ?_
    refine lv_iload_n hx hb dX11_further_18 rfl (lv_at hl 2 rfl) ?_
    refine lv_dup2_11 hx hb dX11_further_19 rfl rfl ?_
    refine mld_10 zc hK hM hw.1 dX11_further_20 ?_
    have hw := hw.2
    refine lv_iconst (v := (1 : Int32)) hx hb dX11_further_21 (by decide) ?_
    refine lv_iadd hx hb dX11_further_22 ?_
    refine lv_topi (fun v_2 ev_2 => ?_)
    have hw := hw v_2 ev_2
    refine mst_10 zc hK hM hS hw.1 dX11_further_23 (fun a_told_1 H locs ea_told_1 hM hS => ?_)
    have hw := hw.2 a_told_1 ea_told_1
    refine lv_iload_n hx hb dX11_further_24 rfl (lv_at hl 0 rfl) ?_
    exact zret_iw a_told_1 zc hS hw hM dX11_further_25
  · have hw := hw.2 hc
    refine lv_iconst (v := (-1 : Int32)) hx hb dX11_further_12 (by decide) ?_
    exact zret_iw a_told zc hS hw hM dX11_further_13
set_option maxRecDepth 20000 in
theorem c_m_further (l : Launch) {E : zE} {q : Nat} {f_code : Int32} {a_tape : Nat → Int32} {a_size : Nat → Int32} {a_fault : Nat → Int32} {a_faultPlace : Nat → Int32} {a_many : Nat → Int32} {a_lands : Nat → Int32} {a_evenings : Nat → Int32} {a_sights : Nat → Int32} {a_choirs : Nat → Int32} {f_reached : Int32} {f_length : Int32} {f_begins : Int32} {f_sort : Int32} {f_value : Int32} {f_word : Int64} {f_wrongAt : Int32} {f_laterFault : Int32} {f_laterPlace : Int32} {a_told : Nat → Int32} {a_read : Nat → Int32} {f_farHut : Int32} {f_farSinger : Int32} {f_good : Int32} {f_land : Int32} {f_huts : Int32} {f_singers : Int32} {f_evening : Int32} {a_at : Nat → Int32} {a_knows : Nat → Int32} {a_climbed : Nat → Int32} {a_snow : Nat → Int32} {a_level : Nat → Int32} {f_begun : Int32} {f_minute : Int32} {f_avalanches : Int32} {a_run : Nat → Int32} {a_covers : Nat → Int32} {a_routes : Nat → Int32} {a_longest : Nat → Int32} {a_steep : Nat → Int32} {a_laid : Nat → Int32} {a_far : Nat → Int32} {f_sight : Int32} {a_runs : Nat → Int32} {f_choir : Int32} {f_voices : Int32} {a_rest : Nat → Int64} {a_wins : Nat → Int32} {f_seed : Int32} {a_other : Nat → Int32} {a_kept : Nat → Int32} {x1 : Int32} {x2 : Int32} {post : Int32 → (Nat → Int32) → Prop} (hw : q_m_further_0 a_told x1 x2 post) : Met l yX11_further (Cond.code yX11_further cX11_further 4 (some .int) :: zb) rm_m_further (va_Pc [.ref q, .int x1, .int x2] (fun U => mW E q f_code a_tape a_size a_fault a_faultPlace a_many a_lands a_evenings a_sights a_choirs f_reached f_length f_begins f_sort f_value f_word f_wrongAt f_laterFault f_laterPlace a_told a_read f_farHut f_farSinger f_good f_land f_huts f_singers f_evening a_at a_knows a_climbed a_snow a_level f_begun f_minute f_avalanches a_run a_covers a_routes a_longest a_steep a_laid a_far f_sight a_runs f_choir f_voices a_rest a_wins f_seed a_other a_kept U.heap ∧ zK E U)) (zQi (S := (Nat → Int32)) (fun r u => post r u) (fun u H => mW E q f_code a_tape a_size a_fault a_faultPlace a_many a_lands a_evenings a_sights a_choirs f_reached f_length f_begins f_sort f_value f_word f_wrongAt f_laterFault f_laterPlace u a_read f_farHut f_farSinger f_good f_land f_huts f_singers f_evening a_at a_knows a_climbed a_snow a_level f_begun f_minute f_avalanches a_run a_covers a_routes a_longest a_steep a_laid a_far f_sight a_runs f_choir f_voices a_rest a_wins f_seed a_other a_kept H) (mA q)) 0 0 (mA q) := by
  refine Met.ofW (cc := cX11_further) (maxL := 4) (ret := (some .int)) (by decide) rfl ?_
  intro p e s m args below meth c s₁ B hml hv
  obtain ⟨rfl, hM, hK⟩ := hv
  have zc := zc_of B hml
  have hl := lv_entry ([.ref q, .int x1, .int x2]) (n := 4) (Nat.le_of_ble_eq_true rfl)
  rw [lg_entry_eq]
  generalize (lg_sl ([.ref q, .int x1, .int x2]) ++ List.replicate (4 - (lg_sl ([.ref q, .int x1, .int x2])).length) Slot.unset).toArray = ls at hl ⊢
  have hl : lv_has ls 4 [(0, .ref q), (1, .int x1), (2, .int x2)] := hl
  exact t_m_further_0 zc hK hM va_S.rf (lv_sub hl [0, 1, 2] rfl) hw
-- m_bitLine
abbrev rm_m_bitLine : Room := { frames := 4, cells := 0, slots := 0, locals := 90 }
def q_m_bitLine_37 (a_tape : Nat → Int32) (f_reached : Int32) (f_length : Int32) (f_begins : Int32) (f_sort : Int32) (f_value : Int32) (f_word : Int64) (f_wrongAt : Int32) (f_laterFault : Int32) (f_laterPlace : Int32) (a_told : Nat → Int32) (a_read : Nat → Int32) (f_farHut : Int32) (f_good : Int32) (y0 : Int32) (y1 : Int32) (y2 : Int32) (post : Int32 → (Int32) → (Int32) → (Int32) → (Int32) → (Int64) → (Int32) → (Int32) → (Int32) → (Nat → Int32) → (Nat → Int32) → (Int32) → (Int32) → Prop) : Prop :=
  ∀ v_1 : Int32, v_1 = (y1 ||| y2) → (vp_in y0 132 ∧ (∀ a_told_1 : Nat → Int32, a_told_1 = upd a_told (Int32.toNatClampNeg y0) v_1 → (post (1 : Int32) f_reached f_begins f_sort f_value f_word f_wrongAt f_laterFault f_laterPlace a_told_1 a_read f_farHut f_good)))
def q_m_bitLine_0 (a_tape : Nat → Int32) (f_reached : Int32) (f_length : Int32) (f_begins : Int32) (f_sort : Int32) (f_value : Int32) (f_word : Int64) (f_wrongAt : Int32) (f_laterFault : Int32) (f_laterPlace : Int32) (a_told : Nat → Int32) (a_read : Nat → Int32) (f_farHut : Int32) (f_good : Int32) (x1 : Int32) (post : Int32 → (Int32) → (Int32) → (Int32) → (Int32) → (Int64) → (Int32) → (Int32) → (Int32) → (Nat → Int32) → (Nat → Int32) → (Int32) → (Int32) → Prop) : Prop :=
  q_m_takeHut_0 a_tape f_reached f_length f_begins f_sort f_value f_word f_wrongAt f_laterFault f_laterPlace a_read f_farHut f_good (0 : Int32) (-1 : Int32) (fun r_1 f_reached_1 f_begins_1 f_sort_1 f_value_1 f_word_1 f_wrongAt_1 f_laterFault_1 f_laterPlace_1 a_read_1 f_farHut_1 f_good_1 => (¬ r_1 = 0 → (vp_in x1 132 ∧ ((f_good_1 = 0 → (q_m_bitLine_37 a_tape f_reached_1 f_length f_begins_1 f_sort_1 f_value_1 f_word_1 f_wrongAt_1 f_laterFault_1 f_laterPlace_1 a_told a_read_1 f_farHut_1 f_good_1 x1 (a_told (Int32.toNatClampNeg x1)) (0 : Int32) post)) ∧ (¬ f_good_1 = 0 → (q_m_bitLine_37 a_tape f_reached_1 f_length f_begins_1 f_sort_1 f_value_1 f_word_1 f_wrongAt_1 f_laterFault_1 f_laterPlace_1 a_told a_read_1 f_farHut_1 f_good_1 x1 (a_told (Int32.toNatClampNeg x1)) ((1 : Int32) <<< ((a_read_1 (Int32.toNatClampNeg (0 : Int32))) &&& 31)) post))))) ∧ (r_1 = 0 → (post (0 : Int32) f_reached_1 f_begins_1 f_sort_1 f_value_1 f_word_1 f_wrongAt_1 f_laterFault_1 f_laterPlace_1 a_told a_read_1 f_farHut_1 f_good_1)))
set_option maxRecDepth 20000 in
theorem t_m_bitLine_37 {p : Program} {l : Launch} {e : Env} {s : State} {m : MethodId} {args : Array Value} {below : List Frame} {meth : Method} {c : Code} {E : zE} {q : Nat} {f_code : Int32} {a_tape : Nat → Int32} {a_size : Nat → Int32} {a_fault : Nat → Int32} {a_faultPlace : Nat → Int32} {a_many : Nat → Int32} {a_lands : Nat → Int32} {a_evenings : Nat → Int32} {a_sights : Nat → Int32} {a_choirs : Nat → Int32} {f_reached : Int32} {f_length : Int32} {f_begins : Int32} {f_sort : Int32} {f_value : Int32} {f_word : Int64} {f_wrongAt : Int32} {f_laterFault : Int32} {f_laterPlace : Int32} {a_told : Nat → Int32} {a_read : Nat → Int32} {f_farHut : Int32} {f_farSinger : Int32} {f_good : Int32} {f_land : Int32} {f_huts : Int32} {f_singers : Int32} {f_evening : Int32} {a_at : Nat → Int32} {a_knows : Nat → Int32} {a_climbed : Nat → Int32} {a_snow : Nat → Int32} {a_level : Nat → Int32} {f_begun : Int32} {f_minute : Int32} {f_avalanches : Int32} {a_run : Nat → Int32} {a_covers : Nat → Int32} {a_routes : Nat → Int32} {a_longest : Nat → Int32} {a_steep : Nat → Int32} {a_laid : Nat → Int32} {a_far : Nat → Int32} {f_sight : Int32} {a_runs : Nat → Int32} {f_choir : Int32} {f_voices : Int32} {a_rest : Nat → Int64} {a_wins : Nat → Int32} {f_seed : Int32} {a_other : Nat → Int32} {a_kept : Nat → Int32} {post : Int32 → (Int32) → (Int32) → (Int32) → (Int32) → (Int64) → (Int32) → (Int32) → (Int32) → (Nat → Int32) → (Nat → Int32) → (Int32) → (Int32) → Prop} {y0 : Int32} {y1 : Int32} {y2 : Int32} {ls : Array Slot} {H : Heap} {locs : List Loc}
    (zc : zC p s m args meth c cX11_bitLine 2 RX11 (some .boolean))
    (hK : zK E s)
    (hM : mW E q f_code a_tape a_size a_fault a_faultPlace a_many a_lands a_evenings a_sights a_choirs f_reached f_length f_begins f_sort f_value f_word f_wrongAt f_laterFault f_laterPlace a_told a_read f_farHut f_farSinger f_good f_land f_huts f_singers f_evening a_at a_knows a_climbed a_snow a_level f_begun f_minute f_avalanches a_run a_covers a_routes a_longest a_steep a_laid a_far f_sight a_runs f_choir f_voices a_rest a_wins f_seed a_other a_kept H)
    (hS : va_S (mA q) s.heap H locs)
    (hl : lv_has ls 2 [])
    (hw : q_m_bitLine_37 a_tape f_reached f_length f_begins f_sort f_value f_word f_wrongAt f_laterFault f_laterPlace a_told a_read f_farHut f_good y0 y1 y2 post) :
    W p l e rm_m_bitLine s m args below meth c H locs 0 0 (MQ below (zQi (S := (Int32) × (Int32) × (Int32) × (Int32) × (Int64) × (Int32) × (Int32) × (Int32) × (Nat → Int32) × (Nat → Int32) × (Int32) × (Int32)) (fun r u => post r u.1 u.2.1 u.2.2.1 u.2.2.2.1 u.2.2.2.2.1 u.2.2.2.2.2.1 u.2.2.2.2.2.2.1 u.2.2.2.2.2.2.2.1 u.2.2.2.2.2.2.2.2.1 u.2.2.2.2.2.2.2.2.2.1 u.2.2.2.2.2.2.2.2.2.2.1 u.2.2.2.2.2.2.2.2.2.2.2) (fun u H => mW E q f_code a_tape a_size a_fault a_faultPlace a_many a_lands a_evenings a_sights a_choirs u.1 f_length u.2.1 u.2.2.1 u.2.2.2.1 u.2.2.2.2.1 u.2.2.2.2.2.1 u.2.2.2.2.2.2.1 u.2.2.2.2.2.2.2.1 u.2.2.2.2.2.2.2.2.1 u.2.2.2.2.2.2.2.2.2.1 u.2.2.2.2.2.2.2.2.2.2.1 f_farSinger u.2.2.2.2.2.2.2.2.2.2.2 f_land f_huts f_singers f_evening a_at a_knows a_climbed a_snow a_level f_begun f_minute f_avalanches a_run a_covers a_routes a_longest a_steep a_laid a_far f_sight a_runs f_choir f_voices a_rest a_wins f_seed a_other a_kept H) (mA q)) args s 0 0 (mA q)) (F0 m 37 ls [.int y2, .int y1, .int y0, .ref (q + 10)]) := by
  have hx := zc.1
  have hb := zc.2.1
  refine lv_ior hx hb dX11_bitLine_37 ?_
  refine lv_topi (fun v_1 ev_1 => ?_)
  have hw := hw v_1 ev_1
  refine mst_10 zc hK hM hS hw.1 dX11_bitLine_38 (fun a_told_1 H locs ea_told_1 hM hS => ?_)
  have hw := hw.2 a_told_1 ea_told_1
  refine lv_iconst (v := (1 : Int32)) hx hb dX11_bitLine_39 (by decide) ?_
  exact zret_zw ⟨f_reached, f_begins, f_sort, f_value, f_word, f_wrongAt, f_laterFault, f_laterPlace, a_told_1, a_read, f_farHut, f_good⟩ zc hS rfl hw hM dX11_bitLine_40
set_option maxRecDepth 20000 in
theorem t_m_bitLine_0 {p : Program} {l : Launch} {e : Env} {s : State} {m : MethodId} {args : Array Value} {below : List Frame} {meth : Method} {c : Code} {E : zE} {q : Nat} {f_code : Int32} {a_tape : Nat → Int32} {a_size : Nat → Int32} {a_fault : Nat → Int32} {a_faultPlace : Nat → Int32} {a_many : Nat → Int32} {a_lands : Nat → Int32} {a_evenings : Nat → Int32} {a_sights : Nat → Int32} {a_choirs : Nat → Int32} {f_reached : Int32} {f_length : Int32} {f_begins : Int32} {f_sort : Int32} {f_value : Int32} {f_word : Int64} {f_wrongAt : Int32} {f_laterFault : Int32} {f_laterPlace : Int32} {a_told : Nat → Int32} {a_read : Nat → Int32} {f_farHut : Int32} {f_farSinger : Int32} {f_good : Int32} {f_land : Int32} {f_huts : Int32} {f_singers : Int32} {f_evening : Int32} {a_at : Nat → Int32} {a_knows : Nat → Int32} {a_climbed : Nat → Int32} {a_snow : Nat → Int32} {a_level : Nat → Int32} {f_begun : Int32} {f_minute : Int32} {f_avalanches : Int32} {a_run : Nat → Int32} {a_covers : Nat → Int32} {a_routes : Nat → Int32} {a_longest : Nat → Int32} {a_steep : Nat → Int32} {a_laid : Nat → Int32} {a_far : Nat → Int32} {f_sight : Int32} {a_runs : Nat → Int32} {f_choir : Int32} {f_voices : Int32} {a_rest : Nat → Int64} {a_wins : Nat → Int32} {f_seed : Int32} {a_other : Nat → Int32} {a_kept : Nat → Int32} {post : Int32 → (Int32) → (Int32) → (Int32) → (Int32) → (Int64) → (Int32) → (Int32) → (Int32) → (Nat → Int32) → (Nat → Int32) → (Int32) → (Int32) → Prop} {x1 : Int32} {ls : Array Slot} {H : Heap} {locs : List Loc}
    (zc : zC p s m args meth c cX11_bitLine 2 RX11 (some .boolean))
    (hK : zK E s)
    (hM : mW E q f_code a_tape a_size a_fault a_faultPlace a_many a_lands a_evenings a_sights a_choirs f_reached f_length f_begins f_sort f_value f_word f_wrongAt f_laterFault f_laterPlace a_told a_read f_farHut f_farSinger f_good f_land f_huts f_singers f_evening a_at a_knows a_climbed a_snow a_level f_begun f_minute f_avalanches a_run a_covers a_routes a_longest a_steep a_laid a_far f_sight a_runs f_choir f_voices a_rest a_wins f_seed a_other a_kept H)
    (hS : va_S (mA q) s.heap H locs)
    (hl : lv_has ls 2 [(0, .ref q), (1, .int x1)])
    (hw : q_m_bitLine_0 a_tape f_reached f_length f_begins f_sort f_value f_word f_wrongAt f_laterFault f_laterPlace a_told a_read f_farHut f_good x1 post) :
    W p l e rm_m_bitLine s m args below meth c H locs 0 0 (MQ below (zQi (S := (Int32) × (Int32) × (Int32) × (Int32) × (Int64) × (Int32) × (Int32) × (Int32) × (Nat → Int32) × (Nat → Int32) × (Int32) × (Int32)) (fun r u => post r u.1 u.2.1 u.2.2.1 u.2.2.2.1 u.2.2.2.2.1 u.2.2.2.2.2.1 u.2.2.2.2.2.2.1 u.2.2.2.2.2.2.2.1 u.2.2.2.2.2.2.2.2.1 u.2.2.2.2.2.2.2.2.2.1 u.2.2.2.2.2.2.2.2.2.2.1 u.2.2.2.2.2.2.2.2.2.2.2) (fun u H => mW E q f_code a_tape a_size a_fault a_faultPlace a_many a_lands a_evenings a_sights a_choirs u.1 f_length u.2.1 u.2.2.1 u.2.2.2.1 u.2.2.2.2.1 u.2.2.2.2.2.1 u.2.2.2.2.2.2.1 u.2.2.2.2.2.2.2.1 u.2.2.2.2.2.2.2.2.1 u.2.2.2.2.2.2.2.2.2.1 u.2.2.2.2.2.2.2.2.2.2.1 f_farSinger u.2.2.2.2.2.2.2.2.2.2.2 f_land f_huts f_singers f_evening a_at a_knows a_climbed a_snow a_level f_begun f_minute f_avalanches a_run a_covers a_routes a_longest a_steep a_laid a_far f_sight a_runs f_choir f_voices a_rest a_wins f_seed a_other a_kept H) (mA q)) args s 0 0 (mA q)) (F0 m 0 ls []) := by
  have hx := zc.1
  have hb := zc.2.1
  refine lv_aload_n hx hb dX11_bitLine_0 rfl (lv_at hl 0 rfl) ?_
  refine lv_iconst (v := (0 : Int32)) hx hb dX11_bitLine_1 (by decide) ?_
  refine lv_iconst (v := (-1 : Int32)) hx hb dX11_bitLine_2 (by decide) ?_
  refine zVw_i [.int (0 : Int32), .int (-1 : Int32)] [] zc ky_X11_takeHut kz_X11_takeHut km_11_175 (c_m_takeHut l hw) (mPreV0 hK hM) hS rfl rfl hl.1 (Nat.le_of_ble_eq_true rfl) ⟨rfl, rfl⟩ ⟨Nat.le_of_ble_eq_true rfl, Nat.le_of_ble_eq_true rfl⟩ ⟨(Nat.zero_le _), (Nat.zero_le _)⟩ dX11_bitLine_3 (fun r_1 u H locs hw hM hS => ?_)
  obtain ⟨f_reached_1, f_begins_1, f_sort_1, f_value_1, f_word_1, f_wrongAt_1, f_laterFault_1, f_laterPlace_1, a_read_1, f_farHut_1, f_good_1⟩ := u
  refine lv_if_ne (tgt := 11) hx hb dX11_bitLine_6 (by decide) (fun hc => ?_) (fun hc => ?_)
  · have hw := hw.1 hc
    refine lv_aload_n hx hb dX11_bitLine_11 rfl (lv_at hl 0 rfl) ?_
    refine mg_11_38_0 zc hK hM dX11_bitLine_12 ?_
    refine lv_iload_n hx hb dX11_bitLine_15 rfl (lv_at hl 1 rfl) ?_
    refine lv_dup2_11 hx hb dX11_bitLine_16 rfl rfl ?_
    refine mld_10 zc hK hM hw.1 dX11_bitLine_17 ?_
    have hw := hw.2
    refine lv_aload_n hx hb dX11_bitLine_18 rfl (lv_at hl 0 rfl) ?_
    refine mg_11_157_0 zc hK hM dX11_bitLine_19 ?_
    refine lv_if_eq (tgt := 36) hx hb dX11_bitLine_22 (by decide) (fun hc => ?_) (fun hc => ?_)
    · have hw := hw.1 hc
      refine lv_iconst (v := (0 : Int32)) hx hb dX11_bitLine_36 (by decide) ?_
      exact t_m_bitLine_37 zc hK hM hS  (lv_sub hl [] rfl) hw
    · have hw := hw.2 hc
      refine lv_iconst (v := (1 : Int32)) hx hb dX11_bitLine_25 (by decide) ?_
      refine lv_aload_n hx hb dX11_bitLine_26 rfl (lv_at hl 0 rfl) ?_
      refine mg_11_41_0 zc hK hM dX11_bitLine_27 ?_
      refine lv_iconst (v := (0 : Int32)) hx hb dX11_bitLine_30 (by decide) ?_
      refine mld_11 zc hK hM (by unfold vp_in; decide) dX11_bitLine_31 ?_
      refine lv_ishl hx hb dX11_bitLine_32 ?_
      refine lv_goto (tgt := 37) hx hb dX11_bitLine_33 (by decide) ?_
      exact t_m_bitLine_37 zc hK hM hS  (lv_sub hl [] rfl) hw
  · have hw := hw.2 hc
    refine lv_iconst (v := (0 : Int32)) hx hb dX11_bitLine_9 (by decide) ?_
    exact zret_zw ⟨f_reached_1, f_begins_1, f_sort_1, f_value_1, f_word_1, f_wrongAt_1, f_laterFault_1, f_laterPlace_1, a_told, a_read_1, f_farHut_1, f_good_1⟩ zc hS rfl hw hM dX11_bitLine_10
set_option maxRecDepth 20000 in
theorem c_m_bitLine (l : Launch) {E : zE} {q : Nat} {f_code : Int32} {a_tape : Nat → Int32} {a_size : Nat → Int32} {a_fault : Nat → Int32} {a_faultPlace : Nat → Int32} {a_many : Nat → Int32} {a_lands : Nat → Int32} {a_evenings : Nat → Int32} {a_sights : Nat → Int32} {a_choirs : Nat → Int32} {f_reached : Int32} {f_length : Int32} {f_begins : Int32} {f_sort : Int32} {f_value : Int32} {f_word : Int64} {f_wrongAt : Int32} {f_laterFault : Int32} {f_laterPlace : Int32} {a_told : Nat → Int32} {a_read : Nat → Int32} {f_farHut : Int32} {f_farSinger : Int32} {f_good : Int32} {f_land : Int32} {f_huts : Int32} {f_singers : Int32} {f_evening : Int32} {a_at : Nat → Int32} {a_knows : Nat → Int32} {a_climbed : Nat → Int32} {a_snow : Nat → Int32} {a_level : Nat → Int32} {f_begun : Int32} {f_minute : Int32} {f_avalanches : Int32} {a_run : Nat → Int32} {a_covers : Nat → Int32} {a_routes : Nat → Int32} {a_longest : Nat → Int32} {a_steep : Nat → Int32} {a_laid : Nat → Int32} {a_far : Nat → Int32} {f_sight : Int32} {a_runs : Nat → Int32} {f_choir : Int32} {f_voices : Int32} {a_rest : Nat → Int64} {a_wins : Nat → Int32} {f_seed : Int32} {a_other : Nat → Int32} {a_kept : Nat → Int32} {x1 : Int32} {post : Int32 → (Int32) → (Int32) → (Int32) → (Int32) → (Int64) → (Int32) → (Int32) → (Int32) → (Nat → Int32) → (Nat → Int32) → (Int32) → (Int32) → Prop} (hw : q_m_bitLine_0 a_tape f_reached f_length f_begins f_sort f_value f_word f_wrongAt f_laterFault f_laterPlace a_told a_read f_farHut f_good x1 post) : Met l yX11_bitLine (Cond.code yX11_bitLine cX11_bitLine 2 (some .boolean) :: zb) rm_m_bitLine (va_Pc [.ref q, .int x1] (fun U => mW E q f_code a_tape a_size a_fault a_faultPlace a_many a_lands a_evenings a_sights a_choirs f_reached f_length f_begins f_sort f_value f_word f_wrongAt f_laterFault f_laterPlace a_told a_read f_farHut f_farSinger f_good f_land f_huts f_singers f_evening a_at a_knows a_climbed a_snow a_level f_begun f_minute f_avalanches a_run a_covers a_routes a_longest a_steep a_laid a_far f_sight a_runs f_choir f_voices a_rest a_wins f_seed a_other a_kept U.heap ∧ zK E U)) (zQi (S := (Int32) × (Int32) × (Int32) × (Int32) × (Int64) × (Int32) × (Int32) × (Int32) × (Nat → Int32) × (Nat → Int32) × (Int32) × (Int32)) (fun r u => post r u.1 u.2.1 u.2.2.1 u.2.2.2.1 u.2.2.2.2.1 u.2.2.2.2.2.1 u.2.2.2.2.2.2.1 u.2.2.2.2.2.2.2.1 u.2.2.2.2.2.2.2.2.1 u.2.2.2.2.2.2.2.2.2.1 u.2.2.2.2.2.2.2.2.2.2.1 u.2.2.2.2.2.2.2.2.2.2.2) (fun u H => mW E q f_code a_tape a_size a_fault a_faultPlace a_many a_lands a_evenings a_sights a_choirs u.1 f_length u.2.1 u.2.2.1 u.2.2.2.1 u.2.2.2.2.1 u.2.2.2.2.2.1 u.2.2.2.2.2.2.1 u.2.2.2.2.2.2.2.1 u.2.2.2.2.2.2.2.2.1 u.2.2.2.2.2.2.2.2.2.1 u.2.2.2.2.2.2.2.2.2.2.1 f_farSinger u.2.2.2.2.2.2.2.2.2.2.2 f_land f_huts f_singers f_evening a_at a_knows a_climbed a_snow a_level f_begun f_minute f_avalanches a_run a_covers a_routes a_longest a_steep a_laid a_far f_sight a_runs f_choir f_voices a_rest a_wins f_seed a_other a_kept H) (mA q)) 0 0 (mA q) := by
  refine Met.ofW (cc := cX11_bitLine) (maxL := 2) (ret := (some .boolean)) (by decide) rfl ?_
  intro p e s m args below meth c s₁ B hml hv
  obtain ⟨rfl, hM, hK⟩ := hv
  have zc := zc_of B hml
  have hl := lv_entry ([.ref q, .int x1]) (n := 2) (Nat.le_of_ble_eq_true rfl)
  rw [lg_entry_eq]
  generalize (lg_sl ([.ref q, .int x1]) ++ List.replicate (2 - (lg_sl ([.ref q, .int x1])).length) Slot.unset).toArray = ls at hl ⊢
  have hl : lv_has ls 2 [(0, .ref q), (1, .int x1)] := hl
  exact t_m_bitLine_0 zc hK hM va_S.rf (lv_sub hl [0, 1] rfl) hw
-- m_plainLine
abbrev rm_m_plainLine : Room := { frames := 4, cells := 0, slots := 0, locals := 91 }
def q_m_plainLine_0 (a_tape : Nat → Int32) (f_reached : Int32) (f_length : Int32) (f_begins : Int32) (f_sort : Int32) (f_value : Int32) (f_word : Int64) (f_wrongAt : Int32) (f_laterFault : Int32) (f_laterPlace : Int32) (a_told : Nat → Int32) (a_read : Nat → Int32) (f_good : Int32) (x1 : Int32) (x2 : Int32) (x3 : Int32) (post : Int32 → (Int32) → (Int32) → (Int32) → (Int32) → (Int64) → (Int32) → (Int32) → (Int32) → (Nat → Int32) → (Nat → Int32) → (Int32) → Prop) : Prop :=
  q_m_take_0 a_tape f_reached f_length f_begins f_sort f_value f_word f_wrongAt f_laterFault f_laterPlace a_read f_good (0 : Int32) x2 x3 (fun r_1 f_reached_1 f_begins_1 f_sort_1 f_value_1 f_word_1 f_wrongAt_1 f_laterFault_1 f_laterPlace_1 a_read_1 f_good_1 => (¬ r_1 = 0 → (∀ v_1 : Int32, v_1 = (a_read_1 (Int32.toNatClampNeg (0 : Int32))) → (vp_in x1 132 ∧ (∀ a_told_1 : Nat → Int32, a_told_1 = upd a_told (Int32.toNatClampNeg x1) v_1 → (post (1 : Int32) f_reached_1 f_begins_1 f_sort_1 f_value_1 f_word_1 f_wrongAt_1 f_laterFault_1 f_laterPlace_1 a_told_1 a_read_1 f_good_1))))) ∧ (r_1 = 0 → (post (0 : Int32) f_reached_1 f_begins_1 f_sort_1 f_value_1 f_word_1 f_wrongAt_1 f_laterFault_1 f_laterPlace_1 a_told a_read_1 f_good_1)))
set_option maxRecDepth 20000 in
theorem t_m_plainLine_0 {p : Program} {l : Launch} {e : Env} {s : State} {m : MethodId} {args : Array Value} {below : List Frame} {meth : Method} {c : Code} {E : zE} {q : Nat} {f_code : Int32} {a_tape : Nat → Int32} {a_size : Nat → Int32} {a_fault : Nat → Int32} {a_faultPlace : Nat → Int32} {a_many : Nat → Int32} {a_lands : Nat → Int32} {a_evenings : Nat → Int32} {a_sights : Nat → Int32} {a_choirs : Nat → Int32} {f_reached : Int32} {f_length : Int32} {f_begins : Int32} {f_sort : Int32} {f_value : Int32} {f_word : Int64} {f_wrongAt : Int32} {f_laterFault : Int32} {f_laterPlace : Int32} {a_told : Nat → Int32} {a_read : Nat → Int32} {f_farHut : Int32} {f_farSinger : Int32} {f_good : Int32} {f_land : Int32} {f_huts : Int32} {f_singers : Int32} {f_evening : Int32} {a_at : Nat → Int32} {a_knows : Nat → Int32} {a_climbed : Nat → Int32} {a_snow : Nat → Int32} {a_level : Nat → Int32} {f_begun : Int32} {f_minute : Int32} {f_avalanches : Int32} {a_run : Nat → Int32} {a_covers : Nat → Int32} {a_routes : Nat → Int32} {a_longest : Nat → Int32} {a_steep : Nat → Int32} {a_laid : Nat → Int32} {a_far : Nat → Int32} {f_sight : Int32} {a_runs : Nat → Int32} {f_choir : Int32} {f_voices : Int32} {a_rest : Nat → Int64} {a_wins : Nat → Int32} {f_seed : Int32} {a_other : Nat → Int32} {a_kept : Nat → Int32} {post : Int32 → (Int32) → (Int32) → (Int32) → (Int32) → (Int64) → (Int32) → (Int32) → (Int32) → (Nat → Int32) → (Nat → Int32) → (Int32) → Prop} {x1 : Int32} {x2 : Int32} {x3 : Int32} {ls : Array Slot} {H : Heap} {locs : List Loc}
    (zc : zC p s m args meth c cX11_plainLine 4 RX11 (some .boolean))
    (hK : zK E s)
    (hM : mW E q f_code a_tape a_size a_fault a_faultPlace a_many a_lands a_evenings a_sights a_choirs f_reached f_length f_begins f_sort f_value f_word f_wrongAt f_laterFault f_laterPlace a_told a_read f_farHut f_farSinger f_good f_land f_huts f_singers f_evening a_at a_knows a_climbed a_snow a_level f_begun f_minute f_avalanches a_run a_covers a_routes a_longest a_steep a_laid a_far f_sight a_runs f_choir f_voices a_rest a_wins f_seed a_other a_kept H)
    (hS : va_S (mA q) s.heap H locs)
    (hl : lv_has ls 4 [(0, .ref q), (1, .int x1), (2, .int x2), (3, .int x3)])
    (hw : q_m_plainLine_0 a_tape f_reached f_length f_begins f_sort f_value f_word f_wrongAt f_laterFault f_laterPlace a_told a_read f_good x1 x2 x3 post) :
    W p l e rm_m_plainLine s m args below meth c H locs 0 0 (MQ below (zQi (S := (Int32) × (Int32) × (Int32) × (Int32) × (Int64) × (Int32) × (Int32) × (Int32) × (Nat → Int32) × (Nat → Int32) × (Int32)) (fun r u => post r u.1 u.2.1 u.2.2.1 u.2.2.2.1 u.2.2.2.2.1 u.2.2.2.2.2.1 u.2.2.2.2.2.2.1 u.2.2.2.2.2.2.2.1 u.2.2.2.2.2.2.2.2.1 u.2.2.2.2.2.2.2.2.2.1 u.2.2.2.2.2.2.2.2.2.2) (fun u H => mW E q f_code a_tape a_size a_fault a_faultPlace a_many a_lands a_evenings a_sights a_choirs u.1 f_length u.2.1 u.2.2.1 u.2.2.2.1 u.2.2.2.2.1 u.2.2.2.2.2.1 u.2.2.2.2.2.2.1 u.2.2.2.2.2.2.2.1 u.2.2.2.2.2.2.2.2.1 u.2.2.2.2.2.2.2.2.2.1 f_farHut f_farSinger u.2.2.2.2.2.2.2.2.2.2 f_land f_huts f_singers f_evening a_at a_knows a_climbed a_snow a_level f_begun f_minute f_avalanches a_run a_covers a_routes a_longest a_steep a_laid a_far f_sight a_runs f_choir f_voices a_rest a_wins f_seed a_other a_kept H) (mA q)) args s 0 0 (mA q)) (F0 m 0 ls []) := by
  have hx := zc.1
  have hb := zc.2.1
  refine lv_aload_n hx hb dX11_plainLine_0 rfl (lv_at hl 0 rfl) ?_
  refine lv_iconst (v := (0 : Int32)) hx hb dX11_plainLine_1 (by decide) ?_
  refine lv_iload_n hx hb dX11_plainLine_2 rfl (lv_at hl 2 rfl) ?_
  refine lv_iload_n hx hb dX11_plainLine_3 rfl (lv_at hl 3 rfl) ?_
  refine zVw_i [.int (0 : Int32), .int x2, .int x3] [] zc ky_X11_take kz_X11_take km_11_178 (c_m_take l hw) (mPreV0 hK hM) hS rfl rfl hl.1 (Nat.le_of_ble_eq_true rfl) ⟨rfl, rfl⟩ ⟨Nat.le_of_ble_eq_true rfl, Nat.le_of_ble_eq_true rfl⟩ ⟨(Nat.zero_le _), (Nat.zero_le _)⟩ dX11_plainLine_4 (fun r_1 u H locs hw hM hS => ?_)
  obtain ⟨f_reached_1, f_begins_1, f_sort_1, f_value_1, f_word_1, f_wrongAt_1, f_laterFault_1, f_laterPlace_1, a_read_1, f_good_1⟩ := u
  refine lv_if_ne (tgt := 12) hx hb dX11_plainLine_7 (by decide) (fun hc => ?_) (fun hc => ?_)
  · have hw := hw.1 hc
    refine lv_aload_n hx hb dX11_plainLine_12 rfl (lv_at hl 0 rfl) ?_
    refine mg_11_38_0 zc hK hM dX11_plainLine_13 ?_
    refine lv_iload_n hx hb dX11_plainLine_16 rfl (lv_at hl 1 rfl) ?_
    refine lv_aload_n hx hb dX11_plainLine_17 rfl (lv_at hl 0 rfl) ?_
    refine mg_11_41_0 zc hK hM dX11_plainLine_18 ?_
    refine lv_iconst (v := (0 : Int32)) hx hb dX11_plainLine_21 (by decide) ?_
    refine mld_11 zc hK hM (by unfold vp_in; decide) dX11_plainLine_22 ?_
    refine lv_topi (fun v_1 ev_1 => ?_)
    have hw := hw v_1 ev_1
    refine mst_10 zc hK hM hS hw.1 dX11_plainLine_23 (fun a_told_1 H locs ea_told_1 hM hS => ?_)
    have hw := hw.2 a_told_1 ea_told_1
    refine lv_iconst (v := (1 : Int32)) hx hb dX11_plainLine_24 (by decide) ?_
    exact zret_zw ⟨f_reached_1, f_begins_1, f_sort_1, f_value_1, f_word_1, f_wrongAt_1, f_laterFault_1, f_laterPlace_1, a_told_1, a_read_1, f_good_1⟩ zc hS rfl hw hM dX11_plainLine_25
  · have hw := hw.2 hc
    refine lv_iconst (v := (0 : Int32)) hx hb dX11_plainLine_10 (by decide) ?_
    exact zret_zw ⟨f_reached_1, f_begins_1, f_sort_1, f_value_1, f_word_1, f_wrongAt_1, f_laterFault_1, f_laterPlace_1, a_told, a_read_1, f_good_1⟩ zc hS rfl hw hM dX11_plainLine_11
set_option maxRecDepth 20000 in
theorem c_m_plainLine (l : Launch) {E : zE} {q : Nat} {f_code : Int32} {a_tape : Nat → Int32} {a_size : Nat → Int32} {a_fault : Nat → Int32} {a_faultPlace : Nat → Int32} {a_many : Nat → Int32} {a_lands : Nat → Int32} {a_evenings : Nat → Int32} {a_sights : Nat → Int32} {a_choirs : Nat → Int32} {f_reached : Int32} {f_length : Int32} {f_begins : Int32} {f_sort : Int32} {f_value : Int32} {f_word : Int64} {f_wrongAt : Int32} {f_laterFault : Int32} {f_laterPlace : Int32} {a_told : Nat → Int32} {a_read : Nat → Int32} {f_farHut : Int32} {f_farSinger : Int32} {f_good : Int32} {f_land : Int32} {f_huts : Int32} {f_singers : Int32} {f_evening : Int32} {a_at : Nat → Int32} {a_knows : Nat → Int32} {a_climbed : Nat → Int32} {a_snow : Nat → Int32} {a_level : Nat → Int32} {f_begun : Int32} {f_minute : Int32} {f_avalanches : Int32} {a_run : Nat → Int32} {a_covers : Nat → Int32} {a_routes : Nat → Int32} {a_longest : Nat → Int32} {a_steep : Nat → Int32} {a_laid : Nat → Int32} {a_far : Nat → Int32} {f_sight : Int32} {a_runs : Nat → Int32} {f_choir : Int32} {f_voices : Int32} {a_rest : Nat → Int64} {a_wins : Nat → Int32} {f_seed : Int32} {a_other : Nat → Int32} {a_kept : Nat → Int32} {x1 : Int32} {x2 : Int32} {x3 : Int32} {post : Int32 → (Int32) → (Int32) → (Int32) → (Int32) → (Int64) → (Int32) → (Int32) → (Int32) → (Nat → Int32) → (Nat → Int32) → (Int32) → Prop} (hw : q_m_plainLine_0 a_tape f_reached f_length f_begins f_sort f_value f_word f_wrongAt f_laterFault f_laterPlace a_told a_read f_good x1 x2 x3 post) : Met l yX11_plainLine (Cond.code yX11_plainLine cX11_plainLine 4 (some .boolean) :: zb) rm_m_plainLine (va_Pc [.ref q, .int x1, .int x2, .int x3] (fun U => mW E q f_code a_tape a_size a_fault a_faultPlace a_many a_lands a_evenings a_sights a_choirs f_reached f_length f_begins f_sort f_value f_word f_wrongAt f_laterFault f_laterPlace a_told a_read f_farHut f_farSinger f_good f_land f_huts f_singers f_evening a_at a_knows a_climbed a_snow a_level f_begun f_minute f_avalanches a_run a_covers a_routes a_longest a_steep a_laid a_far f_sight a_runs f_choir f_voices a_rest a_wins f_seed a_other a_kept U.heap ∧ zK E U)) (zQi (S := (Int32) × (Int32) × (Int32) × (Int32) × (Int64) × (Int32) × (Int32) × (Int32) × (Nat → Int32) × (Nat → Int32) × (Int32)) (fun r u => post r u.1 u.2.1 u.2.2.1 u.2.2.2.1 u.2.2.2.2.1 u.2.2.2.2.2.1 u.2.2.2.2.2.2.1 u.2.2.2.2.2.2.2.1 u.2.2.2.2.2.2.2.2.1 u.2.2.2.2.2.2.2.2.2.1 u.2.2.2.2.2.2.2.2.2.2) (fun u H => mW E q f_code a_tape a_size a_fault a_faultPlace a_many a_lands a_evenings a_sights a_choirs u.1 f_length u.2.1 u.2.2.1 u.2.2.2.1 u.2.2.2.2.1 u.2.2.2.2.2.1 u.2.2.2.2.2.2.1 u.2.2.2.2.2.2.2.1 u.2.2.2.2.2.2.2.2.1 u.2.2.2.2.2.2.2.2.2.1 f_farHut f_farSinger u.2.2.2.2.2.2.2.2.2.2 f_land f_huts f_singers f_evening a_at a_knows a_climbed a_snow a_level f_begun f_minute f_avalanches a_run a_covers a_routes a_longest a_steep a_laid a_far f_sight a_runs f_choir f_voices a_rest a_wins f_seed a_other a_kept H) (mA q)) 0 0 (mA q) := by
  refine Met.ofW (cc := cX11_plainLine) (maxL := 4) (ret := (some .boolean)) (by decide) rfl ?_
  intro p e s m args below meth c s₁ B hml hv
  obtain ⟨rfl, hM, hK⟩ := hv
  have zc := zc_of B hml
  have hl := lv_entry ([.ref q, .int x1, .int x2, .int x3]) (n := 4) (Nat.le_of_ble_eq_true rfl)
  rw [lg_entry_eq]
  generalize (lg_sl ([.ref q, .int x1, .int x2, .int x3]) ++ List.replicate (4 - (lg_sl ([.ref q, .int x1, .int x2, .int x3])).length) Slot.unset).toArray = ls at hl ⊢
  have hl : lv_has ls 4 [(0, .ref q), (1, .int x1), (2, .int x2), (3, .int x3)] := hl
  exact t_m_plainLine_0 zc hK hM va_S.rf (lv_sub hl [0, 1, 2, 3] rfl) hw
-- m_hutLine
abbrev rm_m_hutLine : Room := { frames := 4, cells := 0, slots := 0, locals := 91 }
def q_m_hutLine_0 (a_tape : Nat → Int32) (f_reached : Int32) (f_length : Int32) (f_begins : Int32) (f_sort : Int32) (f_value : Int32) (f_word : Int64) (f_wrongAt : Int32) (f_laterFault : Int32) (f_laterPlace : Int32) (a_told : Nat → Int32) (a_read : Nat → Int32) (f_good : Int32) (post : Int32 → (Int32) → (Int32) → (Int32) → (Int32) → (Int64) → (Int32) → (Int32) → (Int32) → (Nat → Int32) → (Nat → Int32) → (Int32) → Prop) : Prop :=
  q_m_take_0 a_tape f_reached f_length f_begins f_sort f_value f_word f_wrongAt f_laterFault f_laterPlace a_read f_good (0 : Int32) (0 : Int32) (99 : Int32) (fun r_1 f_reached_1 f_begins_1 f_sort_1 f_value_1 f_word_1 f_wrongAt_1 f_laterFault_1 f_laterPlace_1 a_read_1 f_good_1 => (¬ r_1 = 0 → (q_m_further_0 a_told (0 : Int32) (9 : Int32) (fun r_2 a_told_1 => (r_2 = (-1 : Int32) → (post (1 : Int32) f_reached_1 f_begins_1 f_sort_1 f_value_1 f_word_1 f_wrongAt_1 f_laterFault_1 f_laterPlace_1 a_told_1 a_read_1 f_good_1)) ∧ (¬ r_2 = (-1 : Int32) → (∀ v_1 : Int32, v_1 = (a_read_1 (Int32.toNatClampNeg (0 : Int32))) → (vp_in ((7 : Int32) + r_2) 132 ∧ (∀ a_told_2 : Nat → Int32, a_told_2 = upd a_told_1 (Int32.toNatClampNeg ((7 : Int32) + r_2)) v_1 → (post (1 : Int32) f_reached_1 f_begins_1 f_sort_1 f_value_1 f_word_1 f_wrongAt_1 f_laterFault_1 f_laterPlace_1 a_told_2 a_read_1 f_good_1)))))))) ∧ (r_1 = 0 → (post (0 : Int32) f_reached_1 f_begins_1 f_sort_1 f_value_1 f_word_1 f_wrongAt_1 f_laterFault_1 f_laterPlace_1 a_told a_read_1 f_good_1)))
set_option maxRecDepth 20000 in
theorem t_m_hutLine_0 {p : Program} {l : Launch} {e : Env} {s : State} {m : MethodId} {args : Array Value} {below : List Frame} {meth : Method} {c : Code} {E : zE} {q : Nat} {f_code : Int32} {a_tape : Nat → Int32} {a_size : Nat → Int32} {a_fault : Nat → Int32} {a_faultPlace : Nat → Int32} {a_many : Nat → Int32} {a_lands : Nat → Int32} {a_evenings : Nat → Int32} {a_sights : Nat → Int32} {a_choirs : Nat → Int32} {f_reached : Int32} {f_length : Int32} {f_begins : Int32} {f_sort : Int32} {f_value : Int32} {f_word : Int64} {f_wrongAt : Int32} {f_laterFault : Int32} {f_laterPlace : Int32} {a_told : Nat → Int32} {a_read : Nat → Int32} {f_farHut : Int32} {f_farSinger : Int32} {f_good : Int32} {f_land : Int32} {f_huts : Int32} {f_singers : Int32} {f_evening : Int32} {a_at : Nat → Int32} {a_knows : Nat → Int32} {a_climbed : Nat → Int32} {a_snow : Nat → Int32} {a_level : Nat → Int32} {f_begun : Int32} {f_minute : Int32} {f_avalanches : Int32} {a_run : Nat → Int32} {a_covers : Nat → Int32} {a_routes : Nat → Int32} {a_longest : Nat → Int32} {a_steep : Nat → Int32} {a_laid : Nat → Int32} {a_far : Nat → Int32} {f_sight : Int32} {a_runs : Nat → Int32} {f_choir : Int32} {f_voices : Int32} {a_rest : Nat → Int64} {a_wins : Nat → Int32} {f_seed : Int32} {a_other : Nat → Int32} {a_kept : Nat → Int32} {post : Int32 → (Int32) → (Int32) → (Int32) → (Int32) → (Int64) → (Int32) → (Int32) → (Int32) → (Nat → Int32) → (Nat → Int32) → (Int32) → Prop} {ls : Array Slot} {H : Heap} {locs : List Loc}
    (zc : zC p s m args meth c cX11_hutLine 2 RX11 (some .boolean))
    (hK : zK E s)
    (hM : mW E q f_code a_tape a_size a_fault a_faultPlace a_many a_lands a_evenings a_sights a_choirs f_reached f_length f_begins f_sort f_value f_word f_wrongAt f_laterFault f_laterPlace a_told a_read f_farHut f_farSinger f_good f_land f_huts f_singers f_evening a_at a_knows a_climbed a_snow a_level f_begun f_minute f_avalanches a_run a_covers a_routes a_longest a_steep a_laid a_far f_sight a_runs f_choir f_voices a_rest a_wins f_seed a_other a_kept H)
    (hS : va_S (mA q) s.heap H locs)
    (hl : lv_has ls 2 [(0, .ref q)])
    (hw : q_m_hutLine_0 a_tape f_reached f_length f_begins f_sort f_value f_word f_wrongAt f_laterFault f_laterPlace a_told a_read f_good post) :
    W p l e rm_m_hutLine s m args below meth c H locs 0 0 (MQ below (zQi (S := (Int32) × (Int32) × (Int32) × (Int32) × (Int64) × (Int32) × (Int32) × (Int32) × (Nat → Int32) × (Nat → Int32) × (Int32)) (fun r u => post r u.1 u.2.1 u.2.2.1 u.2.2.2.1 u.2.2.2.2.1 u.2.2.2.2.2.1 u.2.2.2.2.2.2.1 u.2.2.2.2.2.2.2.1 u.2.2.2.2.2.2.2.2.1 u.2.2.2.2.2.2.2.2.2.1 u.2.2.2.2.2.2.2.2.2.2) (fun u H => mW E q f_code a_tape a_size a_fault a_faultPlace a_many a_lands a_evenings a_sights a_choirs u.1 f_length u.2.1 u.2.2.1 u.2.2.2.1 u.2.2.2.2.1 u.2.2.2.2.2.1 u.2.2.2.2.2.2.1 u.2.2.2.2.2.2.2.1 u.2.2.2.2.2.2.2.2.1 u.2.2.2.2.2.2.2.2.2.1 f_farHut f_farSinger u.2.2.2.2.2.2.2.2.2.2 f_land f_huts f_singers f_evening a_at a_knows a_climbed a_snow a_level f_begun f_minute f_avalanches a_run a_covers a_routes a_longest a_steep a_laid a_far f_sight a_runs f_choir f_voices a_rest a_wins f_seed a_other a_kept H) (mA q)) args s 0 0 (mA q)) (F0 m 0 ls []) := by
  have hx := zc.1
  have hb := zc.2.1
  refine lv_aload_n hx hb dX11_hutLine_0 rfl (lv_at hl 0 rfl) ?_
  refine lv_iconst (v := (0 : Int32)) hx hb dX11_hutLine_1 (by decide) ?_
  refine lv_iconst (v := (0 : Int32)) hx hb dX11_hutLine_2 (by decide) ?_
  refine lv_bipush (v := (99 : Int32)) hx hb dX11_hutLine_3 (by decide) ?_
  refine zVw_i [.int (0 : Int32), .int (0 : Int32), .int (99 : Int32)] [] zc ky_X11_take kz_X11_take km_11_178 (c_m_take l hw) (mPreV0 hK hM) hS rfl rfl hl.1 (Nat.le_of_ble_eq_true rfl) ⟨rfl, rfl⟩ ⟨Nat.le_of_ble_eq_true rfl, Nat.le_of_ble_eq_true rfl⟩ ⟨(Nat.zero_le _), (Nat.zero_le _)⟩ dX11_hutLine_5 (fun r_1 u H locs hw hM hS => ?_)
  obtain ⟨f_reached_1, f_begins_1, f_sort_1, f_value_1, f_word_1, f_wrongAt_1, f_laterFault_1, f_laterPlace_1, a_read_1, f_good_1⟩ := u
  refine lv_if_ne (tgt := 13) hx hb dX11_hutLine_8 (by decide) (fun hc => ?_) (fun hc => ?_)
  · have hw := hw.1 hc
    refine lv_aload_n hx hb dX11_hutLine_13 rfl (lv_at hl 0 rfl) ?_
    refine lv_iconst (v := (0 : Int32)) hx hb dX11_hutLine_14 (by decide) ?_
    refine lv_bipush (v := (9 : Int32)) hx hb dX11_hutLine_15 (by decide) ?_
    refine zVw_i [.int (0 : Int32), .int (9 : Int32)] [] zc ky_X11_further kz_X11_further km_11_181 (c_m_further l hw) (mPreV0 hK hM) hS rfl rfl hl.1 (Nat.le_of_ble_eq_true rfl) ⟨rfl, rfl⟩ ⟨Nat.le_of_ble_eq_true rfl, Nat.le_of_ble_eq_true rfl⟩ ⟨(Nat.zero_le _), (Nat.zero_le _)⟩ dX11_hutLine_17 (fun r_2 a_told_1 H locs hw hM hS => ?_)
    refine lv_istore_n (lv' := [(1, .int r_2), (0, .ref q)]) hx hb dX11_hutLine_20 rfl hl (by decide) rfl (fun ls hl => ?_)
    refine lv_iload_n hx hb dX11_hutLine_21 rfl (lv_at hl 0 rfl) ?_
    refine lv_iconst (v := (-1 : Int32)) hx hb dX11_hutLine_22 (by decide) ?_
    refine lv_icmp_eq (tgt := 41) hx hb dX11_hutLine_23 (by decide) (fun hc => ?_) (fun hc => ?_)
    · have hw := hw.1 hc
      refine lv_iconst (v := (1 : Int32)) hx hb dX11_hutLine_41 (by decide) ?_
      exact zret_zw ⟨f_reached_1, f_begins_1, f_sort_1, f_value_1, f_word_1, f_wrongAt_1, f_laterFault_1, f_laterPlace_1, a_told_1, a_read_1, f_good_1⟩ zc hS rfl hw hM dX11_hutLine_42
    · have hw := hw.2 hc
      refine lv_aload_n hx hb dX11_hutLine_26 rfl (lv_at hl 1 rfl) ?_
      refine mg_11_38_0 zc hK hM dX11_hutLine_27 ?_
      refine lv_bipush (v := (7 : Int32)) hx hb dX11_hutLine_30 (by decide) ?_
      refine lv_iload_n hx hb dX11_hutLine_32 rfl (lv_at hl 0 rfl) ?_
      refine lv_iadd hx hb dX11_hutLine_33 ?_
      refine lv_aload_n hx hb dX11_hutLine_34 rfl (lv_at hl 1 rfl) ?_
      refine mg_11_41_0 zc hK hM dX11_hutLine_35 ?_
      refine lv_iconst (v := (0 : Int32)) hx hb dX11_hutLine_38 (by decide) ?_
      refine mld_11 zc hK hM (by unfold vp_in; decide) dX11_hutLine_39 ?_
      refine lv_topi (fun v_1 ev_1 => ?_)
      have hw := hw v_1 ev_1
      refine mst_10 zc hK hM hS hw.1 dX11_hutLine_40 (fun a_told_2 H locs ea_told_2 hM hS => ?_)
      have hw := hw.2 a_told_2 ea_told_2
      refine lv_iconst (v := (1 : Int32)) hx hb dX11_hutLine_41 (by decide) ?_
      exact zret_zw ⟨f_reached_1, f_begins_1, f_sort_1, f_value_1, f_word_1, f_wrongAt_1, f_laterFault_1, f_laterPlace_1, a_told_2, a_read_1, f_good_1⟩ zc hS rfl hw hM dX11_hutLine_42
  · have hw := hw.2 hc
    refine lv_iconst (v := (0 : Int32)) hx hb dX11_hutLine_11 (by decide) ?_
    exact zret_zw ⟨f_reached_1, f_begins_1, f_sort_1, f_value_1, f_word_1, f_wrongAt_1, f_laterFault_1, f_laterPlace_1, a_told, a_read_1, f_good_1⟩ zc hS rfl hw hM dX11_hutLine_12
set_option maxRecDepth 20000 in
theorem c_m_hutLine (l : Launch) {E : zE} {q : Nat} {f_code : Int32} {a_tape : Nat → Int32} {a_size : Nat → Int32} {a_fault : Nat → Int32} {a_faultPlace : Nat → Int32} {a_many : Nat → Int32} {a_lands : Nat → Int32} {a_evenings : Nat → Int32} {a_sights : Nat → Int32} {a_choirs : Nat → Int32} {f_reached : Int32} {f_length : Int32} {f_begins : Int32} {f_sort : Int32} {f_value : Int32} {f_word : Int64} {f_wrongAt : Int32} {f_laterFault : Int32} {f_laterPlace : Int32} {a_told : Nat → Int32} {a_read : Nat → Int32} {f_farHut : Int32} {f_farSinger : Int32} {f_good : Int32} {f_land : Int32} {f_huts : Int32} {f_singers : Int32} {f_evening : Int32} {a_at : Nat → Int32} {a_knows : Nat → Int32} {a_climbed : Nat → Int32} {a_snow : Nat → Int32} {a_level : Nat → Int32} {f_begun : Int32} {f_minute : Int32} {f_avalanches : Int32} {a_run : Nat → Int32} {a_covers : Nat → Int32} {a_routes : Nat → Int32} {a_longest : Nat → Int32} {a_steep : Nat → Int32} {a_laid : Nat → Int32} {a_far : Nat → Int32} {f_sight : Int32} {a_runs : Nat → Int32} {f_choir : Int32} {f_voices : Int32} {a_rest : Nat → Int64} {a_wins : Nat → Int32} {f_seed : Int32} {a_other : Nat → Int32} {a_kept : Nat → Int32} {post : Int32 → (Int32) → (Int32) → (Int32) → (Int32) → (Int64) → (Int32) → (Int32) → (Int32) → (Nat → Int32) → (Nat → Int32) → (Int32) → Prop} (hw : q_m_hutLine_0 a_tape f_reached f_length f_begins f_sort f_value f_word f_wrongAt f_laterFault f_laterPlace a_told a_read f_good post) : Met l yX11_hutLine (Cond.code yX11_hutLine cX11_hutLine 2 (some .boolean) :: zb) rm_m_hutLine (va_Pc [.ref q] (fun U => mW E q f_code a_tape a_size a_fault a_faultPlace a_many a_lands a_evenings a_sights a_choirs f_reached f_length f_begins f_sort f_value f_word f_wrongAt f_laterFault f_laterPlace a_told a_read f_farHut f_farSinger f_good f_land f_huts f_singers f_evening a_at a_knows a_climbed a_snow a_level f_begun f_minute f_avalanches a_run a_covers a_routes a_longest a_steep a_laid a_far f_sight a_runs f_choir f_voices a_rest a_wins f_seed a_other a_kept U.heap ∧ zK E U)) (zQi (S := (Int32) × (Int32) × (Int32) × (Int32) × (Int64) × (Int32) × (Int32) × (Int32) × (Nat → Int32) × (Nat → Int32) × (Int32)) (fun r u => post r u.1 u.2.1 u.2.2.1 u.2.2.2.1 u.2.2.2.2.1 u.2.2.2.2.2.1 u.2.2.2.2.2.2.1 u.2.2.2.2.2.2.2.1 u.2.2.2.2.2.2.2.2.1 u.2.2.2.2.2.2.2.2.2.1 u.2.2.2.2.2.2.2.2.2.2) (fun u H => mW E q f_code a_tape a_size a_fault a_faultPlace a_many a_lands a_evenings a_sights a_choirs u.1 f_length u.2.1 u.2.2.1 u.2.2.2.1 u.2.2.2.2.1 u.2.2.2.2.2.1 u.2.2.2.2.2.2.1 u.2.2.2.2.2.2.2.1 u.2.2.2.2.2.2.2.2.1 u.2.2.2.2.2.2.2.2.2.1 f_farHut f_farSinger u.2.2.2.2.2.2.2.2.2.2 f_land f_huts f_singers f_evening a_at a_knows a_climbed a_snow a_level f_begun f_minute f_avalanches a_run a_covers a_routes a_longest a_steep a_laid a_far f_sight a_runs f_choir f_voices a_rest a_wins f_seed a_other a_kept H) (mA q)) 0 0 (mA q) := by
  refine Met.ofW (cc := cX11_hutLine) (maxL := 2) (ret := (some .boolean)) (by decide) rfl ?_
  intro p e s m args below meth c s₁ B hml hv
  obtain ⟨rfl, hM, hK⟩ := hv
  have zc := zc_of B hml
  have hl := lv_entry ([.ref q]) (n := 2) (Nat.le_of_ble_eq_true rfl)
  rw [lg_entry_eq]
  generalize (lg_sl ([.ref q]) ++ List.replicate (2 - (lg_sl ([.ref q])).length) Slot.unset).toArray = ls at hl ⊢
  have hl : lv_has ls 2 [(0, .ref q)] := hl
  exact t_m_hutLine_0 zc hK hM va_S.rf (lv_sub hl [0] rfl) hw
end
section
-- m_wayLine
abbrev rm_m_wayLine : Room := { frames := 4, cells := 0, slots := 0, locals := 91 }
def q_m_wayLine_0 (a_tape : Nat → Int32) (f_reached : Int32) (f_length : Int32) (f_begins : Int32) (f_sort : Int32) (f_value : Int32) (f_word : Int64) (f_wrongAt : Int32) (f_laterFault : Int32) (f_laterPlace : Int32) (a_told : Nat → Int32) (a_read : Nat → Int32) (f_farHut : Int32) (f_good : Int32) (post : Int32 → (Int32) → (Int32) → (Int32) → (Int32) → (Int64) → (Int32) → (Int32) → (Int32) → (Nat → Int32) → (Nat → Int32) → (Int32) → (Int32) → Prop) : Prop :=
  q_m_takeHut_0 a_tape f_reached f_length f_begins f_sort f_value f_word f_wrongAt f_laterFault f_laterPlace a_read f_farHut f_good (0 : Int32) (-1 : Int32) (fun r_1 f_reached_1 f_begins_1 f_sort_1 f_value_1 f_word_1 f_wrongAt_1 f_laterFault_1 f_laterPlace_1 a_read_1 f_farHut_1 f_good_1 => (r_1 = 0 → (post (0 : Int32) f_reached_1 f_begins_1 f_sort_1 f_value_1 f_word_1 f_wrongAt_1 f_laterFault_1 f_laterPlace_1 a_told a_read_1 f_farHut_1 f_good_1)) ∧ (¬ r_1 = 0 → (q_m_takeHut_0 a_tape f_reached_1 f_length f_begins_1 f_sort_1 f_value_1 f_word_1 f_wrongAt_1 f_laterFault_1 f_laterPlace_1 a_read_1 f_farHut_1 f_good_1 (1 : Int32) (a_read_1 (Int32.toNatClampNeg (0 : Int32))) (fun r_2 f_reached_2 f_begins_2 f_sort_2 f_value_2 f_word_2 f_wrongAt_2 f_laterFault_2 f_laterPlace_2 a_read_2 f_farHut_2 f_good_2 => (r_2 = 0 → (post (0 : Int32) f_reached_2 f_begins_2 f_sort_2 f_value_2 f_word_2 f_wrongAt_2 f_laterFault_2 f_laterPlace_2 a_told a_read_2 f_farHut_2 f_good_2)) ∧ (¬ r_2 = 0 → (q_m_take_0 a_tape f_reached_2 f_length f_begins_2 f_sort_2 f_value_2 f_word_2 f_wrongAt_2 f_laterFault_2 f_laterPlace_2 a_read_2 f_good_2 (2 : Int32) (1 : Int32) (9 : Int32) (fun r_3 f_reached_3 f_begins_3 f_sort_3 f_value_3 f_word_3 f_wrongAt_3 f_laterFault_3 f_laterPlace_3 a_read_3 f_good_3 => (¬ r_3 = 0 → ((f_good_3 = 0 → (post (1 : Int32) f_reached_3 f_begins_3 f_sort_3 f_value_3 f_word_3 f_wrongAt_3 f_laterFault_3 f_laterPlace_3 a_told a_read_3 f_farHut_2 f_good_3)) ∧ (¬ f_good_3 = 0 → (∀ v_1 : Int32, v_1 = (a_read_3 (Int32.toNatClampNeg (2 : Int32))) → (vp_in (((51 : Int32) + ((9 : Int32) * (a_read_3 (Int32.toNatClampNeg (0 : Int32))))) + (a_read_3 (Int32.toNatClampNeg (1 : Int32)))) 132 ∧ (∀ a_told_1 : Nat → Int32, a_told_1 = upd a_told (Int32.toNatClampNeg (((51 : Int32) + ((9 : Int32) * (a_read_3 (Int32.toNatClampNeg (0 : Int32))))) + (a_read_3 (Int32.toNatClampNeg (1 : Int32))))) v_1 → (∀ v_2 : Int32, v_2 = (a_read_3 (Int32.toNatClampNeg (2 : Int32))) → (vp_in (((51 : Int32) + ((9 : Int32) * (a_read_3 (Int32.toNatClampNeg (1 : Int32))))) + (a_read_3 (Int32.toNatClampNeg (0 : Int32)))) 132 ∧ (∀ a_told_2 : Nat → Int32, a_told_2 = upd a_told_1 (Int32.toNatClampNeg (((51 : Int32) + ((9 : Int32) * (a_read_3 (Int32.toNatClampNeg (1 : Int32))))) + (a_read_3 (Int32.toNatClampNeg (0 : Int32))))) v_2 → (post (1 : Int32) f_reached_3 f_begins_3 f_sort_3 f_value_3 f_word_3 f_wrongAt_3 f_laterFault_3 f_laterPlace_3 a_told_2 a_read_3 f_farHut_2 f_good_3)))))))))) ∧ (r_3 = 0 → (post (0 : Int32) f_reached_3 f_begins_3 f_sort_3 f_value_3 f_word_3 f_wrongAt_3 f_laterFault_3 f_laterPlace_3 a_told a_read_3 f_farHut_2 f_good_3)))))))))
set_option maxRecDepth 20000 in
theorem t_m_wayLine_0 {p : Program} {l : Launch} {e : Env} {s : State} {m : MethodId} {args : Array Value} {below : List Frame} {meth : Method} {c : Code} {E : zE} {q : Nat} {f_code : Int32} {a_tape : Nat → Int32} {a_size : Nat → Int32} {a_fault : Nat → Int32} {a_faultPlace : Nat → Int32} {a_many : Nat → Int32} {a_lands : Nat → Int32} {a_evenings : Nat → Int32} {a_sights : Nat → Int32} {a_choirs : Nat → Int32} {f_reached : Int32} {f_length : Int32} {f_begins : Int32} {f_sort : Int32} {f_value : Int32} {f_word : Int64} {f_wrongAt : Int32} {f_laterFault : Int32} {f_laterPlace : Int32} {a_told : Nat → Int32} {a_read : Nat → Int32} {f_farHut : Int32} {f_farSinger : Int32} {f_good : Int32} {f_land : Int32} {f_huts : Int32} {f_singers : Int32} {f_evening : Int32} {a_at : Nat → Int32} {a_knows : Nat → Int32} {a_climbed : Nat → Int32} {a_snow : Nat → Int32} {a_level : Nat → Int32} {f_begun : Int32} {f_minute : Int32} {f_avalanches : Int32} {a_run : Nat → Int32} {a_covers : Nat → Int32} {a_routes : Nat → Int32} {a_longest : Nat → Int32} {a_steep : Nat → Int32} {a_laid : Nat → Int32} {a_far : Nat → Int32} {f_sight : Int32} {a_runs : Nat → Int32} {f_choir : Int32} {f_voices : Int32} {a_rest : Nat → Int64} {a_wins : Nat → Int32} {f_seed : Int32} {a_other : Nat → Int32} {a_kept : Nat → Int32} {post : Int32 → (Int32) → (Int32) → (Int32) → (Int32) → (Int64) → (Int32) → (Int32) → (Int32) → (Nat → Int32) → (Nat → Int32) → (Int32) → (Int32) → Prop} {ls : Array Slot} {H : Heap} {locs : List Loc}
    (zc : zC p s m args meth c cX11_wayLine 1 RX11 (some .boolean))
    (hK : zK E s)
    (hM : mW E q f_code a_tape a_size a_fault a_faultPlace a_many a_lands a_evenings a_sights a_choirs f_reached f_length f_begins f_sort f_value f_word f_wrongAt f_laterFault f_laterPlace a_told a_read f_farHut f_farSinger f_good f_land f_huts f_singers f_evening a_at a_knows a_climbed a_snow a_level f_begun f_minute f_avalanches a_run a_covers a_routes a_longest a_steep a_laid a_far f_sight a_runs f_choir f_voices a_rest a_wins f_seed a_other a_kept H)
    (hS : va_S (mA q) s.heap H locs)
    (hl : lv_has ls 1 [(0, .ref q)])
    (hw : q_m_wayLine_0 a_tape f_reached f_length f_begins f_sort f_value f_word f_wrongAt f_laterFault f_laterPlace a_told a_read f_farHut f_good post) :
    W p l e rm_m_wayLine s m args below meth c H locs 0 0 (MQ below (zQi (S := (Int32) × (Int32) × (Int32) × (Int32) × (Int64) × (Int32) × (Int32) × (Int32) × (Nat → Int32) × (Nat → Int32) × (Int32) × (Int32)) (fun r u => post r u.1 u.2.1 u.2.2.1 u.2.2.2.1 u.2.2.2.2.1 u.2.2.2.2.2.1 u.2.2.2.2.2.2.1 u.2.2.2.2.2.2.2.1 u.2.2.2.2.2.2.2.2.1 u.2.2.2.2.2.2.2.2.2.1 u.2.2.2.2.2.2.2.2.2.2.1 u.2.2.2.2.2.2.2.2.2.2.2) (fun u H => mW E q f_code a_tape a_size a_fault a_faultPlace a_many a_lands a_evenings a_sights a_choirs u.1 f_length u.2.1 u.2.2.1 u.2.2.2.1 u.2.2.2.2.1 u.2.2.2.2.2.1 u.2.2.2.2.2.2.1 u.2.2.2.2.2.2.2.1 u.2.2.2.2.2.2.2.2.1 u.2.2.2.2.2.2.2.2.2.1 u.2.2.2.2.2.2.2.2.2.2.1 f_farSinger u.2.2.2.2.2.2.2.2.2.2.2 f_land f_huts f_singers f_evening a_at a_knows a_climbed a_snow a_level f_begun f_minute f_avalanches a_run a_covers a_routes a_longest a_steep a_laid a_far f_sight a_runs f_choir f_voices a_rest a_wins f_seed a_other a_kept H) (mA q)) args s 0 0 (mA q)) (F0 m 0 ls []) := by
  have hx := zc.1
  have hb := zc.2.1
  refine lv_aload_n hx hb dX11_wayLine_0 rfl (lv_at hl 0 rfl) ?_
  refine lv_iconst (v := (0 : Int32)) hx hb dX11_wayLine_1 (by decide) ?_
  refine lv_iconst (v := (-1 : Int32)) hx hb dX11_wayLine_2 (by decide) ?_
  refine zVw_i [.int (0 : Int32), .int (-1 : Int32)] [] zc ky_X11_takeHut kz_X11_takeHut km_11_175 (c_m_takeHut l hw) (mPreV0 hK hM) hS rfl rfl hl.1 (Nat.le_of_ble_eq_true rfl) ⟨rfl, rfl⟩ ⟨Nat.le_of_ble_eq_true rfl, Nat.le_of_ble_eq_true rfl⟩ ⟨(Nat.zero_le _), (Nat.zero_le _)⟩ dX11_wayLine_3 (fun r_1 u H locs hw hM hS => ?_)
  obtain ⟨f_reached_1, f_begins_1, f_sort_1, f_value_1, f_word_1, f_wrongAt_1, f_laterFault_1, f_laterPlace_1, a_read_1, f_farHut_1, f_good_1⟩ := u
  refine lv_if_eq (tgt := 34) hx hb dX11_wayLine_6 (by decide) (fun hc => ?_) (fun hc => ?_)
  · have hw := hw.1 hc
    refine lv_iconst (v := (0 : Int32)) hx hb dX11_wayLine_34 (by decide) ?_
    exact zret_zw ⟨f_reached_1, f_begins_1, f_sort_1, f_value_1, f_word_1, f_wrongAt_1, f_laterFault_1, f_laterPlace_1, a_told, a_read_1, f_farHut_1, f_good_1⟩ zc hS rfl hw hM dX11_wayLine_35
  · have hw := hw.2 hc
    refine lv_aload_n hx hb dX11_wayLine_9 rfl (lv_at hl 0 rfl) ?_
    refine lv_iconst (v := (1 : Int32)) hx hb dX11_wayLine_10 (by decide) ?_
    refine lv_aload_n hx hb dX11_wayLine_11 rfl (lv_at hl 0 rfl) ?_
    refine mg_11_41_0 zc hK hM dX11_wayLine_12 ?_
    refine lv_iconst (v := (0 : Int32)) hx hb dX11_wayLine_15 (by decide) ?_
    refine mld_11 zc hK hM (by unfold vp_in; decide) dX11_wayLine_16 ?_
    refine zVw_i [.int (1 : Int32), .int (a_read_1 (Int32.toNatClampNeg (0 : Int32)))] [] zc ky_X11_takeHut kz_X11_takeHut km_11_175 (c_m_takeHut l hw) (mPreV0 hK hM) hS rfl rfl hl.1 (Nat.le_of_ble_eq_true rfl) ⟨rfl, rfl⟩ ⟨Nat.le_of_ble_eq_true rfl, Nat.le_of_ble_eq_true rfl⟩ ⟨(Nat.zero_le _), (Nat.zero_le _)⟩ dX11_wayLine_17 (fun r_2 u H locs hw hM hS => ?_)
    obtain ⟨f_reached_2, f_begins_2, f_sort_2, f_value_2, f_word_2, f_wrongAt_2, f_laterFault_2, f_laterPlace_2, a_read_2, f_farHut_2, f_good_2⟩ := u
    refine lv_if_eq (tgt := 34) hx hb dX11_wayLine_20 (by decide) (fun hc => ?_) (fun hc => ?_)
    · have hw := hw.1 hc
      refine lv_iconst (v := (0 : Int32)) hx hb dX11_wayLine_34 (by decide) ?_
      exact zret_zw ⟨f_reached_2, f_begins_2, f_sort_2, f_value_2, f_word_2, f_wrongAt_2, f_laterFault_2, f_laterPlace_2, a_told, a_read_2, f_farHut_2, f_good_2⟩ zc hS rfl hw hM dX11_wayLine_35
    · have hw := hw.2 hc
      refine lv_aload_n hx hb dX11_wayLine_23 rfl (lv_at hl 0 rfl) ?_
      refine lv_iconst (v := (2 : Int32)) hx hb dX11_wayLine_24 (by decide) ?_
      refine lv_iconst (v := (1 : Int32)) hx hb dX11_wayLine_25 (by decide) ?_
      refine lv_bipush (v := (9 : Int32)) hx hb dX11_wayLine_26 (by decide) ?_
      refine zVw_i [.int (2 : Int32), .int (1 : Int32), .int (9 : Int32)] [] zc ky_X11_take kz_X11_take km_11_178 (c_m_take l hw) (mPreV0 hK hM) hS rfl rfl hl.1 (Nat.le_of_ble_eq_true rfl) ⟨rfl, rfl⟩ ⟨Nat.le_of_ble_eq_true rfl, Nat.le_of_ble_eq_true rfl⟩ ⟨(Nat.zero_le _), (Nat.zero_le _)⟩ dX11_wayLine_28 (fun r_3 u H locs hw hM hS => ?_)
      obtain ⟨f_reached_3, f_begins_3, f_sort_3, f_value_3, f_word_3, f_wrongAt_3, f_laterFault_3, f_laterPlace_3, a_read_3, f_good_3⟩ := u
      refine lv_if_ne (tgt := 36) hx hb dX11_wayLine_31 (by decide) (fun hc => ?_) (fun hc => ?_)
      · have hw := hw.1 hc
        refine lv_aload_n hx hb dX11_wayLine_36 rfl (lv_at hl 0 rfl) ?_
        refine mg_11_157_0 zc hK hM dX11_wayLine_37 ?_
        refine lv_if_eq (tgt := 103) hx hb dX11_wayLine_40 (by decide) (fun hc => ?_) (fun hc => ?_)
        · have hw := hw.1 hc
          refine lv_iconst (v := (1 : Int32)) hx hb dX11_wayLine_103 (by decide) ?_
          exact zret_zw ⟨f_reached_3, f_begins_3, f_sort_3, f_value_3, f_word_3, f_wrongAt_3, f_laterFault_3, f_laterPlace_3, a_told, a_read_3, f_farHut_2, f_good_3⟩ zc hS rfl hw hM dX11_wayLine_104
        · have hw := hw.2 hc
          refine lv_aload_n hx hb dX11_wayLine_43 rfl (lv_at hl 0 rfl) ?_
          refine mg_11_38_0 zc hK hM dX11_wayLine_44 ?_
          refine lv_bipush (v := (51 : Int32)) hx hb dX11_wayLine_47 (by decide) ?_
          refine lv_bipush (v := (9 : Int32)) hx hb dX11_wayLine_49 (by decide) ?_
          refine lv_aload_n hx hb dX11_wayLine_51 rfl (lv_at hl 0 rfl) ?_
          refine mg_11_41_0 zc hK hM dX11_wayLine_52 ?_
          refine lv_iconst (v := (0 : Int32)) hx hb dX11_wayLine_55 (by decide) ?_
          refine mld_11 zc hK hM (by unfold vp_in; decide) dX11_wayLine_56 ?_
          refine lv_imul hx hb dX11_wayLine_57 ?_
          refine lv_iadd hx hb dX11_wayLine_58 ?_
          refine lv_aload_n hx hb dX11_wayLine_59 rfl (lv_at hl 0 rfl) ?_
          refine mg_11_41_0 zc hK hM dX11_wayLine_60 ?_
          refine lv_iconst (v := (1 : Int32)) hx hb dX11_wayLine_63 (by decide) ?_
          refine mld_11 zc hK hM (by unfold vp_in; decide) dX11_wayLine_64 ?_
          refine lv_iadd hx hb dX11_wayLine_65 ?_
          refine lv_aload_n hx hb dX11_wayLine_66 rfl (lv_at hl 0 rfl) ?_
          refine mg_11_41_0 zc hK hM dX11_wayLine_67 ?_
          refine lv_iconst (v := (2 : Int32)) hx hb dX11_wayLine_70 (by decide) ?_
          refine mld_11 zc hK hM (by unfold vp_in; decide) dX11_wayLine_71 ?_
          refine lv_topi (fun v_1 ev_1 => ?_)
          have hw := hw v_1 ev_1
          refine mst_10 zc hK hM hS hw.1 dX11_wayLine_72 (fun a_told_1 H locs ea_told_1 hM hS => ?_)
          have hw := hw.2 a_told_1 ea_told_1
          refine lv_aload_n hx hb dX11_wayLine_73 rfl (lv_at hl 0 rfl) ?_
          refine mg_11_38_0 zc hK hM dX11_wayLine_74 ?_
          refine lv_bipush (v := (51 : Int32)) hx hb dX11_wayLine_77 (by decide) ?_
          refine lv_bipush (v := (9 : Int32)) hx hb dX11_wayLine_79 (by decide) ?_
          refine lv_aload_n hx hb dX11_wayLine_81 rfl (lv_at hl 0 rfl) ?_
          refine mg_11_41_0 zc hK hM dX11_wayLine_82 ?_
          refine lv_iconst (v := (1 : Int32)) hx hb dX11_wayLine_85 (by decide) ?_
          refine mld_11 zc hK hM (by unfold vp_in; decide) dX11_wayLine_86 ?_
          refine lv_imul hx hb dX11_wayLine_87 ?_
          refine lv_iadd hx hb dX11_wayLine_88 ?_
          refine lv_aload_n hx hb dX11_wayLine_89 rfl (lv_at hl 0 rfl) ?_
          refine mg_11_41_0 zc hK hM dX11_wayLine_90 ?_
          refine lv_iconst (v := (0 : Int32)) hx hb dX11_wayLine_93 (by decide) ?_
          refine mld_11 zc hK hM (by unfold vp_in; decide) dX11_wayLine_94 ?_
          refine lv_iadd hx hb dX11_wayLine_95 ?_
          refine lv_aload_n hx hb dX11_wayLine_96 rfl (lv_at hl 0 rfl) ?_
          refine mg_11_41_0 zc hK hM dX11_wayLine_97 ?_
          refine lv_iconst (v := (2 : Int32)) hx hb dX11_wayLine_100 (by decide) ?_
          refine mld_11 zc hK hM (by unfold vp_in; decide) dX11_wayLine_101 ?_
          refine lv_topi (fun v_2 ev_2 => ?_)
          have hw := hw v_2 ev_2
          refine mst_10 zc hK hM hS hw.1 dX11_wayLine_102 (fun a_told_2 H locs ea_told_2 hM hS => ?_)
          have hw := hw.2 a_told_2 ea_told_2
          refine lv_iconst (v := (1 : Int32)) hx hb dX11_wayLine_103 (by decide) ?_
          exact zret_zw ⟨f_reached_3, f_begins_3, f_sort_3, f_value_3, f_word_3, f_wrongAt_3, f_laterFault_3, f_laterPlace_3, a_told_2, a_read_3, f_farHut_2, f_good_3⟩ zc hS rfl hw hM dX11_wayLine_104
      · have hw := hw.2 hc
        refine lv_iconst (v := (0 : Int32)) hx hb dX11_wayLine_34 (by decide) ?_
        exact zret_zw ⟨f_reached_3, f_begins_3, f_sort_3, f_value_3, f_word_3, f_wrongAt_3, f_laterFault_3, f_laterPlace_3, a_told, a_read_3, f_farHut_2, f_good_3⟩ zc hS rfl hw hM dX11_wayLine_35
set_option maxRecDepth 20000 in
theorem c_m_wayLine (l : Launch) {E : zE} {q : Nat} {f_code : Int32} {a_tape : Nat → Int32} {a_size : Nat → Int32} {a_fault : Nat → Int32} {a_faultPlace : Nat → Int32} {a_many : Nat → Int32} {a_lands : Nat → Int32} {a_evenings : Nat → Int32} {a_sights : Nat → Int32} {a_choirs : Nat → Int32} {f_reached : Int32} {f_length : Int32} {f_begins : Int32} {f_sort : Int32} {f_value : Int32} {f_word : Int64} {f_wrongAt : Int32} {f_laterFault : Int32} {f_laterPlace : Int32} {a_told : Nat → Int32} {a_read : Nat → Int32} {f_farHut : Int32} {f_farSinger : Int32} {f_good : Int32} {f_land : Int32} {f_huts : Int32} {f_singers : Int32} {f_evening : Int32} {a_at : Nat → Int32} {a_knows : Nat → Int32} {a_climbed : Nat → Int32} {a_snow : Nat → Int32} {a_level : Nat → Int32} {f_begun : Int32} {f_minute : Int32} {f_avalanches : Int32} {a_run : Nat → Int32} {a_covers : Nat → Int32} {a_routes : Nat → Int32} {a_longest : Nat → Int32} {a_steep : Nat → Int32} {a_laid : Nat → Int32} {a_far : Nat → Int32} {f_sight : Int32} {a_runs : Nat → Int32} {f_choir : Int32} {f_voices : Int32} {a_rest : Nat → Int64} {a_wins : Nat → Int32} {f_seed : Int32} {a_other : Nat → Int32} {a_kept : Nat → Int32} {post : Int32 → (Int32) → (Int32) → (Int32) → (Int32) → (Int64) → (Int32) → (Int32) → (Int32) → (Nat → Int32) → (Nat → Int32) → (Int32) → (Int32) → Prop} (hw : q_m_wayLine_0 a_tape f_reached f_length f_begins f_sort f_value f_word f_wrongAt f_laterFault f_laterPlace a_told a_read f_farHut f_good post) : Met l yX11_wayLine (Cond.code yX11_wayLine cX11_wayLine 1 (some .boolean) :: zb) rm_m_wayLine (va_Pc [.ref q] (fun U => mW E q f_code a_tape a_size a_fault a_faultPlace a_many a_lands a_evenings a_sights a_choirs f_reached f_length f_begins f_sort f_value f_word f_wrongAt f_laterFault f_laterPlace a_told a_read f_farHut f_farSinger f_good f_land f_huts f_singers f_evening a_at a_knows a_climbed a_snow a_level f_begun f_minute f_avalanches a_run a_covers a_routes a_longest a_steep a_laid a_far f_sight a_runs f_choir f_voices a_rest a_wins f_seed a_other a_kept U.heap ∧ zK E U)) (zQi (S := (Int32) × (Int32) × (Int32) × (Int32) × (Int64) × (Int32) × (Int32) × (Int32) × (Nat → Int32) × (Nat → Int32) × (Int32) × (Int32)) (fun r u => post r u.1 u.2.1 u.2.2.1 u.2.2.2.1 u.2.2.2.2.1 u.2.2.2.2.2.1 u.2.2.2.2.2.2.1 u.2.2.2.2.2.2.2.1 u.2.2.2.2.2.2.2.2.1 u.2.2.2.2.2.2.2.2.2.1 u.2.2.2.2.2.2.2.2.2.2.1 u.2.2.2.2.2.2.2.2.2.2.2) (fun u H => mW E q f_code a_tape a_size a_fault a_faultPlace a_many a_lands a_evenings a_sights a_choirs u.1 f_length u.2.1 u.2.2.1 u.2.2.2.1 u.2.2.2.2.1 u.2.2.2.2.2.1 u.2.2.2.2.2.2.1 u.2.2.2.2.2.2.2.1 u.2.2.2.2.2.2.2.2.1 u.2.2.2.2.2.2.2.2.2.1 u.2.2.2.2.2.2.2.2.2.2.1 f_farSinger u.2.2.2.2.2.2.2.2.2.2.2 f_land f_huts f_singers f_evening a_at a_knows a_climbed a_snow a_level f_begun f_minute f_avalanches a_run a_covers a_routes a_longest a_steep a_laid a_far f_sight a_runs f_choir f_voices a_rest a_wins f_seed a_other a_kept H) (mA q)) 0 0 (mA q) := by
  refine Met.ofW (cc := cX11_wayLine) (maxL := 1) (ret := (some .boolean)) (by decide) rfl ?_
  intro p e s m args below meth c s₁ B hml hv
  obtain ⟨rfl, hM, hK⟩ := hv
  have zc := zc_of B hml
  have hl := lv_entry ([.ref q]) (n := 1) (Nat.le_of_ble_eq_true rfl)
  rw [lg_entry_eq]
  generalize (lg_sl ([.ref q]) ++ List.replicate (1 - (lg_sl ([.ref q])).length) Slot.unset).toArray = ls at hl ⊢
  have hl : lv_has ls 1 [(0, .ref q)] := hl
  exact t_m_wayLine_0 zc hK hM va_S.rf (lv_sub hl [0] rfl) hw
-- m_echoLine
abbrev rm_m_echoLine : Room := { frames := 4, cells := 0, slots := 0, locals := 90 }
def q_m_echoLine_0 (a_tape : Nat → Int32) (f_reached : Int32) (f_length : Int32) (f_begins : Int32) (f_sort : Int32) (f_value : Int32) (f_word : Int64) (f_wrongAt : Int32) (f_laterFault : Int32) (f_laterPlace : Int32) (a_told : Nat → Int32) (a_read : Nat → Int32) (f_farHut : Int32) (f_good : Int32) (post : Int32 → (Int32) → (Int32) → (Int32) → (Int32) → (Int64) → (Int32) → (Int32) → (Int32) → (Nat → Int32) → (Nat → Int32) → (Int32) → (Int32) → Prop) : Prop :=
  q_m_takeHut_0 a_tape f_reached f_length f_begins f_sort f_value f_word f_wrongAt f_laterFault f_laterPlace a_read f_farHut f_good (0 : Int32) (-1 : Int32) (fun r_1 f_reached_1 f_begins_1 f_sort_1 f_value_1 f_word_1 f_wrongAt_1 f_laterFault_1 f_laterPlace_1 a_read_1 f_farHut_1 f_good_1 => (r_1 = 0 → (post (0 : Int32) f_reached_1 f_begins_1 f_sort_1 f_value_1 f_word_1 f_wrongAt_1 f_laterFault_1 f_laterPlace_1 a_told a_read_1 f_farHut_1 f_good_1)) ∧ (¬ r_1 = 0 → (q_m_takeHut_0 a_tape f_reached_1 f_length f_begins_1 f_sort_1 f_value_1 f_word_1 f_wrongAt_1 f_laterFault_1 f_laterPlace_1 a_read_1 f_farHut_1 f_good_1 (1 : Int32) (a_read_1 (Int32.toNatClampNeg (0 : Int32))) (fun r_2 f_reached_2 f_begins_2 f_sort_2 f_value_2 f_word_2 f_wrongAt_2 f_laterFault_2 f_laterPlace_2 a_read_2 f_farHut_2 f_good_2 => (¬ r_2 = 0 → (q_m_further_0 a_told (4 : Int32) (4 : Int32) (fun r_3 a_told_1 => (r_3 = (-1 : Int32) → (post (1 : Int32) f_reached_2 f_begins_2 f_sort_2 f_value_2 f_word_2 f_wrongAt_2 f_laterFault_2 f_laterPlace_2 a_told_1 a_read_2 f_farHut_2 f_good_2)) ∧ (¬ r_3 = (-1 : Int32) → (∀ v_1 : Int32, v_1 = (a_read_2 (Int32.toNatClampNeg (0 : Int32))) → (vp_in ((43 : Int32) + ((2 : Int32) * r_3)) 132 ∧ (∀ a_told_2 : Nat → Int32, a_told_2 = upd a_told_1 (Int32.toNatClampNeg ((43 : Int32) + ((2 : Int32) * r_3))) v_1 → (∀ v_2 : Int32, v_2 = (a_read_2 (Int32.toNatClampNeg (1 : Int32))) → (vp_in (((43 : Int32) + ((2 : Int32) * r_3)) + (1 : Int32)) 132 ∧ (∀ a_told_3 : Nat → Int32, a_told_3 = upd a_told_2 (Int32.toNatClampNeg (((43 : Int32) + ((2 : Int32) * r_3)) + (1 : Int32))) v_2 → (post (1 : Int32) f_reached_2 f_begins_2 f_sort_2 f_value_2 f_word_2 f_wrongAt_2 f_laterFault_2 f_laterPlace_2 a_told_3 a_read_2 f_farHut_2 f_good_2))))))))))) ∧ (r_2 = 0 → (post (0 : Int32) f_reached_2 f_begins_2 f_sort_2 f_value_2 f_word_2 f_wrongAt_2 f_laterFault_2 f_laterPlace_2 a_told a_read_2 f_farHut_2 f_good_2))))))
set_option maxRecDepth 20000 in
theorem t_m_echoLine_0 {p : Program} {l : Launch} {e : Env} {s : State} {m : MethodId} {args : Array Value} {below : List Frame} {meth : Method} {c : Code} {E : zE} {q : Nat} {f_code : Int32} {a_tape : Nat → Int32} {a_size : Nat → Int32} {a_fault : Nat → Int32} {a_faultPlace : Nat → Int32} {a_many : Nat → Int32} {a_lands : Nat → Int32} {a_evenings : Nat → Int32} {a_sights : Nat → Int32} {a_choirs : Nat → Int32} {f_reached : Int32} {f_length : Int32} {f_begins : Int32} {f_sort : Int32} {f_value : Int32} {f_word : Int64} {f_wrongAt : Int32} {f_laterFault : Int32} {f_laterPlace : Int32} {a_told : Nat → Int32} {a_read : Nat → Int32} {f_farHut : Int32} {f_farSinger : Int32} {f_good : Int32} {f_land : Int32} {f_huts : Int32} {f_singers : Int32} {f_evening : Int32} {a_at : Nat → Int32} {a_knows : Nat → Int32} {a_climbed : Nat → Int32} {a_snow : Nat → Int32} {a_level : Nat → Int32} {f_begun : Int32} {f_minute : Int32} {f_avalanches : Int32} {a_run : Nat → Int32} {a_covers : Nat → Int32} {a_routes : Nat → Int32} {a_longest : Nat → Int32} {a_steep : Nat → Int32} {a_laid : Nat → Int32} {a_far : Nat → Int32} {f_sight : Int32} {a_runs : Nat → Int32} {f_choir : Int32} {f_voices : Int32} {a_rest : Nat → Int64} {a_wins : Nat → Int32} {f_seed : Int32} {a_other : Nat → Int32} {a_kept : Nat → Int32} {post : Int32 → (Int32) → (Int32) → (Int32) → (Int32) → (Int64) → (Int32) → (Int32) → (Int32) → (Nat → Int32) → (Nat → Int32) → (Int32) → (Int32) → Prop} {ls : Array Slot} {H : Heap} {locs : List Loc}
    (zc : zC p s m args meth c cX11_echoLine 2 RX11 (some .boolean))
    (hK : zK E s)
    (hM : mW E q f_code a_tape a_size a_fault a_faultPlace a_many a_lands a_evenings a_sights a_choirs f_reached f_length f_begins f_sort f_value f_word f_wrongAt f_laterFault f_laterPlace a_told a_read f_farHut f_farSinger f_good f_land f_huts f_singers f_evening a_at a_knows a_climbed a_snow a_level f_begun f_minute f_avalanches a_run a_covers a_routes a_longest a_steep a_laid a_far f_sight a_runs f_choir f_voices a_rest a_wins f_seed a_other a_kept H)
    (hS : va_S (mA q) s.heap H locs)
    (hl : lv_has ls 2 [(0, .ref q)])
    (hw : q_m_echoLine_0 a_tape f_reached f_length f_begins f_sort f_value f_word f_wrongAt f_laterFault f_laterPlace a_told a_read f_farHut f_good post) :
    W p l e rm_m_echoLine s m args below meth c H locs 0 0 (MQ below (zQi (S := (Int32) × (Int32) × (Int32) × (Int32) × (Int64) × (Int32) × (Int32) × (Int32) × (Nat → Int32) × (Nat → Int32) × (Int32) × (Int32)) (fun r u => post r u.1 u.2.1 u.2.2.1 u.2.2.2.1 u.2.2.2.2.1 u.2.2.2.2.2.1 u.2.2.2.2.2.2.1 u.2.2.2.2.2.2.2.1 u.2.2.2.2.2.2.2.2.1 u.2.2.2.2.2.2.2.2.2.1 u.2.2.2.2.2.2.2.2.2.2.1 u.2.2.2.2.2.2.2.2.2.2.2) (fun u H => mW E q f_code a_tape a_size a_fault a_faultPlace a_many a_lands a_evenings a_sights a_choirs u.1 f_length u.2.1 u.2.2.1 u.2.2.2.1 u.2.2.2.2.1 u.2.2.2.2.2.1 u.2.2.2.2.2.2.1 u.2.2.2.2.2.2.2.1 u.2.2.2.2.2.2.2.2.1 u.2.2.2.2.2.2.2.2.2.1 u.2.2.2.2.2.2.2.2.2.2.1 f_farSinger u.2.2.2.2.2.2.2.2.2.2.2 f_land f_huts f_singers f_evening a_at a_knows a_climbed a_snow a_level f_begun f_minute f_avalanches a_run a_covers a_routes a_longest a_steep a_laid a_far f_sight a_runs f_choir f_voices a_rest a_wins f_seed a_other a_kept H) (mA q)) args s 0 0 (mA q)) (F0 m 0 ls []) := by
  have hx := zc.1
  have hb := zc.2.1
  refine lv_aload_n hx hb dX11_echoLine_0 rfl (lv_at hl 0 rfl) ?_
  refine lv_iconst (v := (0 : Int32)) hx hb dX11_echoLine_1 (by decide) ?_
  refine lv_iconst (v := (-1 : Int32)) hx hb dX11_echoLine_2 (by decide) ?_
  refine zVw_i [.int (0 : Int32), .int (-1 : Int32)] [] zc ky_X11_takeHut kz_X11_takeHut km_11_175 (c_m_takeHut l hw) (mPreV0 hK hM) hS rfl rfl hl.1 (Nat.le_of_ble_eq_true rfl) ⟨rfl, rfl⟩ ⟨Nat.le_of_ble_eq_true rfl, Nat.le_of_ble_eq_true rfl⟩ ⟨(Nat.zero_le _), (Nat.zero_le _)⟩ dX11_echoLine_3 (fun r_1 u H locs hw hM hS => ?_)
  obtain ⟨f_reached_1, f_begins_1, f_sort_1, f_value_1, f_word_1, f_wrongAt_1, f_laterFault_1, f_laterPlace_1, a_read_1, f_farHut_1, f_good_1⟩ := u
  refine lv_if_eq (tgt := 23) hx hb dX11_echoLine_6 (by decide) (fun hc => ?_) (fun hc => ?_)
  · have hw := hw.1 hc
    refine lv_iconst (v := (0 : Int32)) hx hb dX11_echoLine_23 (by decide) ?_
    exact zret_zw ⟨f_reached_1, f_begins_1, f_sort_1, f_value_1, f_word_1, f_wrongAt_1, f_laterFault_1, f_laterPlace_1, a_told, a_read_1, f_farHut_1, f_good_1⟩ zc hS rfl hw hM dX11_echoLine_24
  · have hw := hw.2 hc
    refine lv_aload_n hx hb dX11_echoLine_9 rfl (lv_at hl 0 rfl) ?_
    refine lv_iconst (v := (1 : Int32)) hx hb dX11_echoLine_10 (by decide) ?_
    refine lv_aload_n hx hb dX11_echoLine_11 rfl (lv_at hl 0 rfl) ?_
    refine mg_11_41_0 zc hK hM dX11_echoLine_12 ?_
    refine lv_iconst (v := (0 : Int32)) hx hb dX11_echoLine_15 (by decide) ?_
    refine mld_11 zc hK hM (by unfold vp_in; decide) dX11_echoLine_16 ?_
    refine zVw_i [.int (1 : Int32), .int (a_read_1 (Int32.toNatClampNeg (0 : Int32)))] [] zc ky_X11_takeHut kz_X11_takeHut km_11_175 (c_m_takeHut l hw) (mPreV0 hK hM) hS rfl rfl hl.1 (Nat.le_of_ble_eq_true rfl) ⟨rfl, rfl⟩ ⟨Nat.le_of_ble_eq_true rfl, Nat.le_of_ble_eq_true rfl⟩ ⟨(Nat.zero_le _), (Nat.zero_le _)⟩ dX11_echoLine_17 (fun r_2 u H locs hw hM hS => ?_)
    obtain ⟨f_reached_2, f_begins_2, f_sort_2, f_value_2, f_word_2, f_wrongAt_2, f_laterFault_2, f_laterPlace_2, a_read_2, f_farHut_2, f_good_2⟩ := u
    refine lv_if_ne (tgt := 25) hx hb dX11_echoLine_20 (by decide) (fun hc => ?_) (fun hc => ?_)
    · have hw := hw.1 hc
      refine lv_aload_n hx hb dX11_echoLine_25 rfl (lv_at hl 0 rfl) ?_
      refine lv_iconst (v := (4 : Int32)) hx hb dX11_echoLine_26 (by decide) ?_
      refine lv_iconst (v := (4 : Int32)) hx hb dX11_echoLine_27 (by decide) ?_
      refine zVw_i [.int (4 : Int32), .int (4 : Int32)] [] zc ky_X11_further kz_X11_further km_11_181 (c_m_further l hw) (mPreV0 hK hM) hS rfl rfl hl.1 (Nat.le_of_ble_eq_true rfl) ⟨rfl, rfl⟩ ⟨Nat.le_of_ble_eq_true rfl, Nat.le_of_ble_eq_true rfl⟩ ⟨(Nat.zero_le _), (Nat.zero_le _)⟩ dX11_echoLine_28 (fun r_3 a_told_1 H locs hw hM hS => ?_)
      refine lv_istore_n (lv' := [(1, .int r_3), (0, .ref q)]) hx hb dX11_echoLine_31 rfl hl (by decide) rfl (fun ls hl => ?_)
      refine lv_iload_n hx hb dX11_echoLine_32 rfl (lv_at hl 0 rfl) ?_
      refine lv_iconst (v := (-1 : Int32)) hx hb dX11_echoLine_33 (by decide) ?_
      refine lv_icmp_eq (tgt := 73) hx hb dX11_echoLine_34 (by decide) (fun hc => ?_) (fun hc => ?_)
      · have hw := hw.1 hc
        refine lv_iconst (v := (1 : Int32)) hx hb dX11_echoLine_73 (by decide) ?_
        exact zret_zw ⟨f_reached_2, f_begins_2, f_sort_2, f_value_2, f_word_2, f_wrongAt_2, f_laterFault_2, f_laterPlace_2, a_told_1, a_read_2, f_farHut_2, f_good_2⟩ zc hS rfl hw hM dX11_echoLine_74
      · have hw := hw.2 hc
        refine lv_aload_n hx hb dX11_echoLine_37 rfl (lv_at hl 1 rfl) ?_
        refine mg_11_38_0 zc hK hM dX11_echoLine_38 ?_
        refine lv_bipush (v := (43 : Int32)) hx hb dX11_echoLine_41 (by decide) ?_
        refine lv_iconst (v := (2 : Int32)) hx hb dX11_echoLine_43 (by decide) ?_
        refine lv_iload_n hx hb dX11_echoLine_44 rfl (lv_at hl 0 rfl) ?_
        refine lv_imul hx hb dX11_echoLine_45 ?_
        refine lv_iadd hx hb dX11_echoLine_46 ?_
        refine lv_aload_n hx hb dX11_echoLine_47 rfl (lv_at hl 1 rfl) ?_
        refine mg_11_41_0 zc hK hM dX11_echoLine_48 ?_
        refine lv_iconst (v := (0 : Int32)) hx hb dX11_echoLine_51 (by decide) ?_
        refine mld_11 zc hK hM (by unfold vp_in; decide) dX11_echoLine_52 ?_
        refine lv_topi (fun v_1 ev_1 => ?_)
        have hw := hw v_1 ev_1
        refine mst_10 zc hK hM hS hw.1 dX11_echoLine_53 (fun a_told_2 H locs ea_told_2 hM hS => ?_)
        have hw := hw.2 a_told_2 ea_told_2
        refine lv_aload_n hx hb dX11_echoLine_54 rfl (lv_at hl 1 rfl) ?_
        refine mg_11_38_0 zc hK hM dX11_echoLine_55 ?_
        refine lv_bipush (v := (43 : Int32)) hx hb dX11_echoLine_58 (by decide) ?_
        refine lv_iconst (v := (2 : Int32)) hx hb dX11_echoLine_60 (by decide) ?_
        refine lv_iload_n hx hb dX11_echoLine_61 rfl (lv_at hl 0 rfl) ?_
        refine lv_imul hx hb dX11_echoLine_62 ?_
        refine lv_iadd hx hb dX11_echoLine_63 ?_
        refine lv_iconst (v := (1 : Int32)) hx hb dX11_echoLine_64 (by decide) ?_
        refine lv_iadd hx hb dX11_echoLine_65 ?_
        refine lv_aload_n hx hb dX11_echoLine_66 rfl (lv_at hl 1 rfl) ?_
        refine mg_11_41_0 zc hK hM dX11_echoLine_67 ?_
        refine lv_iconst (v := (1 : Int32)) hx hb dX11_echoLine_70 (by decide) ?_
        refine mld_11 zc hK hM (by unfold vp_in; decide) dX11_echoLine_71 ?_
        refine lv_topi (fun v_2 ev_2 => ?_)
        have hw := hw v_2 ev_2
        refine mst_10 zc hK hM hS hw.1 dX11_echoLine_72 (fun a_told_3 H locs ea_told_3 hM hS => ?_)
        have hw := hw.2 a_told_3 ea_told_3
        refine lv_iconst (v := (1 : Int32)) hx hb dX11_echoLine_73 (by decide) ?_
        exact zret_zw ⟨f_reached_2, f_begins_2, f_sort_2, f_value_2, f_word_2, f_wrongAt_2, f_laterFault_2, f_laterPlace_2, a_told_3, a_read_2, f_farHut_2, f_good_2⟩ zc hS rfl hw hM dX11_echoLine_74
    · have hw := hw.2 hc
      refine lv_iconst (v := (0 : Int32)) hx hb dX11_echoLine_23 (by decide) ?_
      exact zret_zw ⟨f_reached_2, f_begins_2, f_sort_2, f_value_2, f_word_2, f_wrongAt_2, f_laterFault_2, f_laterPlace_2, a_told, a_read_2, f_farHut_2, f_good_2⟩ zc hS rfl hw hM dX11_echoLine_24
set_option maxRecDepth 20000 in
theorem c_m_echoLine (l : Launch) {E : zE} {q : Nat} {f_code : Int32} {a_tape : Nat → Int32} {a_size : Nat → Int32} {a_fault : Nat → Int32} {a_faultPlace : Nat → Int32} {a_many : Nat → Int32} {a_lands : Nat → Int32} {a_evenings : Nat → Int32} {a_sights : Nat → Int32} {a_choirs : Nat → Int32} {f_reached : Int32} {f_length : Int32} {f_begins : Int32} {f_sort : Int32} {f_value : Int32} {f_word : Int64} {f_wrongAt : Int32} {f_laterFault : Int32} {f_laterPlace : Int32} {a_told : Nat → Int32} {a_read : Nat → Int32} {f_farHut : Int32} {f_farSinger : Int32} {f_good : Int32} {f_land : Int32} {f_huts : Int32} {f_singers : Int32} {f_evening : Int32} {a_at : Nat → Int32} {a_knows : Nat → Int32} {a_climbed : Nat → Int32} {a_snow : Nat → Int32} {a_level : Nat → Int32} {f_begun : Int32} {f_minute : Int32} {f_avalanches : Int32} {a_run : Nat → Int32} {a_covers : Nat → Int32} {a_routes : Nat → Int32} {a_longest : Nat → Int32} {a_steep : Nat → Int32} {a_laid : Nat → Int32} {a_far : Nat → Int32} {f_sight : Int32} {a_runs : Nat → Int32} {f_choir : Int32} {f_voices : Int32} {a_rest : Nat → Int64} {a_wins : Nat → Int32} {f_seed : Int32} {a_other : Nat → Int32} {a_kept : Nat → Int32} {post : Int32 → (Int32) → (Int32) → (Int32) → (Int32) → (Int64) → (Int32) → (Int32) → (Int32) → (Nat → Int32) → (Nat → Int32) → (Int32) → (Int32) → Prop} (hw : q_m_echoLine_0 a_tape f_reached f_length f_begins f_sort f_value f_word f_wrongAt f_laterFault f_laterPlace a_told a_read f_farHut f_good post) : Met l yX11_echoLine (Cond.code yX11_echoLine cX11_echoLine 2 (some .boolean) :: zb) rm_m_echoLine (va_Pc [.ref q] (fun U => mW E q f_code a_tape a_size a_fault a_faultPlace a_many a_lands a_evenings a_sights a_choirs f_reached f_length f_begins f_sort f_value f_word f_wrongAt f_laterFault f_laterPlace a_told a_read f_farHut f_farSinger f_good f_land f_huts f_singers f_evening a_at a_knows a_climbed a_snow a_level f_begun f_minute f_avalanches a_run a_covers a_routes a_longest a_steep a_laid a_far f_sight a_runs f_choir f_voices a_rest a_wins f_seed a_other a_kept U.heap ∧ zK E U)) (zQi (S := (Int32) × (Int32) × (Int32) × (Int32) × (Int64) × (Int32) × (Int32) × (Int32) × (Nat → Int32) × (Nat → Int32) × (Int32) × (Int32)) (fun r u => post r u.1 u.2.1 u.2.2.1 u.2.2.2.1 u.2.2.2.2.1 u.2.2.2.2.2.1 u.2.2.2.2.2.2.1 u.2.2.2.2.2.2.2.1 u.2.2.2.2.2.2.2.2.1 u.2.2.2.2.2.2.2.2.2.1 u.2.2.2.2.2.2.2.2.2.2.1 u.2.2.2.2.2.2.2.2.2.2.2) (fun u H => mW E q f_code a_tape a_size a_fault a_faultPlace a_many a_lands a_evenings a_sights a_choirs u.1 f_length u.2.1 u.2.2.1 u.2.2.2.1 u.2.2.2.2.1 u.2.2.2.2.2.1 u.2.2.2.2.2.2.1 u.2.2.2.2.2.2.2.1 u.2.2.2.2.2.2.2.2.1 u.2.2.2.2.2.2.2.2.2.1 u.2.2.2.2.2.2.2.2.2.2.1 f_farSinger u.2.2.2.2.2.2.2.2.2.2.2 f_land f_huts f_singers f_evening a_at a_knows a_climbed a_snow a_level f_begun f_minute f_avalanches a_run a_covers a_routes a_longest a_steep a_laid a_far f_sight a_runs f_choir f_voices a_rest a_wins f_seed a_other a_kept H) (mA q)) 0 0 (mA q) := by
  refine Met.ofW (cc := cX11_echoLine) (maxL := 2) (ret := (some .boolean)) (by decide) rfl ?_
  intro p e s m args below meth c s₁ B hml hv
  obtain ⟨rfl, hM, hK⟩ := hv
  have zc := zc_of B hml
  have hl := lv_entry ([.ref q]) (n := 2) (Nat.le_of_ble_eq_true rfl)
  rw [lg_entry_eq]
  generalize (lg_sl ([.ref q]) ++ List.replicate (2 - (lg_sl ([.ref q])).length) Slot.unset).toArray = ls at hl ⊢
  have hl : lv_has ls 2 [(0, .ref q)] := hl
  exact t_m_echoLine_0 zc hK hM va_S.rf (lv_sub hl [0] rfl) hw
-- m_ladderLine
abbrev rm_m_ladderLine : Room := { frames := 4, cells := 0, slots := 0, locals := 91 }
def q_m_ladderLine_0 (a_tape : Nat → Int32) (f_reached : Int32) (f_length : Int32) (f_begins : Int32) (f_sort : Int32) (f_value : Int32) (f_word : Int64) (f_wrongAt : Int32) (f_laterFault : Int32) (f_laterPlace : Int32) (a_told : Nat → Int32) (a_read : Nat → Int32) (f_farHut : Int32) (f_good : Int32) (post : Int32 → (Int32) → (Int32) → (Int32) → (Int32) → (Int64) → (Int32) → (Int32) → (Int32) → (Nat → Int32) → (Nat → Int32) → (Int32) → (Int32) → Prop) : Prop :=
  q_m_takeHut_0 a_tape f_reached f_length f_begins f_sort f_value f_word f_wrongAt f_laterFault f_laterPlace a_read f_farHut f_good (0 : Int32) (-1 : Int32) (fun r_1 f_reached_1 f_begins_1 f_sort_1 f_value_1 f_word_1 f_wrongAt_1 f_laterFault_1 f_laterPlace_1 a_read_1 f_farHut_1 f_good_1 => (r_1 = 0 → (post (0 : Int32) f_reached_1 f_begins_1 f_sort_1 f_value_1 f_word_1 f_wrongAt_1 f_laterFault_1 f_laterPlace_1 a_told a_read_1 f_farHut_1 f_good_1)) ∧ (¬ r_1 = 0 → (q_m_take_0 a_tape f_reached_1 f_length f_begins_1 f_sort_1 f_value_1 f_word_1 f_wrongAt_1 f_laterFault_1 f_laterPlace_1 a_read_1 f_good_1 (1 : Int32) (0 : Int32) (9 : Int32) (fun r_2 f_reached_2 f_begins_2 f_sort_2 f_value_2 f_word_2 f_wrongAt_2 f_laterFault_2 f_laterPlace_2 a_read_2 f_good_2 => (¬ r_2 = 0 → ((f_good_2 = 0 → (post (1 : Int32) f_reached_2 f_begins_2 f_sort_2 f_value_2 f_word_2 f_wrongAt_2 f_laterFault_2 f_laterPlace_2 a_told a_read_2 f_farHut_1 f_good_2)) ∧ (¬ f_good_2 = 0 → (∀ v_1 : Int32, v_1 = (a_read_2 (Int32.toNatClampNeg (1 : Int32))) → (vp_in ((16 : Int32) + (a_read_2 (Int32.toNatClampNeg (0 : Int32)))) 132 ∧ (∀ a_told_1 : Nat → Int32, a_told_1 = upd a_told (Int32.toNatClampNeg ((16 : Int32) + (a_read_2 (Int32.toNatClampNeg (0 : Int32))))) v_1 → (post (1 : Int32) f_reached_2 f_begins_2 f_sort_2 f_value_2 f_word_2 f_wrongAt_2 f_laterFault_2 f_laterPlace_2 a_told_1 a_read_2 f_farHut_1 f_good_2))))))) ∧ (r_2 = 0 → (post (0 : Int32) f_reached_2 f_begins_2 f_sort_2 f_value_2 f_word_2 f_wrongAt_2 f_laterFault_2 f_laterPlace_2 a_told a_read_2 f_farHut_1 f_good_2))))))
set_option maxRecDepth 20000 in
theorem t_m_ladderLine_0 {p : Program} {l : Launch} {e : Env} {s : State} {m : MethodId} {args : Array Value} {below : List Frame} {meth : Method} {c : Code} {E : zE} {q : Nat} {f_code : Int32} {a_tape : Nat → Int32} {a_size : Nat → Int32} {a_fault : Nat → Int32} {a_faultPlace : Nat → Int32} {a_many : Nat → Int32} {a_lands : Nat → Int32} {a_evenings : Nat → Int32} {a_sights : Nat → Int32} {a_choirs : Nat → Int32} {f_reached : Int32} {f_length : Int32} {f_begins : Int32} {f_sort : Int32} {f_value : Int32} {f_word : Int64} {f_wrongAt : Int32} {f_laterFault : Int32} {f_laterPlace : Int32} {a_told : Nat → Int32} {a_read : Nat → Int32} {f_farHut : Int32} {f_farSinger : Int32} {f_good : Int32} {f_land : Int32} {f_huts : Int32} {f_singers : Int32} {f_evening : Int32} {a_at : Nat → Int32} {a_knows : Nat → Int32} {a_climbed : Nat → Int32} {a_snow : Nat → Int32} {a_level : Nat → Int32} {f_begun : Int32} {f_minute : Int32} {f_avalanches : Int32} {a_run : Nat → Int32} {a_covers : Nat → Int32} {a_routes : Nat → Int32} {a_longest : Nat → Int32} {a_steep : Nat → Int32} {a_laid : Nat → Int32} {a_far : Nat → Int32} {f_sight : Int32} {a_runs : Nat → Int32} {f_choir : Int32} {f_voices : Int32} {a_rest : Nat → Int64} {a_wins : Nat → Int32} {f_seed : Int32} {a_other : Nat → Int32} {a_kept : Nat → Int32} {post : Int32 → (Int32) → (Int32) → (Int32) → (Int32) → (Int64) → (Int32) → (Int32) → (Int32) → (Nat → Int32) → (Nat → Int32) → (Int32) → (Int32) → Prop} {ls : Array Slot} {H : Heap} {locs : List Loc}
    (zc : zC p s m args meth c cX11_ladderLine 1 RX11 (some .boolean))
    (hK : zK E s)
    (hM : mW E q f_code a_tape a_size a_fault a_faultPlace a_many a_lands a_evenings a_sights a_choirs f_reached f_length f_begins f_sort f_value f_word f_wrongAt f_laterFault f_laterPlace a_told a_read f_farHut f_farSinger f_good f_land f_huts f_singers f_evening a_at a_knows a_climbed a_snow a_level f_begun f_minute f_avalanches a_run a_covers a_routes a_longest a_steep a_laid a_far f_sight a_runs f_choir f_voices a_rest a_wins f_seed a_other a_kept H)
    (hS : va_S (mA q) s.heap H locs)
    (hl : lv_has ls 1 [(0, .ref q)])
    (hw : q_m_ladderLine_0 a_tape f_reached f_length f_begins f_sort f_value f_word f_wrongAt f_laterFault f_laterPlace a_told a_read f_farHut f_good post) :
    W p l e rm_m_ladderLine s m args below meth c H locs 0 0 (MQ below (zQi (S := (Int32) × (Int32) × (Int32) × (Int32) × (Int64) × (Int32) × (Int32) × (Int32) × (Nat → Int32) × (Nat → Int32) × (Int32) × (Int32)) (fun r u => post r u.1 u.2.1 u.2.2.1 u.2.2.2.1 u.2.2.2.2.1 u.2.2.2.2.2.1 u.2.2.2.2.2.2.1 u.2.2.2.2.2.2.2.1 u.2.2.2.2.2.2.2.2.1 u.2.2.2.2.2.2.2.2.2.1 u.2.2.2.2.2.2.2.2.2.2.1 u.2.2.2.2.2.2.2.2.2.2.2) (fun u H => mW E q f_code a_tape a_size a_fault a_faultPlace a_many a_lands a_evenings a_sights a_choirs u.1 f_length u.2.1 u.2.2.1 u.2.2.2.1 u.2.2.2.2.1 u.2.2.2.2.2.1 u.2.2.2.2.2.2.1 u.2.2.2.2.2.2.2.1 u.2.2.2.2.2.2.2.2.1 u.2.2.2.2.2.2.2.2.2.1 u.2.2.2.2.2.2.2.2.2.2.1 f_farSinger u.2.2.2.2.2.2.2.2.2.2.2 f_land f_huts f_singers f_evening a_at a_knows a_climbed a_snow a_level f_begun f_minute f_avalanches a_run a_covers a_routes a_longest a_steep a_laid a_far f_sight a_runs f_choir f_voices a_rest a_wins f_seed a_other a_kept H) (mA q)) args s 0 0 (mA q)) (F0 m 0 ls []) := by
  have hx := zc.1
  have hb := zc.2.1
  refine lv_aload_n hx hb dX11_ladderLine_0 rfl (lv_at hl 0 rfl) ?_
  refine lv_iconst (v := (0 : Int32)) hx hb dX11_ladderLine_1 (by decide) ?_
  refine lv_iconst (v := (-1 : Int32)) hx hb dX11_ladderLine_2 (by decide) ?_
  refine zVw_i [.int (0 : Int32), .int (-1 : Int32)] [] zc ky_X11_takeHut kz_X11_takeHut km_11_175 (c_m_takeHut l hw) (mPreV0 hK hM) hS rfl rfl hl.1 (Nat.le_of_ble_eq_true rfl) ⟨rfl, rfl⟩ ⟨Nat.le_of_ble_eq_true rfl, Nat.le_of_ble_eq_true rfl⟩ ⟨(Nat.zero_le _), (Nat.zero_le _)⟩ dX11_ladderLine_3 (fun r_1 u H locs hw hM hS => ?_)
  obtain ⟨f_reached_1, f_begins_1, f_sort_1, f_value_1, f_word_1, f_wrongAt_1, f_laterFault_1, f_laterPlace_1, a_read_1, f_farHut_1, f_good_1⟩ := u
  refine lv_if_eq (tgt := 20) hx hb dX11_ladderLine_6 (by decide) (fun hc => ?_) (fun hc => ?_)
  · have hw := hw.1 hc
    refine lv_iconst (v := (0 : Int32)) hx hb dX11_ladderLine_20 (by decide) ?_
    exact zret_zw ⟨f_reached_1, f_begins_1, f_sort_1, f_value_1, f_word_1, f_wrongAt_1, f_laterFault_1, f_laterPlace_1, a_told, a_read_1, f_farHut_1, f_good_1⟩ zc hS rfl hw hM dX11_ladderLine_21
  · have hw := hw.2 hc
    refine lv_aload_n hx hb dX11_ladderLine_9 rfl (lv_at hl 0 rfl) ?_
    refine lv_iconst (v := (1 : Int32)) hx hb dX11_ladderLine_10 (by decide) ?_
    refine lv_iconst (v := (0 : Int32)) hx hb dX11_ladderLine_11 (by decide) ?_
    refine lv_bipush (v := (9 : Int32)) hx hb dX11_ladderLine_12 (by decide) ?_
    refine zVw_i [.int (1 : Int32), .int (0 : Int32), .int (9 : Int32)] [] zc ky_X11_take kz_X11_take km_11_178 (c_m_take l hw) (mPreV0 hK hM) hS rfl rfl hl.1 (Nat.le_of_ble_eq_true rfl) ⟨rfl, rfl⟩ ⟨Nat.le_of_ble_eq_true rfl, Nat.le_of_ble_eq_true rfl⟩ ⟨(Nat.zero_le _), (Nat.zero_le _)⟩ dX11_ladderLine_14 (fun r_2 u H locs hw hM hS => ?_)
    obtain ⟨f_reached_2, f_begins_2, f_sort_2, f_value_2, f_word_2, f_wrongAt_2, f_laterFault_2, f_laterPlace_2, a_read_2, f_good_2⟩ := u
    refine lv_if_ne (tgt := 22) hx hb dX11_ladderLine_17 (by decide) (fun hc => ?_) (fun hc => ?_)
    · have hw := hw.1 hc
      refine lv_aload_n hx hb dX11_ladderLine_22 rfl (lv_at hl 0 rfl) ?_
      refine mg_11_157_0 zc hK hM dX11_ladderLine_23 ?_
      refine lv_if_eq (tgt := 49) hx hb dX11_ladderLine_26 (by decide) (fun hc => ?_) (fun hc => ?_)
      · have hw := hw.1 hc
        refine lv_iconst (v := (1 : Int32)) hx hb dX11_ladderLine_49 (by decide) ?_
        exact zret_zw ⟨f_reached_2, f_begins_2, f_sort_2, f_value_2, f_word_2, f_wrongAt_2, f_laterFault_2, f_laterPlace_2, a_told, a_read_2, f_farHut_1, f_good_2⟩ zc hS rfl hw hM dX11_ladderLine_50
      · have hw := hw.2 hc
        refine lv_aload_n hx hb dX11_ladderLine_29 rfl (lv_at hl 0 rfl) ?_
        refine mg_11_38_0 zc hK hM dX11_ladderLine_30 ?_
        refine lv_bipush (v := (16 : Int32)) hx hb dX11_ladderLine_33 (by decide) ?_
        refine lv_aload_n hx hb dX11_ladderLine_35 rfl (lv_at hl 0 rfl) ?_
        refine mg_11_41_0 zc hK hM dX11_ladderLine_36 ?_
        refine lv_iconst (v := (0 : Int32)) hx hb dX11_ladderLine_39 (by decide) ?_
        refine mld_11 zc hK hM (by unfold vp_in; decide) dX11_ladderLine_40 ?_
        refine lv_iadd hx hb dX11_ladderLine_41 ?_
        refine lv_aload_n hx hb dX11_ladderLine_42 rfl (lv_at hl 0 rfl) ?_
        refine mg_11_41_0 zc hK hM dX11_ladderLine_43 ?_
        refine lv_iconst (v := (1 : Int32)) hx hb dX11_ladderLine_46 (by decide) ?_
        refine mld_11 zc hK hM (by unfold vp_in; decide) dX11_ladderLine_47 ?_
        refine lv_topi (fun v_1 ev_1 => ?_)
        have hw := hw v_1 ev_1
        refine mst_10 zc hK hM hS hw.1 dX11_ladderLine_48 (fun a_told_1 H locs ea_told_1 hM hS => ?_)
        have hw := hw.2 a_told_1 ea_told_1
        refine lv_iconst (v := (1 : Int32)) hx hb dX11_ladderLine_49 (by decide) ?_
        exact zret_zw ⟨f_reached_2, f_begins_2, f_sort_2, f_value_2, f_word_2, f_wrongAt_2, f_laterFault_2, f_laterPlace_2, a_told_1, a_read_2, f_farHut_1, f_good_2⟩ zc hS rfl hw hM dX11_ladderLine_50
    · have hw := hw.2 hc
      refine lv_iconst (v := (0 : Int32)) hx hb dX11_ladderLine_20 (by decide) ?_
      exact zret_zw ⟨f_reached_2, f_begins_2, f_sort_2, f_value_2, f_word_2, f_wrongAt_2, f_laterFault_2, f_laterPlace_2, a_told, a_read_2, f_farHut_1, f_good_2⟩ zc hS rfl hw hM dX11_ladderLine_21
set_option maxRecDepth 20000 in
theorem c_m_ladderLine (l : Launch) {E : zE} {q : Nat} {f_code : Int32} {a_tape : Nat → Int32} {a_size : Nat → Int32} {a_fault : Nat → Int32} {a_faultPlace : Nat → Int32} {a_many : Nat → Int32} {a_lands : Nat → Int32} {a_evenings : Nat → Int32} {a_sights : Nat → Int32} {a_choirs : Nat → Int32} {f_reached : Int32} {f_length : Int32} {f_begins : Int32} {f_sort : Int32} {f_value : Int32} {f_word : Int64} {f_wrongAt : Int32} {f_laterFault : Int32} {f_laterPlace : Int32} {a_told : Nat → Int32} {a_read : Nat → Int32} {f_farHut : Int32} {f_farSinger : Int32} {f_good : Int32} {f_land : Int32} {f_huts : Int32} {f_singers : Int32} {f_evening : Int32} {a_at : Nat → Int32} {a_knows : Nat → Int32} {a_climbed : Nat → Int32} {a_snow : Nat → Int32} {a_level : Nat → Int32} {f_begun : Int32} {f_minute : Int32} {f_avalanches : Int32} {a_run : Nat → Int32} {a_covers : Nat → Int32} {a_routes : Nat → Int32} {a_longest : Nat → Int32} {a_steep : Nat → Int32} {a_laid : Nat → Int32} {a_far : Nat → Int32} {f_sight : Int32} {a_runs : Nat → Int32} {f_choir : Int32} {f_voices : Int32} {a_rest : Nat → Int64} {a_wins : Nat → Int32} {f_seed : Int32} {a_other : Nat → Int32} {a_kept : Nat → Int32} {post : Int32 → (Int32) → (Int32) → (Int32) → (Int32) → (Int64) → (Int32) → (Int32) → (Int32) → (Nat → Int32) → (Nat → Int32) → (Int32) → (Int32) → Prop} (hw : q_m_ladderLine_0 a_tape f_reached f_length f_begins f_sort f_value f_word f_wrongAt f_laterFault f_laterPlace a_told a_read f_farHut f_good post) : Met l yX11_ladderLine (Cond.code yX11_ladderLine cX11_ladderLine 1 (some .boolean) :: zb) rm_m_ladderLine (va_Pc [.ref q] (fun U => mW E q f_code a_tape a_size a_fault a_faultPlace a_many a_lands a_evenings a_sights a_choirs f_reached f_length f_begins f_sort f_value f_word f_wrongAt f_laterFault f_laterPlace a_told a_read f_farHut f_farSinger f_good f_land f_huts f_singers f_evening a_at a_knows a_climbed a_snow a_level f_begun f_minute f_avalanches a_run a_covers a_routes a_longest a_steep a_laid a_far f_sight a_runs f_choir f_voices a_rest a_wins f_seed a_other a_kept U.heap ∧ zK E U)) (zQi (S := (Int32) × (Int32) × (Int32) × (Int32) × (Int64) × (Int32) × (Int32) × (Int32) × (Nat → Int32) × (Nat → Int32) × (Int32) × (Int32)) (fun r u => post r u.1 u.2.1 u.2.2.1 u.2.2.2.1 u.2.2.2.2.1 u.2.2.2.2.2.1 u.2.2.2.2.2.2.1 u.2.2.2.2.2.2.2.1 u.2.2.2.2.2.2.2.2.1 u.2.2.2.2.2.2.2.2.2.1 u.2.2.2.2.2.2.2.2.2.2.1 u.2.2.2.2.2.2.2.2.2.2.2) (fun u H => mW E q f_code a_tape a_size a_fault a_faultPlace a_many a_lands a_evenings a_sights a_choirs u.1 f_length u.2.1 u.2.2.1 u.2.2.2.1 u.2.2.2.2.1 u.2.2.2.2.2.1 u.2.2.2.2.2.2.1 u.2.2.2.2.2.2.2.1 u.2.2.2.2.2.2.2.2.1 u.2.2.2.2.2.2.2.2.2.1 u.2.2.2.2.2.2.2.2.2.2.1 f_farSinger u.2.2.2.2.2.2.2.2.2.2.2 f_land f_huts f_singers f_evening a_at a_knows a_climbed a_snow a_level f_begun f_minute f_avalanches a_run a_covers a_routes a_longest a_steep a_laid a_far f_sight a_runs f_choir f_voices a_rest a_wins f_seed a_other a_kept H) (mA q)) 0 0 (mA q) := by
  refine Met.ofW (cc := cX11_ladderLine) (maxL := 1) (ret := (some .boolean)) (by decide) rfl ?_
  intro p e s m args below meth c s₁ B hml hv
  obtain ⟨rfl, hM, hK⟩ := hv
  have zc := zc_of B hml
  have hl := lv_entry ([.ref q]) (n := 1) (Nat.le_of_ble_eq_true rfl)
  rw [lg_entry_eq]
  generalize (lg_sl ([.ref q]) ++ List.replicate (1 - (lg_sl ([.ref q])).length) Slot.unset).toArray = ls at hl ⊢
  have hl : lv_has ls 1 [(0, .ref q)] := hl
  exact t_m_ladderLine_0 zc hK hM va_S.rf (lv_sub hl [0] rfl) hw
-- m_singerLine
abbrev rm_m_singerLine : Room := { frames := 4, cells := 0, slots := 0, locals := 91 }
def q_m_singerLine_0 (a_tape : Nat → Int32) (f_reached : Int32) (f_length : Int32) (f_begins : Int32) (f_sort : Int32) (f_value : Int32) (f_word : Int64) (f_wrongAt : Int32) (f_laterFault : Int32) (f_laterPlace : Int32) (a_told : Nat → Int32) (a_read : Nat → Int32) (f_farHut : Int32) (f_good : Int32) (post : Int32 → (Int32) → (Int32) → (Int32) → (Int32) → (Int64) → (Int32) → (Int32) → (Int32) → (Nat → Int32) → (Nat → Int32) → (Int32) → (Int32) → Prop) : Prop :=
  q_m_takeHut_0 a_tape f_reached f_length f_begins f_sort f_value f_word f_wrongAt f_laterFault f_laterPlace a_read f_farHut f_good (0 : Int32) (-1 : Int32) (fun r_1 f_reached_1 f_begins_1 f_sort_1 f_value_1 f_word_1 f_wrongAt_1 f_laterFault_1 f_laterPlace_1 a_read_1 f_farHut_1 f_good_1 => (r_1 = 0 → (post (0 : Int32) f_reached_1 f_begins_1 f_sort_1 f_value_1 f_word_1 f_wrongAt_1 f_laterFault_1 f_laterPlace_1 a_told a_read_1 f_farHut_1 f_good_1)) ∧ (¬ r_1 = 0 → (q_m_take_0 a_tape f_reached_1 f_length f_begins_1 f_sort_1 f_value_1 f_word_1 f_wrongAt_1 f_laterFault_1 f_laterPlace_1 a_read_1 f_good_1 (1 : Int32) (0 : Int32) (9 : Int32) (fun r_2 f_reached_2 f_begins_2 f_sort_2 f_value_2 f_word_2 f_wrongAt_2 f_laterFault_2 f_laterPlace_2 a_read_2 f_good_2 => (¬ r_2 = 0 → (q_m_further_0 a_told (1 : Int32) (6 : Int32) (fun r_3 a_told_1 => (r_3 = (-1 : Int32) → (post (1 : Int32) f_reached_2 f_begins_2 f_sort_2 f_value_2 f_word_2 f_wrongAt_2 f_laterFault_2 f_laterPlace_2 a_told_1 a_read_2 f_farHut_1 f_good_2)) ∧ (¬ r_3 = (-1 : Int32) → (∀ v_1 : Int32, v_1 = (a_read_2 (Int32.toNatClampNeg (0 : Int32))) → (vp_in ((25 : Int32) + r_3) 132 ∧ (∀ a_told_2 : Nat → Int32, a_told_2 = upd a_told_1 (Int32.toNatClampNeg ((25 : Int32) + r_3)) v_1 → (∀ v_2 : Int32, v_2 = (a_read_2 (Int32.toNatClampNeg (1 : Int32))) → (vp_in ((31 : Int32) + r_3) 132 ∧ (∀ a_told_3 : Nat → Int32, a_told_3 = upd a_told_2 (Int32.toNatClampNeg ((31 : Int32) + r_3)) v_2 → (post (1 : Int32) f_reached_2 f_begins_2 f_sort_2 f_value_2 f_word_2 f_wrongAt_2 f_laterFault_2 f_laterPlace_2 a_told_3 a_read_2 f_farHut_1 f_good_2))))))))))) ∧ (r_2 = 0 → (post (0 : Int32) f_reached_2 f_begins_2 f_sort_2 f_value_2 f_word_2 f_wrongAt_2 f_laterFault_2 f_laterPlace_2 a_told a_read_2 f_farHut_1 f_good_2))))))
set_option maxRecDepth 20000 in
theorem t_m_singerLine_0 {p : Program} {l : Launch} {e : Env} {s : State} {m : MethodId} {args : Array Value} {below : List Frame} {meth : Method} {c : Code} {E : zE} {q : Nat} {f_code : Int32} {a_tape : Nat → Int32} {a_size : Nat → Int32} {a_fault : Nat → Int32} {a_faultPlace : Nat → Int32} {a_many : Nat → Int32} {a_lands : Nat → Int32} {a_evenings : Nat → Int32} {a_sights : Nat → Int32} {a_choirs : Nat → Int32} {f_reached : Int32} {f_length : Int32} {f_begins : Int32} {f_sort : Int32} {f_value : Int32} {f_word : Int64} {f_wrongAt : Int32} {f_laterFault : Int32} {f_laterPlace : Int32} {a_told : Nat → Int32} {a_read : Nat → Int32} {f_farHut : Int32} {f_farSinger : Int32} {f_good : Int32} {f_land : Int32} {f_huts : Int32} {f_singers : Int32} {f_evening : Int32} {a_at : Nat → Int32} {a_knows : Nat → Int32} {a_climbed : Nat → Int32} {a_snow : Nat → Int32} {a_level : Nat → Int32} {f_begun : Int32} {f_minute : Int32} {f_avalanches : Int32} {a_run : Nat → Int32} {a_covers : Nat → Int32} {a_routes : Nat → Int32} {a_longest : Nat → Int32} {a_steep : Nat → Int32} {a_laid : Nat → Int32} {a_far : Nat → Int32} {f_sight : Int32} {a_runs : Nat → Int32} {f_choir : Int32} {f_voices : Int32} {a_rest : Nat → Int64} {a_wins : Nat → Int32} {f_seed : Int32} {a_other : Nat → Int32} {a_kept : Nat → Int32} {post : Int32 → (Int32) → (Int32) → (Int32) → (Int32) → (Int64) → (Int32) → (Int32) → (Int32) → (Nat → Int32) → (Nat → Int32) → (Int32) → (Int32) → Prop} {ls : Array Slot} {H : Heap} {locs : List Loc}
    (zc : zC p s m args meth c cX11_singerLine 2 RX11 (some .boolean))
    (hK : zK E s)
    (hM : mW E q f_code a_tape a_size a_fault a_faultPlace a_many a_lands a_evenings a_sights a_choirs f_reached f_length f_begins f_sort f_value f_word f_wrongAt f_laterFault f_laterPlace a_told a_read f_farHut f_farSinger f_good f_land f_huts f_singers f_evening a_at a_knows a_climbed a_snow a_level f_begun f_minute f_avalanches a_run a_covers a_routes a_longest a_steep a_laid a_far f_sight a_runs f_choir f_voices a_rest a_wins f_seed a_other a_kept H)
    (hS : va_S (mA q) s.heap H locs)
    (hl : lv_has ls 2 [(0, .ref q)])
    (hw : q_m_singerLine_0 a_tape f_reached f_length f_begins f_sort f_value f_word f_wrongAt f_laterFault f_laterPlace a_told a_read f_farHut f_good post) :
    W p l e rm_m_singerLine s m args below meth c H locs 0 0 (MQ below (zQi (S := (Int32) × (Int32) × (Int32) × (Int32) × (Int64) × (Int32) × (Int32) × (Int32) × (Nat → Int32) × (Nat → Int32) × (Int32) × (Int32)) (fun r u => post r u.1 u.2.1 u.2.2.1 u.2.2.2.1 u.2.2.2.2.1 u.2.2.2.2.2.1 u.2.2.2.2.2.2.1 u.2.2.2.2.2.2.2.1 u.2.2.2.2.2.2.2.2.1 u.2.2.2.2.2.2.2.2.2.1 u.2.2.2.2.2.2.2.2.2.2.1 u.2.2.2.2.2.2.2.2.2.2.2) (fun u H => mW E q f_code a_tape a_size a_fault a_faultPlace a_many a_lands a_evenings a_sights a_choirs u.1 f_length u.2.1 u.2.2.1 u.2.2.2.1 u.2.2.2.2.1 u.2.2.2.2.2.1 u.2.2.2.2.2.2.1 u.2.2.2.2.2.2.2.1 u.2.2.2.2.2.2.2.2.1 u.2.2.2.2.2.2.2.2.2.1 u.2.2.2.2.2.2.2.2.2.2.1 f_farSinger u.2.2.2.2.2.2.2.2.2.2.2 f_land f_huts f_singers f_evening a_at a_knows a_climbed a_snow a_level f_begun f_minute f_avalanches a_run a_covers a_routes a_longest a_steep a_laid a_far f_sight a_runs f_choir f_voices a_rest a_wins f_seed a_other a_kept H) (mA q)) args s 0 0 (mA q)) (F0 m 0 ls []) := by
  have hx := zc.1
  have hb := zc.2.1
  refine lv_aload_n hx hb dX11_singerLine_0 rfl (lv_at hl 0 rfl) ?_
  refine lv_iconst (v := (0 : Int32)) hx hb dX11_singerLine_1 (by decide) ?_
  refine lv_iconst (v := (-1 : Int32)) hx hb dX11_singerLine_2 (by decide) ?_
  refine zVw_i [.int (0 : Int32), .int (-1 : Int32)] [] zc ky_X11_takeHut kz_X11_takeHut km_11_175 (c_m_takeHut l hw) (mPreV0 hK hM) hS rfl rfl hl.1 (Nat.le_of_ble_eq_true rfl) ⟨rfl, rfl⟩ ⟨Nat.le_of_ble_eq_true rfl, Nat.le_of_ble_eq_true rfl⟩ ⟨(Nat.zero_le _), (Nat.zero_le _)⟩ dX11_singerLine_3 (fun r_1 u H locs hw hM hS => ?_)
  obtain ⟨f_reached_1, f_begins_1, f_sort_1, f_value_1, f_word_1, f_wrongAt_1, f_laterFault_1, f_laterPlace_1, a_read_1, f_farHut_1, f_good_1⟩ := u
  refine lv_if_eq (tgt := 20) hx hb dX11_singerLine_6 (by decide) (fun hc => ?_) (fun hc => ?_)
  · have hw := hw.1 hc
    refine lv_iconst (v := (0 : Int32)) hx hb dX11_singerLine_20 (by decide) ?_
    exact zret_zw ⟨f_reached_1, f_begins_1, f_sort_1, f_value_1, f_word_1, f_wrongAt_1, f_laterFault_1, f_laterPlace_1, a_told, a_read_1, f_farHut_1, f_good_1⟩ zc hS rfl hw hM dX11_singerLine_21
  · have hw := hw.2 hc
    refine lv_aload_n hx hb dX11_singerLine_9 rfl (lv_at hl 0 rfl) ?_
    refine lv_iconst (v := (1 : Int32)) hx hb dX11_singerLine_10 (by decide) ?_
    refine lv_iconst (v := (0 : Int32)) hx hb dX11_singerLine_11 (by decide) ?_
    refine lv_bipush (v := (9 : Int32)) hx hb dX11_singerLine_12 (by decide) ?_
    refine zVw_i [.int (1 : Int32), .int (0 : Int32), .int (9 : Int32)] [] zc ky_X11_take kz_X11_take km_11_178 (c_m_take l hw) (mPreV0 hK hM) hS rfl rfl hl.1 (Nat.le_of_ble_eq_true rfl) ⟨rfl, rfl⟩ ⟨Nat.le_of_ble_eq_true rfl, Nat.le_of_ble_eq_true rfl⟩ ⟨(Nat.zero_le _), (Nat.zero_le _)⟩ dX11_singerLine_14 (fun r_2 u H locs hw hM hS => ?_)
    obtain ⟨f_reached_2, f_begins_2, f_sort_2, f_value_2, f_word_2, f_wrongAt_2, f_laterFault_2, f_laterPlace_2, a_read_2, f_good_2⟩ := u
    refine lv_if_ne (tgt := 22) hx hb dX11_singerLine_17 (by decide) (fun hc => ?_) (fun hc => ?_)
    · have hw := hw.1 hc
      refine lv_aload_n hx hb dX11_singerLine_22 rfl (lv_at hl 0 rfl) ?_
      refine lv_iconst (v := (1 : Int32)) hx hb dX11_singerLine_23 (by decide) ?_
      refine lv_bipush (v := (6 : Int32)) hx hb dX11_singerLine_24 (by decide) ?_
      refine zVw_i [.int (1 : Int32), .int (6 : Int32)] [] zc ky_X11_further kz_X11_further km_11_181 (c_m_further l hw) (mPreV0 hK hM) hS rfl rfl hl.1 (Nat.le_of_ble_eq_true rfl) ⟨rfl, rfl⟩ ⟨Nat.le_of_ble_eq_true rfl, Nat.le_of_ble_eq_true rfl⟩ ⟨(Nat.zero_le _), (Nat.zero_le _)⟩ dX11_singerLine_26 (fun r_3 a_told_1 H locs hw hM hS => ?_)
      refine lv_istore_n (lv' := [(1, .int r_3), (0, .ref q)]) hx hb dX11_singerLine_29 rfl hl (by decide) rfl (fun ls hl => ?_)
      refine lv_iload_n hx hb dX11_singerLine_30 rfl (lv_at hl 0 rfl) ?_
      refine lv_iconst (v := (-1 : Int32)) hx hb dX11_singerLine_31 (by decide) ?_
      refine lv_icmp_eq (tgt := 65) hx hb dX11_singerLine_32 (by decide) (fun hc => ?_) (fun hc => ?_)
      · have hw := hw.1 hc
        refine lv_iconst (v := (1 : Int32)) hx hb dX11_singerLine_65 (by decide) ?_
        exact zret_zw ⟨f_reached_2, f_begins_2, f_sort_2, f_value_2, f_word_2, f_wrongAt_2, f_laterFault_2, f_laterPlace_2, a_told_1, a_read_2, f_farHut_1, f_good_2⟩ zc hS rfl hw hM dX11_singerLine_66
      · have hw := hw.2 hc
        refine lv_aload_n hx hb dX11_singerLine_35 rfl (lv_at hl 1 rfl) ?_
        refine mg_11_38_0 zc hK hM dX11_singerLine_36 ?_
        refine lv_bipush (v := (25 : Int32)) hx hb dX11_singerLine_39 (by decide) ?_
        refine lv_iload_n hx hb dX11_singerLine_41 rfl (lv_at hl 0 rfl) ?_
        refine lv_iadd hx hb dX11_singerLine_42 ?_
        refine lv_aload_n hx hb dX11_singerLine_43 rfl (lv_at hl 1 rfl) ?_
        refine mg_11_41_0 zc hK hM dX11_singerLine_44 ?_
        refine lv_iconst (v := (0 : Int32)) hx hb dX11_singerLine_47 (by decide) ?_
        refine mld_11 zc hK hM (by unfold vp_in; decide) dX11_singerLine_48 ?_
        refine lv_topi (fun v_1 ev_1 => ?_)
        have hw := hw v_1 ev_1
        refine mst_10 zc hK hM hS hw.1 dX11_singerLine_49 (fun a_told_2 H locs ea_told_2 hM hS => ?_)
        have hw := hw.2 a_told_2 ea_told_2
        refine lv_aload_n hx hb dX11_singerLine_50 rfl (lv_at hl 1 rfl) ?_
        refine mg_11_38_0 zc hK hM dX11_singerLine_51 ?_
        refine lv_bipush (v := (31 : Int32)) hx hb dX11_singerLine_54 (by decide) ?_
        refine lv_iload_n hx hb dX11_singerLine_56 rfl (lv_at hl 0 rfl) ?_
        refine lv_iadd hx hb dX11_singerLine_57 ?_
        refine lv_aload_n hx hb dX11_singerLine_58 rfl (lv_at hl 1 rfl) ?_
        refine mg_11_41_0 zc hK hM dX11_singerLine_59 ?_
        refine lv_iconst (v := (1 : Int32)) hx hb dX11_singerLine_62 (by decide) ?_
        refine mld_11 zc hK hM (by unfold vp_in; decide) dX11_singerLine_63 ?_
        refine lv_topi (fun v_2 ev_2 => ?_)
        have hw := hw v_2 ev_2
        refine mst_10 zc hK hM hS hw.1 dX11_singerLine_64 (fun a_told_3 H locs ea_told_3 hM hS => ?_)
        have hw := hw.2 a_told_3 ea_told_3
        refine lv_iconst (v := (1 : Int32)) hx hb dX11_singerLine_65 (by decide) ?_
        exact zret_zw ⟨f_reached_2, f_begins_2, f_sort_2, f_value_2, f_word_2, f_wrongAt_2, f_laterFault_2, f_laterPlace_2, a_told_3, a_read_2, f_farHut_1, f_good_2⟩ zc hS rfl hw hM dX11_singerLine_66
    · have hw := hw.2 hc
      refine lv_iconst (v := (0 : Int32)) hx hb dX11_singerLine_20 (by decide) ?_
      exact zret_zw ⟨f_reached_2, f_begins_2, f_sort_2, f_value_2, f_word_2, f_wrongAt_2, f_laterFault_2, f_laterPlace_2, a_told, a_read_2, f_farHut_1, f_good_2⟩ zc hS rfl hw hM dX11_singerLine_21
set_option maxRecDepth 20000 in
theorem c_m_singerLine (l : Launch) {E : zE} {q : Nat} {f_code : Int32} {a_tape : Nat → Int32} {a_size : Nat → Int32} {a_fault : Nat → Int32} {a_faultPlace : Nat → Int32} {a_many : Nat → Int32} {a_lands : Nat → Int32} {a_evenings : Nat → Int32} {a_sights : Nat → Int32} {a_choirs : Nat → Int32} {f_reached : Int32} {f_length : Int32} {f_begins : Int32} {f_sort : Int32} {f_value : Int32} {f_word : Int64} {f_wrongAt : Int32} {f_laterFault : Int32} {f_laterPlace : Int32} {a_told : Nat → Int32} {a_read : Nat → Int32} {f_farHut : Int32} {f_farSinger : Int32} {f_good : Int32} {f_land : Int32} {f_huts : Int32} {f_singers : Int32} {f_evening : Int32} {a_at : Nat → Int32} {a_knows : Nat → Int32} {a_climbed : Nat → Int32} {a_snow : Nat → Int32} {a_level : Nat → Int32} {f_begun : Int32} {f_minute : Int32} {f_avalanches : Int32} {a_run : Nat → Int32} {a_covers : Nat → Int32} {a_routes : Nat → Int32} {a_longest : Nat → Int32} {a_steep : Nat → Int32} {a_laid : Nat → Int32} {a_far : Nat → Int32} {f_sight : Int32} {a_runs : Nat → Int32} {f_choir : Int32} {f_voices : Int32} {a_rest : Nat → Int64} {a_wins : Nat → Int32} {f_seed : Int32} {a_other : Nat → Int32} {a_kept : Nat → Int32} {post : Int32 → (Int32) → (Int32) → (Int32) → (Int32) → (Int64) → (Int32) → (Int32) → (Int32) → (Nat → Int32) → (Nat → Int32) → (Int32) → (Int32) → Prop} (hw : q_m_singerLine_0 a_tape f_reached f_length f_begins f_sort f_value f_word f_wrongAt f_laterFault f_laterPlace a_told a_read f_farHut f_good post) : Met l yX11_singerLine (Cond.code yX11_singerLine cX11_singerLine 2 (some .boolean) :: zb) rm_m_singerLine (va_Pc [.ref q] (fun U => mW E q f_code a_tape a_size a_fault a_faultPlace a_many a_lands a_evenings a_sights a_choirs f_reached f_length f_begins f_sort f_value f_word f_wrongAt f_laterFault f_laterPlace a_told a_read f_farHut f_farSinger f_good f_land f_huts f_singers f_evening a_at a_knows a_climbed a_snow a_level f_begun f_minute f_avalanches a_run a_covers a_routes a_longest a_steep a_laid a_far f_sight a_runs f_choir f_voices a_rest a_wins f_seed a_other a_kept U.heap ∧ zK E U)) (zQi (S := (Int32) × (Int32) × (Int32) × (Int32) × (Int64) × (Int32) × (Int32) × (Int32) × (Nat → Int32) × (Nat → Int32) × (Int32) × (Int32)) (fun r u => post r u.1 u.2.1 u.2.2.1 u.2.2.2.1 u.2.2.2.2.1 u.2.2.2.2.2.1 u.2.2.2.2.2.2.1 u.2.2.2.2.2.2.2.1 u.2.2.2.2.2.2.2.2.1 u.2.2.2.2.2.2.2.2.2.1 u.2.2.2.2.2.2.2.2.2.2.1 u.2.2.2.2.2.2.2.2.2.2.2) (fun u H => mW E q f_code a_tape a_size a_fault a_faultPlace a_many a_lands a_evenings a_sights a_choirs u.1 f_length u.2.1 u.2.2.1 u.2.2.2.1 u.2.2.2.2.1 u.2.2.2.2.2.1 u.2.2.2.2.2.2.1 u.2.2.2.2.2.2.2.1 u.2.2.2.2.2.2.2.2.1 u.2.2.2.2.2.2.2.2.2.1 u.2.2.2.2.2.2.2.2.2.2.1 f_farSinger u.2.2.2.2.2.2.2.2.2.2.2 f_land f_huts f_singers f_evening a_at a_knows a_climbed a_snow a_level f_begun f_minute f_avalanches a_run a_covers a_routes a_longest a_steep a_laid a_far f_sight a_runs f_choir f_voices a_rest a_wins f_seed a_other a_kept H) (mA q)) 0 0 (mA q) := by
  refine Met.ofW (cc := cX11_singerLine) (maxL := 2) (ret := (some .boolean)) (by decide) rfl ?_
  intro p e s m args below meth c s₁ B hml hv
  obtain ⟨rfl, hM, hK⟩ := hv
  have zc := zc_of B hml
  have hl := lv_entry ([.ref q]) (n := 2) (Nat.le_of_ble_eq_true rfl)
  rw [lg_entry_eq]
  generalize (lg_sl ([.ref q]) ++ List.replicate (2 - (lg_sl ([.ref q])).length) Slot.unset).toArray = ls at hl ⊢
  have hl : lv_has ls 2 [(0, .ref q)] := hl
  exact t_m_singerLine_0 zc hK hM va_S.rf (lv_sub hl [0] rfl) hw
-- m_knowsLine
abbrev rm_m_knowsLine : Room := { frames := 4, cells := 0, slots := 0, locals := 91 }
def q_m_knowsLine_0 (a_tape : Nat → Int32) (f_reached : Int32) (f_length : Int32) (f_begins : Int32) (f_sort : Int32) (f_value : Int32) (f_word : Int64) (f_wrongAt : Int32) (f_laterFault : Int32) (f_laterPlace : Int32) (a_told : Nat → Int32) (a_read : Nat → Int32) (f_farSinger : Int32) (f_good : Int32) (post : Int32 → (Int32) → (Int32) → (Int32) → (Int32) → (Int64) → (Int32) → (Int32) → (Int32) → (Nat → Int32) → (Nat → Int32) → (Int32) → (Int32) → Prop) : Prop :=
  q_m_take_0 a_tape f_reached f_length f_begins f_sort f_value f_word f_wrongAt f_laterFault f_laterPlace a_read f_good (0 : Int32) (0 : Int32) (5 : Int32) (fun r_1 f_reached_1 f_begins_1 f_sort_1 f_value_1 f_word_1 f_wrongAt_1 f_laterFault_1 f_laterPlace_1 a_read_1 f_good_1 => (r_1 = 0 → (post (0 : Int32) f_reached_1 f_begins_1 f_sort_1 f_value_1 f_word_1 f_wrongAt_1 f_laterFault_1 f_laterPlace_1 a_told a_read_1 f_farSinger f_good_1)) ∧ (¬ r_1 = 0 → (q_m_take_0 a_tape f_reached_1 f_length f_begins_1 f_sort_1 f_value_1 f_word_1 f_wrongAt_1 f_laterFault_1 f_laterPlace_1 a_read_1 f_good_1 (1 : Int32) (0 : Int32) (4 : Int32) (fun r_2 f_reached_2 f_begins_2 f_sort_2 f_value_2 f_word_2 f_wrongAt_2 f_laterFault_2 f_laterPlace_2 a_read_2 f_good_2 => (¬ r_2 = 0 → (q_m_greater_0 f_farSinger (a_read_2 (Int32.toNatClampNeg (0 : Int32))) (fun r_3 => (f_good_2 = 0 → (post (1 : Int32) f_reached_2 f_begins_2 f_sort_2 f_value_2 f_word_2 f_wrongAt_2 f_laterFault_2 f_laterPlace_2 a_told a_read_2 r_3 f_good_2)) ∧ (¬ f_good_2 = 0 → (vp_in ((37 : Int32) + (a_read_2 (Int32.toNatClampNeg (0 : Int32)))) 132 ∧ (∀ v_1 : Int32, v_1 = ((a_told (Int32.toNatClampNeg ((37 : Int32) + (a_read_2 (Int32.toNatClampNeg (0 : Int32)))))) ||| ((1 : Int32) <<< ((a_read_2 (Int32.toNatClampNeg (1 : Int32))) &&& 31))) → (vp_in ((37 : Int32) + (a_read_2 (Int32.toNatClampNeg (0 : Int32)))) 132 ∧ (∀ a_told_1 : Nat → Int32, a_told_1 = upd a_told (Int32.toNatClampNeg ((37 : Int32) + (a_read_2 (Int32.toNatClampNeg (0 : Int32))))) v_1 → (post (1 : Int32) f_reached_2 f_begins_2 f_sort_2 f_value_2 f_word_2 f_wrongAt_2 f_laterFault_2 f_laterPlace_2 a_told_1 a_read_2 r_3 f_good_2))))))))) ∧ (r_2 = 0 → (post (0 : Int32) f_reached_2 f_begins_2 f_sort_2 f_value_2 f_word_2 f_wrongAt_2 f_laterFault_2 f_laterPlace_2 a_told a_read_2 f_farSinger f_good_2))))))
set_option maxRecDepth 20000 in
theorem t_m_knowsLine_0 {p : Program} {l : Launch} {e : Env} {s : State} {m : MethodId} {args : Array Value} {below : List Frame} {meth : Method} {c : Code} {E : zE} {q : Nat} {f_code : Int32} {a_tape : Nat → Int32} {a_size : Nat → Int32} {a_fault : Nat → Int32} {a_faultPlace : Nat → Int32} {a_many : Nat → Int32} {a_lands : Nat → Int32} {a_evenings : Nat → Int32} {a_sights : Nat → Int32} {a_choirs : Nat → Int32} {f_reached : Int32} {f_length : Int32} {f_begins : Int32} {f_sort : Int32} {f_value : Int32} {f_word : Int64} {f_wrongAt : Int32} {f_laterFault : Int32} {f_laterPlace : Int32} {a_told : Nat → Int32} {a_read : Nat → Int32} {f_farHut : Int32} {f_farSinger : Int32} {f_good : Int32} {f_land : Int32} {f_huts : Int32} {f_singers : Int32} {f_evening : Int32} {a_at : Nat → Int32} {a_knows : Nat → Int32} {a_climbed : Nat → Int32} {a_snow : Nat → Int32} {a_level : Nat → Int32} {f_begun : Int32} {f_minute : Int32} {f_avalanches : Int32} {a_run : Nat → Int32} {a_covers : Nat → Int32} {a_routes : Nat → Int32} {a_longest : Nat → Int32} {a_steep : Nat → Int32} {a_laid : Nat → Int32} {a_far : Nat → Int32} {f_sight : Int32} {a_runs : Nat → Int32} {f_choir : Int32} {f_voices : Int32} {a_rest : Nat → Int64} {a_wins : Nat → Int32} {f_seed : Int32} {a_other : Nat → Int32} {a_kept : Nat → Int32} {post : Int32 → (Int32) → (Int32) → (Int32) → (Int32) → (Int64) → (Int32) → (Int32) → (Int32) → (Nat → Int32) → (Nat → Int32) → (Int32) → (Int32) → Prop} {ls : Array Slot} {H : Heap} {locs : List Loc}
    (zc : zC p s m args meth c cX11_knowsLine 1 RX11 (some .boolean))
    (hK : zK E s)
    (hM : mW E q f_code a_tape a_size a_fault a_faultPlace a_many a_lands a_evenings a_sights a_choirs f_reached f_length f_begins f_sort f_value f_word f_wrongAt f_laterFault f_laterPlace a_told a_read f_farHut f_farSinger f_good f_land f_huts f_singers f_evening a_at a_knows a_climbed a_snow a_level f_begun f_minute f_avalanches a_run a_covers a_routes a_longest a_steep a_laid a_far f_sight a_runs f_choir f_voices a_rest a_wins f_seed a_other a_kept H)
    (hS : va_S (mA q) s.heap H locs)
    (hl : lv_has ls 1 [(0, .ref q)])
    (hw : q_m_knowsLine_0 a_tape f_reached f_length f_begins f_sort f_value f_word f_wrongAt f_laterFault f_laterPlace a_told a_read f_farSinger f_good post) :
    W p l e rm_m_knowsLine s m args below meth c H locs 0 0 (MQ below (zQi (S := (Int32) × (Int32) × (Int32) × (Int32) × (Int64) × (Int32) × (Int32) × (Int32) × (Nat → Int32) × (Nat → Int32) × (Int32) × (Int32)) (fun r u => post r u.1 u.2.1 u.2.2.1 u.2.2.2.1 u.2.2.2.2.1 u.2.2.2.2.2.1 u.2.2.2.2.2.2.1 u.2.2.2.2.2.2.2.1 u.2.2.2.2.2.2.2.2.1 u.2.2.2.2.2.2.2.2.2.1 u.2.2.2.2.2.2.2.2.2.2.1 u.2.2.2.2.2.2.2.2.2.2.2) (fun u H => mW E q f_code a_tape a_size a_fault a_faultPlace a_many a_lands a_evenings a_sights a_choirs u.1 f_length u.2.1 u.2.2.1 u.2.2.2.1 u.2.2.2.2.1 u.2.2.2.2.2.1 u.2.2.2.2.2.2.1 u.2.2.2.2.2.2.2.1 u.2.2.2.2.2.2.2.2.1 u.2.2.2.2.2.2.2.2.2.1 f_farHut u.2.2.2.2.2.2.2.2.2.2.1 u.2.2.2.2.2.2.2.2.2.2.2 f_land f_huts f_singers f_evening a_at a_knows a_climbed a_snow a_level f_begun f_minute f_avalanches a_run a_covers a_routes a_longest a_steep a_laid a_far f_sight a_runs f_choir f_voices a_rest a_wins f_seed a_other a_kept H) (mA q)) args s 0 0 (mA q)) (F0 m 0 ls []) := by
  have hx := zc.1
  have hb := zc.2.1
  refine lv_aload_n hx hb dX11_knowsLine_0 rfl (lv_at hl 0 rfl) ?_
  refine lv_iconst (v := (0 : Int32)) hx hb dX11_knowsLine_1 (by decide) ?_
  refine lv_iconst (v := (0 : Int32)) hx hb dX11_knowsLine_2 (by decide) ?_
  refine lv_iconst (v := (5 : Int32)) hx hb dX11_knowsLine_3 (by decide) ?_
  refine zVw_i [.int (0 : Int32), .int (0 : Int32), .int (5 : Int32)] [] zc ky_X11_take kz_X11_take km_11_178 (c_m_take l hw) (mPreV0 hK hM) hS rfl rfl hl.1 (Nat.le_of_ble_eq_true rfl) ⟨rfl, rfl⟩ ⟨Nat.le_of_ble_eq_true rfl, Nat.le_of_ble_eq_true rfl⟩ ⟨(Nat.zero_le _), (Nat.zero_le _)⟩ dX11_knowsLine_4 (fun r_1 u H locs hw hM hS => ?_)
  obtain ⟨f_reached_1, f_begins_1, f_sort_1, f_value_1, f_word_1, f_wrongAt_1, f_laterFault_1, f_laterPlace_1, a_read_1, f_good_1⟩ := u
  refine lv_if_eq (tgt := 20) hx hb dX11_knowsLine_7 (by decide) (fun hc => ?_) (fun hc => ?_)
  · have hw := hw.1 hc
    refine lv_iconst (v := (0 : Int32)) hx hb dX11_knowsLine_20 (by decide) ?_
    exact zret_zw ⟨f_reached_1, f_begins_1, f_sort_1, f_value_1, f_word_1, f_wrongAt_1, f_laterFault_1, f_laterPlace_1, a_told, a_read_1, f_farSinger, f_good_1⟩ zc hS rfl hw hM dX11_knowsLine_21
  · have hw := hw.2 hc
    refine lv_aload_n hx hb dX11_knowsLine_10 rfl (lv_at hl 0 rfl) ?_
    refine lv_iconst (v := (1 : Int32)) hx hb dX11_knowsLine_11 (by decide) ?_
    refine lv_iconst (v := (0 : Int32)) hx hb dX11_knowsLine_12 (by decide) ?_
    refine lv_iconst (v := (4 : Int32)) hx hb dX11_knowsLine_13 (by decide) ?_
    refine zVw_i [.int (1 : Int32), .int (0 : Int32), .int (4 : Int32)] [] zc ky_X11_take kz_X11_take km_11_178 (c_m_take l hw) (mPreV0 hK hM) hS rfl rfl hl.1 (Nat.le_of_ble_eq_true rfl) ⟨rfl, rfl⟩ ⟨Nat.le_of_ble_eq_true rfl, Nat.le_of_ble_eq_true rfl⟩ ⟨(Nat.zero_le _), (Nat.zero_le _)⟩ dX11_knowsLine_14 (fun r_2 u H locs hw hM hS => ?_)
    obtain ⟨f_reached_2, f_begins_2, f_sort_2, f_value_2, f_word_2, f_wrongAt_2, f_laterFault_2, f_laterPlace_2, a_read_2, f_good_2⟩ := u
    refine lv_if_ne (tgt := 22) hx hb dX11_knowsLine_17 (by decide) (fun hc => ?_) (fun hc => ?_)
    · have hw := hw.1 hc
      refine lv_aload_n hx hb dX11_knowsLine_22 rfl (lv_at hl 0 rfl) ?_
      refine lv_aload_n hx hb dX11_knowsLine_23 rfl (lv_at hl 0 rfl) ?_
      refine mg_11_184_0 zc hK hM dX11_knowsLine_24 ?_
      refine lv_aload_n hx hb dX11_knowsLine_27 rfl (lv_at hl 0 rfl) ?_
      refine mg_11_41_0 zc hK hM dX11_knowsLine_28 ?_
      refine lv_iconst (v := (0 : Int32)) hx hb dX11_knowsLine_31 (by decide) ?_
      refine mld_11 zc hK hM (by unfold vp_in; decide) dX11_knowsLine_32 ?_
      refine zS_i [.int f_farSinger, .int (a_read_2 (Int32.toNatClampNeg (0 : Int32)))] [.ref q] zc ky_X11_greater kz_X11_greater km_11_171 (c_m_greater l hw) (zPre0 _) rfl rfl hl.1 (Nat.le_of_ble_eq_true rfl) ⟨rfl, rfl⟩ ⟨Nat.le_of_ble_eq_true rfl, Nat.le_of_ble_eq_true rfl⟩ ⟨(Nat.zero_le _), (Nat.zero_le _)⟩ dX11_knowsLine_33 (fun r_3 hw => ?_)
      refine mp_11_184_0 zc hK hM hS dX11_knowsLine_36 (fun H locs hM hS => ?_)
      refine lv_aload_n hx hb dX11_knowsLine_39 rfl (lv_at hl 0 rfl) ?_
      refine mg_11_157_0 zc hK hM dX11_knowsLine_40 ?_
      refine lv_if_eq (tgt := 71) hx hb dX11_knowsLine_43 (by decide) (fun hc => ?_) (fun hc => ?_)
      · have hw := hw.1 hc
        refine lv_iconst (v := (1 : Int32)) hx hb dX11_knowsLine_71 (by decide) ?_
        exact zret_zw ⟨f_reached_2, f_begins_2, f_sort_2, f_value_2, f_word_2, f_wrongAt_2, f_laterFault_2, f_laterPlace_2, a_told, a_read_2, r_3, f_good_2⟩ zc hS rfl hw hM dX11_knowsLine_72
      · have hw := hw.2 hc
        refine lv_aload_n hx hb dX11_knowsLine_46 rfl (lv_at hl 0 rfl) ?_
        refine mg_11_38_0 zc hK hM dX11_knowsLine_47 ?_
        refine lv_bipush (v := (37 : Int32)) hx hb dX11_knowsLine_50 (by decide) ?_
        refine lv_aload_n hx hb dX11_knowsLine_52 rfl (lv_at hl 0 rfl) ?_
        refine mg_11_41_0 zc hK hM dX11_knowsLine_53 ?_
        refine lv_iconst (v := (0 : Int32)) hx hb dX11_knowsLine_56 (by decide) ?_
        refine mld_11 zc hK hM (by unfold vp_in; decide) dX11_knowsLine_57 ?_
        refine lv_iadd hx hb dX11_knowsLine_58 ?_
        refine lv_dup2_11 hx hb dX11_knowsLine_59 rfl rfl ?_
        refine mld_10 zc hK hM hw.1 dX11_knowsLine_60 ?_
        have hw := hw.2
        refine lv_iconst (v := (1 : Int32)) hx hb dX11_knowsLine_61 (by decide) ?_
        refine lv_aload_n hx hb dX11_knowsLine_62 rfl (lv_at hl 0 rfl) ?_
        refine mg_11_41_0 zc hK hM dX11_knowsLine_63 ?_
        refine lv_iconst (v := (1 : Int32)) hx hb dX11_knowsLine_66 (by decide) ?_
        refine mld_11 zc hK hM (by unfold vp_in; decide) dX11_knowsLine_67 ?_
        refine lv_ishl hx hb dX11_knowsLine_68 ?_
        refine lv_ior hx hb dX11_knowsLine_69 ?_
        refine lv_topi (fun v_1 ev_1 => ?_)
        have hw := hw v_1 ev_1
        refine mst_10 zc hK hM hS hw.1 dX11_knowsLine_70 (fun a_told_1 H locs ea_told_1 hM hS => ?_)
        have hw := hw.2 a_told_1 ea_told_1
        refine lv_iconst (v := (1 : Int32)) hx hb dX11_knowsLine_71 (by decide) ?_
        exact zret_zw ⟨f_reached_2, f_begins_2, f_sort_2, f_value_2, f_word_2, f_wrongAt_2, f_laterFault_2, f_laterPlace_2, a_told_1, a_read_2, r_3, f_good_2⟩ zc hS rfl hw hM dX11_knowsLine_72
    · have hw := hw.2 hc
      refine lv_iconst (v := (0 : Int32)) hx hb dX11_knowsLine_20 (by decide) ?_
      exact zret_zw ⟨f_reached_2, f_begins_2, f_sort_2, f_value_2, f_word_2, f_wrongAt_2, f_laterFault_2, f_laterPlace_2, a_told, a_read_2, f_farSinger, f_good_2⟩ zc hS rfl hw hM dX11_knowsLine_21
set_option maxRecDepth 20000 in
theorem c_m_knowsLine (l : Launch) {E : zE} {q : Nat} {f_code : Int32} {a_tape : Nat → Int32} {a_size : Nat → Int32} {a_fault : Nat → Int32} {a_faultPlace : Nat → Int32} {a_many : Nat → Int32} {a_lands : Nat → Int32} {a_evenings : Nat → Int32} {a_sights : Nat → Int32} {a_choirs : Nat → Int32} {f_reached : Int32} {f_length : Int32} {f_begins : Int32} {f_sort : Int32} {f_value : Int32} {f_word : Int64} {f_wrongAt : Int32} {f_laterFault : Int32} {f_laterPlace : Int32} {a_told : Nat → Int32} {a_read : Nat → Int32} {f_farHut : Int32} {f_farSinger : Int32} {f_good : Int32} {f_land : Int32} {f_huts : Int32} {f_singers : Int32} {f_evening : Int32} {a_at : Nat → Int32} {a_knows : Nat → Int32} {a_climbed : Nat → Int32} {a_snow : Nat → Int32} {a_level : Nat → Int32} {f_begun : Int32} {f_minute : Int32} {f_avalanches : Int32} {a_run : Nat → Int32} {a_covers : Nat → Int32} {a_routes : Nat → Int32} {a_longest : Nat → Int32} {a_steep : Nat → Int32} {a_laid : Nat → Int32} {a_far : Nat → Int32} {f_sight : Int32} {a_runs : Nat → Int32} {f_choir : Int32} {f_voices : Int32} {a_rest : Nat → Int64} {a_wins : Nat → Int32} {f_seed : Int32} {a_other : Nat → Int32} {a_kept : Nat → Int32} {post : Int32 → (Int32) → (Int32) → (Int32) → (Int32) → (Int64) → (Int32) → (Int32) → (Int32) → (Nat → Int32) → (Nat → Int32) → (Int32) → (Int32) → Prop} (hw : q_m_knowsLine_0 a_tape f_reached f_length f_begins f_sort f_value f_word f_wrongAt f_laterFault f_laterPlace a_told a_read f_farSinger f_good post) : Met l yX11_knowsLine (Cond.code yX11_knowsLine cX11_knowsLine 1 (some .boolean) :: zb) rm_m_knowsLine (va_Pc [.ref q] (fun U => mW E q f_code a_tape a_size a_fault a_faultPlace a_many a_lands a_evenings a_sights a_choirs f_reached f_length f_begins f_sort f_value f_word f_wrongAt f_laterFault f_laterPlace a_told a_read f_farHut f_farSinger f_good f_land f_huts f_singers f_evening a_at a_knows a_climbed a_snow a_level f_begun f_minute f_avalanches a_run a_covers a_routes a_longest a_steep a_laid a_far f_sight a_runs f_choir f_voices a_rest a_wins f_seed a_other a_kept U.heap ∧ zK E U)) (zQi (S := (Int32) × (Int32) × (Int32) × (Int32) × (Int64) × (Int32) × (Int32) × (Int32) × (Nat → Int32) × (Nat → Int32) × (Int32) × (Int32)) (fun r u => post r u.1 u.2.1 u.2.2.1 u.2.2.2.1 u.2.2.2.2.1 u.2.2.2.2.2.1 u.2.2.2.2.2.2.1 u.2.2.2.2.2.2.2.1 u.2.2.2.2.2.2.2.2.1 u.2.2.2.2.2.2.2.2.2.1 u.2.2.2.2.2.2.2.2.2.2.1 u.2.2.2.2.2.2.2.2.2.2.2) (fun u H => mW E q f_code a_tape a_size a_fault a_faultPlace a_many a_lands a_evenings a_sights a_choirs u.1 f_length u.2.1 u.2.2.1 u.2.2.2.1 u.2.2.2.2.1 u.2.2.2.2.2.1 u.2.2.2.2.2.2.1 u.2.2.2.2.2.2.2.1 u.2.2.2.2.2.2.2.2.1 u.2.2.2.2.2.2.2.2.2.1 f_farHut u.2.2.2.2.2.2.2.2.2.2.1 u.2.2.2.2.2.2.2.2.2.2.2 f_land f_huts f_singers f_evening a_at a_knows a_climbed a_snow a_level f_begun f_minute f_avalanches a_run a_covers a_routes a_longest a_steep a_laid a_far f_sight a_runs f_choir f_voices a_rest a_wins f_seed a_other a_kept H) (mA q)) 0 0 (mA q) := by
  refine Met.ofW (cc := cX11_knowsLine) (maxL := 1) (ret := (some .boolean)) (by decide) rfl ?_
  intro p e s m args below meth c s₁ B hml hv
  obtain ⟨rfl, hM, hK⟩ := hv
  have zc := zc_of B hml
  have hl := lv_entry ([.ref q]) (n := 1) (Nat.le_of_ble_eq_true rfl)
  rw [lg_entry_eq]
  generalize (lg_sl ([.ref q]) ++ List.replicate (1 - (lg_sl ([.ref q])).length) Slot.unset).toArray = ls at hl ⊢
  have hl : lv_has ls 1 [(0, .ref q)] := hl
  exact t_m_knowsLine_0 zc hK hM va_S.rf (lv_sub hl [0] rfl) hw
-- m_isLandWord
abbrev rm_m_isLandWord : Room := { frames := 0, cells := 0, slots := 0, locals := 0 }
def q_m_isLandWord_80 (post : Int32 → Prop) : Prop :=
  post (1 : Int32)
def q_m_isLandWord_0 (x1 : Int64) (post : Int32 → Prop) : Prop :=
  ((lg_cmp x1 (6845812 : Int64)) = 0 → (q_m_isLandWord_80 post)) ∧ (¬ (lg_cmp x1 (6845812 : Int64)) = 0 → (((lg_cmp x1 (33329961647564645 : Int64)) = 0 → (q_m_isLandWord_80 post)) ∧ (¬ (lg_cmp x1 (33329961647564645 : Int64)) = 0 → (((lg_cmp x1 (6578541 : Int64)) = 0 → (q_m_isLandWord_80 post)) ∧ (¬ (lg_cmp x1 (6578541 : Int64)) = 0 → (((lg_cmp x1 (1684366704 : Int64)) = 0 → (q_m_isLandWord_80 post)) ∧ (¬ (lg_cmp x1 (1684366704 : Int64)) = 0 → (((lg_cmp x1 (495740085349 : Int64)) = 0 → (q_m_isLandWord_80 post)) ∧ (¬ (lg_cmp x1 (495740085349 : Int64)) = 0 → (((lg_cmp x1 (7823737 : Int64)) = 0 → (q_m_isLandWord_80 post)) ∧ (¬ (lg_cmp x1 (7823737 : Int64)) = 0 → (((lg_cmp x1 (1701013615 : Int64)) = 0 → (q_m_isLandWord_80 post)) ∧ (¬ (lg_cmp x1 (1701013615 : Int64)) = 0 → (((lg_cmp x1 (119165551928690 : Int64)) = 0 → (q_m_isLandWord_80 post)) ∧ (¬ (lg_cmp x1 (119165551928690 : Int64)) = 0 → (((lg_cmp x1 (126896661030258 : Int64)) = 0 → (q_m_isLandWord_80 post)) ∧ (¬ (lg_cmp x1 (126896661030258 : Int64)) = 0 → ((¬ (lg_cmp x1 (461414299507 : Int64)) = 0 → (post (0 : Int32))) ∧ ((lg_cmp x1 (461414299507 : Int64)) = 0 → (q_m_isLandWord_80 post))))))))))))))))))))
set_option maxRecDepth 20000 in
theorem t_m_isLandWord_80 {p : Program} {l : Launch} {e : Env} {s : State} {m : MethodId} {args : Array Value} {below : List Frame} {meth : Method} {c : Code} {E : zE} {q : Nat} {f_code : Int32} {a_tape : Nat → Int32} {a_size : Nat → Int32} {a_fault : Nat → Int32} {a_faultPlace : Nat → Int32} {a_many : Nat → Int32} {a_lands : Nat → Int32} {a_evenings : Nat → Int32} {a_sights : Nat → Int32} {a_choirs : Nat → Int32} {f_reached : Int32} {f_length : Int32} {f_begins : Int32} {f_sort : Int32} {f_value : Int32} {f_word : Int64} {f_wrongAt : Int32} {f_laterFault : Int32} {f_laterPlace : Int32} {a_told : Nat → Int32} {a_read : Nat → Int32} {f_farHut : Int32} {f_farSinger : Int32} {f_good : Int32} {f_land : Int32} {f_huts : Int32} {f_singers : Int32} {f_evening : Int32} {a_at : Nat → Int32} {a_knows : Nat → Int32} {a_climbed : Nat → Int32} {a_snow : Nat → Int32} {a_level : Nat → Int32} {f_begun : Int32} {f_minute : Int32} {f_avalanches : Int32} {a_run : Nat → Int32} {a_covers : Nat → Int32} {a_routes : Nat → Int32} {a_longest : Nat → Int32} {a_steep : Nat → Int32} {a_laid : Nat → Int32} {a_far : Nat → Int32} {f_sight : Int32} {a_runs : Nat → Int32} {f_choir : Int32} {f_voices : Int32} {a_rest : Nat → Int64} {a_wins : Nat → Int32} {f_seed : Int32} {a_other : Nat → Int32} {a_kept : Nat → Int32} {post : Int32 → Prop} {ls : Array Slot}
    (zc : zC p s m args meth c cX11_isLandWord 3 RX11 (some .boolean))
    (hK : zK E s)
    (hM : mW E q f_code a_tape a_size a_fault a_faultPlace a_many a_lands a_evenings a_sights a_choirs f_reached f_length f_begins f_sort f_value f_word f_wrongAt f_laterFault f_laterPlace a_told a_read f_farHut f_farSinger f_good f_land f_huts f_singers f_evening a_at a_knows a_climbed a_snow a_level f_begun f_minute f_avalanches a_run a_covers a_routes a_longest a_steep a_laid a_far f_sight a_runs f_choir f_voices a_rest a_wins f_seed a_other a_kept s.heap)
    (hl : lv_has ls 3 [])
    (hw : q_m_isLandWord_80 post) :
    W p l e rm_m_isLandWord s m args below meth c s.heap [] 0 0 (MQ below (vp_Si post) args s 0 0 (fun _ => False)) (F0 m 80 ls []) := by
  have hx := zc.1
  have hb := zc.2.1
  refine lv_iconst (v := (1 : Int32)) hx hb dX11_isLandWord_80 (by decide) ?_
  refine lv_goto (tgt := 85) hx hb dX11_isLandWord_81 (by decide) ?_
  exact zret_z zc rfl hw dX11_isLandWord_85
set_option maxRecDepth 20000 in
theorem t_m_isLandWord_0 {p : Program} {l : Launch} {e : Env} {s : State} {m : MethodId} {args : Array Value} {below : List Frame} {meth : Method} {c : Code} {E : zE} {q : Nat} {f_code : Int32} {a_tape : Nat → Int32} {a_size : Nat → Int32} {a_fault : Nat → Int32} {a_faultPlace : Nat → Int32} {a_many : Nat → Int32} {a_lands : Nat → Int32} {a_evenings : Nat → Int32} {a_sights : Nat → Int32} {a_choirs : Nat → Int32} {f_reached : Int32} {f_length : Int32} {f_begins : Int32} {f_sort : Int32} {f_value : Int32} {f_word : Int64} {f_wrongAt : Int32} {f_laterFault : Int32} {f_laterPlace : Int32} {a_told : Nat → Int32} {a_read : Nat → Int32} {f_farHut : Int32} {f_farSinger : Int32} {f_good : Int32} {f_land : Int32} {f_huts : Int32} {f_singers : Int32} {f_evening : Int32} {a_at : Nat → Int32} {a_knows : Nat → Int32} {a_climbed : Nat → Int32} {a_snow : Nat → Int32} {a_level : Nat → Int32} {f_begun : Int32} {f_minute : Int32} {f_avalanches : Int32} {a_run : Nat → Int32} {a_covers : Nat → Int32} {a_routes : Nat → Int32} {a_longest : Nat → Int32} {a_steep : Nat → Int32} {a_laid : Nat → Int32} {a_far : Nat → Int32} {f_sight : Int32} {a_runs : Nat → Int32} {f_choir : Int32} {f_voices : Int32} {a_rest : Nat → Int64} {a_wins : Nat → Int32} {f_seed : Int32} {a_other : Nat → Int32} {a_kept : Nat → Int32} {post : Int32 → Prop} {x1 : Int64} {ls : Array Slot}
    (zc : zC p s m args meth c cX11_isLandWord 3 RX11 (some .boolean))
    (hK : zK E s)
    (hM : mW E q f_code a_tape a_size a_fault a_faultPlace a_many a_lands a_evenings a_sights a_choirs f_reached f_length f_begins f_sort f_value f_word f_wrongAt f_laterFault f_laterPlace a_told a_read f_farHut f_farSinger f_good f_land f_huts f_singers f_evening a_at a_knows a_climbed a_snow a_level f_begun f_minute f_avalanches a_run a_covers a_routes a_longest a_steep a_laid a_far f_sight a_runs f_choir f_voices a_rest a_wins f_seed a_other a_kept s.heap)
    (hl : lv_has ls 3 [(1, .long x1)])
    (hw : q_m_isLandWord_0 x1 post) :
    W p l e rm_m_isLandWord s m args below meth c s.heap [] 0 0 (MQ below (vp_Si post) args s 0 0 (fun _ => False)) (F0 m 0 ls []) := by
  have hx := zc.1
  have hb := zc.2.1
  refine lv_lload_n hx hb dX11_isLandWord_0 rfl (lv_at hl 0 rfl) ?_
  refine lv_ldc2 (v := (6845812 : Int64)) hx hb zc.2.2.2.1 (zc.2.2.2.2.1 _ kc_11_187) dX11_isLandWord_1 ?_
  refine W.lcmp hx hb dX11_isLandWord_4 ?_
  refine lv_if_eq (tgt := 80) hx hb dX11_isLandWord_5 (by decide) (fun hc => ?_) (fun hc => ?_)
  · have hw := hw.1 hc
    exact t_m_isLandWord_80 zc hK hM  (lv_sub hl [] rfl) hw
  · have hw := hw.2 hc
    refine lv_lload_n hx hb dX11_isLandWord_8 rfl (lv_at hl 0 rfl) ?_
    refine lv_ldc2 (v := (33329961647564645 : Int64)) hx hb zc.2.2.2.1 (zc.2.2.2.2.1 _ kc_11_189) dX11_isLandWord_9 ?_
    refine W.lcmp hx hb dX11_isLandWord_12 ?_
    refine lv_if_eq (tgt := 80) hx hb dX11_isLandWord_13 (by decide) (fun hc => ?_) (fun hc => ?_)
    · have hw := hw.1 hc
      exact t_m_isLandWord_80 zc hK hM  (lv_sub hl [] rfl) hw
    · have hw := hw.2 hc
      refine lv_lload_n hx hb dX11_isLandWord_16 rfl (lv_at hl 0 rfl) ?_
      refine lv_ldc2 (v := (6578541 : Int64)) hx hb zc.2.2.2.1 (zc.2.2.2.2.1 _ kc_11_191) dX11_isLandWord_17 ?_
      refine W.lcmp hx hb dX11_isLandWord_20 ?_
      refine lv_if_eq (tgt := 80) hx hb dX11_isLandWord_21 (by decide) (fun hc => ?_) (fun hc => ?_)
      · have hw := hw.1 hc
        exact t_m_isLandWord_80 zc hK hM  (lv_sub hl [] rfl) hw
      · have hw := hw.2 hc
        refine lv_lload_n hx hb dX11_isLandWord_24 rfl (lv_at hl 0 rfl) ?_
        refine lv_ldc2 (v := (1684366704 : Int64)) hx hb zc.2.2.2.1 (zc.2.2.2.2.1 _ kc_11_193) dX11_isLandWord_25 ?_
        refine W.lcmp hx hb dX11_isLandWord_28 ?_
        refine lv_if_eq (tgt := 80) hx hb dX11_isLandWord_29 (by decide) (fun hc => ?_) (fun hc => ?_)
        · have hw := hw.1 hc
          exact t_m_isLandWord_80 zc hK hM  (lv_sub hl [] rfl) hw
        · have hw := hw.2 hc
          refine lv_lload_n hx hb dX11_isLandWord_32 rfl (lv_at hl 0 rfl) ?_
          refine lv_ldc2 (v := (495740085349 : Int64)) hx hb zc.2.2.2.1 (zc.2.2.2.2.1 _ kc_11_195) dX11_isLandWord_33 ?_
          refine W.lcmp hx hb dX11_isLandWord_36 ?_
          refine lv_if_eq (tgt := 80) hx hb dX11_isLandWord_37 (by decide) (fun hc => ?_) (fun hc => ?_)
          · have hw := hw.1 hc
            exact t_m_isLandWord_80 zc hK hM  (lv_sub hl [] rfl) hw
          · have hw := hw.2 hc
            refine lv_lload_n hx hb dX11_isLandWord_40 rfl (lv_at hl 0 rfl) ?_
            refine lv_ldc2 (v := (7823737 : Int64)) hx hb zc.2.2.2.1 (zc.2.2.2.2.1 _ kc_11_197) dX11_isLandWord_41 ?_
            refine W.lcmp hx hb dX11_isLandWord_44 ?_
            refine lv_if_eq (tgt := 80) hx hb dX11_isLandWord_45 (by decide) (fun hc => ?_) (fun hc => ?_)
            · have hw := hw.1 hc
              exact t_m_isLandWord_80 zc hK hM  (lv_sub hl [] rfl) hw
            · have hw := hw.2 hc
              refine lv_lload_n hx hb dX11_isLandWord_48 rfl (lv_at hl 0 rfl) ?_
              refine lv_ldc2 (v := (1701013615 : Int64)) hx hb zc.2.2.2.1 (zc.2.2.2.2.1 _ kc_11_199) dX11_isLandWord_49 ?_
              refine W.lcmp hx hb dX11_isLandWord_52 ?_
              refine lv_if_eq (tgt := 80) hx hb dX11_isLandWord_53 (by decide) (fun hc => ?_) (fun hc => ?_)
              · have hw := hw.1 hc
                exact t_m_isLandWord_80 zc hK hM  (lv_sub hl [] rfl) hw
              · have hw := hw.2 hc
                refine lv_lload_n hx hb dX11_isLandWord_56 rfl (lv_at hl 0 rfl) ?_
                refine lv_ldc2 (v := (119165551928690 : Int64)) hx hb zc.2.2.2.1 (zc.2.2.2.2.1 _ kc_11_201) dX11_isLandWord_57 ?_
                refine W.lcmp hx hb dX11_isLandWord_60 ?_
                refine lv_if_eq (tgt := 80) hx hb dX11_isLandWord_61 (by decide) (fun hc => ?_) (fun hc => ?_)
                · have hw := hw.1 hc
                  exact t_m_isLandWord_80 zc hK hM  (lv_sub hl [] rfl) hw
                · have hw := hw.2 hc
                  refine lv_lload_n hx hb dX11_isLandWord_64 rfl (lv_at hl 0 rfl) ?_
                  refine lv_ldc2 (v := (126896661030258 : Int64)) hx hb zc.2.2.2.1 (zc.2.2.2.2.1 _ kc_11_203) dX11_isLandWord_65 ?_
                  refine W.lcmp hx hb dX11_isLandWord_68 ?_
                  refine lv_if_eq (tgt := 80) hx hb dX11_isLandWord_69 (by decide) (fun hc => ?_) (fun hc => ?_)
                  · have hw := hw.1 hc
                    exact t_m_isLandWord_80 zc hK hM  (lv_sub hl [] rfl) hw
                  · have hw := hw.2 hc
                    refine lv_lload_n hx hb dX11_isLandWord_72 rfl (lv_at hl 0 rfl) ?_
                    refine lv_ldc2 (v := (461414299507 : Int64)) hx hb zc.2.2.2.1 (zc.2.2.2.2.1 _ kc_11_205) dX11_isLandWord_73 ?_
                    refine W.lcmp hx hb dX11_isLandWord_76 ?_
                    refine lv_if_ne (tgt := 84) hx hb dX11_isLandWord_77 (by decide) (fun hc => ?_) (fun hc => ?_)
                    · have hw := hw.1 hc
                      refine lv_iconst (v := (0 : Int32)) hx hb dX11_isLandWord_84 (by decide) ?_
                      exact zret_z zc rfl hw dX11_isLandWord_85
                    · have hw := hw.2 hc
                      exact t_m_isLandWord_80 zc hK hM  (lv_sub hl [] rfl) hw
set_option maxRecDepth 20000 in
theorem c_m_isLandWord (l : Launch) {E : zE} {q : Nat} {f_code : Int32} {a_tape : Nat → Int32} {a_size : Nat → Int32} {a_fault : Nat → Int32} {a_faultPlace : Nat → Int32} {a_many : Nat → Int32} {a_lands : Nat → Int32} {a_evenings : Nat → Int32} {a_sights : Nat → Int32} {a_choirs : Nat → Int32} {f_reached : Int32} {f_length : Int32} {f_begins : Int32} {f_sort : Int32} {f_value : Int32} {f_word : Int64} {f_wrongAt : Int32} {f_laterFault : Int32} {f_laterPlace : Int32} {a_told : Nat → Int32} {a_read : Nat → Int32} {f_farHut : Int32} {f_farSinger : Int32} {f_good : Int32} {f_land : Int32} {f_huts : Int32} {f_singers : Int32} {f_evening : Int32} {a_at : Nat → Int32} {a_knows : Nat → Int32} {a_climbed : Nat → Int32} {a_snow : Nat → Int32} {a_level : Nat → Int32} {f_begun : Int32} {f_minute : Int32} {f_avalanches : Int32} {a_run : Nat → Int32} {a_covers : Nat → Int32} {a_routes : Nat → Int32} {a_longest : Nat → Int32} {a_steep : Nat → Int32} {a_laid : Nat → Int32} {a_far : Nat → Int32} {f_sight : Int32} {a_runs : Nat → Int32} {f_choir : Int32} {f_voices : Int32} {a_rest : Nat → Int64} {a_wins : Nat → Int32} {f_seed : Int32} {a_other : Nat → Int32} {a_kept : Nat → Int32} {x1 : Int64} {post : Int32 → Prop} (hw : q_m_isLandWord_0 x1 post) : Met l yX11_isLandWord (Cond.code yX11_isLandWord cX11_isLandWord 3 (some .boolean) :: zb) rm_m_isLandWord (va_Pc [.ref q, .long x1] (fun U => mW E q f_code a_tape a_size a_fault a_faultPlace a_many a_lands a_evenings a_sights a_choirs f_reached f_length f_begins f_sort f_value f_word f_wrongAt f_laterFault f_laterPlace a_told a_read f_farHut f_farSinger f_good f_land f_huts f_singers f_evening a_at a_knows a_climbed a_snow a_level f_begun f_minute f_avalanches a_run a_covers a_routes a_longest a_steep a_laid a_far f_sight a_runs f_choir f_voices a_rest a_wins f_seed a_other a_kept U.heap ∧ zK E U)) (vp_Si post) 0 0 (fun _ => False) := by
  refine Met.ofW (cc := cX11_isLandWord) (maxL := 3) (ret := (some .boolean)) (by decide) rfl ?_
  intro p e s m args below meth c s₁ B hml hv
  obtain ⟨rfl, hM, hK⟩ := hv
  have zc := zc_of B hml
  have hl := lv_entry ([.ref q, .long x1]) (n := 3) (Nat.le_of_ble_eq_true rfl)
  rw [lg_entry_eq]
  generalize (lg_sl ([.ref q, .long x1]) ++ List.replicate (3 - (lg_sl ([.ref q, .long x1])).length) Slot.unset).toArray = ls at hl ⊢
  have hl : lv_has ls 3 [(0, .ref q), (1, .long x1)] := hl
  exact t_m_isLandWord_0 zc hK hM (lv_sub hl [1] rfl) hw
-- m_landLine
abbrev rm_m_landLine : Room := { frames := 5, cells := 0, slots := 0, locals := 114 }
def q_m_landLine_107 (a_tape : Nat → Int32) (f_reached : Int32) (f_length : Int32) (f_begins : Int32) (f_sort : Int32) (f_value : Int32) (f_word : Int64) (f_wrongAt : Int32) (f_laterFault : Int32) (f_laterPlace : Int32) (a_told : Nat → Int32) (a_read : Nat → Int32) (f_farHut : Int32) (f_farSinger : Int32) (f_good : Int32) (y0 : Int32) (post : Int32 → (Int32) → (Int32) → (Int32) → (Int32) → (Int64) → (Int32) → (Int32) → (Int32) → (Nat → Int32) → (Nat → Int32) → (Int32) → (Int32) → (Int32) → Prop) : Prop :=
  q_m_bitLine_0 a_tape f_reached f_length f_begins f_sort f_value f_word f_wrongAt f_laterFault f_laterPlace a_told a_read f_farHut f_good y0 (fun r_1 f_reached_1 f_begins_1 f_sort_1 f_value_1 f_word_1 f_wrongAt_1 f_laterFault_1 f_laterPlace_1 a_told_1 a_read_1 f_farHut_1 f_good_1 => narrow .boolean (.int r_1) = .int r_1 ∧ post r_1 f_reached_1 f_begins_1 f_sort_1 f_value_1 f_word_1 f_wrongAt_1 f_laterFault_1 f_laterPlace_1 a_told_1 a_read_1 f_farHut_1 f_farSinger f_good_1)
def q_m_landLine_93 (a_tape : Nat → Int32) (f_reached : Int32) (f_length : Int32) (f_begins : Int32) (f_sort : Int32) (f_value : Int32) (f_word : Int64) (f_wrongAt : Int32) (f_laterFault : Int32) (f_laterPlace : Int32) (a_told : Nat → Int32) (a_read : Nat → Int32) (f_farHut : Int32) (f_farSinger : Int32) (f_good : Int32) (x1 : Int64) (post : Int32 → (Int32) → (Int32) → (Int32) → (Int32) → (Int64) → (Int32) → (Int32) → (Int32) → (Nat → Int32) → (Nat → Int32) → (Int32) → (Int32) → (Int32) → Prop) : Prop :=
  (¬ (lg_cmp x1 (33329961647564645 : Int64)) = 0 → (q_m_landLine_107 a_tape f_reached f_length f_begins f_sort f_value f_word f_wrongAt f_laterFault f_laterPlace a_told a_read f_farHut f_farSinger f_good (3 : Int32) post)) ∧ ((lg_cmp x1 (33329961647564645 : Int64)) = 0 → (q_m_landLine_107 a_tape f_reached f_length f_begins f_sort f_value f_word f_wrongAt f_laterFault f_laterPlace a_told a_read f_farHut f_farSinger f_good (2 : Int32) post))
def q_m_landLine_60 (a_tape : Nat → Int32) (f_reached : Int32) (f_length : Int32) (f_begins : Int32) (f_sort : Int32) (f_value : Int32) (f_word : Int64) (f_wrongAt : Int32) (f_laterFault : Int32) (f_laterPlace : Int32) (a_told : Nat → Int32) (a_read : Nat → Int32) (f_farHut : Int32) (f_farSinger : Int32) (f_good : Int32) (x1 : Int64) (post : Int32 → (Int32) → (Int32) → (Int32) → (Int32) → (Int64) → (Int32) → (Int32) → (Int32) → (Nat → Int32) → (Nat → Int32) → (Int32) → (Int32) → (Int32) → Prop) : Prop :=
  q_m_token_0 a_tape f_reached f_length f_begins f_sort f_value f_word (fun f_reached_1 f_begins_1 f_sort_1 f_value_1 f_word_1 => (¬ (lg_cmp x1 (6845812 : Int64)) = 0 → (((lg_cmp x1 (33329961647564645 : Int64)) = 0 → (q_m_landLine_93 a_tape f_reached_1 f_length f_begins_1 f_sort_1 f_value_1 f_word_1 f_wrongAt f_laterFault f_laterPlace a_told a_read f_farHut f_farSinger f_good x1 post)) ∧ (¬ (lg_cmp x1 (33329961647564645 : Int64)) = 0 → ((¬ (lg_cmp x1 (6578541 : Int64)) = 0 → ((¬ (lg_cmp x1 (1684366704 : Int64)) = 0 → ((¬ (lg_cmp x1 (495740085349 : Int64)) = 0 → ((¬ (lg_cmp x1 (7823737 : Int64)) = 0 → ((¬ (lg_cmp x1 (1701013615 : Int64)) = 0 → ((¬ (lg_cmp x1 (119165551928690 : Int64)) = 0 → ((¬ (lg_cmp x1 (126896661030258 : Int64)) = 0 → (q_m_knowsLine_0 a_tape f_reached_1 f_length f_begins_1 f_sort_1 f_value_1 f_word_1 f_wrongAt f_laterFault f_laterPlace a_told a_read f_farSinger f_good (fun r_1 f_reached_2 f_begins_2 f_sort_2 f_value_2 f_word_2 f_wrongAt_1 f_laterFault_1 f_laterPlace_1 a_told_1 a_read_1 f_farSinger_1 f_good_1 => narrow .boolean (.int r_1) = .int r_1 ∧ post r_1 f_reached_2 f_begins_2 f_sort_2 f_value_2 f_word_2 f_wrongAt_1 f_laterFault_1 f_laterPlace_1 a_told_1 a_read_1 f_farHut f_farSinger_1 f_good_1))) ∧ ((lg_cmp x1 (126896661030258 : Int64)) = 0 → (q_m_singerLine_0 a_tape f_reached_1 f_length f_begins_1 f_sort_1 f_value_1 f_word_1 f_wrongAt f_laterFault f_laterPlace a_told a_read f_farHut f_good (fun r_2 f_reached_3 f_begins_3 f_sort_3 f_value_3 f_word_3 f_wrongAt_2 f_laterFault_2 f_laterPlace_2 a_told_2 a_read_2 f_farHut_1 f_good_2 => narrow .boolean (.int r_2) = .int r_2 ∧ post r_2 f_reached_3 f_begins_3 f_sort_3 f_value_3 f_word_3 f_wrongAt_2 f_laterFault_2 f_laterPlace_2 a_told_2 a_read_2 f_farHut_1 f_farSinger f_good_2))))) ∧ ((lg_cmp x1 (119165551928690 : Int64)) = 0 → (q_m_ladderLine_0 a_tape f_reached_1 f_length f_begins_1 f_sort_1 f_value_1 f_word_1 f_wrongAt f_laterFault f_laterPlace a_told a_read f_farHut f_good (fun r_3 f_reached_4 f_begins_4 f_sort_4 f_value_4 f_word_4 f_wrongAt_3 f_laterFault_3 f_laterPlace_3 a_told_3 a_read_3 f_farHut_2 f_good_3 => narrow .boolean (.int r_3) = .int r_3 ∧ post r_3 f_reached_4 f_begins_4 f_sort_4 f_value_4 f_word_4 f_wrongAt_3 f_laterFault_3 f_laterPlace_3 a_told_3 a_read_3 f_farHut_2 f_farSinger f_good_3))))) ∧ ((lg_cmp x1 (1701013615 : Int64)) = 0 → (q_m_echoLine_0 a_tape f_reached_1 f_length f_begins_1 f_sort_1 f_value_1 f_word_1 f_wrongAt f_laterFault f_laterPlace a_told a_read f_farHut f_good (fun r_4 f_reached_5 f_begins_5 f_sort_5 f_value_5 f_word_5 f_wrongAt_4 f_laterFault_4 f_laterPlace_4 a_told_4 a_read_4 f_farHut_3 f_good_4 => narrow .boolean (.int r_4) = .int r_4 ∧ post r_4 f_reached_5 f_begins_5 f_sort_5 f_value_5 f_word_5 f_wrongAt_4 f_laterFault_4 f_laterPlace_4 a_told_4 a_read_4 f_farHut_3 f_farSinger f_good_4))))) ∧ ((lg_cmp x1 (7823737 : Int64)) = 0 → (q_m_wayLine_0 a_tape f_reached_1 f_length f_begins_1 f_sort_1 f_value_1 f_word_1 f_wrongAt f_laterFault f_laterPlace a_told a_read f_farHut f_good (fun r_5 f_reached_6 f_begins_6 f_sort_6 f_value_6 f_word_6 f_wrongAt_5 f_laterFault_5 f_laterPlace_5 a_told_5 a_read_5 f_farHut_4 f_good_5 => narrow .boolean (.int r_5) = .int r_5 ∧ post r_5 f_reached_6 f_begins_6 f_sort_6 f_value_6 f_word_6 f_wrongAt_5 f_laterFault_5 f_laterPlace_5 a_told_5 a_read_5 f_farHut_4 f_farSinger f_good_5))))) ∧ ((lg_cmp x1 (495740085349 : Int64)) = 0 → (q_m_plainLine_0 a_tape f_reached_1 f_length f_begins_1 f_sort_1 f_value_1 f_word_1 f_wrongAt f_laterFault f_laterPlace a_told a_read f_good (6 : Int32) (0 : Int32) (10 : Int32) (fun r_6 f_reached_7 f_begins_7 f_sort_7 f_value_7 f_word_7 f_wrongAt_6 f_laterFault_6 f_laterPlace_6 a_told_6 a_read_6 f_good_6 => narrow .boolean (.int r_6) = .int r_6 ∧ post r_6 f_reached_7 f_begins_7 f_sort_7 f_value_7 f_word_7 f_wrongAt_6 f_laterFault_6 f_laterPlace_6 a_told_6 a_read_6 f_farHut f_farSinger f_good_6))))) ∧ ((lg_cmp x1 (1684366704 : Int64)) = 0 → (q_m_plainLine_0 a_tape f_reached_1 f_length f_begins_1 f_sort_1 f_value_1 f_word_1 f_wrongAt f_laterFault f_laterPlace a_told a_read f_good (5 : Int32) (1 : Int32) (9 : Int32) (fun r_7 f_reached_8 f_begins_8 f_sort_8 f_value_8 f_word_8 f_wrongAt_7 f_laterFault_7 f_laterPlace_7 a_told_7 a_read_7 f_good_7 => narrow .boolean (.int r_7) = .int r_7 ∧ post r_7 f_reached_8 f_begins_8 f_sort_8 f_value_8 f_word_8 f_wrongAt_7 f_laterFault_7 f_laterPlace_7 a_told_7 a_read_7 f_farHut f_farSinger f_good_7))))) ∧ ((lg_cmp x1 (6578541 : Int64)) = 0 → (q_m_landLine_93 a_tape f_reached_1 f_length f_begins_1 f_sort_1 f_value_1 f_word_1 f_wrongAt f_laterFault f_laterPlace a_told a_read f_farHut f_farSinger f_good x1 post)))))) ∧ ((lg_cmp x1 (6845812 : Int64)) = 0 → (q_m_hutLine_0 a_tape f_reached_1 f_length f_begins_1 f_sort_1 f_value_1 f_word_1 f_wrongAt f_laterFault f_laterPlace a_told a_read f_good (fun r_8 f_reached_9 f_begins_9 f_sort_9 f_value_9 f_word_9 f_wrongAt_8 f_laterFault_8 f_laterPlace_8 a_told_8 a_read_8 f_good_8 => narrow .boolean (.int r_8) = .int r_8 ∧ post r_8 f_reached_9 f_begins_9 f_sort_9 f_value_9 f_word_9 f_wrongAt_8 f_laterFault_8 f_laterPlace_8 a_told_8 a_read_8 f_farHut f_farSinger f_good_8))))
def q_m_landLine_44 (a_tape : Nat → Int32) (f_reached : Int32) (f_length : Int32) (f_begins : Int32) (f_sort : Int32) (f_value : Int32) (f_word : Int64) (f_wrongAt : Int32) (f_laterFault : Int32) (f_laterPlace : Int32) (a_told : Nat → Int32) (a_read : Nat → Int32) (f_farHut : Int32) (f_farSinger : Int32) (f_good : Int32) (x1 : Int64) (x3 : Int32) (post : Int32 → (Int32) → (Int32) → (Int32) → (Int32) → (Int64) → (Int32) → (Int32) → (Int32) → (Nat → Int32) → (Nat → Int32) → (Int32) → (Int32) → (Int32) → Prop) : Prop :=
  (¬ (lg_cmp x1 (126896661030258 : Int64)) = 0 → (q_m_landLine_60 a_tape f_reached f_length f_begins f_sort f_value f_word f_wrongAt f_laterFault f_laterPlace a_told a_read f_farHut f_farSinger f_good x1 post)) ∧ ((lg_cmp x1 (126896661030258 : Int64)) = 0 → (q_m_full_0 f_laterFault f_laterPlace a_told (1 : Int32) (6 : Int32) x3 (fun f_laterFault_1 f_laterPlace_1 => q_m_landLine_60 a_tape f_reached f_length f_begins f_sort f_value f_word f_wrongAt f_laterFault_1 f_laterPlace_1 a_told a_read f_farHut f_farSinger f_good x1 post)))
def q_m_landLine_29 (a_tape : Nat → Int32) (f_reached : Int32) (f_length : Int32) (f_begins : Int32) (f_sort : Int32) (f_value : Int32) (f_word : Int64) (f_wrongAt : Int32) (f_laterFault : Int32) (f_laterPlace : Int32) (a_told : Nat → Int32) (a_read : Nat → Int32) (f_farHut : Int32) (f_farSinger : Int32) (f_good : Int32) (x1 : Int64) (x3 : Int32) (post : Int32 → (Int32) → (Int32) → (Int32) → (Int32) → (Int64) → (Int32) → (Int32) → (Int32) → (Nat → Int32) → (Nat → Int32) → (Int32) → (Int32) → (Int32) → Prop) : Prop :=
  (¬ (lg_cmp x1 (1701013615 : Int64)) = 0 → (q_m_landLine_44 a_tape f_reached f_length f_begins f_sort f_value f_word f_wrongAt f_laterFault f_laterPlace a_told a_read f_farHut f_farSinger f_good x1 x3 post)) ∧ ((lg_cmp x1 (1701013615 : Int64)) = 0 → (q_m_full_0 f_laterFault f_laterPlace a_told (4 : Int32) (4 : Int32) x3 (fun f_laterFault_1 f_laterPlace_1 => q_m_landLine_44 a_tape f_reached f_length f_begins f_sort f_value f_word f_wrongAt f_laterFault_1 f_laterPlace_1 a_told a_read f_farHut f_farSinger f_good x1 x3 post)))
def q_m_landLine_0 (a_tape : Nat → Int32) (f_reached : Int32) (f_length : Int32) (f_begins : Int32) (f_sort : Int32) (f_value : Int32) (f_word : Int64) (f_wrongAt : Int32) (f_laterFault : Int32) (f_laterPlace : Int32) (a_told : Nat → Int32) (a_read : Nat → Int32) (f_farHut : Int32) (f_farSinger : Int32) (f_good : Int32) (x1 : Int64) (x3 : Int32) (post : Int32 → (Int32) → (Int32) → (Int32) → (Int32) → (Int64) → (Int32) → (Int32) → (Int32) → (Nat → Int32) → (Nat → Int32) → (Int32) → (Int32) → (Int32) → Prop) : Prop :=
  q_m_isLandWord_0 x1 (fun r_1 => (¬ r_1 = 0 → ((¬ (lg_cmp x1 (6845812 : Int64)) = 0 → (q_m_landLine_29 a_tape f_reached f_length f_begins f_sort f_value f_word f_wrongAt f_laterFault f_laterPlace a_told a_read f_farHut f_farSinger f_good x1 x3 post)) ∧ ((lg_cmp x1 (6845812 : Int64)) = 0 → (q_m_full_0 f_laterFault f_laterPlace a_told (0 : Int32) (9 : Int32) x3 (fun f_laterFault_1 f_laterPlace_1 => q_m_landLine_29 a_tape f_reached f_length f_begins f_sort f_value f_word f_wrongAt f_laterFault_1 f_laterPlace_1 a_told a_read f_farHut f_farSinger f_good x1 x3 post))))) ∧ (r_1 = 0 → (q_m_fails_0 f_begins f_wrongAt (fun r_2 f_wrongAt_1 => narrow .boolean (.int r_2) = .int r_2 ∧ post r_2 f_reached f_begins f_sort f_value f_word f_wrongAt_1 f_laterFault f_laterPlace a_told a_read f_farHut f_farSinger f_good))))
set_option maxRecDepth 20000 in
theorem t_m_landLine_107 {p : Program} {l : Launch} {e : Env} {s : State} {m : MethodId} {args : Array Value} {below : List Frame} {meth : Method} {c : Code} {E : zE} {q : Nat} {f_code : Int32} {a_tape : Nat → Int32} {a_size : Nat → Int32} {a_fault : Nat → Int32} {a_faultPlace : Nat → Int32} {a_many : Nat → Int32} {a_lands : Nat → Int32} {a_evenings : Nat → Int32} {a_sights : Nat → Int32} {a_choirs : Nat → Int32} {f_reached : Int32} {f_length : Int32} {f_begins : Int32} {f_sort : Int32} {f_value : Int32} {f_word : Int64} {f_wrongAt : Int32} {f_laterFault : Int32} {f_laterPlace : Int32} {a_told : Nat → Int32} {a_read : Nat → Int32} {f_farHut : Int32} {f_farSinger : Int32} {f_good : Int32} {f_land : Int32} {f_huts : Int32} {f_singers : Int32} {f_evening : Int32} {a_at : Nat → Int32} {a_knows : Nat → Int32} {a_climbed : Nat → Int32} {a_snow : Nat → Int32} {a_level : Nat → Int32} {f_begun : Int32} {f_minute : Int32} {f_avalanches : Int32} {a_run : Nat → Int32} {a_covers : Nat → Int32} {a_routes : Nat → Int32} {a_longest : Nat → Int32} {a_steep : Nat → Int32} {a_laid : Nat → Int32} {a_far : Nat → Int32} {f_sight : Int32} {a_runs : Nat → Int32} {f_choir : Int32} {f_voices : Int32} {a_rest : Nat → Int64} {a_wins : Nat → Int32} {f_seed : Int32} {a_other : Nat → Int32} {a_kept : Nat → Int32} {post : Int32 → (Int32) → (Int32) → (Int32) → (Int32) → (Int64) → (Int32) → (Int32) → (Int32) → (Nat → Int32) → (Nat → Int32) → (Int32) → (Int32) → (Int32) → Prop} {y0 : Int32} {ls : Array Slot} {H : Heap} {locs : List Loc}
    (zc : zC p s m args meth c cX11_landLine 4 RX11 (some .boolean))
    (hK : zK E s)
    (hM : mW E q f_code a_tape a_size a_fault a_faultPlace a_many a_lands a_evenings a_sights a_choirs f_reached f_length f_begins f_sort f_value f_word f_wrongAt f_laterFault f_laterPlace a_told a_read f_farHut f_farSinger f_good f_land f_huts f_singers f_evening a_at a_knows a_climbed a_snow a_level f_begun f_minute f_avalanches a_run a_covers a_routes a_longest a_steep a_laid a_far f_sight a_runs f_choir f_voices a_rest a_wins f_seed a_other a_kept H)
    (hS : va_S (mA q) s.heap H locs)
    (hl : lv_has ls 4 [])
    (hw : q_m_landLine_107 a_tape f_reached f_length f_begins f_sort f_value f_word f_wrongAt f_laterFault f_laterPlace a_told a_read f_farHut f_farSinger f_good y0 post) :
    W p l e rm_m_landLine s m args below meth c H locs 0 0 (MQ below (zQi (S := (Int32) × (Int32) × (Int32) × (Int32) × (Int64) × (Int32) × (Int32) × (Int32) × (Nat → Int32) × (Nat → Int32) × (Int32) × (Int32) × (Int32)) (fun r u => post r u.1 u.2.1 u.2.2.1 u.2.2.2.1 u.2.2.2.2.1 u.2.2.2.2.2.1 u.2.2.2.2.2.2.1 u.2.2.2.2.2.2.2.1 u.2.2.2.2.2.2.2.2.1 u.2.2.2.2.2.2.2.2.2.1 u.2.2.2.2.2.2.2.2.2.2.1 u.2.2.2.2.2.2.2.2.2.2.2.1 u.2.2.2.2.2.2.2.2.2.2.2.2) (fun u H => mW E q f_code a_tape a_size a_fault a_faultPlace a_many a_lands a_evenings a_sights a_choirs u.1 f_length u.2.1 u.2.2.1 u.2.2.2.1 u.2.2.2.2.1 u.2.2.2.2.2.1 u.2.2.2.2.2.2.1 u.2.2.2.2.2.2.2.1 u.2.2.2.2.2.2.2.2.1 u.2.2.2.2.2.2.2.2.2.1 u.2.2.2.2.2.2.2.2.2.2.1 u.2.2.2.2.2.2.2.2.2.2.2.1 u.2.2.2.2.2.2.2.2.2.2.2.2 f_land f_huts f_singers f_evening a_at a_knows a_climbed a_snow a_level f_begun f_minute f_avalanches a_run a_covers a_routes a_longest a_steep a_laid a_far f_sight a_runs f_choir f_voices a_rest a_wins f_seed a_other a_kept H) (mA q)) args s 0 0 (mA q)) (F0 m 107 ls [.int y0, .ref q]) := by
  have hx := zc.1
  have hb := zc.2.1
  refine zVw_i [.int y0] [] zc ky_X11_bitLine kz_X11_bitLine km_11_218 (c_m_bitLine l hw) (mPreV0 hK hM) hS rfl rfl hl.1 (Nat.le_of_ble_eq_true rfl) ⟨rfl, rfl⟩ ⟨Nat.le_of_ble_eq_true rfl, Nat.le_of_ble_eq_true rfl⟩ ⟨(Nat.zero_le _), (Nat.zero_le _)⟩ dX11_landLine_107 (fun r_1 u H locs hw hM hS => ?_)
  obtain ⟨f_reached_1, f_begins_1, f_sort_1, f_value_1, f_word_1, f_wrongAt_1, f_laterFault_1, f_laterPlace_1, a_told_1, a_read_1, f_farHut_1, f_good_1⟩ := u
  exact zret_zw ⟨f_reached_1, f_begins_1, f_sort_1, f_value_1, f_word_1, f_wrongAt_1, f_laterFault_1, f_laterPlace_1, a_told_1, a_read_1, f_farHut_1, f_farSinger, f_good_1⟩ zc hS hw.1 hw.2 hM dX11_landLine_110
set_option maxRecDepth 20000 in
theorem t_m_landLine_93 {p : Program} {l : Launch} {e : Env} {s : State} {m : MethodId} {args : Array Value} {below : List Frame} {meth : Method} {c : Code} {E : zE} {q : Nat} {f_code : Int32} {a_tape : Nat → Int32} {a_size : Nat → Int32} {a_fault : Nat → Int32} {a_faultPlace : Nat → Int32} {a_many : Nat → Int32} {a_lands : Nat → Int32} {a_evenings : Nat → Int32} {a_sights : Nat → Int32} {a_choirs : Nat → Int32} {f_reached : Int32} {f_length : Int32} {f_begins : Int32} {f_sort : Int32} {f_value : Int32} {f_word : Int64} {f_wrongAt : Int32} {f_laterFault : Int32} {f_laterPlace : Int32} {a_told : Nat → Int32} {a_read : Nat → Int32} {f_farHut : Int32} {f_farSinger : Int32} {f_good : Int32} {f_land : Int32} {f_huts : Int32} {f_singers : Int32} {f_evening : Int32} {a_at : Nat → Int32} {a_knows : Nat → Int32} {a_climbed : Nat → Int32} {a_snow : Nat → Int32} {a_level : Nat → Int32} {f_begun : Int32} {f_minute : Int32} {f_avalanches : Int32} {a_run : Nat → Int32} {a_covers : Nat → Int32} {a_routes : Nat → Int32} {a_longest : Nat → Int32} {a_steep : Nat → Int32} {a_laid : Nat → Int32} {a_far : Nat → Int32} {f_sight : Int32} {a_runs : Nat → Int32} {f_choir : Int32} {f_voices : Int32} {a_rest : Nat → Int64} {a_wins : Nat → Int32} {f_seed : Int32} {a_other : Nat → Int32} {a_kept : Nat → Int32} {post : Int32 → (Int32) → (Int32) → (Int32) → (Int32) → (Int64) → (Int32) → (Int32) → (Int32) → (Nat → Int32) → (Nat → Int32) → (Int32) → (Int32) → (Int32) → Prop} {x1 : Int64} {ls : Array Slot} {H : Heap} {locs : List Loc}
    (zc : zC p s m args meth c cX11_landLine 4 RX11 (some .boolean))
    (hK : zK E s)
    (hM : mW E q f_code a_tape a_size a_fault a_faultPlace a_many a_lands a_evenings a_sights a_choirs f_reached f_length f_begins f_sort f_value f_word f_wrongAt f_laterFault f_laterPlace a_told a_read f_farHut f_farSinger f_good f_land f_huts f_singers f_evening a_at a_knows a_climbed a_snow a_level f_begun f_minute f_avalanches a_run a_covers a_routes a_longest a_steep a_laid a_far f_sight a_runs f_choir f_voices a_rest a_wins f_seed a_other a_kept H)
    (hS : va_S (mA q) s.heap H locs)
    (hl : lv_has ls 4 [(0, .ref q), (1, .long x1)])
    (hw : q_m_landLine_93 a_tape f_reached f_length f_begins f_sort f_value f_word f_wrongAt f_laterFault f_laterPlace a_told a_read f_farHut f_farSinger f_good x1 post) :
    W p l e rm_m_landLine s m args below meth c H locs 0 0 (MQ below (zQi (S := (Int32) × (Int32) × (Int32) × (Int32) × (Int64) × (Int32) × (Int32) × (Int32) × (Nat → Int32) × (Nat → Int32) × (Int32) × (Int32) × (Int32)) (fun r u => post r u.1 u.2.1 u.2.2.1 u.2.2.2.1 u.2.2.2.2.1 u.2.2.2.2.2.1 u.2.2.2.2.2.2.1 u.2.2.2.2.2.2.2.1 u.2.2.2.2.2.2.2.2.1 u.2.2.2.2.2.2.2.2.2.1 u.2.2.2.2.2.2.2.2.2.2.1 u.2.2.2.2.2.2.2.2.2.2.2.1 u.2.2.2.2.2.2.2.2.2.2.2.2) (fun u H => mW E q f_code a_tape a_size a_fault a_faultPlace a_many a_lands a_evenings a_sights a_choirs u.1 f_length u.2.1 u.2.2.1 u.2.2.2.1 u.2.2.2.2.1 u.2.2.2.2.2.1 u.2.2.2.2.2.2.1 u.2.2.2.2.2.2.2.1 u.2.2.2.2.2.2.2.2.1 u.2.2.2.2.2.2.2.2.2.1 u.2.2.2.2.2.2.2.2.2.2.1 u.2.2.2.2.2.2.2.2.2.2.2.1 u.2.2.2.2.2.2.2.2.2.2.2.2 f_land f_huts f_singers f_evening a_at a_knows a_climbed a_snow a_level f_begun f_minute f_avalanches a_run a_covers a_routes a_longest a_steep a_laid a_far f_sight a_runs f_choir f_voices a_rest a_wins f_seed a_other a_kept H) (mA q)) args s 0 0 (mA q)) (F0 m 93 ls []) := by
  have hx := zc.1
  have hb := zc.2.1
  refine lv_aload_n hx hb dX11_landLine_93 rfl (lv_at hl 0 rfl) ?_
  refine lv_lload_n hx hb dX11_landLine_94 rfl (lv_at hl 1 rfl) ?_
  refine lv_ldc2 (v := (33329961647564645 : Int64)) hx hb zc.2.2.2.1 (zc.2.2.2.2.1 _ kc_11_189) dX11_landLine_95 ?_
  refine W.lcmp hx hb dX11_landLine_98 ?_
  refine lv_if_ne (tgt := 106) hx hb dX11_landLine_99 (by decide) (fun hc => ?_) (fun hc => ?_)
  · have hw := hw.1 hc
    refine lv_iconst (v := (3 : Int32)) hx hb dX11_landLine_106 (by decide) ?_
    exact t_m_landLine_107 zc hK hM hS  (lv_sub hl [] rfl) hw
  · have hw := hw.2 hc
    refine lv_iconst (v := (2 : Int32)) hx hb dX11_landLine_102 (by decide) ?_
    refine lv_goto (tgt := 107) hx hb dX11_landLine_103 (by decide) ?_
    exact t_m_landLine_107 zc hK hM hS  (lv_sub hl [] rfl) hw
set_option maxRecDepth 20000 in
theorem t_m_landLine_60 {p : Program} {l : Launch} {e : Env} {s : State} {m : MethodId} {args : Array Value} {below : List Frame} {meth : Method} {c : Code} {E : zE} {q : Nat} {f_code : Int32} {a_tape : Nat → Int32} {a_size : Nat → Int32} {a_fault : Nat → Int32} {a_faultPlace : Nat → Int32} {a_many : Nat → Int32} {a_lands : Nat → Int32} {a_evenings : Nat → Int32} {a_sights : Nat → Int32} {a_choirs : Nat → Int32} {f_reached : Int32} {f_length : Int32} {f_begins : Int32} {f_sort : Int32} {f_value : Int32} {f_word : Int64} {f_wrongAt : Int32} {f_laterFault : Int32} {f_laterPlace : Int32} {a_told : Nat → Int32} {a_read : Nat → Int32} {f_farHut : Int32} {f_farSinger : Int32} {f_good : Int32} {f_land : Int32} {f_huts : Int32} {f_singers : Int32} {f_evening : Int32} {a_at : Nat → Int32} {a_knows : Nat → Int32} {a_climbed : Nat → Int32} {a_snow : Nat → Int32} {a_level : Nat → Int32} {f_begun : Int32} {f_minute : Int32} {f_avalanches : Int32} {a_run : Nat → Int32} {a_covers : Nat → Int32} {a_routes : Nat → Int32} {a_longest : Nat → Int32} {a_steep : Nat → Int32} {a_laid : Nat → Int32} {a_far : Nat → Int32} {f_sight : Int32} {a_runs : Nat → Int32} {f_choir : Int32} {f_voices : Int32} {a_rest : Nat → Int64} {a_wins : Nat → Int32} {f_seed : Int32} {a_other : Nat → Int32} {a_kept : Nat → Int32} {post : Int32 → (Int32) → (Int32) → (Int32) → (Int32) → (Int64) → (Int32) → (Int32) → (Int32) → (Nat → Int32) → (Nat → Int32) → (Int32) → (Int32) → (Int32) → Prop} {x1 : Int64} {ls : Array Slot} {H : Heap} {locs : List Loc}
    (zc : zC p s m args meth c cX11_landLine 4 RX11 (some .boolean))
    (hK : zK E s)
    (hM : mW E q f_code a_tape a_size a_fault a_faultPlace a_many a_lands a_evenings a_sights a_choirs f_reached f_length f_begins f_sort f_value f_word f_wrongAt f_laterFault f_laterPlace a_told a_read f_farHut f_farSinger f_good f_land f_huts f_singers f_evening a_at a_knows a_climbed a_snow a_level f_begun f_minute f_avalanches a_run a_covers a_routes a_longest a_steep a_laid a_far f_sight a_runs f_choir f_voices a_rest a_wins f_seed a_other a_kept H)
    (hS : va_S (mA q) s.heap H locs)
    (hl : lv_has ls 4 [(0, .ref q), (1, .long x1)])
    (hw : q_m_landLine_60 a_tape f_reached f_length f_begins f_sort f_value f_word f_wrongAt f_laterFault f_laterPlace a_told a_read f_farHut f_farSinger f_good x1 post) :
    W p l e rm_m_landLine s m args below meth c H locs 0 0 (MQ below (zQi (S := (Int32) × (Int32) × (Int32) × (Int32) × (Int64) × (Int32) × (Int32) × (Int32) × (Nat → Int32) × (Nat → Int32) × (Int32) × (Int32) × (Int32)) (fun r u => post r u.1 u.2.1 u.2.2.1 u.2.2.2.1 u.2.2.2.2.1 u.2.2.2.2.2.1 u.2.2.2.2.2.2.1 u.2.2.2.2.2.2.2.1 u.2.2.2.2.2.2.2.2.1 u.2.2.2.2.2.2.2.2.2.1 u.2.2.2.2.2.2.2.2.2.2.1 u.2.2.2.2.2.2.2.2.2.2.2.1 u.2.2.2.2.2.2.2.2.2.2.2.2) (fun u H => mW E q f_code a_tape a_size a_fault a_faultPlace a_many a_lands a_evenings a_sights a_choirs u.1 f_length u.2.1 u.2.2.1 u.2.2.2.1 u.2.2.2.2.1 u.2.2.2.2.2.1 u.2.2.2.2.2.2.1 u.2.2.2.2.2.2.2.1 u.2.2.2.2.2.2.2.2.1 u.2.2.2.2.2.2.2.2.2.1 u.2.2.2.2.2.2.2.2.2.2.1 u.2.2.2.2.2.2.2.2.2.2.2.1 u.2.2.2.2.2.2.2.2.2.2.2.2 f_land f_huts f_singers f_evening a_at a_knows a_climbed a_snow a_level f_begun f_minute f_avalanches a_run a_covers a_routes a_longest a_steep a_laid a_far f_sight a_runs f_choir f_voices a_rest a_wins f_seed a_other a_kept H) (mA q)) args s 0 0 (mA q)) (F0 m 60 ls []) := by
  have hx := zc.1
  have hb := zc.2.1
  refine lv_aload_n hx hb dX11_landLine_60 rfl (lv_at hl 0 rfl) ?_
  refine zVw_v [] [] zc ky_X11_token kz_X11_token km_11_161 (c_m_token l hw) (mPreV0 hK hM) hS rfl rfl hl.1 (Nat.le_of_ble_eq_true rfl) ⟨rfl, rfl⟩ ⟨Nat.le_of_ble_eq_true rfl, Nat.le_of_ble_eq_true rfl⟩ ⟨(Nat.zero_le _), (Nat.zero_le _)⟩ dX11_landLine_61 (fun u H locs hw hM hS => ?_)
  obtain ⟨f_reached_1, f_begins_1, f_sort_1, f_value_1, f_word_1⟩ := u
  refine lv_lload_n hx hb dX11_landLine_64 rfl (lv_at hl 1 rfl) ?_
  refine lv_ldc2 (v := (6845812 : Int64)) hx hb zc.2.2.2.1 (zc.2.2.2.2.1 _ kc_11_187) dX11_landLine_65 ?_
  refine W.lcmp hx hb dX11_landLine_68 ?_
  refine lv_if_ne (tgt := 77) hx hb dX11_landLine_69 (by decide) (fun hc => ?_) (fun hc => ?_)
  · have hw := hw.1 hc
    refine lv_lload_n hx hb dX11_landLine_77 rfl (lv_at hl 1 rfl) ?_
    refine lv_ldc2 (v := (33329961647564645 : Int64)) hx hb zc.2.2.2.1 (zc.2.2.2.2.1 _ kc_11_189) dX11_landLine_78 ?_
    refine W.lcmp hx hb dX11_landLine_81 ?_
    refine lv_if_eq (tgt := 93) hx hb dX11_landLine_82 (by decide) (fun hc => ?_) (fun hc => ?_)
    · have hw := hw.1 hc
      exact t_m_landLine_93 zc hK hM hS  (lv_sub hl [0, 1] rfl) hw
    · have hw := hw.2 hc
      refine lv_lload_n hx hb dX11_landLine_85 rfl (lv_at hl 1 rfl) ?_
      refine lv_ldc2 (v := (6578541 : Int64)) hx hb zc.2.2.2.1 (zc.2.2.2.2.1 _ kc_11_191) dX11_landLine_86 ?_
      refine W.lcmp hx hb dX11_landLine_89 ?_
      refine lv_if_ne (tgt := 111) hx hb dX11_landLine_90 (by decide) (fun hc => ?_) (fun hc => ?_)
      · have hw := hw.1 hc
        refine lv_lload_n hx hb dX11_landLine_111 rfl (lv_at hl 1 rfl) ?_
        refine lv_ldc2 (v := (1684366704 : Int64)) hx hb zc.2.2.2.1 (zc.2.2.2.2.1 _ kc_11_193) dX11_landLine_112 ?_
        refine W.lcmp hx hb dX11_landLine_115 ?_
        refine lv_if_ne (tgt := 128) hx hb dX11_landLine_116 (by decide) (fun hc => ?_) (fun hc => ?_)
        · have hw := hw.1 hc
          refine lv_lload_n hx hb dX11_landLine_128 rfl (lv_at hl 1 rfl) ?_
          refine lv_ldc2 (v := (495740085349 : Int64)) hx hb zc.2.2.2.1 (zc.2.2.2.2.1 _ kc_11_195) dX11_landLine_129 ?_
          refine W.lcmp hx hb dX11_landLine_132 ?_
          refine lv_if_ne (tgt := 146) hx hb dX11_landLine_133 (by decide) (fun hc => ?_) (fun hc => ?_)
          · have hw := hw.1 hc
            refine lv_lload_n hx hb dX11_landLine_146 rfl (lv_at hl 1 rfl) ?_
            refine lv_ldc2 (v := (7823737 : Int64)) hx hb zc.2.2.2.1 (zc.2.2.2.2.1 _ kc_11_197) dX11_landLine_147 ?_
            refine W.lcmp hx hb dX11_landLine_150 ?_
            refine lv_if_ne (tgt := 161) hx hb dX11_landLine_151 (by decide) (fun hc => ?_) (fun hc => ?_)
            · have hw := hw.1 hc
              refine lv_lload_n hx hb dX11_landLine_161 rfl (lv_at hl 1 rfl) ?_
              refine lv_ldc2 (v := (1701013615 : Int64)) hx hb zc.2.2.2.1 (zc.2.2.2.2.1 _ kc_11_199) dX11_landLine_162 ?_
              refine W.lcmp hx hb dX11_landLine_165 ?_
              refine lv_if_ne (tgt := 176) hx hb dX11_landLine_166 (by decide) (fun hc => ?_) (fun hc => ?_)
              · have hw := hw.1 hc
                refine lv_lload_n hx hb dX11_landLine_176 rfl (lv_at hl 1 rfl) ?_
                refine lv_ldc2 (v := (119165551928690 : Int64)) hx hb zc.2.2.2.1 (zc.2.2.2.2.1 _ kc_11_201) dX11_landLine_177 ?_
                refine W.lcmp hx hb dX11_landLine_180 ?_
                refine lv_if_ne (tgt := 191) hx hb dX11_landLine_181 (by decide) (fun hc => ?_) (fun hc => ?_)
                · have hw := hw.1 hc
                  refine lv_lload_n hx hb dX11_landLine_191 rfl (lv_at hl 1 rfl) ?_
                  refine lv_ldc2 (v := (126896661030258 : Int64)) hx hb zc.2.2.2.1 (zc.2.2.2.2.1 _ kc_11_203) dX11_landLine_192 ?_
                  refine W.lcmp hx hb dX11_landLine_195 ?_
                  refine lv_if_ne (tgt := 206) hx hb dX11_landLine_196 (by decide) (fun hc => ?_) (fun hc => ?_)
                  · have hw := hw.1 hc
                    refine lv_aload_n hx hb dX11_landLine_206 rfl (lv_at hl 0 rfl) ?_
                    refine zVw_i [] [] zc ky_X11_knowsLine kz_X11_knowsLine km_11_237 (c_m_knowsLine l hw) (mPreV0 hK hM) hS rfl rfl hl.1 (Nat.le_of_ble_eq_true rfl) ⟨rfl, rfl⟩ ⟨Nat.le_of_ble_eq_true rfl, Nat.le_of_ble_eq_true rfl⟩ ⟨(Nat.zero_le _), (Nat.zero_le _)⟩ dX11_landLine_207 (fun r_1 u H locs hw hM hS => ?_)
                    obtain ⟨f_reached_2, f_begins_2, f_sort_2, f_value_2, f_word_2, f_wrongAt_1, f_laterFault_1, f_laterPlace_1, a_told_1, a_read_1, f_farSinger_1, f_good_1⟩ := u
                    exact zret_zw ⟨f_reached_2, f_begins_2, f_sort_2, f_value_2, f_word_2, f_wrongAt_1, f_laterFault_1, f_laterPlace_1, a_told_1, a_read_1, f_farHut, f_farSinger_1, f_good_1⟩ zc hS hw.1 hw.2 hM dX11_landLine_210
                  · have hw := hw.2 hc
                    refine lv_aload_n hx hb dX11_landLine_199 rfl (lv_at hl 0 rfl) ?_
                    refine zVw_i [] [] zc ky_X11_singerLine kz_X11_singerLine km_11_234 (c_m_singerLine l hw) (mPreV0 hK hM) hS rfl rfl hl.1 (Nat.le_of_ble_eq_true rfl) ⟨rfl, rfl⟩ ⟨Nat.le_of_ble_eq_true rfl, Nat.le_of_ble_eq_true rfl⟩ ⟨(Nat.zero_le _), (Nat.zero_le _)⟩ dX11_landLine_200 (fun r_2 u H locs hw hM hS => ?_)
                    obtain ⟨f_reached_3, f_begins_3, f_sort_3, f_value_3, f_word_3, f_wrongAt_2, f_laterFault_2, f_laterPlace_2, a_told_2, a_read_2, f_farHut_1, f_good_2⟩ := u
                    refine lv_goto (tgt := 210) hx hb dX11_landLine_203 (by decide) ?_
                    exact zret_zw ⟨f_reached_3, f_begins_3, f_sort_3, f_value_3, f_word_3, f_wrongAt_2, f_laterFault_2, f_laterPlace_2, a_told_2, a_read_2, f_farHut_1, f_farSinger, f_good_2⟩ zc hS hw.1 hw.2 hM dX11_landLine_210
                · have hw := hw.2 hc
                  refine lv_aload_n hx hb dX11_landLine_184 rfl (lv_at hl 0 rfl) ?_
                  refine zVw_i [] [] zc ky_X11_ladderLine kz_X11_ladderLine km_11_231 (c_m_ladderLine l hw) (mPreV0 hK hM) hS rfl rfl hl.1 (Nat.le_of_ble_eq_true rfl) ⟨rfl, rfl⟩ ⟨Nat.le_of_ble_eq_true rfl, Nat.le_of_ble_eq_true rfl⟩ ⟨(Nat.zero_le _), (Nat.zero_le _)⟩ dX11_landLine_185 (fun r_3 u H locs hw hM hS => ?_)
                  obtain ⟨f_reached_4, f_begins_4, f_sort_4, f_value_4, f_word_4, f_wrongAt_3, f_laterFault_3, f_laterPlace_3, a_told_3, a_read_3, f_farHut_2, f_good_3⟩ := u
                  refine lv_goto (tgt := 210) hx hb dX11_landLine_188 (by decide) ?_
                  exact zret_zw ⟨f_reached_4, f_begins_4, f_sort_4, f_value_4, f_word_4, f_wrongAt_3, f_laterFault_3, f_laterPlace_3, a_told_3, a_read_3, f_farHut_2, f_farSinger, f_good_3⟩ zc hS hw.1 hw.2 hM dX11_landLine_210
              · have hw := hw.2 hc
                refine lv_aload_n hx hb dX11_landLine_169 rfl (lv_at hl 0 rfl) ?_
                refine zVw_i [] [] zc ky_X11_echoLine kz_X11_echoLine km_11_228 (c_m_echoLine l hw) (mPreV0 hK hM) hS rfl rfl hl.1 (Nat.le_of_ble_eq_true rfl) ⟨rfl, rfl⟩ ⟨Nat.le_of_ble_eq_true rfl, Nat.le_of_ble_eq_true rfl⟩ ⟨(Nat.zero_le _), (Nat.zero_le _)⟩ dX11_landLine_170 (fun r_4 u H locs hw hM hS => ?_)
                obtain ⟨f_reached_5, f_begins_5, f_sort_5, f_value_5, f_word_5, f_wrongAt_4, f_laterFault_4, f_laterPlace_4, a_told_4, a_read_4, f_farHut_3, f_good_4⟩ := u
                refine lv_goto (tgt := 210) hx hb dX11_landLine_173 (by decide) ?_
                exact zret_zw ⟨f_reached_5, f_begins_5, f_sort_5, f_value_5, f_word_5, f_wrongAt_4, f_laterFault_4, f_laterPlace_4, a_told_4, a_read_4, f_farHut_3, f_farSinger, f_good_4⟩ zc hS hw.1 hw.2 hM dX11_landLine_210
            · have hw := hw.2 hc
              refine lv_aload_n hx hb dX11_landLine_154 rfl (lv_at hl 0 rfl) ?_
              refine zVw_i [] [] zc ky_X11_wayLine kz_X11_wayLine km_11_225 (c_m_wayLine l hw) (mPreV0 hK hM) hS rfl rfl hl.1 (Nat.le_of_ble_eq_true rfl) ⟨rfl, rfl⟩ ⟨Nat.le_of_ble_eq_true rfl, Nat.le_of_ble_eq_true rfl⟩ ⟨(Nat.zero_le _), (Nat.zero_le _)⟩ dX11_landLine_155 (fun r_5 u H locs hw hM hS => ?_)
              obtain ⟨f_reached_6, f_begins_6, f_sort_6, f_value_6, f_word_6, f_wrongAt_5, f_laterFault_5, f_laterPlace_5, a_told_5, a_read_5, f_farHut_4, f_good_5⟩ := u
              refine lv_goto (tgt := 210) hx hb dX11_landLine_158 (by decide) ?_
              exact zret_zw ⟨f_reached_6, f_begins_6, f_sort_6, f_value_6, f_word_6, f_wrongAt_5, f_laterFault_5, f_laterPlace_5, a_told_5, a_read_5, f_farHut_4, f_farSinger, f_good_5⟩ zc hS hw.1 hw.2 hM dX11_landLine_210
          · have hw := hw.2 hc
            refine lv_aload_n hx hb dX11_landLine_136 rfl (lv_at hl 0 rfl) ?_
            refine lv_bipush (v := (6 : Int32)) hx hb dX11_landLine_137 (by decide) ?_
            refine lv_iconst (v := (0 : Int32)) hx hb dX11_landLine_139 (by decide) ?_
            refine lv_bipush (v := (10 : Int32)) hx hb dX11_landLine_140 (by decide) ?_
            refine zVw_i [.int (6 : Int32), .int (0 : Int32), .int (10 : Int32)] [] zc ky_X11_plainLine kz_X11_plainLine km_11_222 (c_m_plainLine l hw) (mPreV0 hK hM) hS rfl rfl hl.1 (Nat.le_of_ble_eq_true rfl) ⟨rfl, rfl⟩ ⟨Nat.le_of_ble_eq_true rfl, Nat.le_of_ble_eq_true rfl⟩ ⟨(Nat.zero_le _), (Nat.zero_le _)⟩ dX11_landLine_142 (fun r_6 u H locs hw hM hS => ?_)
            obtain ⟨f_reached_7, f_begins_7, f_sort_7, f_value_7, f_word_7, f_wrongAt_6, f_laterFault_6, f_laterPlace_6, a_told_6, a_read_6, f_good_6⟩ := u
            exact zret_zw ⟨f_reached_7, f_begins_7, f_sort_7, f_value_7, f_word_7, f_wrongAt_6, f_laterFault_6, f_laterPlace_6, a_told_6, a_read_6, f_farHut, f_farSinger, f_good_6⟩ zc hS hw.1 hw.2 hM dX11_landLine_145
        · have hw := hw.2 hc
          refine lv_aload_n hx hb dX11_landLine_119 rfl (lv_at hl 0 rfl) ?_
          refine lv_iconst (v := (5 : Int32)) hx hb dX11_landLine_120 (by decide) ?_
          refine lv_iconst (v := (1 : Int32)) hx hb dX11_landLine_121 (by decide) ?_
          refine lv_bipush (v := (9 : Int32)) hx hb dX11_landLine_122 (by decide) ?_
          refine zVw_i [.int (5 : Int32), .int (1 : Int32), .int (9 : Int32)] [] zc ky_X11_plainLine kz_X11_plainLine km_11_222 (c_m_plainLine l hw) (mPreV0 hK hM) hS rfl rfl hl.1 (Nat.le_of_ble_eq_true rfl) ⟨rfl, rfl⟩ ⟨Nat.le_of_ble_eq_true rfl, Nat.le_of_ble_eq_true rfl⟩ ⟨(Nat.zero_le _), (Nat.zero_le _)⟩ dX11_landLine_124 (fun r_7 u H locs hw hM hS => ?_)
          obtain ⟨f_reached_8, f_begins_8, f_sort_8, f_value_8, f_word_8, f_wrongAt_7, f_laterFault_7, f_laterPlace_7, a_told_7, a_read_7, f_good_7⟩ := u
          exact zret_zw ⟨f_reached_8, f_begins_8, f_sort_8, f_value_8, f_word_8, f_wrongAt_7, f_laterFault_7, f_laterPlace_7, a_told_7, a_read_7, f_farHut, f_farSinger, f_good_7⟩ zc hS hw.1 hw.2 hM dX11_landLine_127
      · have hw := hw.2 hc
        exact t_m_landLine_93 zc hK hM hS  (lv_sub hl [0, 1] rfl) hw
  · have hw := hw.2 hc
    refine lv_aload_n hx hb dX11_landLine_72 rfl (lv_at hl 0 rfl) ?_
    refine zVw_i [] [] zc ky_X11_hutLine kz_X11_hutLine km_11_215 (c_m_hutLine l hw) (mPreV0 hK hM) hS rfl rfl hl.1 (Nat.le_of_ble_eq_true rfl) ⟨rfl, rfl⟩ ⟨Nat.le_of_ble_eq_true rfl, Nat.le_of_ble_eq_true rfl⟩ ⟨(Nat.zero_le _), (Nat.zero_le _)⟩ dX11_landLine_73 (fun r_8 u H locs hw hM hS => ?_)
    obtain ⟨f_reached_9, f_begins_9, f_sort_9, f_value_9, f_word_9, f_wrongAt_8, f_laterFault_8, f_laterPlace_8, a_told_8, a_read_8, f_good_8⟩ := u
    exact zret_zw ⟨f_reached_9, f_begins_9, f_sort_9, f_value_9, f_word_9, f_wrongAt_8, f_laterFault_8, f_laterPlace_8, a_told_8, a_read_8, f_farHut, f_farSinger, f_good_8⟩ zc hS hw.1 hw.2 hM dX11_landLine_76
set_option maxRecDepth 20000 in
theorem t_m_landLine_44 {p : Program} {l : Launch} {e : Env} {s : State} {m : MethodId} {args : Array Value} {below : List Frame} {meth : Method} {c : Code} {E : zE} {q : Nat} {f_code : Int32} {a_tape : Nat → Int32} {a_size : Nat → Int32} {a_fault : Nat → Int32} {a_faultPlace : Nat → Int32} {a_many : Nat → Int32} {a_lands : Nat → Int32} {a_evenings : Nat → Int32} {a_sights : Nat → Int32} {a_choirs : Nat → Int32} {f_reached : Int32} {f_length : Int32} {f_begins : Int32} {f_sort : Int32} {f_value : Int32} {f_word : Int64} {f_wrongAt : Int32} {f_laterFault : Int32} {f_laterPlace : Int32} {a_told : Nat → Int32} {a_read : Nat → Int32} {f_farHut : Int32} {f_farSinger : Int32} {f_good : Int32} {f_land : Int32} {f_huts : Int32} {f_singers : Int32} {f_evening : Int32} {a_at : Nat → Int32} {a_knows : Nat → Int32} {a_climbed : Nat → Int32} {a_snow : Nat → Int32} {a_level : Nat → Int32} {f_begun : Int32} {f_minute : Int32} {f_avalanches : Int32} {a_run : Nat → Int32} {a_covers : Nat → Int32} {a_routes : Nat → Int32} {a_longest : Nat → Int32} {a_steep : Nat → Int32} {a_laid : Nat → Int32} {a_far : Nat → Int32} {f_sight : Int32} {a_runs : Nat → Int32} {f_choir : Int32} {f_voices : Int32} {a_rest : Nat → Int64} {a_wins : Nat → Int32} {f_seed : Int32} {a_other : Nat → Int32} {a_kept : Nat → Int32} {post : Int32 → (Int32) → (Int32) → (Int32) → (Int32) → (Int64) → (Int32) → (Int32) → (Int32) → (Nat → Int32) → (Nat → Int32) → (Int32) → (Int32) → (Int32) → Prop} {x1 : Int64} {x3 : Int32} {ls : Array Slot} {H : Heap} {locs : List Loc}
    (zc : zC p s m args meth c cX11_landLine 4 RX11 (some .boolean))
    (hK : zK E s)
    (hM : mW E q f_code a_tape a_size a_fault a_faultPlace a_many a_lands a_evenings a_sights a_choirs f_reached f_length f_begins f_sort f_value f_word f_wrongAt f_laterFault f_laterPlace a_told a_read f_farHut f_farSinger f_good f_land f_huts f_singers f_evening a_at a_knows a_climbed a_snow a_level f_begun f_minute f_avalanches a_run a_covers a_routes a_longest a_steep a_laid a_far f_sight a_runs f_choir f_voices a_rest a_wins f_seed a_other a_kept H)
    (hS : va_S (mA q) s.heap H locs)
    (hl : lv_has ls 4 [(0, .ref q), (1, .long x1), (3, .int x3)])
    (hw : q_m_landLine_44 a_tape f_reached f_length f_begins f_sort f_value f_word f_wrongAt f_laterFault f_laterPlace a_told a_read f_farHut f_farSinger f_good x1 x3 post) :
    W p l e rm_m_landLine s m args below meth c H locs 0 0 (MQ below (zQi (S := (Int32) × (Int32) × (Int32) × (Int32) × (Int64) × (Int32) × (Int32) × (Int32) × (Nat → Int32) × (Nat → Int32) × (Int32) × (Int32) × (Int32)) (fun r u => post r u.1 u.2.1 u.2.2.1 u.2.2.2.1 u.2.2.2.2.1 u.2.2.2.2.2.1 u.2.2.2.2.2.2.1 u.2.2.2.2.2.2.2.1 u.2.2.2.2.2.2.2.2.1 u.2.2.2.2.2.2.2.2.2.1 u.2.2.2.2.2.2.2.2.2.2.1 u.2.2.2.2.2.2.2.2.2.2.2.1 u.2.2.2.2.2.2.2.2.2.2.2.2) (fun u H => mW E q f_code a_tape a_size a_fault a_faultPlace a_many a_lands a_evenings a_sights a_choirs u.1 f_length u.2.1 u.2.2.1 u.2.2.2.1 u.2.2.2.2.1 u.2.2.2.2.2.1 u.2.2.2.2.2.2.1 u.2.2.2.2.2.2.2.1 u.2.2.2.2.2.2.2.2.1 u.2.2.2.2.2.2.2.2.2.1 u.2.2.2.2.2.2.2.2.2.2.1 u.2.2.2.2.2.2.2.2.2.2.2.1 u.2.2.2.2.2.2.2.2.2.2.2.2 f_land f_huts f_singers f_evening a_at a_knows a_climbed a_snow a_level f_begun f_minute f_avalanches a_run a_covers a_routes a_longest a_steep a_laid a_far f_sight a_runs f_choir f_voices a_rest a_wins f_seed a_other a_kept H) (mA q)) args s 0 0 (mA q)) (F0 m 44 ls []) := by
  have hx := zc.1
  have hb := zc.2.1
  refine lv_lload_n hx hb dX11_landLine_44 rfl (lv_at hl 1 rfl) ?_
  refine lv_ldc2 (v := (126896661030258 : Int64)) hx hb zc.2.2.2.1 (zc.2.2.2.2.1 _ kc_11_203) dX11_landLine_45 ?_
  refine W.lcmp hx hb dX11_landLine_48 ?_
  refine lv_if_ne (tgt := 60) hx hb dX11_landLine_49 (by decide) (fun hc => ?_) (fun hc => ?_)
  · have hw := hw.1 hc
    exact t_m_landLine_60 zc hK hM hS  (lv_sub hl [0, 1] rfl) hw
  · have hw := hw.2 hc
    refine lv_aload_n hx hb dX11_landLine_52 rfl (lv_at hl 0 rfl) ?_
    refine lv_iconst (v := (1 : Int32)) hx hb dX11_landLine_53 (by decide) ?_
    refine lv_bipush (v := (6 : Int32)) hx hb dX11_landLine_54 (by decide) ?_
    refine lv_iload_n hx hb dX11_landLine_56 rfl (lv_at hl 2 rfl) ?_
    refine zVw_v [.int (1 : Int32), .int (6 : Int32), .int x3] [] zc ky_X11_full kz_X11_full km_11_211 (c_m_full l hw) (mPreV0 hK hM) hS rfl rfl hl.1 (Nat.le_of_ble_eq_true rfl) ⟨rfl, rfl⟩ ⟨Nat.le_of_ble_eq_true rfl, Nat.le_of_ble_eq_true rfl⟩ ⟨(Nat.zero_le _), (Nat.zero_le _)⟩ dX11_landLine_57 (fun u H locs hw hM hS => ?_)
    obtain ⟨f_laterFault_1, f_laterPlace_1⟩ := u
    exact t_m_landLine_60 zc hK hM hS  (lv_sub hl [0, 1] rfl) hw
set_option maxRecDepth 20000 in
theorem t_m_landLine_29 {p : Program} {l : Launch} {e : Env} {s : State} {m : MethodId} {args : Array Value} {below : List Frame} {meth : Method} {c : Code} {E : zE} {q : Nat} {f_code : Int32} {a_tape : Nat → Int32} {a_size : Nat → Int32} {a_fault : Nat → Int32} {a_faultPlace : Nat → Int32} {a_many : Nat → Int32} {a_lands : Nat → Int32} {a_evenings : Nat → Int32} {a_sights : Nat → Int32} {a_choirs : Nat → Int32} {f_reached : Int32} {f_length : Int32} {f_begins : Int32} {f_sort : Int32} {f_value : Int32} {f_word : Int64} {f_wrongAt : Int32} {f_laterFault : Int32} {f_laterPlace : Int32} {a_told : Nat → Int32} {a_read : Nat → Int32} {f_farHut : Int32} {f_farSinger : Int32} {f_good : Int32} {f_land : Int32} {f_huts : Int32} {f_singers : Int32} {f_evening : Int32} {a_at : Nat → Int32} {a_knows : Nat → Int32} {a_climbed : Nat → Int32} {a_snow : Nat → Int32} {a_level : Nat → Int32} {f_begun : Int32} {f_minute : Int32} {f_avalanches : Int32} {a_run : Nat → Int32} {a_covers : Nat → Int32} {a_routes : Nat → Int32} {a_longest : Nat → Int32} {a_steep : Nat → Int32} {a_laid : Nat → Int32} {a_far : Nat → Int32} {f_sight : Int32} {a_runs : Nat → Int32} {f_choir : Int32} {f_voices : Int32} {a_rest : Nat → Int64} {a_wins : Nat → Int32} {f_seed : Int32} {a_other : Nat → Int32} {a_kept : Nat → Int32} {post : Int32 → (Int32) → (Int32) → (Int32) → (Int32) → (Int64) → (Int32) → (Int32) → (Int32) → (Nat → Int32) → (Nat → Int32) → (Int32) → (Int32) → (Int32) → Prop} {x1 : Int64} {x3 : Int32} {ls : Array Slot} {H : Heap} {locs : List Loc}
    (zc : zC p s m args meth c cX11_landLine 4 RX11 (some .boolean))
    (hK : zK E s)
    (hM : mW E q f_code a_tape a_size a_fault a_faultPlace a_many a_lands a_evenings a_sights a_choirs f_reached f_length f_begins f_sort f_value f_word f_wrongAt f_laterFault f_laterPlace a_told a_read f_farHut f_farSinger f_good f_land f_huts f_singers f_evening a_at a_knows a_climbed a_snow a_level f_begun f_minute f_avalanches a_run a_covers a_routes a_longest a_steep a_laid a_far f_sight a_runs f_choir f_voices a_rest a_wins f_seed a_other a_kept H)
    (hS : va_S (mA q) s.heap H locs)
    (hl : lv_has ls 4 [(0, .ref q), (1, .long x1), (3, .int x3)])
    (hw : q_m_landLine_29 a_tape f_reached f_length f_begins f_sort f_value f_word f_wrongAt f_laterFault f_laterPlace a_told a_read f_farHut f_farSinger f_good x1 x3 post) :
    W p l e rm_m_landLine s m args below meth c H locs 0 0 (MQ below (zQi (S := (Int32) × (Int32) × (Int32) × (Int32) × (Int64) × (Int32) × (Int32) × (Int32) × (Nat → Int32) × (Nat → Int32) × (Int32) × (Int32) × (Int32)) (fun r u => post r u.1 u.2.1 u.2.2.1 u.2.2.2.1 u.2.2.2.2.1 u.2.2.2.2.2.1 u.2.2.2.2.2.2.1 u.2.2.2.2.2.2.2.1 u.2.2.2.2.2.2.2.2.1 u.2.2.2.2.2.2.2.2.2.1 u.2.2.2.2.2.2.2.2.2.2.1 u.2.2.2.2.2.2.2.2.2.2.2.1 u.2.2.2.2.2.2.2.2.2.2.2.2) (fun u H => mW E q f_code a_tape a_size a_fault a_faultPlace a_many a_lands a_evenings a_sights a_choirs u.1 f_length u.2.1 u.2.2.1 u.2.2.2.1 u.2.2.2.2.1 u.2.2.2.2.2.1 u.2.2.2.2.2.2.1 u.2.2.2.2.2.2.2.1 u.2.2.2.2.2.2.2.2.1 u.2.2.2.2.2.2.2.2.2.1 u.2.2.2.2.2.2.2.2.2.2.1 u.2.2.2.2.2.2.2.2.2.2.2.1 u.2.2.2.2.2.2.2.2.2.2.2.2 f_land f_huts f_singers f_evening a_at a_knows a_climbed a_snow a_level f_begun f_minute f_avalanches a_run a_covers a_routes a_longest a_steep a_laid a_far f_sight a_runs f_choir f_voices a_rest a_wins f_seed a_other a_kept H) (mA q)) args s 0 0 (mA q)) (F0 m 29 ls []) := by
  have hx := zc.1
  have hb := zc.2.1
  refine lv_lload_n hx hb dX11_landLine_29 rfl (lv_at hl 1 rfl) ?_
  refine lv_ldc2 (v := (1701013615 : Int64)) hx hb zc.2.2.2.1 (zc.2.2.2.2.1 _ kc_11_199) dX11_landLine_30 ?_
  refine W.lcmp hx hb dX11_landLine_33 ?_
  refine lv_if_ne (tgt := 44) hx hb dX11_landLine_34 (by decide) (fun hc => ?_) (fun hc => ?_)
  · have hw := hw.1 hc
    exact t_m_landLine_44 zc hK hM hS  (lv_sub hl [0, 1, 2] rfl) hw
  · have hw := hw.2 hc
    refine lv_aload_n hx hb dX11_landLine_37 rfl (lv_at hl 0 rfl) ?_
    refine lv_iconst (v := (4 : Int32)) hx hb dX11_landLine_38 (by decide) ?_
    refine lv_iconst (v := (4 : Int32)) hx hb dX11_landLine_39 (by decide) ?_
    refine lv_iload_n hx hb dX11_landLine_40 rfl (lv_at hl 2 rfl) ?_
    refine zVw_v [.int (4 : Int32), .int (4 : Int32), .int x3] [] zc ky_X11_full kz_X11_full km_11_211 (c_m_full l hw) (mPreV0 hK hM) hS rfl rfl hl.1 (Nat.le_of_ble_eq_true rfl) ⟨rfl, rfl⟩ ⟨Nat.le_of_ble_eq_true rfl, Nat.le_of_ble_eq_true rfl⟩ ⟨(Nat.zero_le _), (Nat.zero_le _)⟩ dX11_landLine_41 (fun u H locs hw hM hS => ?_)
    obtain ⟨f_laterFault_1, f_laterPlace_1⟩ := u
    exact t_m_landLine_44 zc hK hM hS  (lv_sub hl [0, 1, 2] rfl) hw
set_option maxRecDepth 20000 in
theorem t_m_landLine_0 {p : Program} {l : Launch} {e : Env} {s : State} {m : MethodId} {args : Array Value} {below : List Frame} {meth : Method} {c : Code} {E : zE} {q : Nat} {f_code : Int32} {a_tape : Nat → Int32} {a_size : Nat → Int32} {a_fault : Nat → Int32} {a_faultPlace : Nat → Int32} {a_many : Nat → Int32} {a_lands : Nat → Int32} {a_evenings : Nat → Int32} {a_sights : Nat → Int32} {a_choirs : Nat → Int32} {f_reached : Int32} {f_length : Int32} {f_begins : Int32} {f_sort : Int32} {f_value : Int32} {f_word : Int64} {f_wrongAt : Int32} {f_laterFault : Int32} {f_laterPlace : Int32} {a_told : Nat → Int32} {a_read : Nat → Int32} {f_farHut : Int32} {f_farSinger : Int32} {f_good : Int32} {f_land : Int32} {f_huts : Int32} {f_singers : Int32} {f_evening : Int32} {a_at : Nat → Int32} {a_knows : Nat → Int32} {a_climbed : Nat → Int32} {a_snow : Nat → Int32} {a_level : Nat → Int32} {f_begun : Int32} {f_minute : Int32} {f_avalanches : Int32} {a_run : Nat → Int32} {a_covers : Nat → Int32} {a_routes : Nat → Int32} {a_longest : Nat → Int32} {a_steep : Nat → Int32} {a_laid : Nat → Int32} {a_far : Nat → Int32} {f_sight : Int32} {a_runs : Nat → Int32} {f_choir : Int32} {f_voices : Int32} {a_rest : Nat → Int64} {a_wins : Nat → Int32} {f_seed : Int32} {a_other : Nat → Int32} {a_kept : Nat → Int32} {post : Int32 → (Int32) → (Int32) → (Int32) → (Int32) → (Int64) → (Int32) → (Int32) → (Int32) → (Nat → Int32) → (Nat → Int32) → (Int32) → (Int32) → (Int32) → Prop} {x1 : Int64} {x3 : Int32} {ls : Array Slot} {H : Heap} {locs : List Loc}
    (zc : zC p s m args meth c cX11_landLine 4 RX11 (some .boolean))
    (hK : zK E s)
    (hM : mW E q f_code a_tape a_size a_fault a_faultPlace a_many a_lands a_evenings a_sights a_choirs f_reached f_length f_begins f_sort f_value f_word f_wrongAt f_laterFault f_laterPlace a_told a_read f_farHut f_farSinger f_good f_land f_huts f_singers f_evening a_at a_knows a_climbed a_snow a_level f_begun f_minute f_avalanches a_run a_covers a_routes a_longest a_steep a_laid a_far f_sight a_runs f_choir f_voices a_rest a_wins f_seed a_other a_kept H)
    (hS : va_S (mA q) s.heap H locs)
    (hl : lv_has ls 4 [(0, .ref q), (1, .long x1), (3, .int x3)])
    (hw : q_m_landLine_0 a_tape f_reached f_length f_begins f_sort f_value f_word f_wrongAt f_laterFault f_laterPlace a_told a_read f_farHut f_farSinger f_good x1 x3 post) :
    W p l e rm_m_landLine s m args below meth c H locs 0 0 (MQ below (zQi (S := (Int32) × (Int32) × (Int32) × (Int32) × (Int64) × (Int32) × (Int32) × (Int32) × (Nat → Int32) × (Nat → Int32) × (Int32) × (Int32) × (Int32)) (fun r u => post r u.1 u.2.1 u.2.2.1 u.2.2.2.1 u.2.2.2.2.1 u.2.2.2.2.2.1 u.2.2.2.2.2.2.1 u.2.2.2.2.2.2.2.1 u.2.2.2.2.2.2.2.2.1 u.2.2.2.2.2.2.2.2.2.1 u.2.2.2.2.2.2.2.2.2.2.1 u.2.2.2.2.2.2.2.2.2.2.2.1 u.2.2.2.2.2.2.2.2.2.2.2.2) (fun u H => mW E q f_code a_tape a_size a_fault a_faultPlace a_many a_lands a_evenings a_sights a_choirs u.1 f_length u.2.1 u.2.2.1 u.2.2.2.1 u.2.2.2.2.1 u.2.2.2.2.2.1 u.2.2.2.2.2.2.1 u.2.2.2.2.2.2.2.1 u.2.2.2.2.2.2.2.2.1 u.2.2.2.2.2.2.2.2.2.1 u.2.2.2.2.2.2.2.2.2.2.1 u.2.2.2.2.2.2.2.2.2.2.2.1 u.2.2.2.2.2.2.2.2.2.2.2.2 f_land f_huts f_singers f_evening a_at a_knows a_climbed a_snow a_level f_begun f_minute f_avalanches a_run a_covers a_routes a_longest a_steep a_laid a_far f_sight a_runs f_choir f_voices a_rest a_wins f_seed a_other a_kept H) (mA q)) args s 0 0 (mA q)) (F0 m 0 ls []) := by
  have hx := zc.1
  have hb := zc.2.1
  refine lv_aload_n hx hb dX11_landLine_0 rfl (lv_at hl 0 rfl) ?_
  refine lv_lload_n hx hb dX11_landLine_1 rfl (lv_at hl 1 rfl) ?_
  refine zV_i [.long x1] [] zc ky_X11_isLandWord kz_X11_isLandWord km_11_207 (c_m_isLandWord l hw) (mPreV0 hK hM) rfl rfl hl.1 (Nat.le_of_ble_eq_true rfl) ⟨rfl, rfl⟩ ⟨Nat.le_of_ble_eq_true rfl, Nat.le_of_ble_eq_true rfl⟩ ⟨(Nat.zero_le _), (Nat.zero_le _)⟩ dX11_landLine_2 (fun r_1 hw => ?_)
  refine lv_if_ne (tgt := 13) hx hb dX11_landLine_5 (by decide) (fun hc => ?_) (fun hc => ?_)
  · have hw := hw.1 hc
    refine lv_lload_n hx hb dX11_landLine_13 rfl (lv_at hl 1 rfl) ?_
    refine lv_ldc2 (v := (6845812 : Int64)) hx hb zc.2.2.2.1 (zc.2.2.2.2.1 _ kc_11_187) dX11_landLine_14 ?_
    refine W.lcmp hx hb dX11_landLine_17 ?_
    refine lv_if_ne (tgt := 29) hx hb dX11_landLine_18 (by decide) (fun hc => ?_) (fun hc => ?_)
    · have hw := hw.1 hc
      exact t_m_landLine_29 zc hK hM hS  (lv_sub hl [0, 1, 2] rfl) hw
    · have hw := hw.2 hc
      refine lv_aload_n hx hb dX11_landLine_21 rfl (lv_at hl 0 rfl) ?_
      refine lv_iconst (v := (0 : Int32)) hx hb dX11_landLine_22 (by decide) ?_
      refine lv_bipush (v := (9 : Int32)) hx hb dX11_landLine_23 (by decide) ?_
      refine lv_iload_n hx hb dX11_landLine_25 rfl (lv_at hl 2 rfl) ?_
      refine zVw_v [.int (0 : Int32), .int (9 : Int32), .int x3] [] zc ky_X11_full kz_X11_full km_11_211 (c_m_full l hw) (mPreV0 hK hM) hS rfl rfl hl.1 (Nat.le_of_ble_eq_true rfl) ⟨rfl, rfl⟩ ⟨Nat.le_of_ble_eq_true rfl, Nat.le_of_ble_eq_true rfl⟩ ⟨(Nat.zero_le _), (Nat.zero_le _)⟩ dX11_landLine_26 (fun u H locs hw hM hS => ?_)
      obtain ⟨f_laterFault_1, f_laterPlace_1⟩ := u
      exact t_m_landLine_29 zc hK hM hS  (lv_sub hl [0, 1, 2] rfl) hw
  · have hw := hw.2 hc
    refine lv_aload_n hx hb dX11_landLine_8 rfl (lv_at hl 0 rfl) ?_
    refine zVw_i [] [] zc ky_X11_fails kz_X11_fails km_11_149 (c_m_fails l hw) (mPreV0 hK hM) hS rfl rfl hl.1 (Nat.le_of_ble_eq_true rfl) ⟨rfl, rfl⟩ ⟨Nat.le_of_ble_eq_true rfl, Nat.le_of_ble_eq_true rfl⟩ ⟨(Nat.zero_le _), (Nat.zero_le _)⟩ dX11_landLine_9 (fun r_2 f_wrongAt_1 H locs hw hM hS => ?_)
    exact zret_zw ⟨f_reached, f_begins, f_sort, f_value, f_word, f_wrongAt_1, f_laterFault, f_laterPlace, a_told, a_read, f_farHut, f_farSinger, f_good⟩ zc hS hw.1 hw.2 hM dX11_landLine_12
set_option maxRecDepth 20000 in
theorem c_m_landLine (l : Launch) {E : zE} {q : Nat} {f_code : Int32} {a_tape : Nat → Int32} {a_size : Nat → Int32} {a_fault : Nat → Int32} {a_faultPlace : Nat → Int32} {a_many : Nat → Int32} {a_lands : Nat → Int32} {a_evenings : Nat → Int32} {a_sights : Nat → Int32} {a_choirs : Nat → Int32} {f_reached : Int32} {f_length : Int32} {f_begins : Int32} {f_sort : Int32} {f_value : Int32} {f_word : Int64} {f_wrongAt : Int32} {f_laterFault : Int32} {f_laterPlace : Int32} {a_told : Nat → Int32} {a_read : Nat → Int32} {f_farHut : Int32} {f_farSinger : Int32} {f_good : Int32} {f_land : Int32} {f_huts : Int32} {f_singers : Int32} {f_evening : Int32} {a_at : Nat → Int32} {a_knows : Nat → Int32} {a_climbed : Nat → Int32} {a_snow : Nat → Int32} {a_level : Nat → Int32} {f_begun : Int32} {f_minute : Int32} {f_avalanches : Int32} {a_run : Nat → Int32} {a_covers : Nat → Int32} {a_routes : Nat → Int32} {a_longest : Nat → Int32} {a_steep : Nat → Int32} {a_laid : Nat → Int32} {a_far : Nat → Int32} {f_sight : Int32} {a_runs : Nat → Int32} {f_choir : Int32} {f_voices : Int32} {a_rest : Nat → Int64} {a_wins : Nat → Int32} {f_seed : Int32} {a_other : Nat → Int32} {a_kept : Nat → Int32} {x1 : Int64} {x3 : Int32} {post : Int32 → (Int32) → (Int32) → (Int32) → (Int32) → (Int64) → (Int32) → (Int32) → (Int32) → (Nat → Int32) → (Nat → Int32) → (Int32) → (Int32) → (Int32) → Prop} (hw : q_m_landLine_0 a_tape f_reached f_length f_begins f_sort f_value f_word f_wrongAt f_laterFault f_laterPlace a_told a_read f_farHut f_farSinger f_good x1 x3 post) : Met l yX11_landLine (Cond.code yX11_landLine cX11_landLine 4 (some .boolean) :: zb) rm_m_landLine (va_Pc [.ref q, .long x1, .int x3] (fun U => mW E q f_code a_tape a_size a_fault a_faultPlace a_many a_lands a_evenings a_sights a_choirs f_reached f_length f_begins f_sort f_value f_word f_wrongAt f_laterFault f_laterPlace a_told a_read f_farHut f_farSinger f_good f_land f_huts f_singers f_evening a_at a_knows a_climbed a_snow a_level f_begun f_minute f_avalanches a_run a_covers a_routes a_longest a_steep a_laid a_far f_sight a_runs f_choir f_voices a_rest a_wins f_seed a_other a_kept U.heap ∧ zK E U)) (zQi (S := (Int32) × (Int32) × (Int32) × (Int32) × (Int64) × (Int32) × (Int32) × (Int32) × (Nat → Int32) × (Nat → Int32) × (Int32) × (Int32) × (Int32)) (fun r u => post r u.1 u.2.1 u.2.2.1 u.2.2.2.1 u.2.2.2.2.1 u.2.2.2.2.2.1 u.2.2.2.2.2.2.1 u.2.2.2.2.2.2.2.1 u.2.2.2.2.2.2.2.2.1 u.2.2.2.2.2.2.2.2.2.1 u.2.2.2.2.2.2.2.2.2.2.1 u.2.2.2.2.2.2.2.2.2.2.2.1 u.2.2.2.2.2.2.2.2.2.2.2.2) (fun u H => mW E q f_code a_tape a_size a_fault a_faultPlace a_many a_lands a_evenings a_sights a_choirs u.1 f_length u.2.1 u.2.2.1 u.2.2.2.1 u.2.2.2.2.1 u.2.2.2.2.2.1 u.2.2.2.2.2.2.1 u.2.2.2.2.2.2.2.1 u.2.2.2.2.2.2.2.2.1 u.2.2.2.2.2.2.2.2.2.1 u.2.2.2.2.2.2.2.2.2.2.1 u.2.2.2.2.2.2.2.2.2.2.2.1 u.2.2.2.2.2.2.2.2.2.2.2.2 f_land f_huts f_singers f_evening a_at a_knows a_climbed a_snow a_level f_begun f_minute f_avalanches a_run a_covers a_routes a_longest a_steep a_laid a_far f_sight a_runs f_choir f_voices a_rest a_wins f_seed a_other a_kept H) (mA q)) 0 0 (mA q) := by
  refine Met.ofW (cc := cX11_landLine) (maxL := 4) (ret := (some .boolean)) (by decide) rfl ?_
  intro p e s m args below meth c s₁ B hml hv
  obtain ⟨rfl, hM, hK⟩ := hv
  have zc := zc_of B hml
  have hl := lv_entry ([.ref q, .long x1, .int x3]) (n := 4) (Nat.le_of_ble_eq_true rfl)
  rw [lg_entry_eq]
  generalize (lg_sl ([.ref q, .long x1, .int x3]) ++ List.replicate (4 - (lg_sl ([.ref q, .long x1, .int x3])).length) Slot.unset).toArray = ls at hl ⊢
  have hl : lv_has ls 4 [(0, .ref q), (1, .long x1), (3, .int x3)] := hl
  exact t_m_landLine_0 zc hK hM va_S.rf (lv_sub hl [0, 1, 2] rfl) hw
end
section
-- m_deedBy
abbrev rm_m_deedBy : Room := { frames := 0, cells := 0, slots := 0, locals := 0 }
def q_m_deedBy_0 (x0 : Int64) (post : Int32 → Prop) : Prop :=
  (¬ (lg_cmp x0 (422608071022 : Int64)) = 0 → ((¬ (lg_cmp x0 (1936289383 : Int64)) = 0 → ((¬ (lg_cmp x0 (33610324346432613 : Int64)) = 0 → ((¬ (lg_cmp x0 (2002873451 : Int64)) = 0 → ((¬ (lg_cmp x0 (427020610914 : Int64)) = 0 → ((¬ (lg_cmp x0 (28259043934301796 : Int64)) = 0 → (post (-1 : Int32))) ∧ ((lg_cmp x0 (28259043934301796 : Int64)) = 0 → (post (5 : Int32))))) ∧ ((lg_cmp x0 (427020610914 : Int64)) = 0 → (post (4 : Int32))))) ∧ ((lg_cmp x0 (2002873451 : Int64)) = 0 → (post (3 : Int32))))) ∧ ((lg_cmp x0 (33610324346432613 : Int64)) = 0 → (post (2 : Int32))))) ∧ ((lg_cmp x0 (1936289383 : Int64)) = 0 → (post (1 : Int32))))) ∧ ((lg_cmp x0 (422608071022 : Int64)) = 0 → (post (0 : Int32)))
set_option maxRecDepth 20000 in
theorem t_m_deedBy_0 {p : Program} {l : Launch} {e : Env} {s : State} {m : MethodId} {args : Array Value} {below : List Frame} {meth : Method} {c : Code} {post : Int32 → Prop} {x0 : Int64} {ls : Array Slot}
    (zc : zC p s m args meth c cX11_deedBy 2 RX11 (some .int))
    (hl : lv_has ls 2 [(0, .long x0)])
    (hw : q_m_deedBy_0 x0 post) :
    W p l e rm_m_deedBy s m args below meth c s.heap [] 0 0 (MQ below (vp_Si post) args s 0 0 (fun _ => False)) (F0 m 0 ls []) := by
  have hx := zc.1
  have hb := zc.2.1
  refine lv_lload_n hx hb dX11_deedBy_0 rfl (lv_at hl 0 rfl) ?_
  refine lv_ldc2 (v := (422608071022 : Int64)) hx hb zc.2.2.2.1 (zc.2.2.2.2.1 _ kc_11_240) dX11_deedBy_1 ?_
  refine W.lcmp hx hb dX11_deedBy_4 ?_
  refine lv_if_ne (tgt := 12) hx hb dX11_deedBy_5 (by decide) (fun hc => ?_) (fun hc => ?_)
  · have hw := hw.1 hc
    refine lv_lload_n hx hb dX11_deedBy_12 rfl (lv_at hl 0 rfl) ?_
    refine lv_ldc2 (v := (1936289383 : Int64)) hx hb zc.2.2.2.1 (zc.2.2.2.2.1 _ kc_11_242) dX11_deedBy_13 ?_
    refine W.lcmp hx hb dX11_deedBy_16 ?_
    refine lv_if_ne (tgt := 24) hx hb dX11_deedBy_17 (by decide) (fun hc => ?_) (fun hc => ?_)
    · have hw := hw.1 hc
      refine lv_lload_n hx hb dX11_deedBy_24 rfl (lv_at hl 0 rfl) ?_
      refine lv_ldc2 (v := (33610324346432613 : Int64)) hx hb zc.2.2.2.1 (zc.2.2.2.2.1 _ kc_11_244) dX11_deedBy_25 ?_
      refine W.lcmp hx hb dX11_deedBy_28 ?_
      refine lv_if_ne (tgt := 36) hx hb dX11_deedBy_29 (by decide) (fun hc => ?_) (fun hc => ?_)
      · have hw := hw.1 hc
        refine lv_lload_n hx hb dX11_deedBy_36 rfl (lv_at hl 0 rfl) ?_
        refine lv_ldc2 (v := (2002873451 : Int64)) hx hb zc.2.2.2.1 (zc.2.2.2.2.1 _ kc_11_246) dX11_deedBy_37 ?_
        refine W.lcmp hx hb dX11_deedBy_40 ?_
        refine lv_if_ne (tgt := 48) hx hb dX11_deedBy_41 (by decide) (fun hc => ?_) (fun hc => ?_)
        · have hw := hw.1 hc
          refine lv_lload_n hx hb dX11_deedBy_48 rfl (lv_at hl 0 rfl) ?_
          refine lv_ldc2 (v := (427020610914 : Int64)) hx hb zc.2.2.2.1 (zc.2.2.2.2.1 _ kc_11_248) dX11_deedBy_49 ?_
          refine W.lcmp hx hb dX11_deedBy_52 ?_
          refine lv_if_ne (tgt := 60) hx hb dX11_deedBy_53 (by decide) (fun hc => ?_) (fun hc => ?_)
          · have hw := hw.1 hc
            refine lv_lload_n hx hb dX11_deedBy_60 rfl (lv_at hl 0 rfl) ?_
            refine lv_ldc2 (v := (28259043934301796 : Int64)) hx hb zc.2.2.2.1 (zc.2.2.2.2.1 _ kc_11_250) dX11_deedBy_61 ?_
            refine W.lcmp hx hb dX11_deedBy_64 ?_
            refine lv_if_ne (tgt := 72) hx hb dX11_deedBy_65 (by decide) (fun hc => ?_) (fun hc => ?_)
            · have hw := hw.1 hc
              refine lv_iconst (v := (-1 : Int32)) hx hb dX11_deedBy_72 (by decide) ?_
              exact zret_i zc hw dX11_deedBy_73
            · have hw := hw.2 hc
              refine lv_iconst (v := (5 : Int32)) hx hb dX11_deedBy_68 (by decide) ?_
              refine lv_goto (tgt := 73) hx hb dX11_deedBy_69 (by decide) ?_
              exact zret_i zc hw dX11_deedBy_73
          · have hw := hw.2 hc
            refine lv_iconst (v := (4 : Int32)) hx hb dX11_deedBy_56 (by decide) ?_
            refine lv_goto (tgt := 73) hx hb dX11_deedBy_57 (by decide) ?_
            exact zret_i zc hw dX11_deedBy_73
        · have hw := hw.2 hc
          refine lv_iconst (v := (3 : Int32)) hx hb dX11_deedBy_44 (by decide) ?_
          refine lv_goto (tgt := 73) hx hb dX11_deedBy_45 (by decide) ?_
          exact zret_i zc hw dX11_deedBy_73
      · have hw := hw.2 hc
        refine lv_iconst (v := (2 : Int32)) hx hb dX11_deedBy_32 (by decide) ?_
        refine lv_goto (tgt := 73) hx hb dX11_deedBy_33 (by decide) ?_
        exact zret_i zc hw dX11_deedBy_73
    · have hw := hw.2 hc
      refine lv_iconst (v := (1 : Int32)) hx hb dX11_deedBy_20 (by decide) ?_
      refine lv_goto (tgt := 73) hx hb dX11_deedBy_21 (by decide) ?_
      exact zret_i zc hw dX11_deedBy_73
  · have hw := hw.2 hc
    refine lv_iconst (v := (0 : Int32)) hx hb dX11_deedBy_8 (by decide) ?_
    refine lv_goto (tgt := 73) hx hb dX11_deedBy_9 (by decide) ?_
    exact zret_i zc hw dX11_deedBy_73
set_option maxRecDepth 20000 in
theorem c_m_deedBy (l : Launch) {x0 : Int64} {post : Int32 → Prop} (hw : q_m_deedBy_0 x0 post) : Met l yX11_deedBy (Cond.code yX11_deedBy cX11_deedBy 2 (some .int) :: zb) rm_m_deedBy (va_Pc [.long x0] (fun _ => True)) (vp_Si post) 0 0 (fun _ => False) := by
  refine Met.ofW (cc := cX11_deedBy) (maxL := 2) (ret := (some .int)) (by decide) rfl ?_
  intro p e s m args below meth c s₁ B hml hv
  obtain ⟨rfl, -⟩ := hv
  have zc := zc_of B hml
  have hl := lv_entry ([.long x0]) (n := 2) (Nat.le_of_ble_eq_true rfl)
  rw [lg_entry_eq]
  generalize (lg_sl ([.long x0]) ++ List.replicate (2 - (lg_sl ([.long x0])).length) Slot.unset).toArray = ls at hl ⊢
  have hl : lv_has ls 2 [(0, .long x0)] := hl
  exact t_m_deedBy_0 zc (lv_sub hl [0] rfl) hw
-- m_keep
abbrev rm_m_keep : Room := { frames := 1, cells := 0, slots := 0, locals := 23 }
def q_m_keep_10 (a_told : Nat → Int32) (a_read : Nat → Int32) (x1 : Int32) (x3 : Int32) (x4 : Int32) (post : (Nat → Int32) → Prop) : Prop :=
  ∀ P10 : Int32 → (Nat → Int32) → Prop, (∀ (x4 : Int32) (a_told : Nat → Int32), ((x1 ≤ x4 → (post a_told)) ∧ (¬ x1 ≤ x4 → ((x3 = (-1 : Int32) → (post a_told)) ∧ (¬ x3 = (-1 : Int32) → (vp_in x4 3 ∧ (∀ v_1 : Int32, v_1 = (a_read (Int32.toNatClampNeg x4)) → (vp_in (((1 : Int32) + (x1 * x3)) + x4) 132 ∧ (∀ a_told_1 : Nat → Int32, a_told_1 = upd a_told (Int32.toNatClampNeg (((1 : Int32) + (x1 * x3)) + x4)) v_1 → (∀ v_2 : Int32, v_2 = x4 + (1 : Int32) → (P10 v_2 a_told_1)))))))))) → P10 x4 a_told) → P10 x4 a_told
def q_m_keep_0 (a_told : Nat → Int32) (a_read : Nat → Int32) (x1 : Int32) (x2 : Int32) (post : (Nat → Int32) → Prop) : Prop :=
  q_m_further_0 a_told (0 : Int32) x2 (fun r_1 a_told_1 => q_m_keep_10 a_told_1 a_read x1 r_1 (0 : Int32) post)
set_option maxRecDepth 20000 in
theorem t_m_keep_10 {p : Program} {l : Launch} {e : Env} {s : State} {m : MethodId} {args : Array Value} {below : List Frame} {meth : Method} {c : Code} {E : zE} {q : Nat} {f_code : Int32} {a_tape : Nat → Int32} {a_size : Nat → Int32} {a_fault : Nat → Int32} {a_faultPlace : Nat → Int32} {a_many : Nat → Int32} {a_lands : Nat → Int32} {a_evenings : Nat → Int32} {a_sights : Nat → Int32} {a_choirs : Nat → Int32} {f_reached : Int32} {f_length : Int32} {f_begins : Int32} {f_sort : Int32} {f_value : Int32} {f_word : Int64} {f_wrongAt : Int32} {f_laterFault : Int32} {f_laterPlace : Int32} {a_told : Nat → Int32} {a_read : Nat → Int32} {f_farHut : Int32} {f_farSinger : Int32} {f_good : Int32} {f_land : Int32} {f_huts : Int32} {f_singers : Int32} {f_evening : Int32} {a_at : Nat → Int32} {a_knows : Nat → Int32} {a_climbed : Nat → Int32} {a_snow : Nat → Int32} {a_level : Nat → Int32} {f_begun : Int32} {f_minute : Int32} {f_avalanches : Int32} {a_run : Nat → Int32} {a_covers : Nat → Int32} {a_routes : Nat → Int32} {a_longest : Nat → Int32} {a_steep : Nat → Int32} {a_laid : Nat → Int32} {a_far : Nat → Int32} {f_sight : Int32} {a_runs : Nat → Int32} {f_choir : Int32} {f_voices : Int32} {a_rest : Nat → Int64} {a_wins : Nat → Int32} {f_seed : Int32} {a_other : Nat → Int32} {a_kept : Nat → Int32} {post : (Nat → Int32) → Prop} {x1 : Int32} {x3 : Int32} {x4 : Int32} {ls : Array Slot} {H : Heap} {locs : List Loc}
    (zc : zC p s m args meth c cX11_keep 5 RX11 none)
    (hK : zK E s)
    (hM : mW E q f_code a_tape a_size a_fault a_faultPlace a_many a_lands a_evenings a_sights a_choirs f_reached f_length f_begins f_sort f_value f_word f_wrongAt f_laterFault f_laterPlace a_told a_read f_farHut f_farSinger f_good f_land f_huts f_singers f_evening a_at a_knows a_climbed a_snow a_level f_begun f_minute f_avalanches a_run a_covers a_routes a_longest a_steep a_laid a_far f_sight a_runs f_choir f_voices a_rest a_wins f_seed a_other a_kept H)
    (hS : va_S (mA q) s.heap H locs)
    (hl : lv_has ls 5 [(0, .ref q), (1, .int x1), (3, .int x3), (4, .int x4)])
    (hw : q_m_keep_10 a_told a_read x1 x3 x4 post) :
    W p l e rm_m_keep s m args below meth c H locs 0 0 (MQ below (zQv (S := (Nat → Int32)) (fun u => post u) (fun u H => mW E q f_code a_tape a_size a_fault a_faultPlace a_many a_lands a_evenings a_sights a_choirs f_reached f_length f_begins f_sort f_value f_word f_wrongAt f_laterFault f_laterPlace u a_read f_farHut f_farSinger f_good f_land f_huts f_singers f_evening a_at a_knows a_climbed a_snow a_level f_begun f_minute f_avalanches a_run a_covers a_routes a_longest a_steep a_laid a_far f_sight a_runs f_choir f_voices a_rest a_wins f_seed a_other a_kept H) (mA q)) args s 0 0 (mA q)) (F0 m 10 ls []) := by
  have hx := zc.1
  have hb := zc.2.1
  refine hw (fun x4 a_told => ∀ (H : Heap) (locs : List Loc) (ls : Array Slot), lv_has ls 5 [(0, .ref q), (1, .int x1), (3, .int x3), (4, .int x4)] → mW E q f_code a_tape a_size a_fault a_faultPlace a_many a_lands a_evenings a_sights a_choirs f_reached f_length f_begins f_sort f_value f_word f_wrongAt f_laterFault f_laterPlace a_told a_read f_farHut f_farSinger f_good f_land f_huts f_singers f_evening a_at a_knows a_climbed a_snow a_level f_begun f_minute f_avalanches a_run a_covers a_routes a_longest a_steep a_laid a_far f_sight a_runs f_choir f_voices a_rest a_wins f_seed a_other a_kept H → va_S (mA q) s.heap H locs → W p l e rm_m_keep s m args below meth c H locs 0 0 (MQ below (zQv (S := (Nat → Int32)) (fun u => post u) (fun u H => mW E q f_code a_tape a_size a_fault a_faultPlace a_many a_lands a_evenings a_sights a_choirs f_reached f_length f_begins f_sort f_value f_word f_wrongAt f_laterFault f_laterPlace u a_read f_farHut f_farSinger f_good f_land f_huts f_singers f_evening a_at a_knows a_climbed a_snow a_level f_begun f_minute f_avalanches a_run a_covers a_routes a_longest a_steep a_laid a_far f_sight a_runs f_choir f_voices a_rest a_wins f_seed a_other a_kept H) (mA q)) args s 0 0 (mA q)) (F0 m 10 ls [])) ?_ _ _ _ hl hM hS
  intro x4 a_told hw H locs ls hl hM hS
  refine lv_iload hx hb dX11_keep_10 (lv_at hl 3 rfl) ?_
  refine lv_iload_n hx hb dX11_keep_12 rfl (lv_at hl 1 rfl) ?_
  refine lv_icmp_ge (tgt := 47) hx hb dX11_keep_13 (by decide) (fun hc => ?_) (fun hc => ?_)
  · have hw := hw.1 hc
    exact zret_vw a_told zc hS hw hM dX11_keep_47
  · have hw := hw.2 hc
    refine lv_iload_n hx hb dX11_keep_16 rfl (lv_at hl 2 rfl) ?_
    refine lv_iconst (v := (-1 : Int32)) hx hb dX11_keep_17 (by decide) ?_
    refine lv_icmp_eq (tgt := 47) hx hb dX11_keep_18 (by decide) (fun hc => ?_) (fun hc => ?_)
    · have hw := hw.1 hc
      exact zret_vw a_told zc hS hw hM dX11_keep_47
    · have hw := hw.2 hc
      refine lv_aload_n hx hb dX11_keep_21 rfl (lv_at hl 0 rfl) ?_
      refine mg_11_38_0 zc hK hM dX11_keep_22 ?_
      refine lv_iconst (v := (1 : Int32)) hx hb dX11_keep_25 (by decide) ?_
      refine lv_iload_n hx hb dX11_keep_26 rfl (lv_at hl 1 rfl) ?_
      refine lv_iload_n hx hb dX11_keep_27 rfl (lv_at hl 2 rfl) ?_
      refine lv_imul hx hb dX11_keep_28 ?_
      refine lv_iadd hx hb dX11_keep_29 ?_
      refine lv_iload hx hb dX11_keep_30 (lv_at hl 3 rfl) ?_
      refine lv_iadd hx hb dX11_keep_32 ?_
      refine lv_aload_n hx hb dX11_keep_33 rfl (lv_at hl 0 rfl) ?_
      refine mg_11_41_0 zc hK hM dX11_keep_34 ?_
      refine lv_iload hx hb dX11_keep_37 (lv_at hl 3 rfl) ?_
      refine mld_11 zc hK hM hw.1 dX11_keep_39 ?_
      have hw := hw.2
      refine lv_topi (fun v_1 ev_1 => ?_)
      have hw := hw v_1 ev_1
      refine mst_10 zc hK hM hS hw.1 dX11_keep_40 (fun a_told_1 H locs ea_told_1 hM hS => ?_)
      have hw := hw.2 a_told_1 ea_told_1
      obtain ⟨v_2, ev_2⟩ : ∃ y : Int32, y = x4 + (1 : Int32) := ⟨_, rfl⟩
      have hw := hw v_2 ev_2
      refine lv_iinc (v := v_2) (k := 3) (lv' := [(4, .int v_2), (0, .ref q), (1, .int x1), (3, .int x3)]) hx hb dX11_keep_41 hl rfl (by rw [ev_2]; rfl) (by decide) rfl (fun ls hl => ?_)
      refine lv_goto (tgt := 10) hx hb dX11_keep_44 (by decide) ?_
      exact hw _ _ _ (lv_sub hl [1, 2, 3, 0] rfl) hM hS
set_option maxRecDepth 20000 in
theorem t_m_keep_0 {p : Program} {l : Launch} {e : Env} {s : State} {m : MethodId} {args : Array Value} {below : List Frame} {meth : Method} {c : Code} {E : zE} {q : Nat} {f_code : Int32} {a_tape : Nat → Int32} {a_size : Nat → Int32} {a_fault : Nat → Int32} {a_faultPlace : Nat → Int32} {a_many : Nat → Int32} {a_lands : Nat → Int32} {a_evenings : Nat → Int32} {a_sights : Nat → Int32} {a_choirs : Nat → Int32} {f_reached : Int32} {f_length : Int32} {f_begins : Int32} {f_sort : Int32} {f_value : Int32} {f_word : Int64} {f_wrongAt : Int32} {f_laterFault : Int32} {f_laterPlace : Int32} {a_told : Nat → Int32} {a_read : Nat → Int32} {f_farHut : Int32} {f_farSinger : Int32} {f_good : Int32} {f_land : Int32} {f_huts : Int32} {f_singers : Int32} {f_evening : Int32} {a_at : Nat → Int32} {a_knows : Nat → Int32} {a_climbed : Nat → Int32} {a_snow : Nat → Int32} {a_level : Nat → Int32} {f_begun : Int32} {f_minute : Int32} {f_avalanches : Int32} {a_run : Nat → Int32} {a_covers : Nat → Int32} {a_routes : Nat → Int32} {a_longest : Nat → Int32} {a_steep : Nat → Int32} {a_laid : Nat → Int32} {a_far : Nat → Int32} {f_sight : Int32} {a_runs : Nat → Int32} {f_choir : Int32} {f_voices : Int32} {a_rest : Nat → Int64} {a_wins : Nat → Int32} {f_seed : Int32} {a_other : Nat → Int32} {a_kept : Nat → Int32} {post : (Nat → Int32) → Prop} {x1 : Int32} {x2 : Int32} {ls : Array Slot} {H : Heap} {locs : List Loc}
    (zc : zC p s m args meth c cX11_keep 5 RX11 none)
    (hK : zK E s)
    (hM : mW E q f_code a_tape a_size a_fault a_faultPlace a_many a_lands a_evenings a_sights a_choirs f_reached f_length f_begins f_sort f_value f_word f_wrongAt f_laterFault f_laterPlace a_told a_read f_farHut f_farSinger f_good f_land f_huts f_singers f_evening a_at a_knows a_climbed a_snow a_level f_begun f_minute f_avalanches a_run a_covers a_routes a_longest a_steep a_laid a_far f_sight a_runs f_choir f_voices a_rest a_wins f_seed a_other a_kept H)
    (hS : va_S (mA q) s.heap H locs)
    (hl : lv_has ls 5 [(0, .ref q), (1, .int x1), (2, .int x2)])
    (hw : q_m_keep_0 a_told a_read x1 x2 post) :
    W p l e rm_m_keep s m args below meth c H locs 0 0 (MQ below (zQv (S := (Nat → Int32)) (fun u => post u) (fun u H => mW E q f_code a_tape a_size a_fault a_faultPlace a_many a_lands a_evenings a_sights a_choirs f_reached f_length f_begins f_sort f_value f_word f_wrongAt f_laterFault f_laterPlace u a_read f_farHut f_farSinger f_good f_land f_huts f_singers f_evening a_at a_knows a_climbed a_snow a_level f_begun f_minute f_avalanches a_run a_covers a_routes a_longest a_steep a_laid a_far f_sight a_runs f_choir f_voices a_rest a_wins f_seed a_other a_kept H) (mA q)) args s 0 0 (mA q)) (F0 m 0 ls []) := by
  have hx := zc.1
  have hb := zc.2.1
  refine lv_aload_n hx hb dX11_keep_0 rfl (lv_at hl 0 rfl) ?_
  refine lv_iconst (v := (0 : Int32)) hx hb dX11_keep_1 (by decide) ?_
  refine lv_iload_n hx hb dX11_keep_2 rfl (lv_at hl 2 rfl) ?_
  refine zVw_i [.int (0 : Int32), .int x2] [] zc ky_X11_further kz_X11_further km_11_181 (c_m_further l hw) (mPreV0 hK hM) hS rfl rfl hl.1 (Nat.le_of_ble_eq_true rfl) ⟨rfl, rfl⟩ ⟨Nat.le_of_ble_eq_true rfl, Nat.le_of_ble_eq_true rfl⟩ ⟨(Nat.zero_le _), (Nat.zero_le _)⟩ dX11_keep_3 (fun r_1 a_told_1 H locs hw hM hS => ?_)
  refine lv_istore_n (lv' := [(3, .int r_1), (0, .ref q), (1, .int x1), (2, .int x2)]) hx hb dX11_keep_6 rfl hl (by decide) rfl (fun ls hl => ?_)
  refine lv_iconst (v := (0 : Int32)) hx hb dX11_keep_7 (by decide) ?_
  refine lv_istore (lv' := [(4, .int (0 : Int32)), (3, .int r_1), (0, .ref q), (1, .int x1), (2, .int x2)]) hx hb dX11_keep_8 hl (by decide) rfl (fun ls hl => ?_)
  exact t_m_keep_10 zc hK hM hS  (lv_sub hl [2, 3, 1, 0] rfl) hw
set_option maxRecDepth 20000 in
theorem c_m_keep (l : Launch) {E : zE} {q : Nat} {f_code : Int32} {a_tape : Nat → Int32} {a_size : Nat → Int32} {a_fault : Nat → Int32} {a_faultPlace : Nat → Int32} {a_many : Nat → Int32} {a_lands : Nat → Int32} {a_evenings : Nat → Int32} {a_sights : Nat → Int32} {a_choirs : Nat → Int32} {f_reached : Int32} {f_length : Int32} {f_begins : Int32} {f_sort : Int32} {f_value : Int32} {f_word : Int64} {f_wrongAt : Int32} {f_laterFault : Int32} {f_laterPlace : Int32} {a_told : Nat → Int32} {a_read : Nat → Int32} {f_farHut : Int32} {f_farSinger : Int32} {f_good : Int32} {f_land : Int32} {f_huts : Int32} {f_singers : Int32} {f_evening : Int32} {a_at : Nat → Int32} {a_knows : Nat → Int32} {a_climbed : Nat → Int32} {a_snow : Nat → Int32} {a_level : Nat → Int32} {f_begun : Int32} {f_minute : Int32} {f_avalanches : Int32} {a_run : Nat → Int32} {a_covers : Nat → Int32} {a_routes : Nat → Int32} {a_longest : Nat → Int32} {a_steep : Nat → Int32} {a_laid : Nat → Int32} {a_far : Nat → Int32} {f_sight : Int32} {a_runs : Nat → Int32} {f_choir : Int32} {f_voices : Int32} {a_rest : Nat → Int64} {a_wins : Nat → Int32} {f_seed : Int32} {a_other : Nat → Int32} {a_kept : Nat → Int32} {x1 : Int32} {x2 : Int32} {post : (Nat → Int32) → Prop} (hw : q_m_keep_0 a_told a_read x1 x2 post) : Met l yX11_keep (Cond.code yX11_keep cX11_keep 5 none :: zb) rm_m_keep (va_Pc [.ref q, .int x1, .int x2] (fun U => mW E q f_code a_tape a_size a_fault a_faultPlace a_many a_lands a_evenings a_sights a_choirs f_reached f_length f_begins f_sort f_value f_word f_wrongAt f_laterFault f_laterPlace a_told a_read f_farHut f_farSinger f_good f_land f_huts f_singers f_evening a_at a_knows a_climbed a_snow a_level f_begun f_minute f_avalanches a_run a_covers a_routes a_longest a_steep a_laid a_far f_sight a_runs f_choir f_voices a_rest a_wins f_seed a_other a_kept U.heap ∧ zK E U)) (zQv (S := (Nat → Int32)) (fun u => post u) (fun u H => mW E q f_code a_tape a_size a_fault a_faultPlace a_many a_lands a_evenings a_sights a_choirs f_reached f_length f_begins f_sort f_value f_word f_wrongAt f_laterFault f_laterPlace u a_read f_farHut f_farSinger f_good f_land f_huts f_singers f_evening a_at a_knows a_climbed a_snow a_level f_begun f_minute f_avalanches a_run a_covers a_routes a_longest a_steep a_laid a_far f_sight a_runs f_choir f_voices a_rest a_wins f_seed a_other a_kept H) (mA q)) 0 0 (mA q) := by
  refine Met.ofW (cc := cX11_keep) (maxL := 5) (ret := none) (by decide) rfl ?_
  intro p e s m args below meth c s₁ B hml hv
  obtain ⟨rfl, hM, hK⟩ := hv
  have zc := zc_of B hml
  have hl := lv_entry ([.ref q, .int x1, .int x2]) (n := 5) (Nat.le_of_ble_eq_true rfl)
  rw [lg_entry_eq]
  generalize (lg_sl ([.ref q, .int x1, .int x2]) ++ List.replicate (5 - (lg_sl ([.ref q, .int x1, .int x2])).length) Slot.unset).toArray = ls at hl ⊢
  have hl : lv_has ls 5 [(0, .ref q), (1, .int x1), (2, .int x2)] := hl
  exact t_m_keep_0 zc hK hM va_S.rf (lv_sub hl [0, 1, 2] rfl) hw
-- m_eveningLine
abbrev rm_m_eveningLine : Room := { frames := 4, cells := 0, slots := 0, locals := 91 }
def q_m_eveningLine_75 (a_tape : Nat → Int32) (f_reached : Int32) (f_length : Int32) (f_begins : Int32) (f_sort : Int32) (f_value : Int32) (f_word : Int64) (f_wrongAt : Int32) (f_laterFault : Int32) (f_laterPlace : Int32) (a_told : Nat → Int32) (a_read : Nat → Int32) (f_good : Int32) (x4 : Int32) (post : Int32 → (Int32) → (Int32) → (Int32) → (Int32) → (Int64) → (Int32) → (Int32) → (Int32) → (Nat → Int32) → (Nat → Int32) → (Int32) → Prop) : Prop :=
  ∀ a_read_1 : Nat → Int32, a_read_1 = upd a_read (Int32.toNatClampNeg (0 : Int32)) x4 → (q_m_keep_0 a_told a_read_1 (3 : Int32) (40 : Int32) (fun a_told_1 => post (1 : Int32) f_reached f_begins f_sort f_value f_word f_wrongAt f_laterFault f_laterPlace a_told_1 a_read_1 f_good))
def q_m_eveningLine_67 (a_tape : Nat → Int32) (f_reached : Int32) (f_length : Int32) (f_begins : Int32) (f_sort : Int32) (f_value : Int32) (f_word : Int64) (f_wrongAt : Int32) (f_laterFault : Int32) (f_laterPlace : Int32) (a_told : Nat → Int32) (a_read : Nat → Int32) (f_good : Int32) (x4 : Int32) (y0 : Int32) (y1 : Int32) (y2 : Int32) (post : Int32 → (Int32) → (Int32) → (Int32) → (Int32) → (Int64) → (Int32) → (Int32) → (Int32) → (Nat → Int32) → (Nat → Int32) → (Int32) → Prop) : Prop :=
  q_m_take_0 a_tape f_reached f_length f_begins f_sort f_value f_word f_wrongAt f_laterFault f_laterPlace a_read f_good y0 y1 y2 (fun r_1 f_reached_1 f_begins_1 f_sort_1 f_value_1 f_word_1 f_wrongAt_1 f_laterFault_1 f_laterPlace_1 a_read_1 f_good_1 => (¬ r_1 = 0 → (q_m_eveningLine_75 a_tape f_reached_1 f_length f_begins_1 f_sort_1 f_value_1 f_word_1 f_wrongAt_1 f_laterFault_1 f_laterPlace_1 a_told a_read_1 f_good_1 x4 post)) ∧ (r_1 = 0 → (post (0 : Int32) f_reached_1 f_begins_1 f_sort_1 f_value_1 f_word_1 f_wrongAt_1 f_laterFault_1 f_laterPlace_1 a_told a_read_1 f_good_1)))
def q_m_eveningLine_0 (a_tape : Nat → Int32) (f_reached : Int32) (f_length : Int32) (f_begins : Int32) (f_sort : Int32) (f_value : Int32) (f_word : Int64) (f_wrongAt : Int32) (f_laterFault : Int32) (f_laterPlace : Int32) (a_told : Nat → Int32) (a_read : Nat → Int32) (f_good : Int32) (x1 : Int64) (x3 : Int32) (post : Int32 → (Int32) → (Int32) → (Int32) → (Int32) → (Int64) → (Int32) → (Int32) → (Int32) → (Nat → Int32) → (Nat → Int32) → (Int32) → Prop) : Prop :=
  q_m_deedBy_0 x1 (fun r_1 => (¬ r_1 = (-1 : Int32) → (q_m_full_0 f_laterFault f_laterPlace a_told (0 : Int32) (40 : Int32) x3 (fun f_laterFault_1 f_laterPlace_1 => q_m_token_0 a_tape f_reached f_length f_begins f_sort f_value f_word (fun f_reached_1 f_begins_1 f_sort_1 f_value_1 f_word_1 => ∀ a_read_1 : Nat → Int32, a_read_1 = upd a_read (Int32.toNatClampNeg (2 : Int32)) (-1 : Int32) → (q_m_take_0 a_tape f_reached_1 f_length f_begins_1 f_sort_1 f_value_1 f_word_1 f_wrongAt f_laterFault_1 f_laterPlace_1 a_read_1 f_good (1 : Int32) (0 : Int32) (5 : Int32) (fun r_2 f_reached_2 f_begins_2 f_sort_2 f_value_2 f_word_2 f_wrongAt_1 f_laterFault_2 f_laterPlace_2 a_read_2 f_good_1 => (r_2 = 0 → (post (0 : Int32) f_reached_2 f_begins_2 f_sort_2 f_value_2 f_word_2 f_wrongAt_1 f_laterFault_2 f_laterPlace_2 a_told a_read_2 f_good_1)) ∧ (¬ r_2 = 0 → (((4 : Int32) ≤ r_1 → (q_m_eveningLine_75 a_tape f_reached_2 f_length f_begins_2 f_sort_2 f_value_2 f_word_2 f_wrongAt_1 f_laterFault_2 f_laterPlace_2 a_told a_read_2 f_good_1 r_1 post)) ∧ (¬ (4 : Int32) ≤ r_1 → ((¬ r_1 = (3 : Int32) → (q_m_eveningLine_67 a_tape f_reached_2 f_length f_begins_2 f_sort_2 f_value_2 f_word_2 f_wrongAt_1 f_laterFault_2 f_laterPlace_2 a_told a_read_2 f_good_1 r_1 (2 : Int32) (0 : Int32) (4 : Int32) post)) ∧ (r_1 = (3 : Int32) → (q_m_eveningLine_67 a_tape f_reached_2 f_length f_begins_2 f_sort_2 f_value_2 f_word_2 f_wrongAt_1 f_laterFault_2 f_laterPlace_2 a_told a_read_2 f_good_1 r_1 (2 : Int32) (0 : Int32) (8 : Int32) post)))))))))))) ∧ (r_1 = (-1 : Int32) → (q_m_fails_0 f_begins f_wrongAt (fun r_3 f_wrongAt_2 => narrow .boolean (.int r_3) = .int r_3 ∧ post r_3 f_reached f_begins f_sort f_value f_word f_wrongAt_2 f_laterFault f_laterPlace a_told a_read f_good))))
set_option maxRecDepth 20000 in
theorem t_m_eveningLine_75 {p : Program} {l : Launch} {e : Env} {s : State} {m : MethodId} {args : Array Value} {below : List Frame} {meth : Method} {c : Code} {E : zE} {q : Nat} {f_code : Int32} {a_tape : Nat → Int32} {a_size : Nat → Int32} {a_fault : Nat → Int32} {a_faultPlace : Nat → Int32} {a_many : Nat → Int32} {a_lands : Nat → Int32} {a_evenings : Nat → Int32} {a_sights : Nat → Int32} {a_choirs : Nat → Int32} {f_reached : Int32} {f_length : Int32} {f_begins : Int32} {f_sort : Int32} {f_value : Int32} {f_word : Int64} {f_wrongAt : Int32} {f_laterFault : Int32} {f_laterPlace : Int32} {a_told : Nat → Int32} {a_read : Nat → Int32} {f_farHut : Int32} {f_farSinger : Int32} {f_good : Int32} {f_land : Int32} {f_huts : Int32} {f_singers : Int32} {f_evening : Int32} {a_at : Nat → Int32} {a_knows : Nat → Int32} {a_climbed : Nat → Int32} {a_snow : Nat → Int32} {a_level : Nat → Int32} {f_begun : Int32} {f_minute : Int32} {f_avalanches : Int32} {a_run : Nat → Int32} {a_covers : Nat → Int32} {a_routes : Nat → Int32} {a_longest : Nat → Int32} {a_steep : Nat → Int32} {a_laid : Nat → Int32} {a_far : Nat → Int32} {f_sight : Int32} {a_runs : Nat → Int32} {f_choir : Int32} {f_voices : Int32} {a_rest : Nat → Int64} {a_wins : Nat → Int32} {f_seed : Int32} {a_other : Nat → Int32} {a_kept : Nat → Int32} {post : Int32 → (Int32) → (Int32) → (Int32) → (Int32) → (Int64) → (Int32) → (Int32) → (Int32) → (Nat → Int32) → (Nat → Int32) → (Int32) → Prop} {x4 : Int32} {ls : Array Slot} {H : Heap} {locs : List Loc}
    (zc : zC p s m args meth c cX11_eveningLine 5 RX11 (some .boolean))
    (hK : zK E s)
    (hM : mW E q f_code a_tape a_size a_fault a_faultPlace a_many a_lands a_evenings a_sights a_choirs f_reached f_length f_begins f_sort f_value f_word f_wrongAt f_laterFault f_laterPlace a_told a_read f_farHut f_farSinger f_good f_land f_huts f_singers f_evening a_at a_knows a_climbed a_snow a_level f_begun f_minute f_avalanches a_run a_covers a_routes a_longest a_steep a_laid a_far f_sight a_runs f_choir f_voices a_rest a_wins f_seed a_other a_kept H)
    (hS : va_S (mA q) s.heap H locs)
    (hl : lv_has ls 5 [(0, .ref q), (4, .int x4)])
    (hw : q_m_eveningLine_75 a_tape f_reached f_length f_begins f_sort f_value f_word f_wrongAt f_laterFault f_laterPlace a_told a_read f_good x4 post) :
    W p l e rm_m_eveningLine s m args below meth c H locs 0 0 (MQ below (zQi (S := (Int32) × (Int32) × (Int32) × (Int32) × (Int64) × (Int32) × (Int32) × (Int32) × (Nat → Int32) × (Nat → Int32) × (Int32)) (fun r u => post r u.1 u.2.1 u.2.2.1 u.2.2.2.1 u.2.2.2.2.1 u.2.2.2.2.2.1 u.2.2.2.2.2.2.1 u.2.2.2.2.2.2.2.1 u.2.2.2.2.2.2.2.2.1 u.2.2.2.2.2.2.2.2.2.1 u.2.2.2.2.2.2.2.2.2.2) (fun u H => mW E q f_code a_tape a_size a_fault a_faultPlace a_many a_lands a_evenings a_sights a_choirs u.1 f_length u.2.1 u.2.2.1 u.2.2.2.1 u.2.2.2.2.1 u.2.2.2.2.2.1 u.2.2.2.2.2.2.1 u.2.2.2.2.2.2.2.1 u.2.2.2.2.2.2.2.2.1 u.2.2.2.2.2.2.2.2.2.1 f_farHut f_farSinger u.2.2.2.2.2.2.2.2.2.2 f_land f_huts f_singers f_evening a_at a_knows a_climbed a_snow a_level f_begun f_minute f_avalanches a_run a_covers a_routes a_longest a_steep a_laid a_far f_sight a_runs f_choir f_voices a_rest a_wins f_seed a_other a_kept H) (mA q)) args s 0 0 (mA q)) (F0 m 75 ls []) := by
  have hx := zc.1
  have hb := zc.2.1
  refine lv_aload_n hx hb dX11_eveningLine_75 rfl (lv_at hl 0 rfl) ?_
  refine mg_11_41_0 zc hK hM dX11_eveningLine_76 ?_
  refine lv_iconst (v := (0 : Int32)) hx hb dX11_eveningLine_79 (by decide) ?_
  refine lv_iload hx hb dX11_eveningLine_80 (lv_at hl 1 rfl) ?_
  refine mst_11 zc hK hM hS (by unfold vp_in; decide) dX11_eveningLine_82 (fun a_read_1 H locs ea_read_1 hM hS => ?_)
  have hw := hw a_read_1 ea_read_1
  refine lv_aload_n hx hb dX11_eveningLine_83 rfl (lv_at hl 0 rfl) ?_
  refine lv_iconst (v := (3 : Int32)) hx hb dX11_eveningLine_84 (by decide) ?_
  refine lv_bipush (v := (40 : Int32)) hx hb dX11_eveningLine_85 (by decide) ?_
  refine zVw_v [.int (3 : Int32), .int (40 : Int32)] [] zc ky_X11_keep kz_X11_keep km_11_256 (c_m_keep l hw) (mPreV0 hK hM) hS rfl rfl hl.1 (Nat.le_of_ble_eq_true rfl) ⟨rfl, rfl⟩ ⟨Nat.le_of_ble_eq_true rfl, Nat.le_of_ble_eq_true rfl⟩ ⟨(Nat.zero_le _), (Nat.zero_le _)⟩ dX11_eveningLine_87 (fun a_told_1 H locs hw hM hS => ?_)
  refine lv_iconst (v := (1 : Int32)) hx hb dX11_eveningLine_90 (by decide) ?_
  exact zret_zw ⟨f_reached, f_begins, f_sort, f_value, f_word, f_wrongAt, f_laterFault, f_laterPlace, a_told_1, a_read_1, f_good⟩ zc hS rfl hw hM dX11_eveningLine_91
set_option maxRecDepth 20000 in
theorem t_m_eveningLine_67 {p : Program} {l : Launch} {e : Env} {s : State} {m : MethodId} {args : Array Value} {below : List Frame} {meth : Method} {c : Code} {E : zE} {q : Nat} {f_code : Int32} {a_tape : Nat → Int32} {a_size : Nat → Int32} {a_fault : Nat → Int32} {a_faultPlace : Nat → Int32} {a_many : Nat → Int32} {a_lands : Nat → Int32} {a_evenings : Nat → Int32} {a_sights : Nat → Int32} {a_choirs : Nat → Int32} {f_reached : Int32} {f_length : Int32} {f_begins : Int32} {f_sort : Int32} {f_value : Int32} {f_word : Int64} {f_wrongAt : Int32} {f_laterFault : Int32} {f_laterPlace : Int32} {a_told : Nat → Int32} {a_read : Nat → Int32} {f_farHut : Int32} {f_farSinger : Int32} {f_good : Int32} {f_land : Int32} {f_huts : Int32} {f_singers : Int32} {f_evening : Int32} {a_at : Nat → Int32} {a_knows : Nat → Int32} {a_climbed : Nat → Int32} {a_snow : Nat → Int32} {a_level : Nat → Int32} {f_begun : Int32} {f_minute : Int32} {f_avalanches : Int32} {a_run : Nat → Int32} {a_covers : Nat → Int32} {a_routes : Nat → Int32} {a_longest : Nat → Int32} {a_steep : Nat → Int32} {a_laid : Nat → Int32} {a_far : Nat → Int32} {f_sight : Int32} {a_runs : Nat → Int32} {f_choir : Int32} {f_voices : Int32} {a_rest : Nat → Int64} {a_wins : Nat → Int32} {f_seed : Int32} {a_other : Nat → Int32} {a_kept : Nat → Int32} {post : Int32 → (Int32) → (Int32) → (Int32) → (Int32) → (Int64) → (Int32) → (Int32) → (Int32) → (Nat → Int32) → (Nat → Int32) → (Int32) → Prop} {x4 : Int32} {y0 : Int32} {y1 : Int32} {y2 : Int32} {ls : Array Slot} {H : Heap} {locs : List Loc}
    (zc : zC p s m args meth c cX11_eveningLine 5 RX11 (some .boolean))
    (hK : zK E s)
    (hM : mW E q f_code a_tape a_size a_fault a_faultPlace a_many a_lands a_evenings a_sights a_choirs f_reached f_length f_begins f_sort f_value f_word f_wrongAt f_laterFault f_laterPlace a_told a_read f_farHut f_farSinger f_good f_land f_huts f_singers f_evening a_at a_knows a_climbed a_snow a_level f_begun f_minute f_avalanches a_run a_covers a_routes a_longest a_steep a_laid a_far f_sight a_runs f_choir f_voices a_rest a_wins f_seed a_other a_kept H)
    (hS : va_S (mA q) s.heap H locs)
    (hl : lv_has ls 5 [(0, .ref q), (4, .int x4)])
    (hw : q_m_eveningLine_67 a_tape f_reached f_length f_begins f_sort f_value f_word f_wrongAt f_laterFault f_laterPlace a_told a_read f_good x4 y0 y1 y2 post) :
    W p l e rm_m_eveningLine s m args below meth c H locs 0 0 (MQ below (zQi (S := (Int32) × (Int32) × (Int32) × (Int32) × (Int64) × (Int32) × (Int32) × (Int32) × (Nat → Int32) × (Nat → Int32) × (Int32)) (fun r u => post r u.1 u.2.1 u.2.2.1 u.2.2.2.1 u.2.2.2.2.1 u.2.2.2.2.2.1 u.2.2.2.2.2.2.1 u.2.2.2.2.2.2.2.1 u.2.2.2.2.2.2.2.2.1 u.2.2.2.2.2.2.2.2.2.1 u.2.2.2.2.2.2.2.2.2.2) (fun u H => mW E q f_code a_tape a_size a_fault a_faultPlace a_many a_lands a_evenings a_sights a_choirs u.1 f_length u.2.1 u.2.2.1 u.2.2.2.1 u.2.2.2.2.1 u.2.2.2.2.2.1 u.2.2.2.2.2.2.1 u.2.2.2.2.2.2.2.1 u.2.2.2.2.2.2.2.2.1 u.2.2.2.2.2.2.2.2.2.1 f_farHut f_farSinger u.2.2.2.2.2.2.2.2.2.2 f_land f_huts f_singers f_evening a_at a_knows a_climbed a_snow a_level f_begun f_minute f_avalanches a_run a_covers a_routes a_longest a_steep a_laid a_far f_sight a_runs f_choir f_voices a_rest a_wins f_seed a_other a_kept H) (mA q)) args s 0 0 (mA q)) (F0 m 67 ls [.int y2, .int y1, .int y0, .ref q]) := by
  have hx := zc.1
  have hb := zc.2.1
  refine zVw_i [.int y0, .int y1, .int y2] [] zc ky_X11_take kz_X11_take km_11_178 (c_m_take l hw) (mPreV0 hK hM) hS rfl rfl hl.1 (Nat.le_of_ble_eq_true rfl) ⟨rfl, rfl⟩ ⟨Nat.le_of_ble_eq_true rfl, Nat.le_of_ble_eq_true rfl⟩ ⟨(Nat.zero_le _), (Nat.zero_le _)⟩ dX11_eveningLine_67 (fun r_1 u H locs hw hM hS => ?_)
  obtain ⟨f_reached_1, f_begins_1, f_sort_1, f_value_1, f_word_1, f_wrongAt_1, f_laterFault_1, f_laterPlace_1, a_read_1, f_good_1⟩ := u
  refine lv_if_ne (tgt := 75) hx hb dX11_eveningLine_70 (by decide) (fun hc => ?_) (fun hc => ?_)
  · have hw := hw.1 hc
    exact t_m_eveningLine_75 zc hK hM hS  (lv_sub hl [0, 1] rfl) hw
  · have hw := hw.2 hc
    refine lv_iconst (v := (0 : Int32)) hx hb dX11_eveningLine_73 (by decide) ?_
    exact zret_zw ⟨f_reached_1, f_begins_1, f_sort_1, f_value_1, f_word_1, f_wrongAt_1, f_laterFault_1, f_laterPlace_1, a_told, a_read_1, f_good_1⟩ zc hS rfl hw hM dX11_eveningLine_74
set_option maxRecDepth 20000 in
theorem t_m_eveningLine_0 {p : Program} {l : Launch} {e : Env} {s : State} {m : MethodId} {args : Array Value} {below : List Frame} {meth : Method} {c : Code} {E : zE} {q : Nat} {f_code : Int32} {a_tape : Nat → Int32} {a_size : Nat → Int32} {a_fault : Nat → Int32} {a_faultPlace : Nat → Int32} {a_many : Nat → Int32} {a_lands : Nat → Int32} {a_evenings : Nat → Int32} {a_sights : Nat → Int32} {a_choirs : Nat → Int32} {f_reached : Int32} {f_length : Int32} {f_begins : Int32} {f_sort : Int32} {f_value : Int32} {f_word : Int64} {f_wrongAt : Int32} {f_laterFault : Int32} {f_laterPlace : Int32} {a_told : Nat → Int32} {a_read : Nat → Int32} {f_farHut : Int32} {f_farSinger : Int32} {f_good : Int32} {f_land : Int32} {f_huts : Int32} {f_singers : Int32} {f_evening : Int32} {a_at : Nat → Int32} {a_knows : Nat → Int32} {a_climbed : Nat → Int32} {a_snow : Nat → Int32} {a_level : Nat → Int32} {f_begun : Int32} {f_minute : Int32} {f_avalanches : Int32} {a_run : Nat → Int32} {a_covers : Nat → Int32} {a_routes : Nat → Int32} {a_longest : Nat → Int32} {a_steep : Nat → Int32} {a_laid : Nat → Int32} {a_far : Nat → Int32} {f_sight : Int32} {a_runs : Nat → Int32} {f_choir : Int32} {f_voices : Int32} {a_rest : Nat → Int64} {a_wins : Nat → Int32} {f_seed : Int32} {a_other : Nat → Int32} {a_kept : Nat → Int32} {post : Int32 → (Int32) → (Int32) → (Int32) → (Int32) → (Int64) → (Int32) → (Int32) → (Int32) → (Nat → Int32) → (Nat → Int32) → (Int32) → Prop} {x1 : Int64} {x3 : Int32} {ls : Array Slot} {H : Heap} {locs : List Loc}
    (zc : zC p s m args meth c cX11_eveningLine 5 RX11 (some .boolean))
    (hK : zK E s)
    (hM : mW E q f_code a_tape a_size a_fault a_faultPlace a_many a_lands a_evenings a_sights a_choirs f_reached f_length f_begins f_sort f_value f_word f_wrongAt f_laterFault f_laterPlace a_told a_read f_farHut f_farSinger f_good f_land f_huts f_singers f_evening a_at a_knows a_climbed a_snow a_level f_begun f_minute f_avalanches a_run a_covers a_routes a_longest a_steep a_laid a_far f_sight a_runs f_choir f_voices a_rest a_wins f_seed a_other a_kept H)
    (hS : va_S (mA q) s.heap H locs)
    (hl : lv_has ls 5 [(0, .ref q), (1, .long x1), (3, .int x3)])
    (hw : q_m_eveningLine_0 a_tape f_reached f_length f_begins f_sort f_value f_word f_wrongAt f_laterFault f_laterPlace a_told a_read f_good x1 x3 post) :
    W p l e rm_m_eveningLine s m args below meth c H locs 0 0 (MQ below (zQi (S := (Int32) × (Int32) × (Int32) × (Int32) × (Int64) × (Int32) × (Int32) × (Int32) × (Nat → Int32) × (Nat → Int32) × (Int32)) (fun r u => post r u.1 u.2.1 u.2.2.1 u.2.2.2.1 u.2.2.2.2.1 u.2.2.2.2.2.1 u.2.2.2.2.2.2.1 u.2.2.2.2.2.2.2.1 u.2.2.2.2.2.2.2.2.1 u.2.2.2.2.2.2.2.2.2.1 u.2.2.2.2.2.2.2.2.2.2) (fun u H => mW E q f_code a_tape a_size a_fault a_faultPlace a_many a_lands a_evenings a_sights a_choirs u.1 f_length u.2.1 u.2.2.1 u.2.2.2.1 u.2.2.2.2.1 u.2.2.2.2.2.1 u.2.2.2.2.2.2.1 u.2.2.2.2.2.2.2.1 u.2.2.2.2.2.2.2.2.1 u.2.2.2.2.2.2.2.2.2.1 f_farHut f_farSinger u.2.2.2.2.2.2.2.2.2.2 f_land f_huts f_singers f_evening a_at a_knows a_climbed a_snow a_level f_begun f_minute f_avalanches a_run a_covers a_routes a_longest a_steep a_laid a_far f_sight a_runs f_choir f_voices a_rest a_wins f_seed a_other a_kept H) (mA q)) args s 0 0 (mA q)) (F0 m 0 ls []) := by
  have hx := zc.1
  have hb := zc.2.1
  refine lv_lload_n hx hb dX11_eveningLine_0 rfl (lv_at hl 1 rfl) ?_
  refine zS_i [.long x1] [] zc ky_X11_deedBy kz_X11_deedBy km_11_252 (c_m_deedBy l hw) (zPre0 _) rfl rfl hl.1 (Nat.le_of_ble_eq_true rfl) ⟨rfl, rfl⟩ ⟨Nat.le_of_ble_eq_true rfl, Nat.le_of_ble_eq_true rfl⟩ ⟨(Nat.zero_le _), (Nat.zero_le _)⟩ dX11_eveningLine_1 (fun r_1 hw => ?_)
  refine lv_istore (lv' := [(4, .int r_1), (0, .ref q), (1, .long x1), (3, .int x3)]) hx hb dX11_eveningLine_4 hl (by decide) rfl (fun ls hl => ?_)
  refine lv_iload hx hb dX11_eveningLine_6 (lv_at hl 0 rfl) ?_
  refine lv_iconst (v := (-1 : Int32)) hx hb dX11_eveningLine_8 (by decide) ?_
  refine lv_icmp_ne (tgt := 17) hx hb dX11_eveningLine_9 (by decide) (fun hc => ?_) (fun hc => ?_)
  · have hw := hw.1 hc
    refine lv_aload_n hx hb dX11_eveningLine_17 rfl (lv_at hl 1 rfl) ?_
    refine lv_iconst (v := (0 : Int32)) hx hb dX11_eveningLine_18 (by decide) ?_
    refine lv_bipush (v := (40 : Int32)) hx hb dX11_eveningLine_19 (by decide) ?_
    refine lv_iload_n hx hb dX11_eveningLine_21 rfl (lv_at hl 3 rfl) ?_
    refine zVw_v [.int (0 : Int32), .int (40 : Int32), .int x3] [] zc ky_X11_full kz_X11_full km_11_211 (c_m_full l hw) (mPreV0 hK hM) hS rfl rfl hl.1 (Nat.le_of_ble_eq_true rfl) ⟨rfl, rfl⟩ ⟨Nat.le_of_ble_eq_true rfl, Nat.le_of_ble_eq_true rfl⟩ ⟨(Nat.zero_le _), (Nat.zero_le _)⟩ dX11_eveningLine_22 (fun u H locs hw hM hS => ?_)
    obtain ⟨f_laterFault_1, f_laterPlace_1⟩ := u
    refine lv_aload_n hx hb dX11_eveningLine_25 rfl (lv_at hl 1 rfl) ?_
    refine zVw_v [] [] zc ky_X11_token kz_X11_token km_11_161 (c_m_token l hw) (mPreV0 hK hM) hS rfl rfl hl.1 (Nat.le_of_ble_eq_true rfl) ⟨rfl, rfl⟩ ⟨Nat.le_of_ble_eq_true rfl, Nat.le_of_ble_eq_true rfl⟩ ⟨(Nat.zero_le _), (Nat.zero_le _)⟩ dX11_eveningLine_26 (fun u H locs hw hM hS => ?_)
    obtain ⟨f_reached_1, f_begins_1, f_sort_1, f_value_1, f_word_1⟩ := u
    refine lv_aload_n hx hb dX11_eveningLine_29 rfl (lv_at hl 1 rfl) ?_
    refine mg_11_41_0 zc hK hM dX11_eveningLine_30 ?_
    refine lv_iconst (v := (2 : Int32)) hx hb dX11_eveningLine_33 (by decide) ?_
    refine lv_iconst (v := (-1 : Int32)) hx hb dX11_eveningLine_34 (by decide) ?_
    refine mst_11 zc hK hM hS (by unfold vp_in; decide) dX11_eveningLine_35 (fun a_read_1 H locs ea_read_1 hM hS => ?_)
    have hw := hw a_read_1 ea_read_1
    refine lv_aload_n hx hb dX11_eveningLine_36 rfl (lv_at hl 1 rfl) ?_
    refine lv_iconst (v := (1 : Int32)) hx hb dX11_eveningLine_37 (by decide) ?_
    refine lv_iconst (v := (0 : Int32)) hx hb dX11_eveningLine_38 (by decide) ?_
    refine lv_iconst (v := (5 : Int32)) hx hb dX11_eveningLine_39 (by decide) ?_
    refine zVw_i [.int (1 : Int32), .int (0 : Int32), .int (5 : Int32)] [] zc ky_X11_take kz_X11_take km_11_178 (c_m_take l hw) (mPreV0 hK hM) hS rfl rfl hl.1 (Nat.le_of_ble_eq_true rfl) ⟨rfl, rfl⟩ ⟨Nat.le_of_ble_eq_true rfl, Nat.le_of_ble_eq_true rfl⟩ ⟨(Nat.zero_le _), (Nat.zero_le _)⟩ dX11_eveningLine_40 (fun r_2 u H locs hw hM hS => ?_)
    obtain ⟨f_reached_2, f_begins_2, f_sort_2, f_value_2, f_word_2, f_wrongAt_1, f_laterFault_2, f_laterPlace_2, a_read_2, f_good_1⟩ := u
    refine lv_if_eq (tgt := 73) hx hb dX11_eveningLine_43 (by decide) (fun hc => ?_) (fun hc => ?_)
    · have hw := hw.1 hc
      refine lv_iconst (v := (0 : Int32)) hx hb dX11_eveningLine_73 (by decide) ?_
      exact zret_zw ⟨f_reached_2, f_begins_2, f_sort_2, f_value_2, f_word_2, f_wrongAt_1, f_laterFault_2, f_laterPlace_2, a_told, a_read_2, f_good_1⟩ zc hS rfl hw hM dX11_eveningLine_74
    · have hw := hw.2 hc
      refine lv_iload hx hb dX11_eveningLine_46 (lv_at hl 0 rfl) ?_
      refine lv_iconst (v := (4 : Int32)) hx hb dX11_eveningLine_48 (by decide) ?_
      refine lv_icmp_ge (tgt := 75) hx hb dX11_eveningLine_49 (by decide) (fun hc => ?_) (fun hc => ?_)
      · have hw := hw.1 hc
        exact t_m_eveningLine_75 zc hK hM hS  (lv_sub hl [1, 0] rfl) hw
      · have hw := hw.2 hc
        refine lv_aload_n hx hb dX11_eveningLine_52 rfl (lv_at hl 1 rfl) ?_
        refine lv_iconst (v := (2 : Int32)) hx hb dX11_eveningLine_53 (by decide) ?_
        refine lv_iconst (v := (0 : Int32)) hx hb dX11_eveningLine_54 (by decide) ?_
        refine lv_iload hx hb dX11_eveningLine_55 (lv_at hl 0 rfl) ?_
        refine lv_iconst (v := (3 : Int32)) hx hb dX11_eveningLine_57 (by decide) ?_
        refine lv_icmp_ne (tgt := 66) hx hb dX11_eveningLine_58 (by decide) (fun hc => ?_) (fun hc => ?_)
        · have hw := hw.1 hc
          refine lv_iconst (v := (4 : Int32)) hx hb dX11_eveningLine_66 (by decide) ?_
          exact t_m_eveningLine_67 zc hK hM hS  (lv_sub hl [1, 0] rfl) hw
        · have hw := hw.2 hc
          refine lv_bipush (v := (8 : Int32)) hx hb dX11_eveningLine_61 (by decide) ?_
          refine lv_goto (tgt := 67) hx hb dX11_eveningLine_63 (by decide) ?_
          exact t_m_eveningLine_67 zc hK hM hS  (lv_sub hl [1, 0] rfl) hw
  · have hw := hw.2 hc
    refine lv_aload_n hx hb dX11_eveningLine_12 rfl (lv_at hl 1 rfl) ?_
    refine zVw_i [] [] zc ky_X11_fails kz_X11_fails km_11_149 (c_m_fails l hw) (mPreV0 hK hM) hS rfl rfl hl.1 (Nat.le_of_ble_eq_true rfl) ⟨rfl, rfl⟩ ⟨Nat.le_of_ble_eq_true rfl, Nat.le_of_ble_eq_true rfl⟩ ⟨(Nat.zero_le _), (Nat.zero_le _)⟩ dX11_eveningLine_13 (fun r_3 f_wrongAt_2 H locs hw hM hS => ?_)
    exact zret_zw ⟨f_reached, f_begins, f_sort, f_value, f_word, f_wrongAt_2, f_laterFault, f_laterPlace, a_told, a_read, f_good⟩ zc hS hw.1 hw.2 hM dX11_eveningLine_16
set_option maxRecDepth 20000 in
theorem c_m_eveningLine (l : Launch) {E : zE} {q : Nat} {f_code : Int32} {a_tape : Nat → Int32} {a_size : Nat → Int32} {a_fault : Nat → Int32} {a_faultPlace : Nat → Int32} {a_many : Nat → Int32} {a_lands : Nat → Int32} {a_evenings : Nat → Int32} {a_sights : Nat → Int32} {a_choirs : Nat → Int32} {f_reached : Int32} {f_length : Int32} {f_begins : Int32} {f_sort : Int32} {f_value : Int32} {f_word : Int64} {f_wrongAt : Int32} {f_laterFault : Int32} {f_laterPlace : Int32} {a_told : Nat → Int32} {a_read : Nat → Int32} {f_farHut : Int32} {f_farSinger : Int32} {f_good : Int32} {f_land : Int32} {f_huts : Int32} {f_singers : Int32} {f_evening : Int32} {a_at : Nat → Int32} {a_knows : Nat → Int32} {a_climbed : Nat → Int32} {a_snow : Nat → Int32} {a_level : Nat → Int32} {f_begun : Int32} {f_minute : Int32} {f_avalanches : Int32} {a_run : Nat → Int32} {a_covers : Nat → Int32} {a_routes : Nat → Int32} {a_longest : Nat → Int32} {a_steep : Nat → Int32} {a_laid : Nat → Int32} {a_far : Nat → Int32} {f_sight : Int32} {a_runs : Nat → Int32} {f_choir : Int32} {f_voices : Int32} {a_rest : Nat → Int64} {a_wins : Nat → Int32} {f_seed : Int32} {a_other : Nat → Int32} {a_kept : Nat → Int32} {x1 : Int64} {x3 : Int32} {post : Int32 → (Int32) → (Int32) → (Int32) → (Int32) → (Int64) → (Int32) → (Int32) → (Int32) → (Nat → Int32) → (Nat → Int32) → (Int32) → Prop} (hw : q_m_eveningLine_0 a_tape f_reached f_length f_begins f_sort f_value f_word f_wrongAt f_laterFault f_laterPlace a_told a_read f_good x1 x3 post) : Met l yX11_eveningLine (Cond.code yX11_eveningLine cX11_eveningLine 5 (some .boolean) :: zb) rm_m_eveningLine (va_Pc [.ref q, .long x1, .int x3] (fun U => mW E q f_code a_tape a_size a_fault a_faultPlace a_many a_lands a_evenings a_sights a_choirs f_reached f_length f_begins f_sort f_value f_word f_wrongAt f_laterFault f_laterPlace a_told a_read f_farHut f_farSinger f_good f_land f_huts f_singers f_evening a_at a_knows a_climbed a_snow a_level f_begun f_minute f_avalanches a_run a_covers a_routes a_longest a_steep a_laid a_far f_sight a_runs f_choir f_voices a_rest a_wins f_seed a_other a_kept U.heap ∧ zK E U)) (zQi (S := (Int32) × (Int32) × (Int32) × (Int32) × (Int64) × (Int32) × (Int32) × (Int32) × (Nat → Int32) × (Nat → Int32) × (Int32)) (fun r u => post r u.1 u.2.1 u.2.2.1 u.2.2.2.1 u.2.2.2.2.1 u.2.2.2.2.2.1 u.2.2.2.2.2.2.1 u.2.2.2.2.2.2.2.1 u.2.2.2.2.2.2.2.2.1 u.2.2.2.2.2.2.2.2.2.1 u.2.2.2.2.2.2.2.2.2.2) (fun u H => mW E q f_code a_tape a_size a_fault a_faultPlace a_many a_lands a_evenings a_sights a_choirs u.1 f_length u.2.1 u.2.2.1 u.2.2.2.1 u.2.2.2.2.1 u.2.2.2.2.2.1 u.2.2.2.2.2.2.1 u.2.2.2.2.2.2.2.1 u.2.2.2.2.2.2.2.2.1 u.2.2.2.2.2.2.2.2.2.1 f_farHut f_farSinger u.2.2.2.2.2.2.2.2.2.2 f_land f_huts f_singers f_evening a_at a_knows a_climbed a_snow a_level f_begun f_minute f_avalanches a_run a_covers a_routes a_longest a_steep a_laid a_far f_sight a_runs f_choir f_voices a_rest a_wins f_seed a_other a_kept H) (mA q)) 0 0 (mA q) := by
  refine Met.ofW (cc := cX11_eveningLine) (maxL := 5) (ret := (some .boolean)) (by decide) rfl ?_
  intro p e s m args below meth c s₁ B hml hv
  obtain ⟨rfl, hM, hK⟩ := hv
  have zc := zc_of B hml
  have hl := lv_entry ([.ref q, .long x1, .int x3]) (n := 5) (Nat.le_of_ble_eq_true rfl)
  rw [lg_entry_eq]
  generalize (lg_sl ([.ref q, .long x1, .int x3]) ++ List.replicate (5 - (lg_sl ([.ref q, .long x1, .int x3])).length) Slot.unset).toArray = ls at hl ⊢
  have hl : lv_has ls 5 [(0, .ref q), (1, .long x1), (3, .int x3)] := hl
  exact t_m_eveningLine_0 zc hK hM va_S.rf (lv_sub hl [0, 1, 2] rfl) hw
-- m_sightLine
abbrev rm_m_sightLine : Room := { frames := 4, cells := 0, slots := 0, locals := 91 }
def q_m_sightLine_75 (a_tape : Nat → Int32) (f_reached : Int32) (f_length : Int32) (f_begins : Int32) (f_sort : Int32) (f_value : Int32) (f_word : Int64) (f_wrongAt : Int32) (f_laterFault : Int32) (f_laterPlace : Int32) (a_told : Nat → Int32) (a_read : Nat → Int32) (f_good : Int32) (y0 : Int32) (y1 : Int32) (post : Int32 → (Int32) → (Int32) → (Int32) → (Int32) → (Int64) → (Int32) → (Int32) → (Int32) → (Nat → Int32) → (Nat → Int32) → (Int32) → Prop) : Prop :=
  vp_in y0 3 ∧ (∀ a_read_1 : Nat → Int32, a_read_1 = upd a_read (Int32.toNatClampNeg y0) y1 → (q_m_keep_0 a_told a_read_1 (3 : Int32) (10 : Int32) (fun a_told_1 => post (1 : Int32) f_reached f_begins f_sort f_value f_word f_wrongAt f_laterFault f_laterPlace a_told_1 a_read_1 f_good)))
def q_m_sightLine_21 (a_tape : Nat → Int32) (f_reached : Int32) (f_length : Int32) (f_begins : Int32) (f_sort : Int32) (f_value : Int32) (f_word : Int64) (f_wrongAt : Int32) (f_laterFault : Int32) (f_laterPlace : Int32) (a_told : Nat → Int32) (a_read : Nat → Int32) (f_good : Int32) (x1 : Int64) (x3 : Int32) (post : Int32 → (Int32) → (Int32) → (Int32) → (Int32) → (Int64) → (Int32) → (Int32) → (Int32) → (Nat → Int32) → (Nat → Int32) → (Int32) → Prop) : Prop :=
  q_m_full_0 f_laterFault f_laterPlace a_told (0 : Int32) (10 : Int32) x3 (fun f_laterFault_1 f_laterPlace_1 => q_m_token_0 a_tape f_reached f_length f_begins f_sort f_value f_word (fun f_reached_1 f_begins_1 f_sort_1 f_value_1 f_word_1 => q_m_take_0 a_tape f_reached_1 f_length f_begins_1 f_sort_1 f_value_1 f_word_1 f_wrongAt f_laterFault_1 f_laterPlace_1 a_read f_good (1 : Int32) (0 : Int32) (8 : Int32) (fun r_1 f_reached_2 f_begins_2 f_sort_2 f_value_2 f_word_2 f_wrongAt_1 f_laterFault_2 f_laterPlace_2 a_read_1 f_good_1 => (r_1 = 0 → (post (0 : Int32) f_reached_2 f_begins_2 f_sort_2 f_value_2 f_word_2 f_wrongAt_1 f_laterFault_2 f_laterPlace_2 a_told a_read_1 f_good_1)) ∧ (¬ r_1 = 0 → (q_m_take_0 a_tape f_reached_2 f_length f_begins_2 f_sort_2 f_value_2 f_word_2 f_wrongAt_1 f_laterFault_2 f_laterPlace_2 a_read_1 f_good_1 (2 : Int32) (0 : Int32) (60 : Int32) (fun r_2 f_reached_3 f_begins_3 f_sort_3 f_value_3 f_word_3 f_wrongAt_2 f_laterFault_3 f_laterPlace_3 a_read_2 f_good_2 => (¬ r_2 = 0 → ((¬ (lg_cmp x1 (448377483876 : Int64)) = 0 → (q_m_sightLine_75 a_tape f_reached_3 f_length f_begins_3 f_sort_3 f_value_3 f_word_3 f_wrongAt_2 f_laterFault_3 f_laterPlace_3 a_told a_read_2 f_good_2 (0 : Int32) (0 : Int32) post)) ∧ ((lg_cmp x1 (448377483876 : Int64)) = 0 → (q_m_sightLine_75 a_tape f_reached_3 f_length f_begins_3 f_sort_3 f_value_3 f_word_3 f_wrongAt_2 f_laterFault_3 f_laterPlace_3 a_told a_read_2 f_good_2 (0 : Int32) (1 : Int32) post)))) ∧ (r_2 = 0 → (post (0 : Int32) f_reached_3 f_begins_3 f_sort_3 f_value_3 f_word_3 f_wrongAt_2 f_laterFault_3 f_laterPlace_3 a_told a_read_2 f_good_2))))))))
def q_m_sightLine_0 (a_tape : Nat → Int32) (f_reached : Int32) (f_length : Int32) (f_begins : Int32) (f_sort : Int32) (f_value : Int32) (f_word : Int64) (f_wrongAt : Int32) (f_laterFault : Int32) (f_laterPlace : Int32) (a_told : Nat → Int32) (a_read : Nat → Int32) (f_good : Int32) (x1 : Int64) (x3 : Int32) (post : Int32 → (Int32) → (Int32) → (Int32) → (Int32) → (Int64) → (Int32) → (Int32) → (Int32) → (Nat → Int32) → (Nat → Int32) → (Int32) → Prop) : Prop :=
  ((lg_cmp x1 (448377483876 : Int64)) = 0 → (q_m_sightLine_21 a_tape f_reached f_length f_begins f_sort f_value f_word f_wrongAt f_laterFault f_laterPlace a_told a_read f_good x1 x3 post)) ∧ (¬ (lg_cmp x1 (448377483876 : Int64)) = 0 → (((lg_cmp x1 (1836414053 : Int64)) = 0 → (q_m_sightLine_21 a_tape f_reached f_length f_begins f_sort f_value f_word f_wrongAt f_laterFault f_laterPlace a_told a_read f_good x1 x3 post)) ∧ (¬ (lg_cmp x1 (1836414053 : Int64)) = 0 → (q_m_fails_0 f_begins f_wrongAt (fun r_1 f_wrongAt_1 => narrow .boolean (.int r_1) = .int r_1 ∧ post r_1 f_reached f_begins f_sort f_value f_word f_wrongAt_1 f_laterFault f_laterPlace a_told a_read f_good)))))
set_option maxRecDepth 20000 in
theorem t_m_sightLine_75 {p : Program} {l : Launch} {e : Env} {s : State} {m : MethodId} {args : Array Value} {below : List Frame} {meth : Method} {c : Code} {E : zE} {q : Nat} {f_code : Int32} {a_tape : Nat → Int32} {a_size : Nat → Int32} {a_fault : Nat → Int32} {a_faultPlace : Nat → Int32} {a_many : Nat → Int32} {a_lands : Nat → Int32} {a_evenings : Nat → Int32} {a_sights : Nat → Int32} {a_choirs : Nat → Int32} {f_reached : Int32} {f_length : Int32} {f_begins : Int32} {f_sort : Int32} {f_value : Int32} {f_word : Int64} {f_wrongAt : Int32} {f_laterFault : Int32} {f_laterPlace : Int32} {a_told : Nat → Int32} {a_read : Nat → Int32} {f_farHut : Int32} {f_farSinger : Int32} {f_good : Int32} {f_land : Int32} {f_huts : Int32} {f_singers : Int32} {f_evening : Int32} {a_at : Nat → Int32} {a_knows : Nat → Int32} {a_climbed : Nat → Int32} {a_snow : Nat → Int32} {a_level : Nat → Int32} {f_begun : Int32} {f_minute : Int32} {f_avalanches : Int32} {a_run : Nat → Int32} {a_covers : Nat → Int32} {a_routes : Nat → Int32} {a_longest : Nat → Int32} {a_steep : Nat → Int32} {a_laid : Nat → Int32} {a_far : Nat → Int32} {f_sight : Int32} {a_runs : Nat → Int32} {f_choir : Int32} {f_voices : Int32} {a_rest : Nat → Int64} {a_wins : Nat → Int32} {f_seed : Int32} {a_other : Nat → Int32} {a_kept : Nat → Int32} {post : Int32 → (Int32) → (Int32) → (Int32) → (Int32) → (Int64) → (Int32) → (Int32) → (Int32) → (Nat → Int32) → (Nat → Int32) → (Int32) → Prop} {y0 : Int32} {y1 : Int32} {ls : Array Slot} {H : Heap} {locs : List Loc}
    (zc : zC p s m args meth c cX11_sightLine 4 RX11 (some .boolean))
    (hK : zK E s)
    (hM : mW E q f_code a_tape a_size a_fault a_faultPlace a_many a_lands a_evenings a_sights a_choirs f_reached f_length f_begins f_sort f_value f_word f_wrongAt f_laterFault f_laterPlace a_told a_read f_farHut f_farSinger f_good f_land f_huts f_singers f_evening a_at a_knows a_climbed a_snow a_level f_begun f_minute f_avalanches a_run a_covers a_routes a_longest a_steep a_laid a_far f_sight a_runs f_choir f_voices a_rest a_wins f_seed a_other a_kept H)
    (hS : va_S (mA q) s.heap H locs)
    (hl : lv_has ls 4 [(0, .ref q)])
    (hw : q_m_sightLine_75 a_tape f_reached f_length f_begins f_sort f_value f_word f_wrongAt f_laterFault f_laterPlace a_told a_read f_good y0 y1 post) :
    W p l e rm_m_sightLine s m args below meth c H locs 0 0 (MQ below (zQi (S := (Int32) × (Int32) × (Int32) × (Int32) × (Int64) × (Int32) × (Int32) × (Int32) × (Nat → Int32) × (Nat → Int32) × (Int32)) (fun r u => post r u.1 u.2.1 u.2.2.1 u.2.2.2.1 u.2.2.2.2.1 u.2.2.2.2.2.1 u.2.2.2.2.2.2.1 u.2.2.2.2.2.2.2.1 u.2.2.2.2.2.2.2.2.1 u.2.2.2.2.2.2.2.2.2.1 u.2.2.2.2.2.2.2.2.2.2) (fun u H => mW E q f_code a_tape a_size a_fault a_faultPlace a_many a_lands a_evenings a_sights a_choirs u.1 f_length u.2.1 u.2.2.1 u.2.2.2.1 u.2.2.2.2.1 u.2.2.2.2.2.1 u.2.2.2.2.2.2.1 u.2.2.2.2.2.2.2.1 u.2.2.2.2.2.2.2.2.1 u.2.2.2.2.2.2.2.2.2.1 f_farHut f_farSinger u.2.2.2.2.2.2.2.2.2.2 f_land f_huts f_singers f_evening a_at a_knows a_climbed a_snow a_level f_begun f_minute f_avalanches a_run a_covers a_routes a_longest a_steep a_laid a_far f_sight a_runs f_choir f_voices a_rest a_wins f_seed a_other a_kept H) (mA q)) args s 0 0 (mA q)) (F0 m 75 ls [.int y1, .int y0, .ref (q + 11)]) := by
  have hx := zc.1
  have hb := zc.2.1
  refine mst_11 zc hK hM hS hw.1 dX11_sightLine_75 (fun a_read_1 H locs ea_read_1 hM hS => ?_)
  have hw := hw.2 a_read_1 ea_read_1
  refine lv_aload_n hx hb dX11_sightLine_76 rfl (lv_at hl 0 rfl) ?_
  refine lv_iconst (v := (3 : Int32)) hx hb dX11_sightLine_77 (by decide) ?_
  refine lv_bipush (v := (10 : Int32)) hx hb dX11_sightLine_78 (by decide) ?_
  refine zVw_v [.int (3 : Int32), .int (10 : Int32)] [] zc ky_X11_keep kz_X11_keep km_11_256 (c_m_keep l hw) (mPreV0 hK hM) hS rfl rfl hl.1 (Nat.le_of_ble_eq_true rfl) ⟨rfl, rfl⟩ ⟨Nat.le_of_ble_eq_true rfl, Nat.le_of_ble_eq_true rfl⟩ ⟨(Nat.zero_le _), (Nat.zero_le _)⟩ dX11_sightLine_80 (fun a_told_1 H locs hw hM hS => ?_)
  refine lv_iconst (v := (1 : Int32)) hx hb dX11_sightLine_83 (by decide) ?_
  exact zret_zw ⟨f_reached, f_begins, f_sort, f_value, f_word, f_wrongAt, f_laterFault, f_laterPlace, a_told_1, a_read_1, f_good⟩ zc hS rfl hw hM dX11_sightLine_84
set_option maxRecDepth 20000 in
theorem t_m_sightLine_21 {p : Program} {l : Launch} {e : Env} {s : State} {m : MethodId} {args : Array Value} {below : List Frame} {meth : Method} {c : Code} {E : zE} {q : Nat} {f_code : Int32} {a_tape : Nat → Int32} {a_size : Nat → Int32} {a_fault : Nat → Int32} {a_faultPlace : Nat → Int32} {a_many : Nat → Int32} {a_lands : Nat → Int32} {a_evenings : Nat → Int32} {a_sights : Nat → Int32} {a_choirs : Nat → Int32} {f_reached : Int32} {f_length : Int32} {f_begins : Int32} {f_sort : Int32} {f_value : Int32} {f_word : Int64} {f_wrongAt : Int32} {f_laterFault : Int32} {f_laterPlace : Int32} {a_told : Nat → Int32} {a_read : Nat → Int32} {f_farHut : Int32} {f_farSinger : Int32} {f_good : Int32} {f_land : Int32} {f_huts : Int32} {f_singers : Int32} {f_evening : Int32} {a_at : Nat → Int32} {a_knows : Nat → Int32} {a_climbed : Nat → Int32} {a_snow : Nat → Int32} {a_level : Nat → Int32} {f_begun : Int32} {f_minute : Int32} {f_avalanches : Int32} {a_run : Nat → Int32} {a_covers : Nat → Int32} {a_routes : Nat → Int32} {a_longest : Nat → Int32} {a_steep : Nat → Int32} {a_laid : Nat → Int32} {a_far : Nat → Int32} {f_sight : Int32} {a_runs : Nat → Int32} {f_choir : Int32} {f_voices : Int32} {a_rest : Nat → Int64} {a_wins : Nat → Int32} {f_seed : Int32} {a_other : Nat → Int32} {a_kept : Nat → Int32} {post : Int32 → (Int32) → (Int32) → (Int32) → (Int32) → (Int64) → (Int32) → (Int32) → (Int32) → (Nat → Int32) → (Nat → Int32) → (Int32) → Prop} {x1 : Int64} {x3 : Int32} {ls : Array Slot} {H : Heap} {locs : List Loc}
    (zc : zC p s m args meth c cX11_sightLine 4 RX11 (some .boolean))
    (hK : zK E s)
    (hM : mW E q f_code a_tape a_size a_fault a_faultPlace a_many a_lands a_evenings a_sights a_choirs f_reached f_length f_begins f_sort f_value f_word f_wrongAt f_laterFault f_laterPlace a_told a_read f_farHut f_farSinger f_good f_land f_huts f_singers f_evening a_at a_knows a_climbed a_snow a_level f_begun f_minute f_avalanches a_run a_covers a_routes a_longest a_steep a_laid a_far f_sight a_runs f_choir f_voices a_rest a_wins f_seed a_other a_kept H)
    (hS : va_S (mA q) s.heap H locs)
    (hl : lv_has ls 4 [(0, .ref q), (1, .long x1), (3, .int x3)])
    (hw : q_m_sightLine_21 a_tape f_reached f_length f_begins f_sort f_value f_word f_wrongAt f_laterFault f_laterPlace a_told a_read f_good x1 x3 post) :
    W p l e rm_m_sightLine s m args below meth c H locs 0 0 (MQ below (zQi (S := (Int32) × (Int32) × (Int32) × (Int32) × (Int64) × (Int32) × (Int32) × (Int32) × (Nat → Int32) × (Nat → Int32) × (Int32)) (fun r u => post r u.1 u.2.1 u.2.2.1 u.2.2.2.1 u.2.2.2.2.1 u.2.2.2.2.2.1 u.2.2.2.2.2.2.1 u.2.2.2.2.2.2.2.1 u.2.2.2.2.2.2.2.2.1 u.2.2.2.2.2.2.2.2.2.1 u.2.2.2.2.2.2.2.2.2.2) (fun u H => mW E q f_code a_tape a_size a_fault a_faultPlace a_many a_lands a_evenings a_sights a_choirs u.1 f_length u.2.1 u.2.2.1 u.2.2.2.1 u.2.2.2.2.1 u.2.2.2.2.2.1 u.2.2.2.2.2.2.1 u.2.2.2.2.2.2.2.1 u.2.2.2.2.2.2.2.2.1 u.2.2.2.2.2.2.2.2.2.1 f_farHut f_farSinger u.2.2.2.2.2.2.2.2.2.2 f_land f_huts f_singers f_evening a_at a_knows a_climbed a_snow a_level f_begun f_minute f_avalanches a_run a_covers a_routes a_longest a_steep a_laid a_far f_sight a_runs f_choir f_voices a_rest a_wins f_seed a_other a_kept H) (mA q)) args s 0 0 (mA q)) (F0 m 21 ls []) := by
  have hx := zc.1
  have hb := zc.2.1
  refine lv_aload_n hx hb dX11_sightLine_21 rfl (lv_at hl 0 rfl) ?_
  refine lv_iconst (v := (0 : Int32)) hx hb dX11_sightLine_22 (by decide) ?_
  refine lv_bipush (v := (10 : Int32)) hx hb dX11_sightLine_23 (by decide) ?_
  refine lv_iload_n hx hb dX11_sightLine_25 rfl (lv_at hl 2 rfl) ?_
  refine zVw_v [.int (0 : Int32), .int (10 : Int32), .int x3] [] zc ky_X11_full kz_X11_full km_11_211 (c_m_full l hw) (mPreV0 hK hM) hS rfl rfl hl.1 (Nat.le_of_ble_eq_true rfl) ⟨rfl, rfl⟩ ⟨Nat.le_of_ble_eq_true rfl, Nat.le_of_ble_eq_true rfl⟩ ⟨(Nat.zero_le _), (Nat.zero_le _)⟩ dX11_sightLine_26 (fun u H locs hw hM hS => ?_)
  obtain ⟨f_laterFault_1, f_laterPlace_1⟩ := u
  refine lv_aload_n hx hb dX11_sightLine_29 rfl (lv_at hl 0 rfl) ?_
  refine zVw_v [] [] zc ky_X11_token kz_X11_token km_11_161 (c_m_token l hw) (mPreV0 hK hM) hS rfl rfl hl.1 (Nat.le_of_ble_eq_true rfl) ⟨rfl, rfl⟩ ⟨Nat.le_of_ble_eq_true rfl, Nat.le_of_ble_eq_true rfl⟩ ⟨(Nat.zero_le _), (Nat.zero_le _)⟩ dX11_sightLine_30 (fun u H locs hw hM hS => ?_)
  obtain ⟨f_reached_1, f_begins_1, f_sort_1, f_value_1, f_word_1⟩ := u
  refine lv_aload_n hx hb dX11_sightLine_33 rfl (lv_at hl 0 rfl) ?_
  refine lv_iconst (v := (1 : Int32)) hx hb dX11_sightLine_34 (by decide) ?_
  refine lv_iconst (v := (0 : Int32)) hx hb dX11_sightLine_35 (by decide) ?_
  refine lv_bipush (v := (8 : Int32)) hx hb dX11_sightLine_36 (by decide) ?_
  refine zVw_i [.int (1 : Int32), .int (0 : Int32), .int (8 : Int32)] [] zc ky_X11_take kz_X11_take km_11_178 (c_m_take l hw) (mPreV0 hK hM) hS rfl rfl hl.1 (Nat.le_of_ble_eq_true rfl) ⟨rfl, rfl⟩ ⟨Nat.le_of_ble_eq_true rfl, Nat.le_of_ble_eq_true rfl⟩ ⟨(Nat.zero_le _), (Nat.zero_le _)⟩ dX11_sightLine_38 (fun r_1 u H locs hw hM hS => ?_)
  obtain ⟨f_reached_2, f_begins_2, f_sort_2, f_value_2, f_word_2, f_wrongAt_1, f_laterFault_2, f_laterPlace_2, a_read_1, f_good_1⟩ := u
  refine lv_if_eq (tgt := 55) hx hb dX11_sightLine_41 (by decide) (fun hc => ?_) (fun hc => ?_)
  · have hw := hw.1 hc
    refine lv_iconst (v := (0 : Int32)) hx hb dX11_sightLine_55 (by decide) ?_
    exact zret_zw ⟨f_reached_2, f_begins_2, f_sort_2, f_value_2, f_word_2, f_wrongAt_1, f_laterFault_2, f_laterPlace_2, a_told, a_read_1, f_good_1⟩ zc hS rfl hw hM dX11_sightLine_56
  · have hw := hw.2 hc
    refine lv_aload_n hx hb dX11_sightLine_44 rfl (lv_at hl 0 rfl) ?_
    refine lv_iconst (v := (2 : Int32)) hx hb dX11_sightLine_45 (by decide) ?_
    refine lv_iconst (v := (0 : Int32)) hx hb dX11_sightLine_46 (by decide) ?_
    refine lv_bipush (v := (60 : Int32)) hx hb dX11_sightLine_47 (by decide) ?_
    refine zVw_i [.int (2 : Int32), .int (0 : Int32), .int (60 : Int32)] [] zc ky_X11_take kz_X11_take km_11_178 (c_m_take l hw) (mPreV0 hK hM) hS rfl rfl hl.1 (Nat.le_of_ble_eq_true rfl) ⟨rfl, rfl⟩ ⟨Nat.le_of_ble_eq_true rfl, Nat.le_of_ble_eq_true rfl⟩ ⟨(Nat.zero_le _), (Nat.zero_le _)⟩ dX11_sightLine_49 (fun r_2 u H locs hw hM hS => ?_)
    obtain ⟨f_reached_3, f_begins_3, f_sort_3, f_value_3, f_word_3, f_wrongAt_2, f_laterFault_3, f_laterPlace_3, a_read_2, f_good_2⟩ := u
    refine lv_if_ne (tgt := 57) hx hb dX11_sightLine_52 (by decide) (fun hc => ?_) (fun hc => ?_)
    · have hw := hw.1 hc
      refine lv_aload_n hx hb dX11_sightLine_57 rfl (lv_at hl 0 rfl) ?_
      refine mg_11_41_0 zc hK hM dX11_sightLine_58 ?_
      refine lv_iconst (v := (0 : Int32)) hx hb dX11_sightLine_61 (by decide) ?_
      refine lv_lload_n hx hb dX11_sightLine_62 rfl (lv_at hl 1 rfl) ?_
      refine lv_ldc2 (v := (448377483876 : Int64)) hx hb zc.2.2.2.1 (zc.2.2.2.2.1 _ kc_11_259) dX11_sightLine_63 ?_
      refine W.lcmp hx hb dX11_sightLine_66 ?_
      refine lv_if_ne (tgt := 74) hx hb dX11_sightLine_67 (by decide) (fun hc => ?_) (fun hc => ?_)
      · have hw := hw.1 hc
        refine lv_iconst (v := (0 : Int32)) hx hb dX11_sightLine_74 (by decide) ?_
        exact t_m_sightLine_75 zc hK hM hS  (lv_sub hl [0] rfl) hw
      · have hw := hw.2 hc
        refine lv_iconst (v := (1 : Int32)) hx hb dX11_sightLine_70 (by decide) ?_
        refine lv_goto (tgt := 75) hx hb dX11_sightLine_71 (by decide) ?_
        exact t_m_sightLine_75 zc hK hM hS  (lv_sub hl [0] rfl) hw
    · have hw := hw.2 hc
      refine lv_iconst (v := (0 : Int32)) hx hb dX11_sightLine_55 (by decide) ?_
      exact zret_zw ⟨f_reached_3, f_begins_3, f_sort_3, f_value_3, f_word_3, f_wrongAt_2, f_laterFault_3, f_laterPlace_3, a_told, a_read_2, f_good_2⟩ zc hS rfl hw hM dX11_sightLine_56
set_option maxRecDepth 20000 in
theorem t_m_sightLine_0 {p : Program} {l : Launch} {e : Env} {s : State} {m : MethodId} {args : Array Value} {below : List Frame} {meth : Method} {c : Code} {E : zE} {q : Nat} {f_code : Int32} {a_tape : Nat → Int32} {a_size : Nat → Int32} {a_fault : Nat → Int32} {a_faultPlace : Nat → Int32} {a_many : Nat → Int32} {a_lands : Nat → Int32} {a_evenings : Nat → Int32} {a_sights : Nat → Int32} {a_choirs : Nat → Int32} {f_reached : Int32} {f_length : Int32} {f_begins : Int32} {f_sort : Int32} {f_value : Int32} {f_word : Int64} {f_wrongAt : Int32} {f_laterFault : Int32} {f_laterPlace : Int32} {a_told : Nat → Int32} {a_read : Nat → Int32} {f_farHut : Int32} {f_farSinger : Int32} {f_good : Int32} {f_land : Int32} {f_huts : Int32} {f_singers : Int32} {f_evening : Int32} {a_at : Nat → Int32} {a_knows : Nat → Int32} {a_climbed : Nat → Int32} {a_snow : Nat → Int32} {a_level : Nat → Int32} {f_begun : Int32} {f_minute : Int32} {f_avalanches : Int32} {a_run : Nat → Int32} {a_covers : Nat → Int32} {a_routes : Nat → Int32} {a_longest : Nat → Int32} {a_steep : Nat → Int32} {a_laid : Nat → Int32} {a_far : Nat → Int32} {f_sight : Int32} {a_runs : Nat → Int32} {f_choir : Int32} {f_voices : Int32} {a_rest : Nat → Int64} {a_wins : Nat → Int32} {f_seed : Int32} {a_other : Nat → Int32} {a_kept : Nat → Int32} {post : Int32 → (Int32) → (Int32) → (Int32) → (Int32) → (Int64) → (Int32) → (Int32) → (Int32) → (Nat → Int32) → (Nat → Int32) → (Int32) → Prop} {x1 : Int64} {x3 : Int32} {ls : Array Slot} {H : Heap} {locs : List Loc}
    (zc : zC p s m args meth c cX11_sightLine 4 RX11 (some .boolean))
    (hK : zK E s)
    (hM : mW E q f_code a_tape a_size a_fault a_faultPlace a_many a_lands a_evenings a_sights a_choirs f_reached f_length f_begins f_sort f_value f_word f_wrongAt f_laterFault f_laterPlace a_told a_read f_farHut f_farSinger f_good f_land f_huts f_singers f_evening a_at a_knows a_climbed a_snow a_level f_begun f_minute f_avalanches a_run a_covers a_routes a_longest a_steep a_laid a_far f_sight a_runs f_choir f_voices a_rest a_wins f_seed a_other a_kept H)
    (hS : va_S (mA q) s.heap H locs)
    (hl : lv_has ls 4 [(0, .ref q), (1, .long x1), (3, .int x3)])
    (hw : q_m_sightLine_0 a_tape f_reached f_length f_begins f_sort f_value f_word f_wrongAt f_laterFault f_laterPlace a_told a_read f_good x1 x3 post) :
    W p l e rm_m_sightLine s m args below meth c H locs 0 0 (MQ below (zQi (S := (Int32) × (Int32) × (Int32) × (Int32) × (Int64) × (Int32) × (Int32) × (Int32) × (Nat → Int32) × (Nat → Int32) × (Int32)) (fun r u => post r u.1 u.2.1 u.2.2.1 u.2.2.2.1 u.2.2.2.2.1 u.2.2.2.2.2.1 u.2.2.2.2.2.2.1 u.2.2.2.2.2.2.2.1 u.2.2.2.2.2.2.2.2.1 u.2.2.2.2.2.2.2.2.2.1 u.2.2.2.2.2.2.2.2.2.2) (fun u H => mW E q f_code a_tape a_size a_fault a_faultPlace a_many a_lands a_evenings a_sights a_choirs u.1 f_length u.2.1 u.2.2.1 u.2.2.2.1 u.2.2.2.2.1 u.2.2.2.2.2.1 u.2.2.2.2.2.2.1 u.2.2.2.2.2.2.2.1 u.2.2.2.2.2.2.2.2.1 u.2.2.2.2.2.2.2.2.2.1 f_farHut f_farSinger u.2.2.2.2.2.2.2.2.2.2 f_land f_huts f_singers f_evening a_at a_knows a_climbed a_snow a_level f_begun f_minute f_avalanches a_run a_covers a_routes a_longest a_steep a_laid a_far f_sight a_runs f_choir f_voices a_rest a_wins f_seed a_other a_kept H) (mA q)) args s 0 0 (mA q)) (F0 m 0 ls []) := by
  have hx := zc.1
  have hb := zc.2.1
  refine lv_lload_n hx hb dX11_sightLine_0 rfl (lv_at hl 1 rfl) ?_
  refine lv_ldc2 (v := (448377483876 : Int64)) hx hb zc.2.2.2.1 (zc.2.2.2.2.1 _ kc_11_259) dX11_sightLine_1 ?_
  refine W.lcmp hx hb dX11_sightLine_4 ?_
  refine lv_if_eq (tgt := 21) hx hb dX11_sightLine_5 (by decide) (fun hc => ?_) (fun hc => ?_)
  · have hw := hw.1 hc
    exact t_m_sightLine_21 zc hK hM hS  (lv_sub hl [0, 1, 2] rfl) hw
  · have hw := hw.2 hc
    refine lv_lload_n hx hb dX11_sightLine_8 rfl (lv_at hl 1 rfl) ?_
    refine lv_ldc2 (v := (1836414053 : Int64)) hx hb zc.2.2.2.1 (zc.2.2.2.2.1 _ kc_11_261) dX11_sightLine_9 ?_
    refine W.lcmp hx hb dX11_sightLine_12 ?_
    refine lv_if_eq (tgt := 21) hx hb dX11_sightLine_13 (by decide) (fun hc => ?_) (fun hc => ?_)
    · have hw := hw.1 hc
      exact t_m_sightLine_21 zc hK hM hS  (lv_sub hl [0, 1, 2] rfl) hw
    · have hw := hw.2 hc
      refine lv_aload_n hx hb dX11_sightLine_16 rfl (lv_at hl 0 rfl) ?_
      refine zVw_i [] [] zc ky_X11_fails kz_X11_fails km_11_149 (c_m_fails l hw) (mPreV0 hK hM) hS rfl rfl hl.1 (Nat.le_of_ble_eq_true rfl) ⟨rfl, rfl⟩ ⟨Nat.le_of_ble_eq_true rfl, Nat.le_of_ble_eq_true rfl⟩ ⟨(Nat.zero_le _), (Nat.zero_le _)⟩ dX11_sightLine_17 (fun r_1 f_wrongAt_1 H locs hw hM hS => ?_)
      exact zret_zw ⟨f_reached, f_begins, f_sort, f_value, f_word, f_wrongAt_1, f_laterFault, f_laterPlace, a_told, a_read, f_good⟩ zc hS hw.1 hw.2 hM dX11_sightLine_20
set_option maxRecDepth 20000 in
theorem c_m_sightLine (l : Launch) {E : zE} {q : Nat} {f_code : Int32} {a_tape : Nat → Int32} {a_size : Nat → Int32} {a_fault : Nat → Int32} {a_faultPlace : Nat → Int32} {a_many : Nat → Int32} {a_lands : Nat → Int32} {a_evenings : Nat → Int32} {a_sights : Nat → Int32} {a_choirs : Nat → Int32} {f_reached : Int32} {f_length : Int32} {f_begins : Int32} {f_sort : Int32} {f_value : Int32} {f_word : Int64} {f_wrongAt : Int32} {f_laterFault : Int32} {f_laterPlace : Int32} {a_told : Nat → Int32} {a_read : Nat → Int32} {f_farHut : Int32} {f_farSinger : Int32} {f_good : Int32} {f_land : Int32} {f_huts : Int32} {f_singers : Int32} {f_evening : Int32} {a_at : Nat → Int32} {a_knows : Nat → Int32} {a_climbed : Nat → Int32} {a_snow : Nat → Int32} {a_level : Nat → Int32} {f_begun : Int32} {f_minute : Int32} {f_avalanches : Int32} {a_run : Nat → Int32} {a_covers : Nat → Int32} {a_routes : Nat → Int32} {a_longest : Nat → Int32} {a_steep : Nat → Int32} {a_laid : Nat → Int32} {a_far : Nat → Int32} {f_sight : Int32} {a_runs : Nat → Int32} {f_choir : Int32} {f_voices : Int32} {a_rest : Nat → Int64} {a_wins : Nat → Int32} {f_seed : Int32} {a_other : Nat → Int32} {a_kept : Nat → Int32} {x1 : Int64} {x3 : Int32} {post : Int32 → (Int32) → (Int32) → (Int32) → (Int32) → (Int64) → (Int32) → (Int32) → (Int32) → (Nat → Int32) → (Nat → Int32) → (Int32) → Prop} (hw : q_m_sightLine_0 a_tape f_reached f_length f_begins f_sort f_value f_word f_wrongAt f_laterFault f_laterPlace a_told a_read f_good x1 x3 post) : Met l yX11_sightLine (Cond.code yX11_sightLine cX11_sightLine 4 (some .boolean) :: zb) rm_m_sightLine (va_Pc [.ref q, .long x1, .int x3] (fun U => mW E q f_code a_tape a_size a_fault a_faultPlace a_many a_lands a_evenings a_sights a_choirs f_reached f_length f_begins f_sort f_value f_word f_wrongAt f_laterFault f_laterPlace a_told a_read f_farHut f_farSinger f_good f_land f_huts f_singers f_evening a_at a_knows a_climbed a_snow a_level f_begun f_minute f_avalanches a_run a_covers a_routes a_longest a_steep a_laid a_far f_sight a_runs f_choir f_voices a_rest a_wins f_seed a_other a_kept U.heap ∧ zK E U)) (zQi (S := (Int32) × (Int32) × (Int32) × (Int32) × (Int64) × (Int32) × (Int32) × (Int32) × (Nat → Int32) × (Nat → Int32) × (Int32)) (fun r u => post r u.1 u.2.1 u.2.2.1 u.2.2.2.1 u.2.2.2.2.1 u.2.2.2.2.2.1 u.2.2.2.2.2.2.1 u.2.2.2.2.2.2.2.1 u.2.2.2.2.2.2.2.2.1 u.2.2.2.2.2.2.2.2.2.1 u.2.2.2.2.2.2.2.2.2.2) (fun u H => mW E q f_code a_tape a_size a_fault a_faultPlace a_many a_lands a_evenings a_sights a_choirs u.1 f_length u.2.1 u.2.2.1 u.2.2.2.1 u.2.2.2.2.1 u.2.2.2.2.2.1 u.2.2.2.2.2.2.1 u.2.2.2.2.2.2.2.1 u.2.2.2.2.2.2.2.2.1 u.2.2.2.2.2.2.2.2.2.1 f_farHut f_farSinger u.2.2.2.2.2.2.2.2.2.2 f_land f_huts f_singers f_evening a_at a_knows a_climbed a_snow a_level f_begun f_minute f_avalanches a_run a_covers a_routes a_longest a_steep a_laid a_far f_sight a_runs f_choir f_voices a_rest a_wins f_seed a_other a_kept H) (mA q)) 0 0 (mA q) := by
  refine Met.ofW (cc := cX11_sightLine) (maxL := 4) (ret := (some .boolean)) (by decide) rfl ?_
  intro p e s m args below meth c s₁ B hml hv
  obtain ⟨rfl, hM, hK⟩ := hv
  have zc := zc_of B hml
  have hl := lv_entry ([.ref q, .long x1, .int x3]) (n := 4) (Nat.le_of_ble_eq_true rfl)
  rw [lg_entry_eq]
  generalize (lg_sl ([.ref q, .long x1, .int x3]) ++ List.replicate (4 - (lg_sl ([.ref q, .long x1, .int x3])).length) Slot.unset).toArray = ls at hl ⊢
  have hl : lv_has ls 4 [(0, .ref q), (1, .long x1), (3, .int x3)] := hl
  exact t_m_sightLine_0 zc hK hM va_S.rf (lv_sub hl [0, 1, 2] rfl) hw
-- m_choirLine
abbrev rm_m_choirLine : Room := { frames := 5, cells := 0, slots := 0, locals := 114 }
def q_m_choirLine_37 (a_tape : Nat → Int32) (f_reached : Int32) (f_length : Int32) (f_begins : Int32) (f_sort : Int32) (f_value : Int32) (f_word : Int64) (f_wrongAt : Int32) (f_laterFault : Int32) (f_laterPlace : Int32) (a_told : Nat → Int32) (a_read : Nat → Int32) (f_good : Int32) (x1 : Int64) (post : Int32 → (Int32) → (Int32) → (Int32) → (Int32) → (Int64) → (Int32) → (Int32) → (Int32) → (Nat → Int32) → (Nat → Int32) → (Int32) → Prop) : Prop :=
  q_m_token_0 a_tape f_reached f_length f_begins f_sort f_value f_word (fun f_reached_1 f_begins_1 f_sort_1 f_value_1 f_word_1 => (¬ (lg_cmp x1 (1937007984 : Int64)) = 0 → (q_m_take_0 a_tape f_reached_1 f_length f_begins_1 f_sort_1 f_value_1 f_word_1 f_wrongAt f_laterFault f_laterPlace a_read f_good (0 : Int32) (0 : Int32) (3 : Int32) (fun r_1 f_reached_2 f_begins_2 f_sort_2 f_value_2 f_word_2 f_wrongAt_1 f_laterFault_1 f_laterPlace_1 a_read_1 f_good_1 => (r_1 = 0 → (post (0 : Int32) f_reached_2 f_begins_2 f_sort_2 f_value_2 f_word_2 f_wrongAt_1 f_laterFault_1 f_laterPlace_1 a_told a_read_1 f_good_1)) ∧ (¬ r_1 = 0 → (q_m_take_0 a_tape f_reached_2 f_length f_begins_2 f_sort_2 f_value_2 f_word_2 f_wrongAt_1 f_laterFault_1 f_laterPlace_1 a_read_1 f_good_1 (1 : Int32) (0 : Int32) (9 : Int32) (fun r_2 f_reached_3 f_begins_3 f_sort_3 f_value_3 f_word_3 f_wrongAt_2 f_laterFault_2 f_laterPlace_2 a_read_2 f_good_2 => (¬ r_2 = 0 → (q_m_keep_0 a_told a_read_2 (2 : Int32) (9 : Int32) (fun a_told_1 => post (1 : Int32) f_reached_3 f_begins_3 f_sort_3 f_value_3 f_word_3 f_wrongAt_2 f_laterFault_2 f_laterPlace_2 a_told_1 a_read_2 f_good_2))) ∧ (r_2 = 0 → (post (0 : Int32) f_reached_3 f_begins_3 f_sort_3 f_value_3 f_word_3 f_wrongAt_2 f_laterFault_2 f_laterPlace_2 a_told a_read_2 f_good_2)))))))) ∧ ((lg_cmp x1 (1937007984 : Int64)) = 0 → (q_m_plainLine_0 a_tape f_reached_1 f_length f_begins_1 f_sort_1 f_value_1 f_word_1 f_wrongAt f_laterFault f_laterPlace a_told a_read f_good (19 : Int32) (0 : Int32) (9 : Int32) (fun r_3 f_reached_4 f_begins_4 f_sort_4 f_value_4 f_word_4 f_wrongAt_3 f_laterFault_3 f_laterPlace_3 a_told_2 a_read_3 f_good_3 => narrow .boolean (.int r_3) = .int r_3 ∧ post r_3 f_reached_4 f_begins_4 f_sort_4 f_value_4 f_word_4 f_wrongAt_3 f_laterFault_3 f_laterPlace_3 a_told_2 a_read_3 f_good_3))))
def q_m_choirLine_21 (a_tape : Nat → Int32) (f_reached : Int32) (f_length : Int32) (f_begins : Int32) (f_sort : Int32) (f_value : Int32) (f_word : Int64) (f_wrongAt : Int32) (f_laterFault : Int32) (f_laterPlace : Int32) (a_told : Nat → Int32) (a_read : Nat → Int32) (f_good : Int32) (x1 : Int64) (x3 : Int32) (post : Int32 → (Int32) → (Int32) → (Int32) → (Int32) → (Int64) → (Int32) → (Int32) → (Int32) → (Nat → Int32) → (Nat → Int32) → (Int32) → Prop) : Prop :=
  (¬ (lg_cmp x1 (508675318629 : Int64)) = 0 → (q_m_choirLine_37 a_tape f_reached f_length f_begins f_sort f_value f_word f_wrongAt f_laterFault f_laterPlace a_told a_read f_good x1 post)) ∧ ((lg_cmp x1 (508675318629 : Int64)) = 0 → (q_m_full_0 f_laterFault f_laterPlace a_told (0 : Int32) (9 : Int32) x3 (fun f_laterFault_1 f_laterPlace_1 => q_m_choirLine_37 a_tape f_reached f_length f_begins f_sort f_value f_word f_wrongAt f_laterFault_1 f_laterPlace_1 a_told a_read f_good x1 post)))
def q_m_choirLine_0 (a_tape : Nat → Int32) (f_reached : Int32) (f_length : Int32) (f_begins : Int32) (f_sort : Int32) (f_value : Int32) (f_word : Int64) (f_wrongAt : Int32) (f_laterFault : Int32) (f_laterPlace : Int32) (a_told : Nat → Int32) (a_read : Nat → Int32) (f_good : Int32) (x1 : Int64) (x3 : Int32) (post : Int32 → (Int32) → (Int32) → (Int32) → (Int32) → (Int64) → (Int32) → (Int32) → (Int32) → (Nat → Int32) → (Nat → Int32) → (Int32) → Prop) : Prop :=
  ((lg_cmp x1 (508675318629 : Int64)) = 0 → (q_m_choirLine_21 a_tape f_reached f_length f_begins f_sort f_value f_word f_wrongAt f_laterFault f_laterPlace a_told a_read f_good x1 x3 post)) ∧ (¬ (lg_cmp x1 (508675318629 : Int64)) = 0 → (((lg_cmp x1 (1937007984 : Int64)) = 0 → (q_m_choirLine_21 a_tape f_reached f_length f_begins f_sort f_value f_word f_wrongAt f_laterFault f_laterPlace a_told a_read f_good x1 x3 post)) ∧ (¬ (lg_cmp x1 (1937007984 : Int64)) = 0 → (q_m_fails_0 f_begins f_wrongAt (fun r_1 f_wrongAt_1 => narrow .boolean (.int r_1) = .int r_1 ∧ post r_1 f_reached f_begins f_sort f_value f_word f_wrongAt_1 f_laterFault f_laterPlace a_told a_read f_good)))))
set_option maxRecDepth 20000 in
theorem t_m_choirLine_37 {p : Program} {l : Launch} {e : Env} {s : State} {m : MethodId} {args : Array Value} {below : List Frame} {meth : Method} {c : Code} {E : zE} {q : Nat} {f_code : Int32} {a_tape : Nat → Int32} {a_size : Nat → Int32} {a_fault : Nat → Int32} {a_faultPlace : Nat → Int32} {a_many : Nat → Int32} {a_lands : Nat → Int32} {a_evenings : Nat → Int32} {a_sights : Nat → Int32} {a_choirs : Nat → Int32} {f_reached : Int32} {f_length : Int32} {f_begins : Int32} {f_sort : Int32} {f_value : Int32} {f_word : Int64} {f_wrongAt : Int32} {f_laterFault : Int32} {f_laterPlace : Int32} {a_told : Nat → Int32} {a_read : Nat → Int32} {f_farHut : Int32} {f_farSinger : Int32} {f_good : Int32} {f_land : Int32} {f_huts : Int32} {f_singers : Int32} {f_evening : Int32} {a_at : Nat → Int32} {a_knows : Nat → Int32} {a_climbed : Nat → Int32} {a_snow : Nat → Int32} {a_level : Nat → Int32} {f_begun : Int32} {f_minute : Int32} {f_avalanches : Int32} {a_run : Nat → Int32} {a_covers : Nat → Int32} {a_routes : Nat → Int32} {a_longest : Nat → Int32} {a_steep : Nat → Int32} {a_laid : Nat → Int32} {a_far : Nat → Int32} {f_sight : Int32} {a_runs : Nat → Int32} {f_choir : Int32} {f_voices : Int32} {a_rest : Nat → Int64} {a_wins : Nat → Int32} {f_seed : Int32} {a_other : Nat → Int32} {a_kept : Nat → Int32} {post : Int32 → (Int32) → (Int32) → (Int32) → (Int32) → (Int64) → (Int32) → (Int32) → (Int32) → (Nat → Int32) → (Nat → Int32) → (Int32) → Prop} {x1 : Int64} {ls : Array Slot} {H : Heap} {locs : List Loc}
    (zc : zC p s m args meth c cX11_choirLine 4 RX11 (some .boolean))
    (hK : zK E s)
    (hM : mW E q f_code a_tape a_size a_fault a_faultPlace a_many a_lands a_evenings a_sights a_choirs f_reached f_length f_begins f_sort f_value f_word f_wrongAt f_laterFault f_laterPlace a_told a_read f_farHut f_farSinger f_good f_land f_huts f_singers f_evening a_at a_knows a_climbed a_snow a_level f_begun f_minute f_avalanches a_run a_covers a_routes a_longest a_steep a_laid a_far f_sight a_runs f_choir f_voices a_rest a_wins f_seed a_other a_kept H)
    (hS : va_S (mA q) s.heap H locs)
    (hl : lv_has ls 4 [(0, .ref q), (1, .long x1)])
    (hw : q_m_choirLine_37 a_tape f_reached f_length f_begins f_sort f_value f_word f_wrongAt f_laterFault f_laterPlace a_told a_read f_good x1 post) :
    W p l e rm_m_choirLine s m args below meth c H locs 0 0 (MQ below (zQi (S := (Int32) × (Int32) × (Int32) × (Int32) × (Int64) × (Int32) × (Int32) × (Int32) × (Nat → Int32) × (Nat → Int32) × (Int32)) (fun r u => post r u.1 u.2.1 u.2.2.1 u.2.2.2.1 u.2.2.2.2.1 u.2.2.2.2.2.1 u.2.2.2.2.2.2.1 u.2.2.2.2.2.2.2.1 u.2.2.2.2.2.2.2.2.1 u.2.2.2.2.2.2.2.2.2.1 u.2.2.2.2.2.2.2.2.2.2) (fun u H => mW E q f_code a_tape a_size a_fault a_faultPlace a_many a_lands a_evenings a_sights a_choirs u.1 f_length u.2.1 u.2.2.1 u.2.2.2.1 u.2.2.2.2.1 u.2.2.2.2.2.1 u.2.2.2.2.2.2.1 u.2.2.2.2.2.2.2.1 u.2.2.2.2.2.2.2.2.1 u.2.2.2.2.2.2.2.2.2.1 f_farHut f_farSinger u.2.2.2.2.2.2.2.2.2.2 f_land f_huts f_singers f_evening a_at a_knows a_climbed a_snow a_level f_begun f_minute f_avalanches a_run a_covers a_routes a_longest a_steep a_laid a_far f_sight a_runs f_choir f_voices a_rest a_wins f_seed a_other a_kept H) (mA q)) args s 0 0 (mA q)) (F0 m 37 ls []) := by
  have hx := zc.1
  have hb := zc.2.1
  refine lv_aload_n hx hb dX11_choirLine_37 rfl (lv_at hl 0 rfl) ?_
  refine zVw_v [] [] zc ky_X11_token kz_X11_token km_11_161 (c_m_token l hw) (mPreV0 hK hM) hS rfl rfl hl.1 (Nat.le_of_ble_eq_true rfl) ⟨rfl, rfl⟩ ⟨Nat.le_of_ble_eq_true rfl, Nat.le_of_ble_eq_true rfl⟩ ⟨(Nat.zero_le _), (Nat.zero_le _)⟩ dX11_choirLine_38 (fun u H locs hw hM hS => ?_)
  obtain ⟨f_reached_1, f_begins_1, f_sort_1, f_value_1, f_word_1⟩ := u
  refine lv_lload_n hx hb dX11_choirLine_41 rfl (lv_at hl 1 rfl) ?_
  refine lv_ldc2 (v := (1937007984 : Int64)) hx hb zc.2.2.2.1 (zc.2.2.2.2.1 _ kc_11_265) dX11_choirLine_42 ?_
  refine W.lcmp hx hb dX11_choirLine_45 ?_
  refine lv_if_ne (tgt := 59) hx hb dX11_choirLine_46 (by decide) (fun hc => ?_) (fun hc => ?_)
  · have hw := hw.1 hc
    refine lv_aload_n hx hb dX11_choirLine_59 rfl (lv_at hl 0 rfl) ?_
    refine lv_iconst (v := (0 : Int32)) hx hb dX11_choirLine_60 (by decide) ?_
    refine lv_iconst (v := (0 : Int32)) hx hb dX11_choirLine_61 (by decide) ?_
    refine lv_iconst (v := (3 : Int32)) hx hb dX11_choirLine_62 (by decide) ?_
    refine zVw_i [.int (0 : Int32), .int (0 : Int32), .int (3 : Int32)] [] zc ky_X11_take kz_X11_take km_11_178 (c_m_take l hw) (mPreV0 hK hM) hS rfl rfl hl.1 (Nat.le_of_ble_eq_true rfl) ⟨rfl, rfl⟩ ⟨Nat.le_of_ble_eq_true rfl, Nat.le_of_ble_eq_true rfl⟩ ⟨(Nat.zero_le _), (Nat.zero_le _)⟩ dX11_choirLine_63 (fun r_1 u H locs hw hM hS => ?_)
    obtain ⟨f_reached_2, f_begins_2, f_sort_2, f_value_2, f_word_2, f_wrongAt_1, f_laterFault_1, f_laterPlace_1, a_read_1, f_good_1⟩ := u
    refine lv_if_eq (tgt := 80) hx hb dX11_choirLine_66 (by decide) (fun hc => ?_) (fun hc => ?_)
    · have hw := hw.1 hc
      refine lv_iconst (v := (0 : Int32)) hx hb dX11_choirLine_80 (by decide) ?_
      exact zret_zw ⟨f_reached_2, f_begins_2, f_sort_2, f_value_2, f_word_2, f_wrongAt_1, f_laterFault_1, f_laterPlace_1, a_told, a_read_1, f_good_1⟩ zc hS rfl hw hM dX11_choirLine_81
    · have hw := hw.2 hc
      refine lv_aload_n hx hb dX11_choirLine_69 rfl (lv_at hl 0 rfl) ?_
      refine lv_iconst (v := (1 : Int32)) hx hb dX11_choirLine_70 (by decide) ?_
      refine lv_iconst (v := (0 : Int32)) hx hb dX11_choirLine_71 (by decide) ?_
      refine lv_bipush (v := (9 : Int32)) hx hb dX11_choirLine_72 (by decide) ?_
      refine zVw_i [.int (1 : Int32), .int (0 : Int32), .int (9 : Int32)] [] zc ky_X11_take kz_X11_take km_11_178 (c_m_take l hw) (mPreV0 hK hM) hS rfl rfl hl.1 (Nat.le_of_ble_eq_true rfl) ⟨rfl, rfl⟩ ⟨Nat.le_of_ble_eq_true rfl, Nat.le_of_ble_eq_true rfl⟩ ⟨(Nat.zero_le _), (Nat.zero_le _)⟩ dX11_choirLine_74 (fun r_2 u H locs hw hM hS => ?_)
      obtain ⟨f_reached_3, f_begins_3, f_sort_3, f_value_3, f_word_3, f_wrongAt_2, f_laterFault_2, f_laterPlace_2, a_read_2, f_good_2⟩ := u
      refine lv_if_ne (tgt := 82) hx hb dX11_choirLine_77 (by decide) (fun hc => ?_) (fun hc => ?_)
      · have hw := hw.1 hc
        refine lv_aload_n hx hb dX11_choirLine_82 rfl (lv_at hl 0 rfl) ?_
        refine lv_iconst (v := (2 : Int32)) hx hb dX11_choirLine_83 (by decide) ?_
        refine lv_bipush (v := (9 : Int32)) hx hb dX11_choirLine_84 (by decide) ?_
        refine zVw_v [.int (2 : Int32), .int (9 : Int32)] [] zc ky_X11_keep kz_X11_keep km_11_256 (c_m_keep l hw) (mPreV0 hK hM) hS rfl rfl hl.1 (Nat.le_of_ble_eq_true rfl) ⟨rfl, rfl⟩ ⟨Nat.le_of_ble_eq_true rfl, Nat.le_of_ble_eq_true rfl⟩ ⟨(Nat.zero_le _), (Nat.zero_le _)⟩ dX11_choirLine_86 (fun a_told_1 H locs hw hM hS => ?_)
        refine lv_iconst (v := (1 : Int32)) hx hb dX11_choirLine_89 (by decide) ?_
        exact zret_zw ⟨f_reached_3, f_begins_3, f_sort_3, f_value_3, f_word_3, f_wrongAt_2, f_laterFault_2, f_laterPlace_2, a_told_1, a_read_2, f_good_2⟩ zc hS rfl hw hM dX11_choirLine_90
      · have hw := hw.2 hc
        refine lv_iconst (v := (0 : Int32)) hx hb dX11_choirLine_80 (by decide) ?_
        exact zret_zw ⟨f_reached_3, f_begins_3, f_sort_3, f_value_3, f_word_3, f_wrongAt_2, f_laterFault_2, f_laterPlace_2, a_told, a_read_2, f_good_2⟩ zc hS rfl hw hM dX11_choirLine_81
  · have hw := hw.2 hc
    refine lv_aload_n hx hb dX11_choirLine_49 rfl (lv_at hl 0 rfl) ?_
    refine lv_bipush (v := (19 : Int32)) hx hb dX11_choirLine_50 (by decide) ?_
    refine lv_iconst (v := (0 : Int32)) hx hb dX11_choirLine_52 (by decide) ?_
    refine lv_bipush (v := (9 : Int32)) hx hb dX11_choirLine_53 (by decide) ?_
    refine zVw_i [.int (19 : Int32), .int (0 : Int32), .int (9 : Int32)] [] zc ky_X11_plainLine kz_X11_plainLine km_11_222 (c_m_plainLine l hw) (mPreV0 hK hM) hS rfl rfl hl.1 (Nat.le_of_ble_eq_true rfl) ⟨rfl, rfl⟩ ⟨Nat.le_of_ble_eq_true rfl, Nat.le_of_ble_eq_true rfl⟩ ⟨(Nat.zero_le _), (Nat.zero_le _)⟩ dX11_choirLine_55 (fun r_3 u H locs hw hM hS => ?_)
    obtain ⟨f_reached_4, f_begins_4, f_sort_4, f_value_4, f_word_4, f_wrongAt_3, f_laterFault_3, f_laterPlace_3, a_told_2, a_read_3, f_good_3⟩ := u
    exact zret_zw ⟨f_reached_4, f_begins_4, f_sort_4, f_value_4, f_word_4, f_wrongAt_3, f_laterFault_3, f_laterPlace_3, a_told_2, a_read_3, f_good_3⟩ zc hS hw.1 hw.2 hM dX11_choirLine_58
set_option maxRecDepth 20000 in
theorem t_m_choirLine_21 {p : Program} {l : Launch} {e : Env} {s : State} {m : MethodId} {args : Array Value} {below : List Frame} {meth : Method} {c : Code} {E : zE} {q : Nat} {f_code : Int32} {a_tape : Nat → Int32} {a_size : Nat → Int32} {a_fault : Nat → Int32} {a_faultPlace : Nat → Int32} {a_many : Nat → Int32} {a_lands : Nat → Int32} {a_evenings : Nat → Int32} {a_sights : Nat → Int32} {a_choirs : Nat → Int32} {f_reached : Int32} {f_length : Int32} {f_begins : Int32} {f_sort : Int32} {f_value : Int32} {f_word : Int64} {f_wrongAt : Int32} {f_laterFault : Int32} {f_laterPlace : Int32} {a_told : Nat → Int32} {a_read : Nat → Int32} {f_farHut : Int32} {f_farSinger : Int32} {f_good : Int32} {f_land : Int32} {f_huts : Int32} {f_singers : Int32} {f_evening : Int32} {a_at : Nat → Int32} {a_knows : Nat → Int32} {a_climbed : Nat → Int32} {a_snow : Nat → Int32} {a_level : Nat → Int32} {f_begun : Int32} {f_minute : Int32} {f_avalanches : Int32} {a_run : Nat → Int32} {a_covers : Nat → Int32} {a_routes : Nat → Int32} {a_longest : Nat → Int32} {a_steep : Nat → Int32} {a_laid : Nat → Int32} {a_far : Nat → Int32} {f_sight : Int32} {a_runs : Nat → Int32} {f_choir : Int32} {f_voices : Int32} {a_rest : Nat → Int64} {a_wins : Nat → Int32} {f_seed : Int32} {a_other : Nat → Int32} {a_kept : Nat → Int32} {post : Int32 → (Int32) → (Int32) → (Int32) → (Int32) → (Int64) → (Int32) → (Int32) → (Int32) → (Nat → Int32) → (Nat → Int32) → (Int32) → Prop} {x1 : Int64} {x3 : Int32} {ls : Array Slot} {H : Heap} {locs : List Loc}
    (zc : zC p s m args meth c cX11_choirLine 4 RX11 (some .boolean))
    (hK : zK E s)
    (hM : mW E q f_code a_tape a_size a_fault a_faultPlace a_many a_lands a_evenings a_sights a_choirs f_reached f_length f_begins f_sort f_value f_word f_wrongAt f_laterFault f_laterPlace a_told a_read f_farHut f_farSinger f_good f_land f_huts f_singers f_evening a_at a_knows a_climbed a_snow a_level f_begun f_minute f_avalanches a_run a_covers a_routes a_longest a_steep a_laid a_far f_sight a_runs f_choir f_voices a_rest a_wins f_seed a_other a_kept H)
    (hS : va_S (mA q) s.heap H locs)
    (hl : lv_has ls 4 [(0, .ref q), (1, .long x1), (3, .int x3)])
    (hw : q_m_choirLine_21 a_tape f_reached f_length f_begins f_sort f_value f_word f_wrongAt f_laterFault f_laterPlace a_told a_read f_good x1 x3 post) :
    W p l e rm_m_choirLine s m args below meth c H locs 0 0 (MQ below (zQi (S := (Int32) × (Int32) × (Int32) × (Int32) × (Int64) × (Int32) × (Int32) × (Int32) × (Nat → Int32) × (Nat → Int32) × (Int32)) (fun r u => post r u.1 u.2.1 u.2.2.1 u.2.2.2.1 u.2.2.2.2.1 u.2.2.2.2.2.1 u.2.2.2.2.2.2.1 u.2.2.2.2.2.2.2.1 u.2.2.2.2.2.2.2.2.1 u.2.2.2.2.2.2.2.2.2.1 u.2.2.2.2.2.2.2.2.2.2) (fun u H => mW E q f_code a_tape a_size a_fault a_faultPlace a_many a_lands a_evenings a_sights a_choirs u.1 f_length u.2.1 u.2.2.1 u.2.2.2.1 u.2.2.2.2.1 u.2.2.2.2.2.1 u.2.2.2.2.2.2.1 u.2.2.2.2.2.2.2.1 u.2.2.2.2.2.2.2.2.1 u.2.2.2.2.2.2.2.2.2.1 f_farHut f_farSinger u.2.2.2.2.2.2.2.2.2.2 f_land f_huts f_singers f_evening a_at a_knows a_climbed a_snow a_level f_begun f_minute f_avalanches a_run a_covers a_routes a_longest a_steep a_laid a_far f_sight a_runs f_choir f_voices a_rest a_wins f_seed a_other a_kept H) (mA q)) args s 0 0 (mA q)) (F0 m 21 ls []) := by
  have hx := zc.1
  have hb := zc.2.1
  refine lv_lload_n hx hb dX11_choirLine_21 rfl (lv_at hl 1 rfl) ?_
  refine lv_ldc2 (v := (508675318629 : Int64)) hx hb zc.2.2.2.1 (zc.2.2.2.2.1 _ kc_11_263) dX11_choirLine_22 ?_
  refine W.lcmp hx hb dX11_choirLine_25 ?_
  refine lv_if_ne (tgt := 37) hx hb dX11_choirLine_26 (by decide) (fun hc => ?_) (fun hc => ?_)
  · have hw := hw.1 hc
    exact t_m_choirLine_37 zc hK hM hS  (lv_sub hl [0, 1] rfl) hw
  · have hw := hw.2 hc
    refine lv_aload_n hx hb dX11_choirLine_29 rfl (lv_at hl 0 rfl) ?_
    refine lv_iconst (v := (0 : Int32)) hx hb dX11_choirLine_30 (by decide) ?_
    refine lv_bipush (v := (9 : Int32)) hx hb dX11_choirLine_31 (by decide) ?_
    refine lv_iload_n hx hb dX11_choirLine_33 rfl (lv_at hl 2 rfl) ?_
    refine zVw_v [.int (0 : Int32), .int (9 : Int32), .int x3] [] zc ky_X11_full kz_X11_full km_11_211 (c_m_full l hw) (mPreV0 hK hM) hS rfl rfl hl.1 (Nat.le_of_ble_eq_true rfl) ⟨rfl, rfl⟩ ⟨Nat.le_of_ble_eq_true rfl, Nat.le_of_ble_eq_true rfl⟩ ⟨(Nat.zero_le _), (Nat.zero_le _)⟩ dX11_choirLine_34 (fun u H locs hw hM hS => ?_)
    obtain ⟨f_laterFault_1, f_laterPlace_1⟩ := u
    exact t_m_choirLine_37 zc hK hM hS  (lv_sub hl [0, 1] rfl) hw
set_option maxRecDepth 20000 in
theorem t_m_choirLine_0 {p : Program} {l : Launch} {e : Env} {s : State} {m : MethodId} {args : Array Value} {below : List Frame} {meth : Method} {c : Code} {E : zE} {q : Nat} {f_code : Int32} {a_tape : Nat → Int32} {a_size : Nat → Int32} {a_fault : Nat → Int32} {a_faultPlace : Nat → Int32} {a_many : Nat → Int32} {a_lands : Nat → Int32} {a_evenings : Nat → Int32} {a_sights : Nat → Int32} {a_choirs : Nat → Int32} {f_reached : Int32} {f_length : Int32} {f_begins : Int32} {f_sort : Int32} {f_value : Int32} {f_word : Int64} {f_wrongAt : Int32} {f_laterFault : Int32} {f_laterPlace : Int32} {a_told : Nat → Int32} {a_read : Nat → Int32} {f_farHut : Int32} {f_farSinger : Int32} {f_good : Int32} {f_land : Int32} {f_huts : Int32} {f_singers : Int32} {f_evening : Int32} {a_at : Nat → Int32} {a_knows : Nat → Int32} {a_climbed : Nat → Int32} {a_snow : Nat → Int32} {a_level : Nat → Int32} {f_begun : Int32} {f_minute : Int32} {f_avalanches : Int32} {a_run : Nat → Int32} {a_covers : Nat → Int32} {a_routes : Nat → Int32} {a_longest : Nat → Int32} {a_steep : Nat → Int32} {a_laid : Nat → Int32} {a_far : Nat → Int32} {f_sight : Int32} {a_runs : Nat → Int32} {f_choir : Int32} {f_voices : Int32} {a_rest : Nat → Int64} {a_wins : Nat → Int32} {f_seed : Int32} {a_other : Nat → Int32} {a_kept : Nat → Int32} {post : Int32 → (Int32) → (Int32) → (Int32) → (Int32) → (Int64) → (Int32) → (Int32) → (Int32) → (Nat → Int32) → (Nat → Int32) → (Int32) → Prop} {x1 : Int64} {x3 : Int32} {ls : Array Slot} {H : Heap} {locs : List Loc}
    (zc : zC p s m args meth c cX11_choirLine 4 RX11 (some .boolean))
    (hK : zK E s)
    (hM : mW E q f_code a_tape a_size a_fault a_faultPlace a_many a_lands a_evenings a_sights a_choirs f_reached f_length f_begins f_sort f_value f_word f_wrongAt f_laterFault f_laterPlace a_told a_read f_farHut f_farSinger f_good f_land f_huts f_singers f_evening a_at a_knows a_climbed a_snow a_level f_begun f_minute f_avalanches a_run a_covers a_routes a_longest a_steep a_laid a_far f_sight a_runs f_choir f_voices a_rest a_wins f_seed a_other a_kept H)
    (hS : va_S (mA q) s.heap H locs)
    (hl : lv_has ls 4 [(0, .ref q), (1, .long x1), (3, .int x3)])
    (hw : q_m_choirLine_0 a_tape f_reached f_length f_begins f_sort f_value f_word f_wrongAt f_laterFault f_laterPlace a_told a_read f_good x1 x3 post) :
    W p l e rm_m_choirLine s m args below meth c H locs 0 0 (MQ below (zQi (S := (Int32) × (Int32) × (Int32) × (Int32) × (Int64) × (Int32) × (Int32) × (Int32) × (Nat → Int32) × (Nat → Int32) × (Int32)) (fun r u => post r u.1 u.2.1 u.2.2.1 u.2.2.2.1 u.2.2.2.2.1 u.2.2.2.2.2.1 u.2.2.2.2.2.2.1 u.2.2.2.2.2.2.2.1 u.2.2.2.2.2.2.2.2.1 u.2.2.2.2.2.2.2.2.2.1 u.2.2.2.2.2.2.2.2.2.2) (fun u H => mW E q f_code a_tape a_size a_fault a_faultPlace a_many a_lands a_evenings a_sights a_choirs u.1 f_length u.2.1 u.2.2.1 u.2.2.2.1 u.2.2.2.2.1 u.2.2.2.2.2.1 u.2.2.2.2.2.2.1 u.2.2.2.2.2.2.2.1 u.2.2.2.2.2.2.2.2.1 u.2.2.2.2.2.2.2.2.2.1 f_farHut f_farSinger u.2.2.2.2.2.2.2.2.2.2 f_land f_huts f_singers f_evening a_at a_knows a_climbed a_snow a_level f_begun f_minute f_avalanches a_run a_covers a_routes a_longest a_steep a_laid a_far f_sight a_runs f_choir f_voices a_rest a_wins f_seed a_other a_kept H) (mA q)) args s 0 0 (mA q)) (F0 m 0 ls []) := by
  have hx := zc.1
  have hb := zc.2.1
  refine lv_lload_n hx hb dX11_choirLine_0 rfl (lv_at hl 1 rfl) ?_
  refine lv_ldc2 (v := (508675318629 : Int64)) hx hb zc.2.2.2.1 (zc.2.2.2.2.1 _ kc_11_263) dX11_choirLine_1 ?_
  refine W.lcmp hx hb dX11_choirLine_4 ?_
  refine lv_if_eq (tgt := 21) hx hb dX11_choirLine_5 (by decide) (fun hc => ?_) (fun hc => ?_)
  · have hw := hw.1 hc
    exact t_m_choirLine_21 zc hK hM hS  (lv_sub hl [0, 1, 2] rfl) hw
  · have hw := hw.2 hc
    refine lv_lload_n hx hb dX11_choirLine_8 rfl (lv_at hl 1 rfl) ?_
    refine lv_ldc2 (v := (1937007984 : Int64)) hx hb zc.2.2.2.1 (zc.2.2.2.2.1 _ kc_11_265) dX11_choirLine_9 ?_
    refine W.lcmp hx hb dX11_choirLine_12 ?_
    refine lv_if_eq (tgt := 21) hx hb dX11_choirLine_13 (by decide) (fun hc => ?_) (fun hc => ?_)
    · have hw := hw.1 hc
      exact t_m_choirLine_21 zc hK hM hS  (lv_sub hl [0, 1, 2] rfl) hw
    · have hw := hw.2 hc
      refine lv_aload_n hx hb dX11_choirLine_16 rfl (lv_at hl 0 rfl) ?_
      refine zVw_i [] [] zc ky_X11_fails kz_X11_fails km_11_149 (c_m_fails l hw) (mPreV0 hK hM) hS rfl rfl hl.1 (Nat.le_of_ble_eq_true rfl) ⟨rfl, rfl⟩ ⟨Nat.le_of_ble_eq_true rfl, Nat.le_of_ble_eq_true rfl⟩ ⟨(Nat.zero_le _), (Nat.zero_le _)⟩ dX11_choirLine_17 (fun r_1 f_wrongAt_1 H locs hw hM hS => ?_)
      exact zret_zw ⟨f_reached, f_begins, f_sort, f_value, f_word, f_wrongAt_1, f_laterFault, f_laterPlace, a_told, a_read, f_good⟩ zc hS hw.1 hw.2 hM dX11_choirLine_20
set_option maxRecDepth 20000 in
theorem c_m_choirLine (l : Launch) {E : zE} {q : Nat} {f_code : Int32} {a_tape : Nat → Int32} {a_size : Nat → Int32} {a_fault : Nat → Int32} {a_faultPlace : Nat → Int32} {a_many : Nat → Int32} {a_lands : Nat → Int32} {a_evenings : Nat → Int32} {a_sights : Nat → Int32} {a_choirs : Nat → Int32} {f_reached : Int32} {f_length : Int32} {f_begins : Int32} {f_sort : Int32} {f_value : Int32} {f_word : Int64} {f_wrongAt : Int32} {f_laterFault : Int32} {f_laterPlace : Int32} {a_told : Nat → Int32} {a_read : Nat → Int32} {f_farHut : Int32} {f_farSinger : Int32} {f_good : Int32} {f_land : Int32} {f_huts : Int32} {f_singers : Int32} {f_evening : Int32} {a_at : Nat → Int32} {a_knows : Nat → Int32} {a_climbed : Nat → Int32} {a_snow : Nat → Int32} {a_level : Nat → Int32} {f_begun : Int32} {f_minute : Int32} {f_avalanches : Int32} {a_run : Nat → Int32} {a_covers : Nat → Int32} {a_routes : Nat → Int32} {a_longest : Nat → Int32} {a_steep : Nat → Int32} {a_laid : Nat → Int32} {a_far : Nat → Int32} {f_sight : Int32} {a_runs : Nat → Int32} {f_choir : Int32} {f_voices : Int32} {a_rest : Nat → Int64} {a_wins : Nat → Int32} {f_seed : Int32} {a_other : Nat → Int32} {a_kept : Nat → Int32} {x1 : Int64} {x3 : Int32} {post : Int32 → (Int32) → (Int32) → (Int32) → (Int32) → (Int64) → (Int32) → (Int32) → (Int32) → (Nat → Int32) → (Nat → Int32) → (Int32) → Prop} (hw : q_m_choirLine_0 a_tape f_reached f_length f_begins f_sort f_value f_word f_wrongAt f_laterFault f_laterPlace a_told a_read f_good x1 x3 post) : Met l yX11_choirLine (Cond.code yX11_choirLine cX11_choirLine 4 (some .boolean) :: zb) rm_m_choirLine (va_Pc [.ref q, .long x1, .int x3] (fun U => mW E q f_code a_tape a_size a_fault a_faultPlace a_many a_lands a_evenings a_sights a_choirs f_reached f_length f_begins f_sort f_value f_word f_wrongAt f_laterFault f_laterPlace a_told a_read f_farHut f_farSinger f_good f_land f_huts f_singers f_evening a_at a_knows a_climbed a_snow a_level f_begun f_minute f_avalanches a_run a_covers a_routes a_longest a_steep a_laid a_far f_sight a_runs f_choir f_voices a_rest a_wins f_seed a_other a_kept U.heap ∧ zK E U)) (zQi (S := (Int32) × (Int32) × (Int32) × (Int32) × (Int64) × (Int32) × (Int32) × (Int32) × (Nat → Int32) × (Nat → Int32) × (Int32)) (fun r u => post r u.1 u.2.1 u.2.2.1 u.2.2.2.1 u.2.2.2.2.1 u.2.2.2.2.2.1 u.2.2.2.2.2.2.1 u.2.2.2.2.2.2.2.1 u.2.2.2.2.2.2.2.2.1 u.2.2.2.2.2.2.2.2.2.1 u.2.2.2.2.2.2.2.2.2.2) (fun u H => mW E q f_code a_tape a_size a_fault a_faultPlace a_many a_lands a_evenings a_sights a_choirs u.1 f_length u.2.1 u.2.2.1 u.2.2.2.1 u.2.2.2.2.1 u.2.2.2.2.2.1 u.2.2.2.2.2.2.1 u.2.2.2.2.2.2.2.1 u.2.2.2.2.2.2.2.2.1 u.2.2.2.2.2.2.2.2.2.1 f_farHut f_farSinger u.2.2.2.2.2.2.2.2.2.2 f_land f_huts f_singers f_evening a_at a_knows a_climbed a_snow a_level f_begun f_minute f_avalanches a_run a_covers a_routes a_longest a_steep a_laid a_far f_sight a_runs f_choir f_voices a_rest a_wins f_seed a_other a_kept H) (mA q)) 0 0 (mA q) := by
  refine Met.ofW (cc := cX11_choirLine) (maxL := 4) (ret := (some .boolean)) (by decide) rfl ?_
  intro p e s m args below meth c s₁ B hml hv
  obtain ⟨rfl, hM, hK⟩ := hv
  have zc := zc_of B hml
  have hl := lv_entry ([.ref q, .long x1, .int x3]) (n := 4) (Nat.le_of_ble_eq_true rfl)
  rw [lg_entry_eq]
  generalize (lg_sl ([.ref q, .long x1, .int x3]) ++ List.replicate (4 - (lg_sl ([.ref q, .long x1, .int x3])).length) Slot.unset).toArray = ls at hl ⊢
  have hl : lv_has ls 4 [(0, .ref q), (1, .long x1), (3, .int x3)] := hl
  exact t_m_choirLine_0 zc hK hM va_S.rf (lv_sub hl [0, 1, 2] rfl) hw
-- m_lineOf
abbrev rm_m_lineOf : Room := { frames := 6, cells := 0, slots := 0, locals := 137 }
def q_m_lineOf_0 (a_tape : Nat → Int32) (f_reached : Int32) (f_length : Int32) (f_begins : Int32) (f_sort : Int32) (f_value : Int32) (f_word : Int64) (f_wrongAt : Int32) (f_laterFault : Int32) (f_laterPlace : Int32) (a_told : Nat → Int32) (a_read : Nat → Int32) (f_farHut : Int32) (f_farSinger : Int32) (f_good : Int32) (x1 : Int32) (x2 : Int64) (x4 : Int32) (post : Int32 → (Int32) → (Int32) → (Int32) → (Int32) → (Int64) → (Int32) → (Int32) → (Int32) → (Nat → Int32) → (Nat → Int32) → (Int32) → (Int32) → (Int32) → Prop) : Prop :=
  (x1.toInt < 0 ∨ 2 < x1.toInt → (q_m_choirLine_0 a_tape f_reached f_length f_begins f_sort f_value f_word f_wrongAt f_laterFault f_laterPlace a_told a_read f_good x2 x4 (fun r_1 f_reached_1 f_begins_1 f_sort_1 f_value_1 f_word_1 f_wrongAt_1 f_laterFault_1 f_laterPlace_1 a_told_1 a_read_1 f_good_1 => narrow .boolean (.int r_1) = .int r_1 ∧ post r_1 f_reached_1 f_begins_1 f_sort_1 f_value_1 f_word_1 f_wrongAt_1 f_laterFault_1 f_laterPlace_1 a_told_1 a_read_1 f_farHut f_farSinger f_good_1))) ∧ (x1 = (0 : Int32) → (q_m_landLine_0 a_tape f_reached f_length f_begins f_sort f_value f_word f_wrongAt f_laterFault f_laterPlace a_told a_read f_farHut f_farSinger f_good x2 x4 (fun r_2 f_reached_2 f_begins_2 f_sort_2 f_value_2 f_word_2 f_wrongAt_2 f_laterFault_2 f_laterPlace_2 a_told_2 a_read_2 f_farHut_1 f_farSinger_1 f_good_2 => narrow .boolean (.int r_2) = .int r_2 ∧ post r_2 f_reached_2 f_begins_2 f_sort_2 f_value_2 f_word_2 f_wrongAt_2 f_laterFault_2 f_laterPlace_2 a_told_2 a_read_2 f_farHut_1 f_farSinger_1 f_good_2))) ∧ (x1 = (1 : Int32) → (q_m_eveningLine_0 a_tape f_reached f_length f_begins f_sort f_value f_word f_wrongAt f_laterFault f_laterPlace a_told a_read f_good x2 x4 (fun r_3 f_reached_3 f_begins_3 f_sort_3 f_value_3 f_word_3 f_wrongAt_3 f_laterFault_3 f_laterPlace_3 a_told_3 a_read_3 f_good_3 => narrow .boolean (.int r_3) = .int r_3 ∧ post r_3 f_reached_3 f_begins_3 f_sort_3 f_value_3 f_word_3 f_wrongAt_3 f_laterFault_3 f_laterPlace_3 a_told_3 a_read_3 f_farHut f_farSinger f_good_3))) ∧ (x1 = (2 : Int32) → (q_m_sightLine_0 a_tape f_reached f_length f_begins f_sort f_value f_word f_wrongAt f_laterFault f_laterPlace a_told a_read f_good x2 x4 (fun r_4 f_reached_4 f_begins_4 f_sort_4 f_value_4 f_word_4 f_wrongAt_4 f_laterFault_4 f_laterPlace_4 a_told_4 a_read_4 f_good_4 => narrow .boolean (.int r_4) = .int r_4 ∧ post r_4 f_reached_4 f_begins_4 f_sort_4 f_value_4 f_word_4 f_wrongAt_4 f_laterFault_4 f_laterPlace_4 a_told_4 a_read_4 f_farHut f_farSinger f_good_4)))
set_option maxRecDepth 20000 in
theorem t_m_lineOf_0 {p : Program} {l : Launch} {e : Env} {s : State} {m : MethodId} {args : Array Value} {below : List Frame} {meth : Method} {c : Code} {E : zE} {q : Nat} {f_code : Int32} {a_tape : Nat → Int32} {a_size : Nat → Int32} {a_fault : Nat → Int32} {a_faultPlace : Nat → Int32} {a_many : Nat → Int32} {a_lands : Nat → Int32} {a_evenings : Nat → Int32} {a_sights : Nat → Int32} {a_choirs : Nat → Int32} {f_reached : Int32} {f_length : Int32} {f_begins : Int32} {f_sort : Int32} {f_value : Int32} {f_word : Int64} {f_wrongAt : Int32} {f_laterFault : Int32} {f_laterPlace : Int32} {a_told : Nat → Int32} {a_read : Nat → Int32} {f_farHut : Int32} {f_farSinger : Int32} {f_good : Int32} {f_land : Int32} {f_huts : Int32} {f_singers : Int32} {f_evening : Int32} {a_at : Nat → Int32} {a_knows : Nat → Int32} {a_climbed : Nat → Int32} {a_snow : Nat → Int32} {a_level : Nat → Int32} {f_begun : Int32} {f_minute : Int32} {f_avalanches : Int32} {a_run : Nat → Int32} {a_covers : Nat → Int32} {a_routes : Nat → Int32} {a_longest : Nat → Int32} {a_steep : Nat → Int32} {a_laid : Nat → Int32} {a_far : Nat → Int32} {f_sight : Int32} {a_runs : Nat → Int32} {f_choir : Int32} {f_voices : Int32} {a_rest : Nat → Int64} {a_wins : Nat → Int32} {f_seed : Int32} {a_other : Nat → Int32} {a_kept : Nat → Int32} {post : Int32 → (Int32) → (Int32) → (Int32) → (Int32) → (Int64) → (Int32) → (Int32) → (Int32) → (Nat → Int32) → (Nat → Int32) → (Int32) → (Int32) → (Int32) → Prop} {x1 : Int32} {x2 : Int64} {x4 : Int32} {ls : Array Slot} {H : Heap} {locs : List Loc}
    (zc : zC p s m args meth c cX11_lineOf 5 RX11 (some .boolean))
    (hK : zK E s)
    (hM : mW E q f_code a_tape a_size a_fault a_faultPlace a_many a_lands a_evenings a_sights a_choirs f_reached f_length f_begins f_sort f_value f_word f_wrongAt f_laterFault f_laterPlace a_told a_read f_farHut f_farSinger f_good f_land f_huts f_singers f_evening a_at a_knows a_climbed a_snow a_level f_begun f_minute f_avalanches a_run a_covers a_routes a_longest a_steep a_laid a_far f_sight a_runs f_choir f_voices a_rest a_wins f_seed a_other a_kept H)
    (hS : va_S (mA q) s.heap H locs)
    (hl : lv_has ls 5 [(0, .ref q), (1, .int x1), (2, .long x2), (4, .int x4)])
    (hw : q_m_lineOf_0 a_tape f_reached f_length f_begins f_sort f_value f_word f_wrongAt f_laterFault f_laterPlace a_told a_read f_farHut f_farSinger f_good x1 x2 x4 post) :
    W p l e rm_m_lineOf s m args below meth c H locs 0 0 (MQ below (zQi (S := (Int32) × (Int32) × (Int32) × (Int32) × (Int64) × (Int32) × (Int32) × (Int32) × (Nat → Int32) × (Nat → Int32) × (Int32) × (Int32) × (Int32)) (fun r u => post r u.1 u.2.1 u.2.2.1 u.2.2.2.1 u.2.2.2.2.1 u.2.2.2.2.2.1 u.2.2.2.2.2.2.1 u.2.2.2.2.2.2.2.1 u.2.2.2.2.2.2.2.2.1 u.2.2.2.2.2.2.2.2.2.1 u.2.2.2.2.2.2.2.2.2.2.1 u.2.2.2.2.2.2.2.2.2.2.2.1 u.2.2.2.2.2.2.2.2.2.2.2.2) (fun u H => mW E q f_code a_tape a_size a_fault a_faultPlace a_many a_lands a_evenings a_sights a_choirs u.1 f_length u.2.1 u.2.2.1 u.2.2.2.1 u.2.2.2.2.1 u.2.2.2.2.2.1 u.2.2.2.2.2.2.1 u.2.2.2.2.2.2.2.1 u.2.2.2.2.2.2.2.2.1 u.2.2.2.2.2.2.2.2.2.1 u.2.2.2.2.2.2.2.2.2.2.1 u.2.2.2.2.2.2.2.2.2.2.2.1 u.2.2.2.2.2.2.2.2.2.2.2.2 f_land f_huts f_singers f_evening a_at a_knows a_climbed a_snow a_level f_begun f_minute f_avalanches a_run a_covers a_routes a_longest a_steep a_laid a_far f_sight a_runs f_choir f_voices a_rest a_wins f_seed a_other a_kept H) (mA q)) args s 0 0 (mA q)) (F0 m 0 ls []) := by
  have hx := zc.1
  have hb := zc.2.1
  refine lv_iload_n hx hb dX11_lineOf_0 rfl (lv_at hl 1 rfl) ?_
  by_cases hc : x1.toInt < 0 ∨ 2 < x1.toInt
  · have hw := hw.1 hc
    refine lv_tableOut (tgt := 52) hx hb dX11_lineOf_1 hc (by decide) ?_
    refine lv_aload_n hx hb dX11_lineOf_52 rfl (lv_at hl 0 rfl) ?_
    refine lv_lload_n hx hb dX11_lineOf_53 rfl (lv_at hl 2 rfl) ?_
    refine lv_iload hx hb dX11_lineOf_54 (lv_at hl 3 rfl) ?_
    refine zVw_i [.long x2, .int x4] [] zc ky_X11_choirLine kz_X11_choirLine km_11_277 (c_m_choirLine l hw) (mPreV0 hK hM) hS rfl rfl hl.1 (Nat.le_of_ble_eq_true rfl) ⟨rfl, rfl⟩ ⟨Nat.le_of_ble_eq_true rfl, Nat.le_of_ble_eq_true rfl⟩ ⟨(Nat.zero_le _), (Nat.zero_le _)⟩ dX11_lineOf_56 (fun r_1 u H locs hw hM hS => ?_)
    obtain ⟨f_reached_1, f_begins_1, f_sort_1, f_value_1, f_word_1, f_wrongAt_1, f_laterFault_1, f_laterPlace_1, a_told_1, a_read_1, f_good_1⟩ := u
    exact zret_zw ⟨f_reached_1, f_begins_1, f_sort_1, f_value_1, f_word_1, f_wrongAt_1, f_laterFault_1, f_laterPlace_1, a_told_1, a_read_1, f_farHut, f_farSinger, f_good_1⟩ zc hS hw.1 hw.2 hM dX11_lineOf_59
  have hin := zsw hc
  by_cases hc0 : x1 = (0 : Int32)
  · have hw := hw.2.1 hc0
    refine lv_tableIn (tgt := 28) hx hb dX11_lineOf_1 (by rw [hc0]; decide) (by rw [hc0]; decide) (by rw [hc0]; rfl) (by decide) ?_
    refine lv_aload_n hx hb dX11_lineOf_28 rfl (lv_at hl 0 rfl) ?_
    refine lv_lload_n hx hb dX11_lineOf_29 rfl (lv_at hl 2 rfl) ?_
    refine lv_iload hx hb dX11_lineOf_30 (lv_at hl 3 rfl) ?_
    refine zVw_i [.long x2, .int x4] [] zc ky_X11_landLine kz_X11_landLine km_11_267 (c_m_landLine l hw) (mPreV0 hK hM) hS rfl rfl hl.1 (Nat.le_of_ble_eq_true rfl) ⟨rfl, rfl⟩ ⟨Nat.le_of_ble_eq_true rfl, Nat.le_of_ble_eq_true rfl⟩ ⟨(Nat.zero_le _), (Nat.zero_le _)⟩ dX11_lineOf_32 (fun r_2 u H locs hw hM hS => ?_)
    obtain ⟨f_reached_2, f_begins_2, f_sort_2, f_value_2, f_word_2, f_wrongAt_2, f_laterFault_2, f_laterPlace_2, a_told_2, a_read_2, f_farHut_1, f_farSinger_1, f_good_2⟩ := u
    exact zret_zw ⟨f_reached_2, f_begins_2, f_sort_2, f_value_2, f_word_2, f_wrongAt_2, f_laterFault_2, f_laterPlace_2, a_told_2, a_read_2, f_farHut_1, f_farSinger_1, f_good_2⟩ zc hS hw.1 hw.2 hM dX11_lineOf_35
  by_cases hc1 : x1 = (1 : Int32)
  · have hw := hw.2.2.1 hc1
    refine lv_tableIn (tgt := 36) hx hb dX11_lineOf_1 (by rw [hc1]; decide) (by rw [hc1]; decide) (by rw [hc1]; rfl) (by decide) ?_
    refine lv_aload_n hx hb dX11_lineOf_36 rfl (lv_at hl 0 rfl) ?_
    refine lv_lload_n hx hb dX11_lineOf_37 rfl (lv_at hl 2 rfl) ?_
    refine lv_iload hx hb dX11_lineOf_38 (lv_at hl 3 rfl) ?_
    refine zVw_i [.long x2, .int x4] [] zc ky_X11_eveningLine kz_X11_eveningLine km_11_271 (c_m_eveningLine l hw) (mPreV0 hK hM) hS rfl rfl hl.1 (Nat.le_of_ble_eq_true rfl) ⟨rfl, rfl⟩ ⟨Nat.le_of_ble_eq_true rfl, Nat.le_of_ble_eq_true rfl⟩ ⟨(Nat.zero_le _), (Nat.zero_le _)⟩ dX11_lineOf_40 (fun r_3 u H locs hw hM hS => ?_)
    obtain ⟨f_reached_3, f_begins_3, f_sort_3, f_value_3, f_word_3, f_wrongAt_3, f_laterFault_3, f_laterPlace_3, a_told_3, a_read_3, f_good_3⟩ := u
    exact zret_zw ⟨f_reached_3, f_begins_3, f_sort_3, f_value_3, f_word_3, f_wrongAt_3, f_laterFault_3, f_laterPlace_3, a_told_3, a_read_3, f_farHut, f_farSinger, f_good_3⟩ zc hS hw.1 hw.2 hM dX11_lineOf_43
  by_cases hc2 : x1 = (2 : Int32)
  · have hw := hw.2.2.2 hc2
    refine lv_tableIn (tgt := 44) hx hb dX11_lineOf_1 (by rw [hc2]; decide) (by rw [hc2]; decide) (by rw [hc2]; rfl) (by decide) ?_
    refine lv_aload_n hx hb dX11_lineOf_44 rfl (lv_at hl 0 rfl) ?_
    refine lv_lload_n hx hb dX11_lineOf_45 rfl (lv_at hl 2 rfl) ?_
    refine lv_iload hx hb dX11_lineOf_46 (lv_at hl 3 rfl) ?_
    refine zVw_i [.long x2, .int x4] [] zc ky_X11_sightLine kz_X11_sightLine km_11_274 (c_m_sightLine l hw) (mPreV0 hK hM) hS rfl rfl hl.1 (Nat.le_of_ble_eq_true rfl) ⟨rfl, rfl⟩ ⟨Nat.le_of_ble_eq_true rfl, Nat.le_of_ble_eq_true rfl⟩ ⟨(Nat.zero_le _), (Nat.zero_le _)⟩ dX11_lineOf_48 (fun r_4 u H locs hw hM hS => ?_)
    obtain ⟨f_reached_4, f_begins_4, f_sort_4, f_value_4, f_word_4, f_wrongAt_4, f_laterFault_4, f_laterPlace_4, a_told_4, a_read_4, f_good_4⟩ := u
    exact zret_zw ⟨f_reached_4, f_begins_4, f_sort_4, f_value_4, f_word_4, f_wrongAt_4, f_laterFault_4, f_laterPlace_4, a_told_4, a_read_4, f_farHut, f_farSinger, f_good_4⟩ zc hS hw.1 hw.2 hM dX11_lineOf_51
  exact absurd hin (by have h0 := zne hc0; have h1 := zne hc1; have h2 := zne hc2; simp at *; omega)
set_option maxRecDepth 20000 in
theorem c_m_lineOf (l : Launch) {E : zE} {q : Nat} {f_code : Int32} {a_tape : Nat → Int32} {a_size : Nat → Int32} {a_fault : Nat → Int32} {a_faultPlace : Nat → Int32} {a_many : Nat → Int32} {a_lands : Nat → Int32} {a_evenings : Nat → Int32} {a_sights : Nat → Int32} {a_choirs : Nat → Int32} {f_reached : Int32} {f_length : Int32} {f_begins : Int32} {f_sort : Int32} {f_value : Int32} {f_word : Int64} {f_wrongAt : Int32} {f_laterFault : Int32} {f_laterPlace : Int32} {a_told : Nat → Int32} {a_read : Nat → Int32} {f_farHut : Int32} {f_farSinger : Int32} {f_good : Int32} {f_land : Int32} {f_huts : Int32} {f_singers : Int32} {f_evening : Int32} {a_at : Nat → Int32} {a_knows : Nat → Int32} {a_climbed : Nat → Int32} {a_snow : Nat → Int32} {a_level : Nat → Int32} {f_begun : Int32} {f_minute : Int32} {f_avalanches : Int32} {a_run : Nat → Int32} {a_covers : Nat → Int32} {a_routes : Nat → Int32} {a_longest : Nat → Int32} {a_steep : Nat → Int32} {a_laid : Nat → Int32} {a_far : Nat → Int32} {f_sight : Int32} {a_runs : Nat → Int32} {f_choir : Int32} {f_voices : Int32} {a_rest : Nat → Int64} {a_wins : Nat → Int32} {f_seed : Int32} {a_other : Nat → Int32} {a_kept : Nat → Int32} {x1 : Int32} {x2 : Int64} {x4 : Int32} {post : Int32 → (Int32) → (Int32) → (Int32) → (Int32) → (Int64) → (Int32) → (Int32) → (Int32) → (Nat → Int32) → (Nat → Int32) → (Int32) → (Int32) → (Int32) → Prop} (hw : q_m_lineOf_0 a_tape f_reached f_length f_begins f_sort f_value f_word f_wrongAt f_laterFault f_laterPlace a_told a_read f_farHut f_farSinger f_good x1 x2 x4 post) : Met l yX11_lineOf (Cond.code yX11_lineOf cX11_lineOf 5 (some .boolean) :: zb) rm_m_lineOf (va_Pc [.ref q, .int x1, .long x2, .int x4] (fun U => mW E q f_code a_tape a_size a_fault a_faultPlace a_many a_lands a_evenings a_sights a_choirs f_reached f_length f_begins f_sort f_value f_word f_wrongAt f_laterFault f_laterPlace a_told a_read f_farHut f_farSinger f_good f_land f_huts f_singers f_evening a_at a_knows a_climbed a_snow a_level f_begun f_minute f_avalanches a_run a_covers a_routes a_longest a_steep a_laid a_far f_sight a_runs f_choir f_voices a_rest a_wins f_seed a_other a_kept U.heap ∧ zK E U)) (zQi (S := (Int32) × (Int32) × (Int32) × (Int32) × (Int64) × (Int32) × (Int32) × (Int32) × (Nat → Int32) × (Nat → Int32) × (Int32) × (Int32) × (Int32)) (fun r u => post r u.1 u.2.1 u.2.2.1 u.2.2.2.1 u.2.2.2.2.1 u.2.2.2.2.2.1 u.2.2.2.2.2.2.1 u.2.2.2.2.2.2.2.1 u.2.2.2.2.2.2.2.2.1 u.2.2.2.2.2.2.2.2.2.1 u.2.2.2.2.2.2.2.2.2.2.1 u.2.2.2.2.2.2.2.2.2.2.2.1 u.2.2.2.2.2.2.2.2.2.2.2.2) (fun u H => mW E q f_code a_tape a_size a_fault a_faultPlace a_many a_lands a_evenings a_sights a_choirs u.1 f_length u.2.1 u.2.2.1 u.2.2.2.1 u.2.2.2.2.1 u.2.2.2.2.2.1 u.2.2.2.2.2.2.1 u.2.2.2.2.2.2.2.1 u.2.2.2.2.2.2.2.2.1 u.2.2.2.2.2.2.2.2.2.1 u.2.2.2.2.2.2.2.2.2.2.1 u.2.2.2.2.2.2.2.2.2.2.2.1 u.2.2.2.2.2.2.2.2.2.2.2.2 f_land f_huts f_singers f_evening a_at a_knows a_climbed a_snow a_level f_begun f_minute f_avalanches a_run a_covers a_routes a_longest a_steep a_laid a_far f_sight a_runs f_choir f_voices a_rest a_wins f_seed a_other a_kept H) (mA q)) 0 0 (mA q) := by
  refine Met.ofW (cc := cX11_lineOf) (maxL := 5) (ret := (some .boolean)) (by decide) rfl ?_
  intro p e s m args below meth c s₁ B hml hv
  obtain ⟨rfl, hM, hK⟩ := hv
  have zc := zc_of B hml
  have hl := lv_entry ([.ref q, .int x1, .long x2, .int x4]) (n := 5) (Nat.le_of_ble_eq_true rfl)
  rw [lg_entry_eq]
  generalize (lg_sl ([.ref q, .int x1, .long x2, .int x4]) ++ List.replicate (5 - (lg_sl ([.ref q, .int x1, .long x2, .int x4])).length) Slot.unset).toArray = ls at hl ⊢
  have hl : lv_has ls 5 [(0, .ref q), (1, .int x1), (2, .long x2), (4, .int x4)] := hl
  exact t_m_lineOf_0 zc hK hM va_S.rf (lv_sub hl [0, 1, 2, 3] rfl) hw
-- m_lines
abbrev rm_m_lines : Room := { frames := 7, cells := 0, slots := 0, locals := 161 }
def q_m_lines_71 (P2 : Int32 → (Int32) → (Int32) → (Int32) → (Int32) → (Int64) → (Int32) → (Int32) → (Int32) → (Nat → Int32) → (Nat → Int32) → (Int32) → (Int32) → (Int32) → Prop) (a_tape : Nat → Int32) (f_reached : Int32) (f_length : Int32) (f_begins : Int32) (f_sort : Int32) (f_value : Int32) (f_word : Int64) (f_wrongAt : Int32) (f_laterFault : Int32) (f_laterPlace : Int32) (a_told : Nat → Int32) (a_read : Nat → Int32) (f_farHut : Int32) (f_farSinger : Int32) (f_good : Int32) (x1 : Int32) (x2 : Int32) (post : Int32 → (Int32) → (Int32) → (Int32) → (Int32) → (Int64) → (Int32) → (Int32) → (Int32) → (Nat → Int32) → (Nat → Int32) → (Int32) → (Int32) → (Int32) → Prop) : Prop :=
  P2 x2 f_reached f_begins f_sort f_value f_word f_wrongAt f_laterFault f_laterPlace a_told a_read f_farHut f_farSinger f_good
def q_m_lines_63 (P2 : Int32 → (Int32) → (Int32) → (Int32) → (Int32) → (Int64) → (Int32) → (Int32) → (Int32) → (Nat → Int32) → (Nat → Int32) → (Int32) → (Int32) → (Int32) → Prop) (a_tape : Nat → Int32) (f_reached : Int32) (f_length : Int32) (f_begins : Int32) (f_sort : Int32) (f_value : Int32) (f_word : Int64) (f_wrongAt : Int32) (f_laterFault : Int32) (f_laterPlace : Int32) (a_told : Nat → Int32) (a_read : Nat → Int32) (f_farHut : Int32) (f_farSinger : Int32) (f_good : Int32) (x1 : Int32) (x2 : Int32) (post : Int32 → (Int32) → (Int32) → (Int32) → (Int32) → (Int64) → (Int32) → (Int32) → (Int32) → (Nat → Int32) → (Nat → Int32) → (Int32) → (Int32) → (Int32) → Prop) : Prop :=
  (x2 = 0 → (q_m_lines_71 P2 a_tape f_reached f_length f_begins f_sort f_value f_word f_wrongAt f_laterFault f_laterPlace a_told a_read f_farHut f_farSinger f_good x1 x2 post)) ∧ (¬ x2 = 0 → (q_m_token_0 a_tape f_reached f_length f_begins f_sort f_value f_word (fun f_reached_1 f_begins_1 f_sort_1 f_value_1 f_word_1 => q_m_lines_71 P2 a_tape f_reached_1 f_length f_begins_1 f_sort_1 f_value_1 f_word_1 f_wrongAt f_laterFault f_laterPlace a_told a_read f_farHut f_farSinger f_good x1 x2 post)))
def q_m_lines_41 (P2 : Int32 → (Int32) → (Int32) → (Int32) → (Int32) → (Int64) → (Int32) → (Int32) → (Int32) → (Nat → Int32) → (Nat → Int32) → (Int32) → (Int32) → (Int32) → Prop) (a_tape : Nat → Int32) (f_reached : Int32) (f_length : Int32) (f_begins : Int32) (f_sort : Int32) (f_value : Int32) (f_word : Int64) (f_wrongAt : Int32) (f_laterFault : Int32) (f_laterPlace : Int32) (a_told : Nat → Int32) (a_read : Nat → Int32) (f_farHut : Int32) (f_farSinger : Int32) (f_good : Int32) (x1 : Int32) (x3 : Int32) (y0 : Int32) (y1 : Int64) (post : Int32 → (Int32) → (Int32) → (Int32) → (Int32) → (Int64) → (Int32) → (Int32) → (Int32) → (Nat → Int32) → (Nat → Int32) → (Int32) → (Int32) → (Int32) → Prop) : Prop :=
  q_m_lineOf_0 a_tape f_reached f_length f_begins f_sort f_value f_word f_wrongAt f_laterFault f_laterPlace a_told a_read f_farHut f_farSinger f_good y0 y1 x3 (fun r_1 f_reached_1 f_begins_1 f_sort_1 f_value_1 f_word_1 f_wrongAt_1 f_laterFault_1 f_laterPlace_1 a_told_1 a_read_1 f_farHut_1 f_farSinger_1 f_good_1 => (r_1 = 0 → (q_m_lines_63 P2 a_tape f_reached_1 f_length f_begins_1 f_sort_1 f_value_1 f_word_1 f_wrongAt_1 f_laterFault_1 f_laterPlace_1 a_told_1 a_read_1 f_farHut_1 f_farSinger_1 f_good_1 x1 r_1 post)) ∧ (¬ r_1 = 0 → ((f_sort_1 = (4 : Int32) → (q_m_lines_63 P2 a_tape f_reached_1 f_length f_begins_1 f_sort_1 f_value_1 f_word_1 f_wrongAt_1 f_laterFault_1 f_laterPlace_1 a_told_1 a_read_1 f_farHut_1 f_farSinger_1 f_good_1 x1 r_1 post)) ∧ (¬ f_sort_1 = (4 : Int32) → (q_m_fails_0 f_begins_1 f_wrongAt_1 (fun r_2 f_wrongAt_2 => q_m_lines_63 P2 a_tape f_reached_1 f_length f_begins_1 f_sort_1 f_value_1 f_word_1 f_wrongAt_2 f_laterFault_1 f_laterPlace_1 a_told_1 a_read_1 f_farHut_1 f_farSinger_1 f_good_1 x1 r_2 post))))))
def q_m_lines_2 (a_tape : Nat → Int32) (f_reached : Int32) (f_length : Int32) (f_begins : Int32) (f_sort : Int32) (f_value : Int32) (f_word : Int64) (f_wrongAt : Int32) (f_laterFault : Int32) (f_laterPlace : Int32) (a_told : Nat → Int32) (a_read : Nat → Int32) (f_farHut : Int32) (f_farSinger : Int32) (f_good : Int32) (x1 : Int32) (x2 : Int32) (post : Int32 → (Int32) → (Int32) → (Int32) → (Int32) → (Int64) → (Int32) → (Int32) → (Int32) → (Nat → Int32) → (Nat → Int32) → (Int32) → (Int32) → (Int32) → Prop) : Prop :=
  ∀ P2 : Int32 → (Int32) → (Int32) → (Int32) → (Int32) → (Int64) → (Int32) → (Int32) → (Int32) → (Nat → Int32) → (Nat → Int32) → (Int32) → (Int32) → (Int32) → Prop, (∀ (x2 : Int32) (f_reached : Int32) (f_begins : Int32) (f_sort : Int32) (f_value : Int32) (f_word : Int64) (f_wrongAt : Int32) (f_laterFault : Int32) (f_laterPlace : Int32) (a_told : Nat → Int32) (a_read : Nat → Int32) (f_farHut : Int32) (f_farSinger : Int32) (f_good : Int32), ((x2 = 0 → (narrow .boolean (.int x2) = .int x2 ∧ post x2 f_reached f_begins f_sort f_value f_word f_wrongAt f_laterFault f_laterPlace a_told a_read f_farHut f_farSinger f_good)) ∧ (¬ x2 = 0 → ((f_sort = 0 → (narrow .boolean (.int x2) = .int x2 ∧ post x2 f_reached f_begins f_sort f_value f_word f_wrongAt f_laterFault f_laterPlace a_told a_read f_farHut f_farSinger f_good)) ∧ (¬ f_sort = 0 → ((¬ f_sort = (2 : Int32) → (q_m_lines_41 P2 a_tape f_reached f_length f_begins f_sort f_value f_word f_wrongAt f_laterFault f_laterPlace a_told a_read f_farHut f_farSinger (1 : Int32) x1 f_begins x1 (0 : Int64) post)) ∧ (f_sort = (2 : Int32) → (q_m_lines_41 P2 a_tape f_reached f_length f_begins f_sort f_value f_word f_wrongAt f_laterFault f_laterPlace a_told a_read f_farHut f_farSinger (1 : Int32) x1 f_begins x1 f_word post))))))) → P2 x2 f_reached f_begins f_sort f_value f_word f_wrongAt f_laterFault f_laterPlace a_told a_read f_farHut f_farSinger f_good) → P2 x2 f_reached f_begins f_sort f_value f_word f_wrongAt f_laterFault f_laterPlace a_told a_read f_farHut f_farSinger f_good
def q_m_lines_0 (a_tape : Nat → Int32) (f_reached : Int32) (f_length : Int32) (f_begins : Int32) (f_sort : Int32) (f_value : Int32) (f_word : Int64) (f_wrongAt : Int32) (f_laterFault : Int32) (f_laterPlace : Int32) (a_told : Nat → Int32) (a_read : Nat → Int32) (f_farHut : Int32) (f_farSinger : Int32) (f_good : Int32) (x1 : Int32) (post : Int32 → (Int32) → (Int32) → (Int32) → (Int32) → (Int64) → (Int32) → (Int32) → (Int32) → (Nat → Int32) → (Nat → Int32) → (Int32) → (Int32) → (Int32) → Prop) : Prop :=
  q_m_lines_2 a_tape f_reached f_length f_begins f_sort f_value f_word f_wrongAt f_laterFault f_laterPlace a_told a_read f_farHut f_farSinger f_good x1 (1 : Int32) post
set_option maxRecDepth 20000 in
theorem t_m_lines_71 {p : Program} {l : Launch} {e : Env} {s : State} {m : MethodId} {args : Array Value} {below : List Frame} {meth : Method} {c : Code} {E : zE} {q : Nat} {f_code : Int32} {a_tape : Nat → Int32} {a_size : Nat → Int32} {a_fault : Nat → Int32} {a_faultPlace : Nat → Int32} {a_many : Nat → Int32} {a_lands : Nat → Int32} {a_evenings : Nat → Int32} {a_sights : Nat → Int32} {a_choirs : Nat → Int32} {f_reached : Int32} {f_length : Int32} {f_begins : Int32} {f_sort : Int32} {f_value : Int32} {f_word : Int64} {f_wrongAt : Int32} {f_laterFault : Int32} {f_laterPlace : Int32} {a_told : Nat → Int32} {a_read : Nat → Int32} {f_farHut : Int32} {f_farSinger : Int32} {f_good : Int32} {f_land : Int32} {f_huts : Int32} {f_singers : Int32} {f_evening : Int32} {a_at : Nat → Int32} {a_knows : Nat → Int32} {a_climbed : Nat → Int32} {a_snow : Nat → Int32} {a_level : Nat → Int32} {f_begun : Int32} {f_minute : Int32} {f_avalanches : Int32} {a_run : Nat → Int32} {a_covers : Nat → Int32} {a_routes : Nat → Int32} {a_longest : Nat → Int32} {a_steep : Nat → Int32} {a_laid : Nat → Int32} {a_far : Nat → Int32} {f_sight : Int32} {a_runs : Nat → Int32} {f_choir : Int32} {f_voices : Int32} {a_rest : Nat → Int64} {a_wins : Nat → Int32} {f_seed : Int32} {a_other : Nat → Int32} {a_kept : Nat → Int32} {P2 : Int32 → (Int32) → (Int32) → (Int32) → (Int32) → (Int64) → (Int32) → (Int32) → (Int32) → (Nat → Int32) → (Nat → Int32) → (Int32) → (Int32) → (Int32) → Prop} {post : Int32 → (Int32) → (Int32) → (Int32) → (Int32) → (Int64) → (Int32) → (Int32) → (Int32) → (Nat → Int32) → (Nat → Int32) → (Int32) → (Int32) → (Int32) → Prop} {x1 : Int32} {x2 : Int32} {ls : Array Slot} {H : Heap} {locs : List Loc}
    (zc : zC p s m args meth c cX11_lines 4 RX11 (some .boolean))
    (hK : zK E s)
    (hM : mW E q f_code a_tape a_size a_fault a_faultPlace a_many a_lands a_evenings a_sights a_choirs f_reached f_length f_begins f_sort f_value f_word f_wrongAt f_laterFault f_laterPlace a_told a_read f_farHut f_farSinger f_good f_land f_huts f_singers f_evening a_at a_knows a_climbed a_snow a_level f_begun f_minute f_avalanches a_run a_covers a_routes a_longest a_steep a_laid a_far f_sight a_runs f_choir f_voices a_rest a_wins f_seed a_other a_kept H)
    (hS : va_S (mA q) s.heap H locs)
    (hP2 : ∀ (x2 : Int32) (f_reached : Int32) (f_begins : Int32) (f_sort : Int32) (f_value : Int32) (f_word : Int64) (f_wrongAt : Int32) (f_laterFault : Int32) (f_laterPlace : Int32) (a_told : Nat → Int32) (a_read : Nat → Int32) (f_farHut : Int32) (f_farSinger : Int32) (f_good : Int32) (H : Heap) (locs : List Loc) (ls : Array Slot), P2 x2 f_reached f_begins f_sort f_value f_word f_wrongAt f_laterFault f_laterPlace a_told a_read f_farHut f_farSinger f_good → lv_has ls 4 [(0, .ref q), (1, .int x1), (2, .int x2)] → mW E q f_code a_tape a_size a_fault a_faultPlace a_many a_lands a_evenings a_sights a_choirs f_reached f_length f_begins f_sort f_value f_word f_wrongAt f_laterFault f_laterPlace a_told a_read f_farHut f_farSinger f_good f_land f_huts f_singers f_evening a_at a_knows a_climbed a_snow a_level f_begun f_minute f_avalanches a_run a_covers a_routes a_longest a_steep a_laid a_far f_sight a_runs f_choir f_voices a_rest a_wins f_seed a_other a_kept H → va_S (mA q) s.heap H locs → W p l e rm_m_lines s m args below meth c H locs 0 0 (MQ below (zQi (S := (Int32) × (Int32) × (Int32) × (Int32) × (Int64) × (Int32) × (Int32) × (Int32) × (Nat → Int32) × (Nat → Int32) × (Int32) × (Int32) × (Int32)) (fun r u => post r u.1 u.2.1 u.2.2.1 u.2.2.2.1 u.2.2.2.2.1 u.2.2.2.2.2.1 u.2.2.2.2.2.2.1 u.2.2.2.2.2.2.2.1 u.2.2.2.2.2.2.2.2.1 u.2.2.2.2.2.2.2.2.2.1 u.2.2.2.2.2.2.2.2.2.2.1 u.2.2.2.2.2.2.2.2.2.2.2.1 u.2.2.2.2.2.2.2.2.2.2.2.2) (fun u H => mW E q f_code a_tape a_size a_fault a_faultPlace a_many a_lands a_evenings a_sights a_choirs u.1 f_length u.2.1 u.2.2.1 u.2.2.2.1 u.2.2.2.2.1 u.2.2.2.2.2.1 u.2.2.2.2.2.2.1 u.2.2.2.2.2.2.2.1 u.2.2.2.2.2.2.2.2.1 u.2.2.2.2.2.2.2.2.2.1 u.2.2.2.2.2.2.2.2.2.2.1 u.2.2.2.2.2.2.2.2.2.2.2.1 u.2.2.2.2.2.2.2.2.2.2.2.2 f_land f_huts f_singers f_evening a_at a_knows a_climbed a_snow a_level f_begun f_minute f_avalanches a_run a_covers a_routes a_longest a_steep a_laid a_far f_sight a_runs f_choir f_voices a_rest a_wins f_seed a_other a_kept H) (mA q)) args s 0 0 (mA q)) (F0 m 2 ls []))
    (hl : lv_has ls 4 [(0, .ref q), (1, .int x1), (2, .int x2)])
    (hw : q_m_lines_71 P2 a_tape f_reached f_length f_begins f_sort f_value f_word f_wrongAt f_laterFault f_laterPlace a_told a_read f_farHut f_farSinger f_good x1 x2 post) :
    W p l e rm_m_lines s m args below meth c H locs 0 0 (MQ below (zQi (S := (Int32) × (Int32) × (Int32) × (Int32) × (Int64) × (Int32) × (Int32) × (Int32) × (Nat → Int32) × (Nat → Int32) × (Int32) × (Int32) × (Int32)) (fun r u => post r u.1 u.2.1 u.2.2.1 u.2.2.2.1 u.2.2.2.2.1 u.2.2.2.2.2.1 u.2.2.2.2.2.2.1 u.2.2.2.2.2.2.2.1 u.2.2.2.2.2.2.2.2.1 u.2.2.2.2.2.2.2.2.2.1 u.2.2.2.2.2.2.2.2.2.2.1 u.2.2.2.2.2.2.2.2.2.2.2.1 u.2.2.2.2.2.2.2.2.2.2.2.2) (fun u H => mW E q f_code a_tape a_size a_fault a_faultPlace a_many a_lands a_evenings a_sights a_choirs u.1 f_length u.2.1 u.2.2.1 u.2.2.2.1 u.2.2.2.2.1 u.2.2.2.2.2.1 u.2.2.2.2.2.2.1 u.2.2.2.2.2.2.2.1 u.2.2.2.2.2.2.2.2.1 u.2.2.2.2.2.2.2.2.2.1 u.2.2.2.2.2.2.2.2.2.2.1 u.2.2.2.2.2.2.2.2.2.2.2.1 u.2.2.2.2.2.2.2.2.2.2.2.2 f_land f_huts f_singers f_evening a_at a_knows a_climbed a_snow a_level f_begun f_minute f_avalanches a_run a_covers a_routes a_longest a_steep a_laid a_far f_sight a_runs f_choir f_voices a_rest a_wins f_seed a_other a_kept H) (mA q)) args s 0 0 (mA q)) (F0 m 71 ls []) := by
  have hx := zc.1
  have hb := zc.2.1
  refine lv_goto (tgt := 2) hx hb dX11_lines_71 (by decide) ?_
  exact hP2 _ _ _ _ _ _ _ _ _ _ _ _ _ _ _ _ _ hw (lv_sub hl [0, 1, 2] rfl) hM hS
set_option maxRecDepth 20000 in
theorem t_m_lines_63 {p : Program} {l : Launch} {e : Env} {s : State} {m : MethodId} {args : Array Value} {below : List Frame} {meth : Method} {c : Code} {E : zE} {q : Nat} {f_code : Int32} {a_tape : Nat → Int32} {a_size : Nat → Int32} {a_fault : Nat → Int32} {a_faultPlace : Nat → Int32} {a_many : Nat → Int32} {a_lands : Nat → Int32} {a_evenings : Nat → Int32} {a_sights : Nat → Int32} {a_choirs : Nat → Int32} {f_reached : Int32} {f_length : Int32} {f_begins : Int32} {f_sort : Int32} {f_value : Int32} {f_word : Int64} {f_wrongAt : Int32} {f_laterFault : Int32} {f_laterPlace : Int32} {a_told : Nat → Int32} {a_read : Nat → Int32} {f_farHut : Int32} {f_farSinger : Int32} {f_good : Int32} {f_land : Int32} {f_huts : Int32} {f_singers : Int32} {f_evening : Int32} {a_at : Nat → Int32} {a_knows : Nat → Int32} {a_climbed : Nat → Int32} {a_snow : Nat → Int32} {a_level : Nat → Int32} {f_begun : Int32} {f_minute : Int32} {f_avalanches : Int32} {a_run : Nat → Int32} {a_covers : Nat → Int32} {a_routes : Nat → Int32} {a_longest : Nat → Int32} {a_steep : Nat → Int32} {a_laid : Nat → Int32} {a_far : Nat → Int32} {f_sight : Int32} {a_runs : Nat → Int32} {f_choir : Int32} {f_voices : Int32} {a_rest : Nat → Int64} {a_wins : Nat → Int32} {f_seed : Int32} {a_other : Nat → Int32} {a_kept : Nat → Int32} {P2 : Int32 → (Int32) → (Int32) → (Int32) → (Int32) → (Int64) → (Int32) → (Int32) → (Int32) → (Nat → Int32) → (Nat → Int32) → (Int32) → (Int32) → (Int32) → Prop} {post : Int32 → (Int32) → (Int32) → (Int32) → (Int32) → (Int64) → (Int32) → (Int32) → (Int32) → (Nat → Int32) → (Nat → Int32) → (Int32) → (Int32) → (Int32) → Prop} {x1 : Int32} {x2 : Int32} {ls : Array Slot} {H : Heap} {locs : List Loc}
    (zc : zC p s m args meth c cX11_lines 4 RX11 (some .boolean))
    (hK : zK E s)
    (hM : mW E q f_code a_tape a_size a_fault a_faultPlace a_many a_lands a_evenings a_sights a_choirs f_reached f_length f_begins f_sort f_value f_word f_wrongAt f_laterFault f_laterPlace a_told a_read f_farHut f_farSinger f_good f_land f_huts f_singers f_evening a_at a_knows a_climbed a_snow a_level f_begun f_minute f_avalanches a_run a_covers a_routes a_longest a_steep a_laid a_far f_sight a_runs f_choir f_voices a_rest a_wins f_seed a_other a_kept H)
    (hS : va_S (mA q) s.heap H locs)
    (hP2 : ∀ (x2 : Int32) (f_reached : Int32) (f_begins : Int32) (f_sort : Int32) (f_value : Int32) (f_word : Int64) (f_wrongAt : Int32) (f_laterFault : Int32) (f_laterPlace : Int32) (a_told : Nat → Int32) (a_read : Nat → Int32) (f_farHut : Int32) (f_farSinger : Int32) (f_good : Int32) (H : Heap) (locs : List Loc) (ls : Array Slot), P2 x2 f_reached f_begins f_sort f_value f_word f_wrongAt f_laterFault f_laterPlace a_told a_read f_farHut f_farSinger f_good → lv_has ls 4 [(0, .ref q), (1, .int x1), (2, .int x2)] → mW E q f_code a_tape a_size a_fault a_faultPlace a_many a_lands a_evenings a_sights a_choirs f_reached f_length f_begins f_sort f_value f_word f_wrongAt f_laterFault f_laterPlace a_told a_read f_farHut f_farSinger f_good f_land f_huts f_singers f_evening a_at a_knows a_climbed a_snow a_level f_begun f_minute f_avalanches a_run a_covers a_routes a_longest a_steep a_laid a_far f_sight a_runs f_choir f_voices a_rest a_wins f_seed a_other a_kept H → va_S (mA q) s.heap H locs → W p l e rm_m_lines s m args below meth c H locs 0 0 (MQ below (zQi (S := (Int32) × (Int32) × (Int32) × (Int32) × (Int64) × (Int32) × (Int32) × (Int32) × (Nat → Int32) × (Nat → Int32) × (Int32) × (Int32) × (Int32)) (fun r u => post r u.1 u.2.1 u.2.2.1 u.2.2.2.1 u.2.2.2.2.1 u.2.2.2.2.2.1 u.2.2.2.2.2.2.1 u.2.2.2.2.2.2.2.1 u.2.2.2.2.2.2.2.2.1 u.2.2.2.2.2.2.2.2.2.1 u.2.2.2.2.2.2.2.2.2.2.1 u.2.2.2.2.2.2.2.2.2.2.2.1 u.2.2.2.2.2.2.2.2.2.2.2.2) (fun u H => mW E q f_code a_tape a_size a_fault a_faultPlace a_many a_lands a_evenings a_sights a_choirs u.1 f_length u.2.1 u.2.2.1 u.2.2.2.1 u.2.2.2.2.1 u.2.2.2.2.2.1 u.2.2.2.2.2.2.1 u.2.2.2.2.2.2.2.1 u.2.2.2.2.2.2.2.2.1 u.2.2.2.2.2.2.2.2.2.1 u.2.2.2.2.2.2.2.2.2.2.1 u.2.2.2.2.2.2.2.2.2.2.2.1 u.2.2.2.2.2.2.2.2.2.2.2.2 f_land f_huts f_singers f_evening a_at a_knows a_climbed a_snow a_level f_begun f_minute f_avalanches a_run a_covers a_routes a_longest a_steep a_laid a_far f_sight a_runs f_choir f_voices a_rest a_wins f_seed a_other a_kept H) (mA q)) args s 0 0 (mA q)) (F0 m 2 ls []))
    (hl : lv_has ls 4 [(0, .ref q), (1, .int x1), (2, .int x2)])
    (hw : q_m_lines_63 P2 a_tape f_reached f_length f_begins f_sort f_value f_word f_wrongAt f_laterFault f_laterPlace a_told a_read f_farHut f_farSinger f_good x1 x2 post) :
    W p l e rm_m_lines s m args below meth c H locs 0 0 (MQ below (zQi (S := (Int32) × (Int32) × (Int32) × (Int32) × (Int64) × (Int32) × (Int32) × (Int32) × (Nat → Int32) × (Nat → Int32) × (Int32) × (Int32) × (Int32)) (fun r u => post r u.1 u.2.1 u.2.2.1 u.2.2.2.1 u.2.2.2.2.1 u.2.2.2.2.2.1 u.2.2.2.2.2.2.1 u.2.2.2.2.2.2.2.1 u.2.2.2.2.2.2.2.2.1 u.2.2.2.2.2.2.2.2.2.1 u.2.2.2.2.2.2.2.2.2.2.1 u.2.2.2.2.2.2.2.2.2.2.2.1 u.2.2.2.2.2.2.2.2.2.2.2.2) (fun u H => mW E q f_code a_tape a_size a_fault a_faultPlace a_many a_lands a_evenings a_sights a_choirs u.1 f_length u.2.1 u.2.2.1 u.2.2.2.1 u.2.2.2.2.1 u.2.2.2.2.2.1 u.2.2.2.2.2.2.1 u.2.2.2.2.2.2.2.1 u.2.2.2.2.2.2.2.2.1 u.2.2.2.2.2.2.2.2.2.1 u.2.2.2.2.2.2.2.2.2.2.1 u.2.2.2.2.2.2.2.2.2.2.2.1 u.2.2.2.2.2.2.2.2.2.2.2.2 f_land f_huts f_singers f_evening a_at a_knows a_climbed a_snow a_level f_begun f_minute f_avalanches a_run a_covers a_routes a_longest a_steep a_laid a_far f_sight a_runs f_choir f_voices a_rest a_wins f_seed a_other a_kept H) (mA q)) args s 0 0 (mA q)) (F0 m 63 ls []) := by
  have hx := zc.1
  have hb := zc.2.1
  refine lv_iload_n hx hb dX11_lines_63 rfl (lv_at hl 2 rfl) ?_
  refine lv_if_eq (tgt := 71) hx hb dX11_lines_64 (by decide) (fun hc => ?_) (fun hc => ?_)
  · have hw := hw.1 hc
    exact t_m_lines_71 zc hK hM hS hP2 (lv_sub hl [0, 1, 2] rfl) hw
  · have hw := hw.2 hc
    refine lv_aload_n hx hb dX11_lines_67 rfl (lv_at hl 0 rfl) ?_
    refine zVw_v [] [] zc ky_X11_token kz_X11_token km_11_161 (c_m_token l hw) (mPreV0 hK hM) hS rfl rfl hl.1 (Nat.le_of_ble_eq_true rfl) ⟨rfl, rfl⟩ ⟨Nat.le_of_ble_eq_true rfl, Nat.le_of_ble_eq_true rfl⟩ ⟨(Nat.zero_le _), (Nat.zero_le _)⟩ dX11_lines_68 (fun u H locs hw hM hS => ?_)
    obtain ⟨f_reached_1, f_begins_1, f_sort_1, f_value_1, f_word_1⟩ := u
    exact t_m_lines_71 zc hK hM hS hP2 (lv_sub hl [0, 1, 2] rfl) hw
set_option maxRecDepth 20000 in
theorem t_m_lines_41 {p : Program} {l : Launch} {e : Env} {s : State} {m : MethodId} {args : Array Value} {below : List Frame} {meth : Method} {c : Code} {E : zE} {q : Nat} {f_code : Int32} {a_tape : Nat → Int32} {a_size : Nat → Int32} {a_fault : Nat → Int32} {a_faultPlace : Nat → Int32} {a_many : Nat → Int32} {a_lands : Nat → Int32} {a_evenings : Nat → Int32} {a_sights : Nat → Int32} {a_choirs : Nat → Int32} {f_reached : Int32} {f_length : Int32} {f_begins : Int32} {f_sort : Int32} {f_value : Int32} {f_word : Int64} {f_wrongAt : Int32} {f_laterFault : Int32} {f_laterPlace : Int32} {a_told : Nat → Int32} {a_read : Nat → Int32} {f_farHut : Int32} {f_farSinger : Int32} {f_good : Int32} {f_land : Int32} {f_huts : Int32} {f_singers : Int32} {f_evening : Int32} {a_at : Nat → Int32} {a_knows : Nat → Int32} {a_climbed : Nat → Int32} {a_snow : Nat → Int32} {a_level : Nat → Int32} {f_begun : Int32} {f_minute : Int32} {f_avalanches : Int32} {a_run : Nat → Int32} {a_covers : Nat → Int32} {a_routes : Nat → Int32} {a_longest : Nat → Int32} {a_steep : Nat → Int32} {a_laid : Nat → Int32} {a_far : Nat → Int32} {f_sight : Int32} {a_runs : Nat → Int32} {f_choir : Int32} {f_voices : Int32} {a_rest : Nat → Int64} {a_wins : Nat → Int32} {f_seed : Int32} {a_other : Nat → Int32} {a_kept : Nat → Int32} {P2 : Int32 → (Int32) → (Int32) → (Int32) → (Int32) → (Int64) → (Int32) → (Int32) → (Int32) → (Nat → Int32) → (Nat → Int32) → (Int32) → (Int32) → (Int32) → Prop} {post : Int32 → (Int32) → (Int32) → (Int32) → (Int32) → (Int64) → (Int32) → (Int32) → (Int32) → (Nat → Int32) → (Nat → Int32) → (Int32) → (Int32) → (Int32) → Prop} {x1 : Int32} {x3 : Int32} {y0 : Int32} {y1 : Int64} {ls : Array Slot} {H : Heap} {locs : List Loc}
    (zc : zC p s m args meth c cX11_lines 4 RX11 (some .boolean))
    (hK : zK E s)
    (hM : mW E q f_code a_tape a_size a_fault a_faultPlace a_many a_lands a_evenings a_sights a_choirs f_reached f_length f_begins f_sort f_value f_word f_wrongAt f_laterFault f_laterPlace a_told a_read f_farHut f_farSinger f_good f_land f_huts f_singers f_evening a_at a_knows a_climbed a_snow a_level f_begun f_minute f_avalanches a_run a_covers a_routes a_longest a_steep a_laid a_far f_sight a_runs f_choir f_voices a_rest a_wins f_seed a_other a_kept H)
    (hS : va_S (mA q) s.heap H locs)
    (hP2 : ∀ (x2 : Int32) (f_reached : Int32) (f_begins : Int32) (f_sort : Int32) (f_value : Int32) (f_word : Int64) (f_wrongAt : Int32) (f_laterFault : Int32) (f_laterPlace : Int32) (a_told : Nat → Int32) (a_read : Nat → Int32) (f_farHut : Int32) (f_farSinger : Int32) (f_good : Int32) (H : Heap) (locs : List Loc) (ls : Array Slot), P2 x2 f_reached f_begins f_sort f_value f_word f_wrongAt f_laterFault f_laterPlace a_told a_read f_farHut f_farSinger f_good → lv_has ls 4 [(0, .ref q), (1, .int x1), (2, .int x2)] → mW E q f_code a_tape a_size a_fault a_faultPlace a_many a_lands a_evenings a_sights a_choirs f_reached f_length f_begins f_sort f_value f_word f_wrongAt f_laterFault f_laterPlace a_told a_read f_farHut f_farSinger f_good f_land f_huts f_singers f_evening a_at a_knows a_climbed a_snow a_level f_begun f_minute f_avalanches a_run a_covers a_routes a_longest a_steep a_laid a_far f_sight a_runs f_choir f_voices a_rest a_wins f_seed a_other a_kept H → va_S (mA q) s.heap H locs → W p l e rm_m_lines s m args below meth c H locs 0 0 (MQ below (zQi (S := (Int32) × (Int32) × (Int32) × (Int32) × (Int64) × (Int32) × (Int32) × (Int32) × (Nat → Int32) × (Nat → Int32) × (Int32) × (Int32) × (Int32)) (fun r u => post r u.1 u.2.1 u.2.2.1 u.2.2.2.1 u.2.2.2.2.1 u.2.2.2.2.2.1 u.2.2.2.2.2.2.1 u.2.2.2.2.2.2.2.1 u.2.2.2.2.2.2.2.2.1 u.2.2.2.2.2.2.2.2.2.1 u.2.2.2.2.2.2.2.2.2.2.1 u.2.2.2.2.2.2.2.2.2.2.2.1 u.2.2.2.2.2.2.2.2.2.2.2.2) (fun u H => mW E q f_code a_tape a_size a_fault a_faultPlace a_many a_lands a_evenings a_sights a_choirs u.1 f_length u.2.1 u.2.2.1 u.2.2.2.1 u.2.2.2.2.1 u.2.2.2.2.2.1 u.2.2.2.2.2.2.1 u.2.2.2.2.2.2.2.1 u.2.2.2.2.2.2.2.2.1 u.2.2.2.2.2.2.2.2.2.1 u.2.2.2.2.2.2.2.2.2.2.1 u.2.2.2.2.2.2.2.2.2.2.2.1 u.2.2.2.2.2.2.2.2.2.2.2.2 f_land f_huts f_singers f_evening a_at a_knows a_climbed a_snow a_level f_begun f_minute f_avalanches a_run a_covers a_routes a_longest a_steep a_laid a_far f_sight a_runs f_choir f_voices a_rest a_wins f_seed a_other a_kept H) (mA q)) args s 0 0 (mA q)) (F0 m 2 ls []))
    (hl : lv_has ls 4 [(0, .ref q), (1, .int x1), (3, .int x3)])
    (hw : q_m_lines_41 P2 a_tape f_reached f_length f_begins f_sort f_value f_word f_wrongAt f_laterFault f_laterPlace a_told a_read f_farHut f_farSinger f_good x1 x3 y0 y1 post) :
    W p l e rm_m_lines s m args below meth c H locs 0 0 (MQ below (zQi (S := (Int32) × (Int32) × (Int32) × (Int32) × (Int64) × (Int32) × (Int32) × (Int32) × (Nat → Int32) × (Nat → Int32) × (Int32) × (Int32) × (Int32)) (fun r u => post r u.1 u.2.1 u.2.2.1 u.2.2.2.1 u.2.2.2.2.1 u.2.2.2.2.2.1 u.2.2.2.2.2.2.1 u.2.2.2.2.2.2.2.1 u.2.2.2.2.2.2.2.2.1 u.2.2.2.2.2.2.2.2.2.1 u.2.2.2.2.2.2.2.2.2.2.1 u.2.2.2.2.2.2.2.2.2.2.2.1 u.2.2.2.2.2.2.2.2.2.2.2.2) (fun u H => mW E q f_code a_tape a_size a_fault a_faultPlace a_many a_lands a_evenings a_sights a_choirs u.1 f_length u.2.1 u.2.2.1 u.2.2.2.1 u.2.2.2.2.1 u.2.2.2.2.2.1 u.2.2.2.2.2.2.1 u.2.2.2.2.2.2.2.1 u.2.2.2.2.2.2.2.2.1 u.2.2.2.2.2.2.2.2.2.1 u.2.2.2.2.2.2.2.2.2.2.1 u.2.2.2.2.2.2.2.2.2.2.2.1 u.2.2.2.2.2.2.2.2.2.2.2.2 f_land f_huts f_singers f_evening a_at a_knows a_climbed a_snow a_level f_begun f_minute f_avalanches a_run a_covers a_routes a_longest a_steep a_laid a_far f_sight a_runs f_choir f_voices a_rest a_wins f_seed a_other a_kept H) (mA q)) args s 0 0 (mA q)) (F0 m 41 ls [.long y1, .int y0, .ref q]) := by
  have hx := zc.1
  have hb := zc.2.1
  refine lv_iload_n hx hb dX11_lines_41 rfl (lv_at hl 2 rfl) ?_
  refine zVw_i [.int y0, .long y1, .int x3] [] zc ky_X11_lineOf kz_X11_lineOf km_11_280 (c_m_lineOf l hw) (mPreV0 hK hM) hS rfl rfl hl.1 (Nat.le_of_ble_eq_true rfl) ⟨rfl, rfl⟩ ⟨Nat.le_of_ble_eq_true rfl, Nat.le_of_ble_eq_true rfl⟩ ⟨(Nat.zero_le _), (Nat.zero_le _)⟩ dX11_lines_42 (fun r_1 u H locs hw hM hS => ?_)
  obtain ⟨f_reached_1, f_begins_1, f_sort_1, f_value_1, f_word_1, f_wrongAt_1, f_laterFault_1, f_laterPlace_1, a_told_1, a_read_1, f_farHut_1, f_farSinger_1, f_good_1⟩ := u
  refine lv_istore_n (lv' := [(2, .int r_1), (0, .ref q), (1, .int x1), (3, .int x3)]) hx hb dX11_lines_45 rfl hl (by decide) rfl (fun ls hl => ?_)
  refine lv_iload_n hx hb dX11_lines_46 rfl (lv_at hl 0 rfl) ?_
  refine lv_if_eq (tgt := 63) hx hb dX11_lines_47 (by decide) (fun hc => ?_) (fun hc => ?_)
  · have hw := hw.1 hc
    exact t_m_lines_63 zc hK hM hS hP2 (lv_sub hl [1, 2, 0] rfl) hw
  · have hw := hw.2 hc
    refine lv_aload_n hx hb dX11_lines_50 rfl (lv_at hl 1 rfl) ?_
    refine mg_11_134_0 zc hK hM dX11_lines_51 ?_
    refine lv_iconst (v := (4 : Int32)) hx hb dX11_lines_54 (by decide) ?_
    refine lv_icmp_eq (tgt := 63) hx hb dX11_lines_55 (by decide) (fun hc => ?_) (fun hc => ?_)
    · have hw := hw.1 hc
      exact t_m_lines_63 zc hK hM hS hP2 (lv_sub hl [1, 2, 0] rfl) hw
    · have hw := hw.2 hc
      refine lv_aload_n hx hb dX11_lines_58 rfl (lv_at hl 1 rfl) ?_
      refine zVw_i [] [] zc ky_X11_fails kz_X11_fails km_11_149 (c_m_fails l hw) (mPreV0 hK hM) hS rfl rfl hl.1 (Nat.le_of_ble_eq_true rfl) ⟨rfl, rfl⟩ ⟨Nat.le_of_ble_eq_true rfl, Nat.le_of_ble_eq_true rfl⟩ ⟨(Nat.zero_le _), (Nat.zero_le _)⟩ dX11_lines_59 (fun r_2 f_wrongAt_2 H locs hw hM hS => ?_)
      refine lv_istore_n (lv' := [(2, .int r_2), (0, .ref q), (1, .int x1), (3, .int x3)]) hx hb dX11_lines_62 rfl hl (by decide) rfl (fun ls hl => ?_)
      exact t_m_lines_63 zc hK hM hS hP2 (lv_sub hl [1, 2, 0] rfl) hw
set_option maxRecDepth 20000 in
theorem t_m_lines_2 {p : Program} {l : Launch} {e : Env} {s : State} {m : MethodId} {args : Array Value} {below : List Frame} {meth : Method} {c : Code} {E : zE} {q : Nat} {f_code : Int32} {a_tape : Nat → Int32} {a_size : Nat → Int32} {a_fault : Nat → Int32} {a_faultPlace : Nat → Int32} {a_many : Nat → Int32} {a_lands : Nat → Int32} {a_evenings : Nat → Int32} {a_sights : Nat → Int32} {a_choirs : Nat → Int32} {f_reached : Int32} {f_length : Int32} {f_begins : Int32} {f_sort : Int32} {f_value : Int32} {f_word : Int64} {f_wrongAt : Int32} {f_laterFault : Int32} {f_laterPlace : Int32} {a_told : Nat → Int32} {a_read : Nat → Int32} {f_farHut : Int32} {f_farSinger : Int32} {f_good : Int32} {f_land : Int32} {f_huts : Int32} {f_singers : Int32} {f_evening : Int32} {a_at : Nat → Int32} {a_knows : Nat → Int32} {a_climbed : Nat → Int32} {a_snow : Nat → Int32} {a_level : Nat → Int32} {f_begun : Int32} {f_minute : Int32} {f_avalanches : Int32} {a_run : Nat → Int32} {a_covers : Nat → Int32} {a_routes : Nat → Int32} {a_longest : Nat → Int32} {a_steep : Nat → Int32} {a_laid : Nat → Int32} {a_far : Nat → Int32} {f_sight : Int32} {a_runs : Nat → Int32} {f_choir : Int32} {f_voices : Int32} {a_rest : Nat → Int64} {a_wins : Nat → Int32} {f_seed : Int32} {a_other : Nat → Int32} {a_kept : Nat → Int32} {post : Int32 → (Int32) → (Int32) → (Int32) → (Int32) → (Int64) → (Int32) → (Int32) → (Int32) → (Nat → Int32) → (Nat → Int32) → (Int32) → (Int32) → (Int32) → Prop} {x1 : Int32} {x2 : Int32} {ls : Array Slot} {H : Heap} {locs : List Loc}
    (zc : zC p s m args meth c cX11_lines 4 RX11 (some .boolean))
    (hK : zK E s)
    (hM : mW E q f_code a_tape a_size a_fault a_faultPlace a_many a_lands a_evenings a_sights a_choirs f_reached f_length f_begins f_sort f_value f_word f_wrongAt f_laterFault f_laterPlace a_told a_read f_farHut f_farSinger f_good f_land f_huts f_singers f_evening a_at a_knows a_climbed a_snow a_level f_begun f_minute f_avalanches a_run a_covers a_routes a_longest a_steep a_laid a_far f_sight a_runs f_choir f_voices a_rest a_wins f_seed a_other a_kept H)
    (hS : va_S (mA q) s.heap H locs)
    (hl : lv_has ls 4 [(0, .ref q), (1, .int x1), (2, .int x2)])
    (hw : q_m_lines_2 a_tape f_reached f_length f_begins f_sort f_value f_word f_wrongAt f_laterFault f_laterPlace a_told a_read f_farHut f_farSinger f_good x1 x2 post) :
    W p l e rm_m_lines s m args below meth c H locs 0 0 (MQ below (zQi (S := (Int32) × (Int32) × (Int32) × (Int32) × (Int64) × (Int32) × (Int32) × (Int32) × (Nat → Int32) × (Nat → Int32) × (Int32) × (Int32) × (Int32)) (fun r u => post r u.1 u.2.1 u.2.2.1 u.2.2.2.1 u.2.2.2.2.1 u.2.2.2.2.2.1 u.2.2.2.2.2.2.1 u.2.2.2.2.2.2.2.1 u.2.2.2.2.2.2.2.2.1 u.2.2.2.2.2.2.2.2.2.1 u.2.2.2.2.2.2.2.2.2.2.1 u.2.2.2.2.2.2.2.2.2.2.2.1 u.2.2.2.2.2.2.2.2.2.2.2.2) (fun u H => mW E q f_code a_tape a_size a_fault a_faultPlace a_many a_lands a_evenings a_sights a_choirs u.1 f_length u.2.1 u.2.2.1 u.2.2.2.1 u.2.2.2.2.1 u.2.2.2.2.2.1 u.2.2.2.2.2.2.1 u.2.2.2.2.2.2.2.1 u.2.2.2.2.2.2.2.2.1 u.2.2.2.2.2.2.2.2.2.1 u.2.2.2.2.2.2.2.2.2.2.1 u.2.2.2.2.2.2.2.2.2.2.2.1 u.2.2.2.2.2.2.2.2.2.2.2.2 f_land f_huts f_singers f_evening a_at a_knows a_climbed a_snow a_level f_begun f_minute f_avalanches a_run a_covers a_routes a_longest a_steep a_laid a_far f_sight a_runs f_choir f_voices a_rest a_wins f_seed a_other a_kept H) (mA q)) args s 0 0 (mA q)) (F0 m 2 ls []) := by
  have hx := zc.1
  have hb := zc.2.1
  refine hw (fun x2 f_reached f_begins f_sort f_value f_word f_wrongAt f_laterFault f_laterPlace a_told a_read f_farHut f_farSinger f_good => ∀ (H : Heap) (locs : List Loc) (ls : Array Slot), lv_has ls 4 [(0, .ref q), (1, .int x1), (2, .int x2)] → mW E q f_code a_tape a_size a_fault a_faultPlace a_many a_lands a_evenings a_sights a_choirs f_reached f_length f_begins f_sort f_value f_word f_wrongAt f_laterFault f_laterPlace a_told a_read f_farHut f_farSinger f_good f_land f_huts f_singers f_evening a_at a_knows a_climbed a_snow a_level f_begun f_minute f_avalanches a_run a_covers a_routes a_longest a_steep a_laid a_far f_sight a_runs f_choir f_voices a_rest a_wins f_seed a_other a_kept H → va_S (mA q) s.heap H locs → W p l e rm_m_lines s m args below meth c H locs 0 0 (MQ below (zQi (S := (Int32) × (Int32) × (Int32) × (Int32) × (Int64) × (Int32) × (Int32) × (Int32) × (Nat → Int32) × (Nat → Int32) × (Int32) × (Int32) × (Int32)) (fun r u => post r u.1 u.2.1 u.2.2.1 u.2.2.2.1 u.2.2.2.2.1 u.2.2.2.2.2.1 u.2.2.2.2.2.2.1 u.2.2.2.2.2.2.2.1 u.2.2.2.2.2.2.2.2.1 u.2.2.2.2.2.2.2.2.2.1 u.2.2.2.2.2.2.2.2.2.2.1 u.2.2.2.2.2.2.2.2.2.2.2.1 u.2.2.2.2.2.2.2.2.2.2.2.2) (fun u H => mW E q f_code a_tape a_size a_fault a_faultPlace a_many a_lands a_evenings a_sights a_choirs u.1 f_length u.2.1 u.2.2.1 u.2.2.2.1 u.2.2.2.2.1 u.2.2.2.2.2.1 u.2.2.2.2.2.2.1 u.2.2.2.2.2.2.2.1 u.2.2.2.2.2.2.2.2.1 u.2.2.2.2.2.2.2.2.2.1 u.2.2.2.2.2.2.2.2.2.2.1 u.2.2.2.2.2.2.2.2.2.2.2.1 u.2.2.2.2.2.2.2.2.2.2.2.2 f_land f_huts f_singers f_evening a_at a_knows a_climbed a_snow a_level f_begun f_minute f_avalanches a_run a_covers a_routes a_longest a_steep a_laid a_far f_sight a_runs f_choir f_voices a_rest a_wins f_seed a_other a_kept H) (mA q)) args s 0 0 (mA q)) (F0 m 2 ls [])) ?_ _ _ _ hl hM hS
  intro x2 f_reached f_begins f_sort f_value f_word f_wrongAt f_laterFault f_laterPlace a_told a_read f_farHut f_farSinger f_good hw H locs ls hl hM hS
  refine lv_iload_n hx hb dX11_lines_2 rfl (lv_at hl 2 rfl) ?_
  refine lv_if_eq (tgt := 74) hx hb dX11_lines_3 (by decide) (fun hc => ?_) (fun hc => ?_)
  · have hw := hw.1 hc
    refine lv_iload_n hx hb dX11_lines_74 rfl (lv_at hl 2 rfl) ?_
    exact zret_zw ⟨f_reached, f_begins, f_sort, f_value, f_word, f_wrongAt, f_laterFault, f_laterPlace, a_told, a_read, f_farHut, f_farSinger, f_good⟩ zc hS hw.1 hw.2 hM dX11_lines_75
  · have hw := hw.2 hc
    refine lv_aload_n hx hb dX11_lines_6 rfl (lv_at hl 0 rfl) ?_
    refine mg_11_134_0 zc hK hM dX11_lines_7 ?_
    refine lv_if_eq (tgt := 74) hx hb dX11_lines_10 (by decide) (fun hc => ?_) (fun hc => ?_)
    · have hw := hw.1 hc
      refine lv_iload_n hx hb dX11_lines_74 rfl (lv_at hl 2 rfl) ?_
      exact zret_zw ⟨f_reached, f_begins, f_sort, f_value, f_word, f_wrongAt, f_laterFault, f_laterPlace, a_told, a_read, f_farHut, f_farSinger, f_good⟩ zc hS hw.1 hw.2 hM dX11_lines_75
    · have hw := hw.2 hc
      refine lv_aload_n hx hb dX11_lines_13 rfl (lv_at hl 0 rfl) ?_
      refine mg_11_127_0 zc hK hM dX11_lines_14 ?_
      refine lv_istore_n (lv' := [(3, .int f_begins), (0, .ref q), (1, .int x1), (2, .int x2)]) hx hb dX11_lines_17 rfl hl (by decide) rfl (fun ls hl => ?_)
      refine lv_aload_n hx hb dX11_lines_18 rfl (lv_at hl 1 rfl) ?_
      refine lv_iconst (v := (1 : Int32)) hx hb dX11_lines_19 (by decide) ?_
      refine mp_11_157_0 zc hK hM hS rfl rfl dX11_lines_20 (fun H locs hM hS => ?_)
      refine lv_aload_n hx hb dX11_lines_23 rfl (lv_at hl 1 rfl) ?_
      refine lv_iload_n hx hb dX11_lines_24 rfl (lv_at hl 2 rfl) ?_
      refine lv_aload_n hx hb dX11_lines_25 rfl (lv_at hl 1 rfl) ?_
      refine mg_11_134_0 zc hK hM dX11_lines_26 ?_
      refine lv_iconst (v := (2 : Int32)) hx hb dX11_lines_29 (by decide) ?_
      refine lv_icmp_ne (tgt := 40) hx hb dX11_lines_30 (by decide) (fun hc => ?_) (fun hc => ?_)
      · have hw := hw.1 hc
        refine lv_lconst (v := (0 : Int64)) hx hb dX11_lines_40 (by decide) ?_
        exact t_m_lines_41 zc hK hM hS (fun _ _ _ _ _ _ _ _ _ _ _ _ _ _ H locs ls h hl hM hS => h H locs ls hl hM hS) (lv_sub hl [1, 2, 0] rfl) hw
      · have hw := hw.2 hc
        refine lv_aload_n hx hb dX11_lines_33 rfl (lv_at hl 1 rfl) ?_
        refine mg_11_130_0 zc hK hM dX11_lines_34 ?_
        refine lv_goto (tgt := 41) hx hb dX11_lines_37 (by decide) ?_
        exact t_m_lines_41 zc hK hM hS (fun _ _ _ _ _ _ _ _ _ _ _ _ _ _ H locs ls h hl hM hS => h H locs ls hl hM hS) (lv_sub hl [1, 2, 0] rfl) hw
set_option maxRecDepth 20000 in
theorem t_m_lines_0 {p : Program} {l : Launch} {e : Env} {s : State} {m : MethodId} {args : Array Value} {below : List Frame} {meth : Method} {c : Code} {E : zE} {q : Nat} {f_code : Int32} {a_tape : Nat → Int32} {a_size : Nat → Int32} {a_fault : Nat → Int32} {a_faultPlace : Nat → Int32} {a_many : Nat → Int32} {a_lands : Nat → Int32} {a_evenings : Nat → Int32} {a_sights : Nat → Int32} {a_choirs : Nat → Int32} {f_reached : Int32} {f_length : Int32} {f_begins : Int32} {f_sort : Int32} {f_value : Int32} {f_word : Int64} {f_wrongAt : Int32} {f_laterFault : Int32} {f_laterPlace : Int32} {a_told : Nat → Int32} {a_read : Nat → Int32} {f_farHut : Int32} {f_farSinger : Int32} {f_good : Int32} {f_land : Int32} {f_huts : Int32} {f_singers : Int32} {f_evening : Int32} {a_at : Nat → Int32} {a_knows : Nat → Int32} {a_climbed : Nat → Int32} {a_snow : Nat → Int32} {a_level : Nat → Int32} {f_begun : Int32} {f_minute : Int32} {f_avalanches : Int32} {a_run : Nat → Int32} {a_covers : Nat → Int32} {a_routes : Nat → Int32} {a_longest : Nat → Int32} {a_steep : Nat → Int32} {a_laid : Nat → Int32} {a_far : Nat → Int32} {f_sight : Int32} {a_runs : Nat → Int32} {f_choir : Int32} {f_voices : Int32} {a_rest : Nat → Int64} {a_wins : Nat → Int32} {f_seed : Int32} {a_other : Nat → Int32} {a_kept : Nat → Int32} {post : Int32 → (Int32) → (Int32) → (Int32) → (Int32) → (Int64) → (Int32) → (Int32) → (Int32) → (Nat → Int32) → (Nat → Int32) → (Int32) → (Int32) → (Int32) → Prop} {x1 : Int32} {ls : Array Slot} {H : Heap} {locs : List Loc}
    (zc : zC p s m args meth c cX11_lines 4 RX11 (some .boolean))
    (hK : zK E s)
    (hM : mW E q f_code a_tape a_size a_fault a_faultPlace a_many a_lands a_evenings a_sights a_choirs f_reached f_length f_begins f_sort f_value f_word f_wrongAt f_laterFault f_laterPlace a_told a_read f_farHut f_farSinger f_good f_land f_huts f_singers f_evening a_at a_knows a_climbed a_snow a_level f_begun f_minute f_avalanches a_run a_covers a_routes a_longest a_steep a_laid a_far f_sight a_runs f_choir f_voices a_rest a_wins f_seed a_other a_kept H)
    (hS : va_S (mA q) s.heap H locs)
    (hl : lv_has ls 4 [(0, .ref q), (1, .int x1)])
    (hw : q_m_lines_0 a_tape f_reached f_length f_begins f_sort f_value f_word f_wrongAt f_laterFault f_laterPlace a_told a_read f_farHut f_farSinger f_good x1 post) :
    W p l e rm_m_lines s m args below meth c H locs 0 0 (MQ below (zQi (S := (Int32) × (Int32) × (Int32) × (Int32) × (Int64) × (Int32) × (Int32) × (Int32) × (Nat → Int32) × (Nat → Int32) × (Int32) × (Int32) × (Int32)) (fun r u => post r u.1 u.2.1 u.2.2.1 u.2.2.2.1 u.2.2.2.2.1 u.2.2.2.2.2.1 u.2.2.2.2.2.2.1 u.2.2.2.2.2.2.2.1 u.2.2.2.2.2.2.2.2.1 u.2.2.2.2.2.2.2.2.2.1 u.2.2.2.2.2.2.2.2.2.2.1 u.2.2.2.2.2.2.2.2.2.2.2.1 u.2.2.2.2.2.2.2.2.2.2.2.2) (fun u H => mW E q f_code a_tape a_size a_fault a_faultPlace a_many a_lands a_evenings a_sights a_choirs u.1 f_length u.2.1 u.2.2.1 u.2.2.2.1 u.2.2.2.2.1 u.2.2.2.2.2.1 u.2.2.2.2.2.2.1 u.2.2.2.2.2.2.2.1 u.2.2.2.2.2.2.2.2.1 u.2.2.2.2.2.2.2.2.2.1 u.2.2.2.2.2.2.2.2.2.2.1 u.2.2.2.2.2.2.2.2.2.2.2.1 u.2.2.2.2.2.2.2.2.2.2.2.2 f_land f_huts f_singers f_evening a_at a_knows a_climbed a_snow a_level f_begun f_minute f_avalanches a_run a_covers a_routes a_longest a_steep a_laid a_far f_sight a_runs f_choir f_voices a_rest a_wins f_seed a_other a_kept H) (mA q)) args s 0 0 (mA q)) (F0 m 0 ls []) := by
  have hx := zc.1
  have hb := zc.2.1
  refine lv_iconst (v := (1 : Int32)) hx hb dX11_lines_0 (by decide) ?_
  refine lv_istore_n (lv' := [(2, .int (1 : Int32)), (0, .ref q), (1, .int x1)]) hx hb dX11_lines_1 rfl hl (by decide) rfl (fun ls hl => ?_)
  exact t_m_lines_2 zc hK hM hS  (lv_sub hl [1, 2, 0] rfl) hw
set_option maxRecDepth 20000 in
theorem c_m_lines (l : Launch) {E : zE} {q : Nat} {f_code : Int32} {a_tape : Nat → Int32} {a_size : Nat → Int32} {a_fault : Nat → Int32} {a_faultPlace : Nat → Int32} {a_many : Nat → Int32} {a_lands : Nat → Int32} {a_evenings : Nat → Int32} {a_sights : Nat → Int32} {a_choirs : Nat → Int32} {f_reached : Int32} {f_length : Int32} {f_begins : Int32} {f_sort : Int32} {f_value : Int32} {f_word : Int64} {f_wrongAt : Int32} {f_laterFault : Int32} {f_laterPlace : Int32} {a_told : Nat → Int32} {a_read : Nat → Int32} {f_farHut : Int32} {f_farSinger : Int32} {f_good : Int32} {f_land : Int32} {f_huts : Int32} {f_singers : Int32} {f_evening : Int32} {a_at : Nat → Int32} {a_knows : Nat → Int32} {a_climbed : Nat → Int32} {a_snow : Nat → Int32} {a_level : Nat → Int32} {f_begun : Int32} {f_minute : Int32} {f_avalanches : Int32} {a_run : Nat → Int32} {a_covers : Nat → Int32} {a_routes : Nat → Int32} {a_longest : Nat → Int32} {a_steep : Nat → Int32} {a_laid : Nat → Int32} {a_far : Nat → Int32} {f_sight : Int32} {a_runs : Nat → Int32} {f_choir : Int32} {f_voices : Int32} {a_rest : Nat → Int64} {a_wins : Nat → Int32} {f_seed : Int32} {a_other : Nat → Int32} {a_kept : Nat → Int32} {x1 : Int32} {post : Int32 → (Int32) → (Int32) → (Int32) → (Int32) → (Int64) → (Int32) → (Int32) → (Int32) → (Nat → Int32) → (Nat → Int32) → (Int32) → (Int32) → (Int32) → Prop} (hw : q_m_lines_0 a_tape f_reached f_length f_begins f_sort f_value f_word f_wrongAt f_laterFault f_laterPlace a_told a_read f_farHut f_farSinger f_good x1 post) : Met l yX11_lines (Cond.code yX11_lines cX11_lines 4 (some .boolean) :: zb) rm_m_lines (va_Pc [.ref q, .int x1] (fun U => mW E q f_code a_tape a_size a_fault a_faultPlace a_many a_lands a_evenings a_sights a_choirs f_reached f_length f_begins f_sort f_value f_word f_wrongAt f_laterFault f_laterPlace a_told a_read f_farHut f_farSinger f_good f_land f_huts f_singers f_evening a_at a_knows a_climbed a_snow a_level f_begun f_minute f_avalanches a_run a_covers a_routes a_longest a_steep a_laid a_far f_sight a_runs f_choir f_voices a_rest a_wins f_seed a_other a_kept U.heap ∧ zK E U)) (zQi (S := (Int32) × (Int32) × (Int32) × (Int32) × (Int64) × (Int32) × (Int32) × (Int32) × (Nat → Int32) × (Nat → Int32) × (Int32) × (Int32) × (Int32)) (fun r u => post r u.1 u.2.1 u.2.2.1 u.2.2.2.1 u.2.2.2.2.1 u.2.2.2.2.2.1 u.2.2.2.2.2.2.1 u.2.2.2.2.2.2.2.1 u.2.2.2.2.2.2.2.2.1 u.2.2.2.2.2.2.2.2.2.1 u.2.2.2.2.2.2.2.2.2.2.1 u.2.2.2.2.2.2.2.2.2.2.2.1 u.2.2.2.2.2.2.2.2.2.2.2.2) (fun u H => mW E q f_code a_tape a_size a_fault a_faultPlace a_many a_lands a_evenings a_sights a_choirs u.1 f_length u.2.1 u.2.2.1 u.2.2.2.1 u.2.2.2.2.1 u.2.2.2.2.2.1 u.2.2.2.2.2.2.1 u.2.2.2.2.2.2.2.1 u.2.2.2.2.2.2.2.2.1 u.2.2.2.2.2.2.2.2.2.1 u.2.2.2.2.2.2.2.2.2.2.1 u.2.2.2.2.2.2.2.2.2.2.2.1 u.2.2.2.2.2.2.2.2.2.2.2.2 f_land f_huts f_singers f_evening a_at a_knows a_climbed a_snow a_level f_begun f_minute f_avalanches a_run a_covers a_routes a_longest a_steep a_laid a_far f_sight a_runs f_choir f_voices a_rest a_wins f_seed a_other a_kept H) (mA q)) 0 0 (mA q) := by
  refine Met.ofW (cc := cX11_lines) (maxL := 4) (ret := (some .boolean)) (by decide) rfl ?_
  intro p e s m args below meth c s₁ B hml hv
  obtain ⟨rfl, hM, hK⟩ := hv
  have zc := zc_of B hml
  have hl := lv_entry ([.ref q, .int x1]) (n := 4) (Nat.le_of_ble_eq_true rfl)
  rw [lg_entry_eq]
  generalize (lg_sl ([.ref q, .int x1]) ++ List.replicate (4 - (lg_sl ([.ref q, .int x1])).length) Slot.unset).toArray = ls at hl ⊢
  have hl : lv_has ls 4 [(0, .ref q), (1, .int x1)] := hl
  exact t_m_lines_0 zc hK hM va_S.rf (lv_sub hl [0, 1] rfl) hw
-- m_readText
abbrev rm_m_readText : Room := { frames := 8, cells := 0, slots := 0, locals := 184 }
def q_m_readText_170 (a_tape : Nat → Int32) (a_fault : Nat → Int32) (a_faultPlace : Nat → Int32) (f_reached : Int32) (f_length : Int32) (f_begins : Int32) (f_sort : Int32) (f_value : Int32) (f_word : Int64) (f_wrongAt : Int32) (f_laterFault : Int32) (f_laterPlace : Int32) (a_told : Nat → Int32) (a_read : Nat → Int32) (f_farHut : Int32) (f_farSinger : Int32) (f_good : Int32) (y0 : Int32) (y1 : Int32) (post : Int32 → (Nat → Int32) → (Nat → Int32) → (Int32) → (Int32) → (Int32) → (Int32) → (Int64) → (Int32) → (Int32) → (Int32) → (Nat → Int32) → (Nat → Int32) → (Int32) → (Int32) → (Int32) → Prop) : Prop :=
  vp_in y0 4 ∧ (∀ a_faultPlace_1 : Nat → Int32, a_faultPlace_1 = upd a_faultPlace (Int32.toNatClampNeg y0) y1 → ((¬ (a_fault (Int32.toNatClampNeg (0 : Int32))) = 0 → (post (0 : Int32) a_fault a_faultPlace_1 f_reached f_begins f_sort f_value f_word f_wrongAt f_laterFault f_laterPlace a_told a_read f_farHut f_farSinger f_good)) ∧ ((a_fault (Int32.toNatClampNeg (0 : Int32))) = 0 → (post (1 : Int32) a_fault a_faultPlace_1 f_reached f_begins f_sort f_value f_word f_wrongAt f_laterFault f_laterPlace a_told a_read f_farHut f_farSinger f_good))))
def q_m_readText_138 (a_tape : Nat → Int32) (a_fault : Nat → Int32) (a_faultPlace : Nat → Int32) (f_reached : Int32) (f_length : Int32) (f_begins : Int32) (f_sort : Int32) (f_value : Int32) (f_word : Int64) (f_wrongAt : Int32) (f_laterFault : Int32) (f_laterPlace : Int32) (a_told : Nat → Int32) (a_read : Nat → Int32) (f_farHut : Int32) (f_farSinger : Int32) (f_good : Int32) (x2 : Int32) (y0 : Int32) (y1 : Int32) (post : Int32 → (Nat → Int32) → (Nat → Int32) → (Int32) → (Int32) → (Int32) → (Int32) → (Int64) → (Int32) → (Int32) → (Int32) → (Nat → Int32) → (Nat → Int32) → (Int32) → (Int32) → (Int32) → Prop) : Prop :=
  vp_in y0 4 ∧ (∀ a_fault_1 : Nat → Int32, a_fault_1 = upd a_fault (Int32.toNatClampNeg y0) y1 → ((¬ x2 = 0 → ((f_laterFault ≤ 0 → (q_m_readText_170 a_tape a_fault_1 a_faultPlace f_reached f_length f_begins f_sort f_value f_word f_wrongAt f_laterFault f_laterPlace a_told a_read f_farHut f_farSinger f_good (0 : Int32) (-1 : Int32) post)) ∧ (¬ f_laterFault ≤ 0 → (q_m_readText_170 a_tape a_fault_1 a_faultPlace f_reached f_length f_begins f_sort f_value f_word f_wrongAt f_laterFault f_laterPlace a_told a_read f_farHut f_farSinger f_good (0 : Int32) f_laterPlace post)))) ∧ (x2 = 0 → (q_m_readText_170 a_tape a_fault_1 a_faultPlace f_reached f_length f_begins f_sort f_value f_word f_wrongAt f_laterFault f_laterPlace a_told a_read f_farHut f_farSinger f_good (0 : Int32) f_wrongAt post))))
def q_m_readText_121 (a_tape : Nat → Int32) (a_fault : Nat → Int32) (a_faultPlace : Nat → Int32) (f_reached : Int32) (f_length : Int32) (f_begins : Int32) (f_sort : Int32) (f_value : Int32) (f_word : Int64) (f_wrongAt : Int32) (f_laterFault : Int32) (f_laterPlace : Int32) (a_told : Nat → Int32) (a_read : Nat → Int32) (f_farHut : Int32) (f_farSinger : Int32) (f_good : Int32) (x2 : Int32) (post : Int32 → (Nat → Int32) → (Nat → Int32) → (Int32) → (Int32) → (Int32) → (Int32) → (Int64) → (Int32) → (Int32) → (Int32) → (Nat → Int32) → (Nat → Int32) → (Int32) → (Int32) → (Int32) → Prop) : Prop :=
  (x2 = 0 → (q_m_readText_138 a_tape a_fault a_faultPlace f_reached f_length f_begins f_sort f_value f_word f_wrongAt f_laterFault f_laterPlace a_told a_read f_farHut f_farSinger f_good x2 (0 : Int32) (1 : Int32) post)) ∧ (¬ x2 = 0 → (q_m_readText_138 a_tape a_fault a_faultPlace f_reached f_length f_begins f_sort f_value f_word f_wrongAt f_laterFault f_laterPlace a_told a_read f_farHut f_farSinger f_good x2 (0 : Int32) f_laterFault post))
def q_m_readText_112 (a_tape : Nat → Int32) (a_fault : Nat → Int32) (a_faultPlace : Nat → Int32) (f_reached : Int32) (f_length : Int32) (f_begins : Int32) (f_sort : Int32) (f_value : Int32) (f_word : Int64) (f_wrongAt : Int32) (f_laterFault : Int32) (f_laterPlace : Int32) (a_told : Nat → Int32) (a_read : Nat → Int32) (f_farHut : Int32) (f_farSinger : Int32) (f_good : Int32) (x2 : Int32) (post : Int32 → (Nat → Int32) → (Nat → Int32) → (Int32) → (Int32) → (Int32) → (Int32) → (Int64) → (Int32) → (Int32) → (Int32) → (Nat → Int32) → (Nat → Int32) → (Int32) → (Int32) → (Int32) → Prop) : Prop :=
  q_m_later_0 f_laterFault f_laterPlace (4 : Int32) f_begins (fun f_laterFault_1 f_laterPlace_1 => q_m_readText_121 a_tape a_fault a_faultPlace f_reached f_length f_begins f_sort f_value f_word f_wrongAt f_laterFault_1 f_laterPlace_1 a_told a_read f_farHut f_farSinger f_good x2 post)
def q_m_readText_41 (a_tape : Nat → Int32) (a_fault : Nat → Int32) (a_faultPlace : Nat → Int32) (f_reached : Int32) (f_length : Int32) (f_begins : Int32) (f_sort : Int32) (f_value : Int32) (f_word : Int64) (f_wrongAt : Int32) (f_laterFault : Int32) (f_laterPlace : Int32) (a_told : Nat → Int32) (a_read : Nat → Int32) (f_farHut : Int32) (f_farSinger : Int32) (f_good : Int32) (x1 : Int32) (post : Int32 → (Nat → Int32) → (Nat → Int32) → (Int32) → (Int32) → (Int32) → (Int32) → (Int64) → (Int32) → (Int32) → (Int32) → (Nat → Int32) → (Nat → Int32) → (Int32) → (Int32) → (Int32) → Prop) : Prop :=
  q_m_token_0 a_tape (0 : Int32) f_length f_begins f_sort f_value f_word (fun f_reached_1 f_begins_1 f_sort_1 f_value_1 f_word_1 => q_m_lines_0 a_tape f_reached_1 f_length f_begins_1 f_sort_1 f_value_1 f_word_1 f_wrongAt (0 : Int32) f_laterPlace a_told a_read (-1 : Int32) (-1 : Int32) f_good x1 (fun r_1 f_reached_2 f_begins_2 f_sort_2 f_value_2 f_word_2 f_wrongAt_1 f_laterFault_1 f_laterPlace_1 a_told_1 a_read_1 f_farHut_1 f_farSinger_1 f_good_1 => (r_1 = 0 → (q_m_readText_121 a_tape a_fault a_faultPlace f_reached_2 f_length f_begins_2 f_sort_2 f_value_2 f_word_2 f_wrongAt_1 f_laterFault_1 f_laterPlace_1 a_told_1 a_read_1 f_farHut_1 f_farSinger_1 f_good_1 r_1 post)) ∧ (¬ r_1 = 0 → ((¬ x1 = 0 → (q_m_readText_121 a_tape a_fault a_faultPlace f_reached_2 f_length f_begins_2 f_sort_2 f_value_2 f_word_2 f_wrongAt_1 f_laterFault_1 f_laterPlace_1 a_told_1 a_read_1 f_farHut_1 f_farSinger_1 f_good_1 r_1 post)) ∧ (x1 = 0 → ((¬ f_laterFault_1 = 0 → (q_m_readText_121 a_tape a_fault a_faultPlace f_reached_2 f_length f_begins_2 f_sort_2 f_value_2 f_word_2 f_wrongAt_1 f_laterFault_1 f_laterPlace_1 a_told_1 a_read_1 f_farHut_1 f_farSinger_1 f_good_1 r_1 post)) ∧ (f_laterFault_1 = 0 → (((a_told_1 (Int32.toNatClampNeg (0 : Int32))) ≤ f_farHut_1 → (q_m_readText_112 a_tape a_fault a_faultPlace f_reached_2 f_length f_begins_2 f_sort_2 f_value_2 f_word_2 f_wrongAt_1 f_laterFault_1 f_laterPlace_1 a_told_1 a_read_1 f_farHut_1 f_farSinger_1 f_good_1 r_1 post)) ∧ (¬ (a_told_1 (Int32.toNatClampNeg (0 : Int32))) ≤ f_farHut_1 → ((f_farSinger_1 < (a_told_1 (Int32.toNatClampNeg (1 : Int32))) → (q_m_readText_121 a_tape a_fault a_faultPlace f_reached_2 f_length f_begins_2 f_sort_2 f_value_2 f_word_2 f_wrongAt_1 f_laterFault_1 f_laterPlace_1 a_told_1 a_read_1 f_farHut_1 f_farSinger_1 f_good_1 r_1 post)) ∧ (¬ f_farSinger_1 < (a_told_1 (Int32.toNatClampNeg (1 : Int32))) → (q_m_readText_112 a_tape a_fault a_faultPlace f_reached_2 f_length f_begins_2 f_sort_2 f_value_2 f_word_2 f_wrongAt_1 f_laterFault_1 f_laterPlace_1 a_told_1 a_read_1 f_farHut_1 f_farSinger_1 f_good_1 r_1 post))))))))))))
def q_m_readText_2 (a_tape : Nat → Int32) (a_fault : Nat → Int32) (a_faultPlace : Nat → Int32) (f_reached : Int32) (f_length : Int32) (f_begins : Int32) (f_sort : Int32) (f_value : Int32) (f_word : Int64) (f_wrongAt : Int32) (f_laterFault : Int32) (f_laterPlace : Int32) (a_told : Nat → Int32) (a_read : Nat → Int32) (f_farHut : Int32) (f_farSinger : Int32) (f_good : Int32) (x1 : Int32) (x2 : Int32) (post : Int32 → (Nat → Int32) → (Nat → Int32) → (Int32) → (Int32) → (Int32) → (Int32) → (Int64) → (Int32) → (Int32) → (Int32) → (Nat → Int32) → (Nat → Int32) → (Int32) → (Int32) → (Int32) → Prop) : Prop :=
  ∀ P2 : Int32 → (Nat → Int32) → Prop, (∀ (x2 : Int32) (a_told : Nat → Int32), (((132 : Int32) ≤ x2 → ((¬ x1 = 0 → (q_m_readText_41 a_tape a_fault a_faultPlace f_reached f_length f_begins f_sort f_value f_word f_wrongAt f_laterFault f_laterPlace a_told a_read f_farHut f_farSinger f_good x1 post)) ∧ (x1 = 0 → (∀ a_told_1 : Nat → Int32, a_told_1 = upd a_told (Int32.toNatClampNeg (5 : Int32)) (2 : Int32) → (∀ a_told_2 : Nat → Int32, a_told_2 = upd a_told_1 (Int32.toNatClampNeg (6 : Int32)) (5 : Int32) → (q_m_readText_41 a_tape a_fault a_faultPlace f_reached f_length f_begins f_sort f_value f_word f_wrongAt f_laterFault f_laterPlace a_told_2 a_read f_farHut f_farSinger f_good x1 post)))))) ∧ (¬ (132 : Int32) ≤ x2 → (vp_in x2 132 ∧ (∀ a_told_3 : Nat → Int32, a_told_3 = upd a_told (Int32.toNatClampNeg x2) (0 : Int32) → (∀ v_1 : Int32, v_1 = x2 + (1 : Int32) → (P2 v_1 a_told_3)))))) → P2 x2 a_told) → P2 x2 a_told
def q_m_readText_0 (a_tape : Nat → Int32) (a_fault : Nat → Int32) (a_faultPlace : Nat → Int32) (f_reached : Int32) (f_length : Int32) (f_begins : Int32) (f_sort : Int32) (f_value : Int32) (f_word : Int64) (f_wrongAt : Int32) (f_laterFault : Int32) (f_laterPlace : Int32) (a_told : Nat → Int32) (a_read : Nat → Int32) (f_farHut : Int32) (f_farSinger : Int32) (f_good : Int32) (x1 : Int32) (post : Int32 → (Nat → Int32) → (Nat → Int32) → (Int32) → (Int32) → (Int32) → (Int32) → (Int64) → (Int32) → (Int32) → (Int32) → (Nat → Int32) → (Nat → Int32) → (Int32) → (Int32) → (Int32) → Prop) : Prop :=
  q_m_readText_2 a_tape a_fault a_faultPlace f_reached f_length f_begins f_sort f_value f_word f_wrongAt f_laterFault f_laterPlace a_told a_read f_farHut f_farSinger f_good x1 (0 : Int32) post
set_option maxRecDepth 20000 in
theorem t_m_readText_170 {p : Program} {l : Launch} {e : Env} {s : State} {m : MethodId} {args : Array Value} {below : List Frame} {meth : Method} {c : Code} {E : zE} {q : Nat} {f_code : Int32} {a_tape : Nat → Int32} {a_size : Nat → Int32} {a_fault : Nat → Int32} {a_faultPlace : Nat → Int32} {a_many : Nat → Int32} {a_lands : Nat → Int32} {a_evenings : Nat → Int32} {a_sights : Nat → Int32} {a_choirs : Nat → Int32} {f_reached : Int32} {f_length : Int32} {f_begins : Int32} {f_sort : Int32} {f_value : Int32} {f_word : Int64} {f_wrongAt : Int32} {f_laterFault : Int32} {f_laterPlace : Int32} {a_told : Nat → Int32} {a_read : Nat → Int32} {f_farHut : Int32} {f_farSinger : Int32} {f_good : Int32} {f_land : Int32} {f_huts : Int32} {f_singers : Int32} {f_evening : Int32} {a_at : Nat → Int32} {a_knows : Nat → Int32} {a_climbed : Nat → Int32} {a_snow : Nat → Int32} {a_level : Nat → Int32} {f_begun : Int32} {f_minute : Int32} {f_avalanches : Int32} {a_run : Nat → Int32} {a_covers : Nat → Int32} {a_routes : Nat → Int32} {a_longest : Nat → Int32} {a_steep : Nat → Int32} {a_laid : Nat → Int32} {a_far : Nat → Int32} {f_sight : Int32} {a_runs : Nat → Int32} {f_choir : Int32} {f_voices : Int32} {a_rest : Nat → Int64} {a_wins : Nat → Int32} {f_seed : Int32} {a_other : Nat → Int32} {a_kept : Nat → Int32} {post : Int32 → (Nat → Int32) → (Nat → Int32) → (Int32) → (Int32) → (Int32) → (Int32) → (Int64) → (Int32) → (Int32) → (Int32) → (Nat → Int32) → (Nat → Int32) → (Int32) → (Int32) → (Int32) → Prop} {y0 : Int32} {y1 : Int32} {ls : Array Slot} {H : Heap} {locs : List Loc}
    (zc : zC p s m args meth c cX11_readText 3 RX11 (some .boolean))
    (hK : zK E s)
    (hM : mW E q f_code a_tape a_size a_fault a_faultPlace a_many a_lands a_evenings a_sights a_choirs f_reached f_length f_begins f_sort f_value f_word f_wrongAt f_laterFault f_laterPlace a_told a_read f_farHut f_farSinger f_good f_land f_huts f_singers f_evening a_at a_knows a_climbed a_snow a_level f_begun f_minute f_avalanches a_run a_covers a_routes a_longest a_steep a_laid a_far f_sight a_runs f_choir f_voices a_rest a_wins f_seed a_other a_kept H)
    (hS : va_S (mA q) s.heap H locs)
    (hl : lv_has ls 3 [(0, .ref q)])
    (hw : q_m_readText_170 a_tape a_fault a_faultPlace f_reached f_length f_begins f_sort f_value f_word f_wrongAt f_laterFault f_laterPlace a_told a_read f_farHut f_farSinger f_good y0 y1 post) :
    W p l e rm_m_readText s m args below meth c H locs 0 0 (MQ below (zQi (S := (Nat → Int32) × (Nat → Int32) × (Int32) × (Int32) × (Int32) × (Int32) × (Int64) × (Int32) × (Int32) × (Int32) × (Nat → Int32) × (Nat → Int32) × (Int32) × (Int32) × (Int32)) (fun r u => post r u.1 u.2.1 u.2.2.1 u.2.2.2.1 u.2.2.2.2.1 u.2.2.2.2.2.1 u.2.2.2.2.2.2.1 u.2.2.2.2.2.2.2.1 u.2.2.2.2.2.2.2.2.1 u.2.2.2.2.2.2.2.2.2.1 u.2.2.2.2.2.2.2.2.2.2.1 u.2.2.2.2.2.2.2.2.2.2.2.1 u.2.2.2.2.2.2.2.2.2.2.2.2.1 u.2.2.2.2.2.2.2.2.2.2.2.2.2.1 u.2.2.2.2.2.2.2.2.2.2.2.2.2.2) (fun u H => mW E q f_code a_tape a_size u.1 u.2.1 a_many a_lands a_evenings a_sights a_choirs u.2.2.1 f_length u.2.2.2.1 u.2.2.2.2.1 u.2.2.2.2.2.1 u.2.2.2.2.2.2.1 u.2.2.2.2.2.2.2.1 u.2.2.2.2.2.2.2.2.1 u.2.2.2.2.2.2.2.2.2.1 u.2.2.2.2.2.2.2.2.2.2.1 u.2.2.2.2.2.2.2.2.2.2.2.1 u.2.2.2.2.2.2.2.2.2.2.2.2.1 u.2.2.2.2.2.2.2.2.2.2.2.2.2.1 u.2.2.2.2.2.2.2.2.2.2.2.2.2.2 f_land f_huts f_singers f_evening a_at a_knows a_climbed a_snow a_level f_begun f_minute f_avalanches a_run a_covers a_routes a_longest a_steep a_laid a_far f_sight a_runs f_choir f_voices a_rest a_wins f_seed a_other a_kept H) (mA q)) args s 0 0 (mA q)) (F0 m 170 ls [.int y1, .int y0, .ref (q + 4)]) := by
  have hx := zc.1
  have hb := zc.2.1
  refine mst_4 zc hK hM hS hw.1 dX11_readText_170 (fun a_faultPlace_1 H locs ea_faultPlace_1 hM hS => ?_)
  have hw := hw.2 a_faultPlace_1 ea_faultPlace_1
  refine lv_aload_n hx hb dX11_readText_171 rfl (lv_at hl 0 rfl) ?_
  refine mg_11_17_0 zc hK hM dX11_readText_172 ?_
  refine lv_iconst (v := (0 : Int32)) hx hb dX11_readText_175 (by decide) ?_
  refine mld_3 zc hK hM (by unfold vp_in; decide) dX11_readText_176 ?_
  refine lv_if_ne (tgt := 184) hx hb dX11_readText_177 (by decide) (fun hc => ?_) (fun hc => ?_)
  · have hw := hw.1 hc
    refine lv_iconst (v := (0 : Int32)) hx hb dX11_readText_184 (by decide) ?_
    exact zret_zw ⟨a_fault, a_faultPlace_1, f_reached, f_begins, f_sort, f_value, f_word, f_wrongAt, f_laterFault, f_laterPlace, a_told, a_read, f_farHut, f_farSinger, f_good⟩ zc hS rfl hw hM dX11_readText_185
  · have hw := hw.2 hc
    refine lv_iconst (v := (1 : Int32)) hx hb dX11_readText_180 (by decide) ?_
    refine lv_goto (tgt := 185) hx hb dX11_readText_181 (by decide) ?_
    exact zret_zw ⟨a_fault, a_faultPlace_1, f_reached, f_begins, f_sort, f_value, f_word, f_wrongAt, f_laterFault, f_laterPlace, a_told, a_read, f_farHut, f_farSinger, f_good⟩ zc hS rfl hw hM dX11_readText_185
set_option maxRecDepth 20000 in
theorem t_m_readText_138 {p : Program} {l : Launch} {e : Env} {s : State} {m : MethodId} {args : Array Value} {below : List Frame} {meth : Method} {c : Code} {E : zE} {q : Nat} {f_code : Int32} {a_tape : Nat → Int32} {a_size : Nat → Int32} {a_fault : Nat → Int32} {a_faultPlace : Nat → Int32} {a_many : Nat → Int32} {a_lands : Nat → Int32} {a_evenings : Nat → Int32} {a_sights : Nat → Int32} {a_choirs : Nat → Int32} {f_reached : Int32} {f_length : Int32} {f_begins : Int32} {f_sort : Int32} {f_value : Int32} {f_word : Int64} {f_wrongAt : Int32} {f_laterFault : Int32} {f_laterPlace : Int32} {a_told : Nat → Int32} {a_read : Nat → Int32} {f_farHut : Int32} {f_farSinger : Int32} {f_good : Int32} {f_land : Int32} {f_huts : Int32} {f_singers : Int32} {f_evening : Int32} {a_at : Nat → Int32} {a_knows : Nat → Int32} {a_climbed : Nat → Int32} {a_snow : Nat → Int32} {a_level : Nat → Int32} {f_begun : Int32} {f_minute : Int32} {f_avalanches : Int32} {a_run : Nat → Int32} {a_covers : Nat → Int32} {a_routes : Nat → Int32} {a_longest : Nat → Int32} {a_steep : Nat → Int32} {a_laid : Nat → Int32} {a_far : Nat → Int32} {f_sight : Int32} {a_runs : Nat → Int32} {f_choir : Int32} {f_voices : Int32} {a_rest : Nat → Int64} {a_wins : Nat → Int32} {f_seed : Int32} {a_other : Nat → Int32} {a_kept : Nat → Int32} {post : Int32 → (Nat → Int32) → (Nat → Int32) → (Int32) → (Int32) → (Int32) → (Int32) → (Int64) → (Int32) → (Int32) → (Int32) → (Nat → Int32) → (Nat → Int32) → (Int32) → (Int32) → (Int32) → Prop} {x2 : Int32} {y0 : Int32} {y1 : Int32} {ls : Array Slot} {H : Heap} {locs : List Loc}
    (zc : zC p s m args meth c cX11_readText 3 RX11 (some .boolean))
    (hK : zK E s)
    (hM : mW E q f_code a_tape a_size a_fault a_faultPlace a_many a_lands a_evenings a_sights a_choirs f_reached f_length f_begins f_sort f_value f_word f_wrongAt f_laterFault f_laterPlace a_told a_read f_farHut f_farSinger f_good f_land f_huts f_singers f_evening a_at a_knows a_climbed a_snow a_level f_begun f_minute f_avalanches a_run a_covers a_routes a_longest a_steep a_laid a_far f_sight a_runs f_choir f_voices a_rest a_wins f_seed a_other a_kept H)
    (hS : va_S (mA q) s.heap H locs)
    (hl : lv_has ls 3 [(0, .ref q), (2, .int x2)])
    (hw : q_m_readText_138 a_tape a_fault a_faultPlace f_reached f_length f_begins f_sort f_value f_word f_wrongAt f_laterFault f_laterPlace a_told a_read f_farHut f_farSinger f_good x2 y0 y1 post) :
    W p l e rm_m_readText s m args below meth c H locs 0 0 (MQ below (zQi (S := (Nat → Int32) × (Nat → Int32) × (Int32) × (Int32) × (Int32) × (Int32) × (Int64) × (Int32) × (Int32) × (Int32) × (Nat → Int32) × (Nat → Int32) × (Int32) × (Int32) × (Int32)) (fun r u => post r u.1 u.2.1 u.2.2.1 u.2.2.2.1 u.2.2.2.2.1 u.2.2.2.2.2.1 u.2.2.2.2.2.2.1 u.2.2.2.2.2.2.2.1 u.2.2.2.2.2.2.2.2.1 u.2.2.2.2.2.2.2.2.2.1 u.2.2.2.2.2.2.2.2.2.2.1 u.2.2.2.2.2.2.2.2.2.2.2.1 u.2.2.2.2.2.2.2.2.2.2.2.2.1 u.2.2.2.2.2.2.2.2.2.2.2.2.2.1 u.2.2.2.2.2.2.2.2.2.2.2.2.2.2) (fun u H => mW E q f_code a_tape a_size u.1 u.2.1 a_many a_lands a_evenings a_sights a_choirs u.2.2.1 f_length u.2.2.2.1 u.2.2.2.2.1 u.2.2.2.2.2.1 u.2.2.2.2.2.2.1 u.2.2.2.2.2.2.2.1 u.2.2.2.2.2.2.2.2.1 u.2.2.2.2.2.2.2.2.2.1 u.2.2.2.2.2.2.2.2.2.2.1 u.2.2.2.2.2.2.2.2.2.2.2.1 u.2.2.2.2.2.2.2.2.2.2.2.2.1 u.2.2.2.2.2.2.2.2.2.2.2.2.2.1 u.2.2.2.2.2.2.2.2.2.2.2.2.2.2 f_land f_huts f_singers f_evening a_at a_knows a_climbed a_snow a_level f_begun f_minute f_avalanches a_run a_covers a_routes a_longest a_steep a_laid a_far f_sight a_runs f_choir f_voices a_rest a_wins f_seed a_other a_kept H) (mA q)) args s 0 0 (mA q)) (F0 m 138 ls [.int y1, .int y0, .ref (q + 3)]) := by
  have hx := zc.1
  have hb := zc.2.1
  refine mst_3 zc hK hM hS hw.1 dX11_readText_138 (fun a_fault_1 H locs ea_fault_1 hM hS => ?_)
  have hw := hw.2 a_fault_1 ea_fault_1
  refine lv_aload_n hx hb dX11_readText_139 rfl (lv_at hl 0 rfl) ?_
  refine mg_11_20_0 zc hK hM dX11_readText_140 ?_
  refine lv_iconst (v := (0 : Int32)) hx hb dX11_readText_143 (by decide) ?_
  refine lv_iload_n hx hb dX11_readText_144 rfl (lv_at hl 1 rfl) ?_
  refine lv_if_ne (tgt := 155) hx hb dX11_readText_145 (by decide) (fun hc => ?_) (fun hc => ?_)
  · have hw := hw.1 hc
    refine lv_aload_n hx hb dX11_readText_155 rfl (lv_at hl 0 rfl) ?_
    refine mg_11_143_0 zc hK hM dX11_readText_156 ?_
    refine lv_if_le (tgt := 169) hx hb dX11_readText_159 (by decide) (fun hc => ?_) (fun hc => ?_)
    · have hw := hw.1 hc
      refine lv_iconst (v := (-1 : Int32)) hx hb dX11_readText_169 (by decide) ?_
      exact t_m_readText_170 zc hK hM hS  (lv_sub hl [0] rfl) hw
    · have hw := hw.2 hc
      refine lv_aload_n hx hb dX11_readText_162 rfl (lv_at hl 0 rfl) ?_
      refine mg_11_146_0 zc hK hM dX11_readText_163 ?_
      refine lv_goto (tgt := 170) hx hb dX11_readText_166 (by decide) ?_
      exact t_m_readText_170 zc hK hM hS  (lv_sub hl [0] rfl) hw
  · have hw := hw.2 hc
    refine lv_aload_n hx hb dX11_readText_148 rfl (lv_at hl 0 rfl) ?_
    refine mg_11_140_0 zc hK hM dX11_readText_149 ?_
    refine lv_goto (tgt := 170) hx hb dX11_readText_152 (by decide) ?_
    exact t_m_readText_170 zc hK hM hS  (lv_sub hl [0] rfl) hw
set_option maxRecDepth 20000 in
theorem t_m_readText_121 {p : Program} {l : Launch} {e : Env} {s : State} {m : MethodId} {args : Array Value} {below : List Frame} {meth : Method} {c : Code} {E : zE} {q : Nat} {f_code : Int32} {a_tape : Nat → Int32} {a_size : Nat → Int32} {a_fault : Nat → Int32} {a_faultPlace : Nat → Int32} {a_many : Nat → Int32} {a_lands : Nat → Int32} {a_evenings : Nat → Int32} {a_sights : Nat → Int32} {a_choirs : Nat → Int32} {f_reached : Int32} {f_length : Int32} {f_begins : Int32} {f_sort : Int32} {f_value : Int32} {f_word : Int64} {f_wrongAt : Int32} {f_laterFault : Int32} {f_laterPlace : Int32} {a_told : Nat → Int32} {a_read : Nat → Int32} {f_farHut : Int32} {f_farSinger : Int32} {f_good : Int32} {f_land : Int32} {f_huts : Int32} {f_singers : Int32} {f_evening : Int32} {a_at : Nat → Int32} {a_knows : Nat → Int32} {a_climbed : Nat → Int32} {a_snow : Nat → Int32} {a_level : Nat → Int32} {f_begun : Int32} {f_minute : Int32} {f_avalanches : Int32} {a_run : Nat → Int32} {a_covers : Nat → Int32} {a_routes : Nat → Int32} {a_longest : Nat → Int32} {a_steep : Nat → Int32} {a_laid : Nat → Int32} {a_far : Nat → Int32} {f_sight : Int32} {a_runs : Nat → Int32} {f_choir : Int32} {f_voices : Int32} {a_rest : Nat → Int64} {a_wins : Nat → Int32} {f_seed : Int32} {a_other : Nat → Int32} {a_kept : Nat → Int32} {post : Int32 → (Nat → Int32) → (Nat → Int32) → (Int32) → (Int32) → (Int32) → (Int32) → (Int64) → (Int32) → (Int32) → (Int32) → (Nat → Int32) → (Nat → Int32) → (Int32) → (Int32) → (Int32) → Prop} {x2 : Int32} {ls : Array Slot} {H : Heap} {locs : List Loc}
    (zc : zC p s m args meth c cX11_readText 3 RX11 (some .boolean))
    (hK : zK E s)
    (hM : mW E q f_code a_tape a_size a_fault a_faultPlace a_many a_lands a_evenings a_sights a_choirs f_reached f_length f_begins f_sort f_value f_word f_wrongAt f_laterFault f_laterPlace a_told a_read f_farHut f_farSinger f_good f_land f_huts f_singers f_evening a_at a_knows a_climbed a_snow a_level f_begun f_minute f_avalanches a_run a_covers a_routes a_longest a_steep a_laid a_far f_sight a_runs f_choir f_voices a_rest a_wins f_seed a_other a_kept H)
    (hS : va_S (mA q) s.heap H locs)
    (hl : lv_has ls 3 [(0, .ref q), (2, .int x2)])
    (hw : q_m_readText_121 a_tape a_fault a_faultPlace f_reached f_length f_begins f_sort f_value f_word f_wrongAt f_laterFault f_laterPlace a_told a_read f_farHut f_farSinger f_good x2 post) :
    W p l e rm_m_readText s m args below meth c H locs 0 0 (MQ below (zQi (S := (Nat → Int32) × (Nat → Int32) × (Int32) × (Int32) × (Int32) × (Int32) × (Int64) × (Int32) × (Int32) × (Int32) × (Nat → Int32) × (Nat → Int32) × (Int32) × (Int32) × (Int32)) (fun r u => post r u.1 u.2.1 u.2.2.1 u.2.2.2.1 u.2.2.2.2.1 u.2.2.2.2.2.1 u.2.2.2.2.2.2.1 u.2.2.2.2.2.2.2.1 u.2.2.2.2.2.2.2.2.1 u.2.2.2.2.2.2.2.2.2.1 u.2.2.2.2.2.2.2.2.2.2.1 u.2.2.2.2.2.2.2.2.2.2.2.1 u.2.2.2.2.2.2.2.2.2.2.2.2.1 u.2.2.2.2.2.2.2.2.2.2.2.2.2.1 u.2.2.2.2.2.2.2.2.2.2.2.2.2.2) (fun u H => mW E q f_code a_tape a_size u.1 u.2.1 a_many a_lands a_evenings a_sights a_choirs u.2.2.1 f_length u.2.2.2.1 u.2.2.2.2.1 u.2.2.2.2.2.1 u.2.2.2.2.2.2.1 u.2.2.2.2.2.2.2.1 u.2.2.2.2.2.2.2.2.1 u.2.2.2.2.2.2.2.2.2.1 u.2.2.2.2.2.2.2.2.2.2.1 u.2.2.2.2.2.2.2.2.2.2.2.1 u.2.2.2.2.2.2.2.2.2.2.2.2.1 u.2.2.2.2.2.2.2.2.2.2.2.2.2.1 u.2.2.2.2.2.2.2.2.2.2.2.2.2.2 f_land f_huts f_singers f_evening a_at a_knows a_climbed a_snow a_level f_begun f_minute f_avalanches a_run a_covers a_routes a_longest a_steep a_laid a_far f_sight a_runs f_choir f_voices a_rest a_wins f_seed a_other a_kept H) (mA q)) args s 0 0 (mA q)) (F0 m 121 ls []) := by
  have hx := zc.1
  have hb := zc.2.1
  refine lv_aload_n hx hb dX11_readText_121 rfl (lv_at hl 0 rfl) ?_
  refine mg_11_17_0 zc hK hM dX11_readText_122 ?_
  refine lv_iconst (v := (0 : Int32)) hx hb dX11_readText_125 (by decide) ?_
  refine lv_iload_n hx hb dX11_readText_126 rfl (lv_at hl 1 rfl) ?_
  refine lv_if_eq (tgt := 137) hx hb dX11_readText_127 (by decide) (fun hc => ?_) (fun hc => ?_)
  · have hw := hw.1 hc
    refine lv_iconst (v := (1 : Int32)) hx hb dX11_readText_137 (by decide) ?_
    exact t_m_readText_138 zc hK hM hS  (lv_sub hl [0, 1] rfl) hw
  · have hw := hw.2 hc
    refine lv_aload_n hx hb dX11_readText_130 rfl (lv_at hl 0 rfl) ?_
    refine mg_11_143_0 zc hK hM dX11_readText_131 ?_
    refine lv_goto (tgt := 138) hx hb dX11_readText_134 (by decide) ?_
    exact t_m_readText_138 zc hK hM hS  (lv_sub hl [0, 1] rfl) hw
set_option maxRecDepth 20000 in
theorem t_m_readText_112 {p : Program} {l : Launch} {e : Env} {s : State} {m : MethodId} {args : Array Value} {below : List Frame} {meth : Method} {c : Code} {E : zE} {q : Nat} {f_code : Int32} {a_tape : Nat → Int32} {a_size : Nat → Int32} {a_fault : Nat → Int32} {a_faultPlace : Nat → Int32} {a_many : Nat → Int32} {a_lands : Nat → Int32} {a_evenings : Nat → Int32} {a_sights : Nat → Int32} {a_choirs : Nat → Int32} {f_reached : Int32} {f_length : Int32} {f_begins : Int32} {f_sort : Int32} {f_value : Int32} {f_word : Int64} {f_wrongAt : Int32} {f_laterFault : Int32} {f_laterPlace : Int32} {a_told : Nat → Int32} {a_read : Nat → Int32} {f_farHut : Int32} {f_farSinger : Int32} {f_good : Int32} {f_land : Int32} {f_huts : Int32} {f_singers : Int32} {f_evening : Int32} {a_at : Nat → Int32} {a_knows : Nat → Int32} {a_climbed : Nat → Int32} {a_snow : Nat → Int32} {a_level : Nat → Int32} {f_begun : Int32} {f_minute : Int32} {f_avalanches : Int32} {a_run : Nat → Int32} {a_covers : Nat → Int32} {a_routes : Nat → Int32} {a_longest : Nat → Int32} {a_steep : Nat → Int32} {a_laid : Nat → Int32} {a_far : Nat → Int32} {f_sight : Int32} {a_runs : Nat → Int32} {f_choir : Int32} {f_voices : Int32} {a_rest : Nat → Int64} {a_wins : Nat → Int32} {f_seed : Int32} {a_other : Nat → Int32} {a_kept : Nat → Int32} {post : Int32 → (Nat → Int32) → (Nat → Int32) → (Int32) → (Int32) → (Int32) → (Int32) → (Int64) → (Int32) → (Int32) → (Int32) → (Nat → Int32) → (Nat → Int32) → (Int32) → (Int32) → (Int32) → Prop} {x2 : Int32} {ls : Array Slot} {H : Heap} {locs : List Loc}
    (zc : zC p s m args meth c cX11_readText 3 RX11 (some .boolean))
    (hK : zK E s)
    (hM : mW E q f_code a_tape a_size a_fault a_faultPlace a_many a_lands a_evenings a_sights a_choirs f_reached f_length f_begins f_sort f_value f_word f_wrongAt f_laterFault f_laterPlace a_told a_read f_farHut f_farSinger f_good f_land f_huts f_singers f_evening a_at a_knows a_climbed a_snow a_level f_begun f_minute f_avalanches a_run a_covers a_routes a_longest a_steep a_laid a_far f_sight a_runs f_choir f_voices a_rest a_wins f_seed a_other a_kept H)
    (hS : va_S (mA q) s.heap H locs)
    (hl : lv_has ls 3 [(0, .ref q), (2, .int x2)])
    (hw : q_m_readText_112 a_tape a_fault a_faultPlace f_reached f_length f_begins f_sort f_value f_word f_wrongAt f_laterFault f_laterPlace a_told a_read f_farHut f_farSinger f_good x2 post) :
    W p l e rm_m_readText s m args below meth c H locs 0 0 (MQ below (zQi (S := (Nat → Int32) × (Nat → Int32) × (Int32) × (Int32) × (Int32) × (Int32) × (Int64) × (Int32) × (Int32) × (Int32) × (Nat → Int32) × (Nat → Int32) × (Int32) × (Int32) × (Int32)) (fun r u => post r u.1 u.2.1 u.2.2.1 u.2.2.2.1 u.2.2.2.2.1 u.2.2.2.2.2.1 u.2.2.2.2.2.2.1 u.2.2.2.2.2.2.2.1 u.2.2.2.2.2.2.2.2.1 u.2.2.2.2.2.2.2.2.2.1 u.2.2.2.2.2.2.2.2.2.2.1 u.2.2.2.2.2.2.2.2.2.2.2.1 u.2.2.2.2.2.2.2.2.2.2.2.2.1 u.2.2.2.2.2.2.2.2.2.2.2.2.2.1 u.2.2.2.2.2.2.2.2.2.2.2.2.2.2) (fun u H => mW E q f_code a_tape a_size u.1 u.2.1 a_many a_lands a_evenings a_sights a_choirs u.2.2.1 f_length u.2.2.2.1 u.2.2.2.2.1 u.2.2.2.2.2.1 u.2.2.2.2.2.2.1 u.2.2.2.2.2.2.2.1 u.2.2.2.2.2.2.2.2.1 u.2.2.2.2.2.2.2.2.2.1 u.2.2.2.2.2.2.2.2.2.2.1 u.2.2.2.2.2.2.2.2.2.2.2.1 u.2.2.2.2.2.2.2.2.2.2.2.2.1 u.2.2.2.2.2.2.2.2.2.2.2.2.2.1 u.2.2.2.2.2.2.2.2.2.2.2.2.2.2 f_land f_huts f_singers f_evening a_at a_knows a_climbed a_snow a_level f_begun f_minute f_avalanches a_run a_covers a_routes a_longest a_steep a_laid a_far f_sight a_runs f_choir f_voices a_rest a_wins f_seed a_other a_kept H) (mA q)) args s 0 0 (mA q)) (F0 m 112 ls []) := by
  have hx := zc.1
  have hb := zc.2.1
  refine lv_aload_n hx hb dX11_readText_112 rfl (lv_at hl 0 rfl) ?_
  refine lv_iconst (v := (4 : Int32)) hx hb dX11_readText_113 (by decide) ?_
  refine lv_aload_n hx hb dX11_readText_114 rfl (lv_at hl 0 rfl) ?_
  refine mg_11_127_0 zc hK hM dX11_readText_115 ?_
  refine zVw_v [.int (4 : Int32), .int f_begins] [] zc ky_X11_later kz_X11_later km_11_153 (c_m_later l hw) (mPreV0 hK hM) hS rfl rfl hl.1 (Nat.le_of_ble_eq_true rfl) ⟨rfl, rfl⟩ ⟨Nat.le_of_ble_eq_true rfl, Nat.le_of_ble_eq_true rfl⟩ ⟨(Nat.zero_le _), (Nat.zero_le _)⟩ dX11_readText_118 (fun u H locs hw hM hS => ?_)
  obtain ⟨f_laterFault_1, f_laterPlace_1⟩ := u
  exact t_m_readText_121 zc hK hM hS  (lv_sub hl [0, 1] rfl) hw
set_option maxRecDepth 20000 in
theorem t_m_readText_41 {p : Program} {l : Launch} {e : Env} {s : State} {m : MethodId} {args : Array Value} {below : List Frame} {meth : Method} {c : Code} {E : zE} {q : Nat} {f_code : Int32} {a_tape : Nat → Int32} {a_size : Nat → Int32} {a_fault : Nat → Int32} {a_faultPlace : Nat → Int32} {a_many : Nat → Int32} {a_lands : Nat → Int32} {a_evenings : Nat → Int32} {a_sights : Nat → Int32} {a_choirs : Nat → Int32} {f_reached : Int32} {f_length : Int32} {f_begins : Int32} {f_sort : Int32} {f_value : Int32} {f_word : Int64} {f_wrongAt : Int32} {f_laterFault : Int32} {f_laterPlace : Int32} {a_told : Nat → Int32} {a_read : Nat → Int32} {f_farHut : Int32} {f_farSinger : Int32} {f_good : Int32} {f_land : Int32} {f_huts : Int32} {f_singers : Int32} {f_evening : Int32} {a_at : Nat → Int32} {a_knows : Nat → Int32} {a_climbed : Nat → Int32} {a_snow : Nat → Int32} {a_level : Nat → Int32} {f_begun : Int32} {f_minute : Int32} {f_avalanches : Int32} {a_run : Nat → Int32} {a_covers : Nat → Int32} {a_routes : Nat → Int32} {a_longest : Nat → Int32} {a_steep : Nat → Int32} {a_laid : Nat → Int32} {a_far : Nat → Int32} {f_sight : Int32} {a_runs : Nat → Int32} {f_choir : Int32} {f_voices : Int32} {a_rest : Nat → Int64} {a_wins : Nat → Int32} {f_seed : Int32} {a_other : Nat → Int32} {a_kept : Nat → Int32} {post : Int32 → (Nat → Int32) → (Nat → Int32) → (Int32) → (Int32) → (Int32) → (Int32) → (Int64) → (Int32) → (Int32) → (Int32) → (Nat → Int32) → (Nat → Int32) → (Int32) → (Int32) → (Int32) → Prop} {x1 : Int32} {ls : Array Slot} {H : Heap} {locs : List Loc}
    (zc : zC p s m args meth c cX11_readText 3 RX11 (some .boolean))
    (hK : zK E s)
    (hM : mW E q f_code a_tape a_size a_fault a_faultPlace a_many a_lands a_evenings a_sights a_choirs f_reached f_length f_begins f_sort f_value f_word f_wrongAt f_laterFault f_laterPlace a_told a_read f_farHut f_farSinger f_good f_land f_huts f_singers f_evening a_at a_knows a_climbed a_snow a_level f_begun f_minute f_avalanches a_run a_covers a_routes a_longest a_steep a_laid a_far f_sight a_runs f_choir f_voices a_rest a_wins f_seed a_other a_kept H)
    (hS : va_S (mA q) s.heap H locs)
    (hl : lv_has ls 3 [(0, .ref q), (1, .int x1)])
    (hw : q_m_readText_41 a_tape a_fault a_faultPlace f_reached f_length f_begins f_sort f_value f_word f_wrongAt f_laterFault f_laterPlace a_told a_read f_farHut f_farSinger f_good x1 post) :
    W p l e rm_m_readText s m args below meth c H locs 0 0 (MQ below (zQi (S := (Nat → Int32) × (Nat → Int32) × (Int32) × (Int32) × (Int32) × (Int32) × (Int64) × (Int32) × (Int32) × (Int32) × (Nat → Int32) × (Nat → Int32) × (Int32) × (Int32) × (Int32)) (fun r u => post r u.1 u.2.1 u.2.2.1 u.2.2.2.1 u.2.2.2.2.1 u.2.2.2.2.2.1 u.2.2.2.2.2.2.1 u.2.2.2.2.2.2.2.1 u.2.2.2.2.2.2.2.2.1 u.2.2.2.2.2.2.2.2.2.1 u.2.2.2.2.2.2.2.2.2.2.1 u.2.2.2.2.2.2.2.2.2.2.2.1 u.2.2.2.2.2.2.2.2.2.2.2.2.1 u.2.2.2.2.2.2.2.2.2.2.2.2.2.1 u.2.2.2.2.2.2.2.2.2.2.2.2.2.2) (fun u H => mW E q f_code a_tape a_size u.1 u.2.1 a_many a_lands a_evenings a_sights a_choirs u.2.2.1 f_length u.2.2.2.1 u.2.2.2.2.1 u.2.2.2.2.2.1 u.2.2.2.2.2.2.1 u.2.2.2.2.2.2.2.1 u.2.2.2.2.2.2.2.2.1 u.2.2.2.2.2.2.2.2.2.1 u.2.2.2.2.2.2.2.2.2.2.1 u.2.2.2.2.2.2.2.2.2.2.2.1 u.2.2.2.2.2.2.2.2.2.2.2.2.1 u.2.2.2.2.2.2.2.2.2.2.2.2.2.1 u.2.2.2.2.2.2.2.2.2.2.2.2.2.2 f_land f_huts f_singers f_evening a_at a_knows a_climbed a_snow a_level f_begun f_minute f_avalanches a_run a_covers a_routes a_longest a_steep a_laid a_far f_sight a_runs f_choir f_voices a_rest a_wins f_seed a_other a_kept H) (mA q)) args s 0 0 (mA q)) (F0 m 41 ls []) := by
  have hx := zc.1
  have hb := zc.2.1
  refine lv_aload_n hx hb dX11_readText_41 rfl (lv_at hl 0 rfl) ?_
  refine lv_iconst (v := (-1 : Int32)) hx hb dX11_readText_42 (by decide) ?_
  refine mp_11_168_0 zc hK hM hS dX11_readText_43 (fun H locs hM hS => ?_)
  refine lv_aload_n hx hb dX11_readText_46 rfl (lv_at hl 0 rfl) ?_
  refine lv_iconst (v := (-1 : Int32)) hx hb dX11_readText_47 (by decide) ?_
  refine mp_11_184_0 zc hK hM hS dX11_readText_48 (fun H locs hM hS => ?_)
  refine lv_aload_n hx hb dX11_readText_51 rfl (lv_at hl 0 rfl) ?_
  refine lv_iconst (v := (0 : Int32)) hx hb dX11_readText_52 (by decide) ?_
  refine mp_11_117_0 zc hK hM hS dX11_readText_53 (fun H locs hM hS => ?_)
  refine lv_aload_n hx hb dX11_readText_56 rfl (lv_at hl 0 rfl) ?_
  refine lv_iconst (v := (0 : Int32)) hx hb dX11_readText_57 (by decide) ?_
  refine mp_11_143_0 zc hK hM hS dX11_readText_58 (fun H locs hM hS => ?_)
  refine lv_aload_n hx hb dX11_readText_61 rfl (lv_at hl 0 rfl) ?_
  refine zVw_v [] [] zc ky_X11_token kz_X11_token km_11_161 (c_m_token l hw) (mPreV0 hK hM) hS rfl rfl hl.1 (Nat.le_of_ble_eq_true rfl) ⟨rfl, rfl⟩ ⟨Nat.le_of_ble_eq_true rfl, Nat.le_of_ble_eq_true rfl⟩ ⟨(Nat.zero_le _), (Nat.zero_le _)⟩ dX11_readText_62 (fun u H locs hw hM hS => ?_)
  obtain ⟨f_reached_1, f_begins_1, f_sort_1, f_value_1, f_word_1⟩ := u
  refine lv_aload_n hx hb dX11_readText_65 rfl (lv_at hl 0 rfl) ?_
  refine lv_iload_n hx hb dX11_readText_66 rfl (lv_at hl 1 rfl) ?_
  refine zVw_i [.int x1] [] zc ky_X11_lines kz_X11_lines km_11_284 (c_m_lines l hw) (mPreV0 hK hM) hS rfl rfl hl.1 (Nat.le_of_ble_eq_true rfl) ⟨rfl, rfl⟩ ⟨Nat.le_of_ble_eq_true rfl, Nat.le_of_ble_eq_true rfl⟩ ⟨(Nat.zero_le _), (Nat.zero_le _)⟩ dX11_readText_67 (fun r_1 u H locs hw hM hS => ?_)
  obtain ⟨f_reached_2, f_begins_2, f_sort_2, f_value_2, f_word_2, f_wrongAt_1, f_laterFault_1, f_laterPlace_1, a_told_1, a_read_1, f_farHut_1, f_farSinger_1, f_good_1⟩ := u
  refine lv_istore_n (lv' := [(2, .int r_1), (0, .ref q), (1, .int x1)]) hx hb dX11_readText_70 rfl hl (by decide) rfl (fun ls hl => ?_)
  refine lv_iload_n hx hb dX11_readText_71 rfl (lv_at hl 0 rfl) ?_
  refine lv_if_eq (tgt := 121) hx hb dX11_readText_72 (by decide) (fun hc => ?_) (fun hc => ?_)
  · have hw := hw.1 hc
    exact t_m_readText_121 zc hK hM hS  (lv_sub hl [1, 0] rfl) hw
  · have hw := hw.2 hc
    refine lv_iload_n hx hb dX11_readText_75 rfl (lv_at hl 2 rfl) ?_
    refine lv_if_ne (tgt := 121) hx hb dX11_readText_76 (by decide) (fun hc => ?_) (fun hc => ?_)
    · have hw := hw.1 hc
      exact t_m_readText_121 zc hK hM hS  (lv_sub hl [1, 0] rfl) hw
    · have hw := hw.2 hc
      refine lv_aload_n hx hb dX11_readText_79 rfl (lv_at hl 1 rfl) ?_
      refine mg_11_143_0 zc hK hM dX11_readText_80 ?_
      refine lv_if_ne (tgt := 121) hx hb dX11_readText_83 (by decide) (fun hc => ?_) (fun hc => ?_)
      · have hw := hw.1 hc
        exact t_m_readText_121 zc hK hM hS  (lv_sub hl [1, 0] rfl) hw
      · have hw := hw.2 hc
        refine lv_aload_n hx hb dX11_readText_86 rfl (lv_at hl 1 rfl) ?_
        refine mg_11_168_0 zc hK hM dX11_readText_87 ?_
        refine lv_aload_n hx hb dX11_readText_90 rfl (lv_at hl 1 rfl) ?_
        refine mg_11_38_0 zc hK hM dX11_readText_91 ?_
        refine lv_iconst (v := (0 : Int32)) hx hb dX11_readText_94 (by decide) ?_
        refine mld_10 zc hK hM (by unfold vp_in; decide) dX11_readText_95 ?_
        refine lv_icmp_ge (tgt := 112) hx hb dX11_readText_96 (by decide) (fun hc => ?_) (fun hc => ?_)
        · have hw := hw.1 hc
          exact t_m_readText_112 zc hK hM hS  (lv_sub hl [1, 0] rfl) hw
        · have hw := hw.2 hc
          refine lv_aload_n hx hb dX11_readText_99 rfl (lv_at hl 1 rfl) ?_
          refine mg_11_184_0 zc hK hM dX11_readText_100 ?_
          refine lv_aload_n hx hb dX11_readText_103 rfl (lv_at hl 1 rfl) ?_
          refine mg_11_38_0 zc hK hM dX11_readText_104 ?_
          refine lv_iconst (v := (1 : Int32)) hx hb dX11_readText_107 (by decide) ?_
          refine mld_10 zc hK hM (by unfold vp_in; decide) dX11_readText_108 ?_
          refine lv_icmp_lt (tgt := 121) hx hb dX11_readText_109 (by decide) (fun hc => ?_) (fun hc => ?_)
          · have hw := hw.1 hc
            exact t_m_readText_121 zc hK hM hS  (lv_sub hl [1, 0] rfl) hw
          · have hw := hw.2 hc
            exact t_m_readText_112 zc hK hM hS  (lv_sub hl [1, 0] rfl) hw
set_option maxRecDepth 20000 in
theorem t_m_readText_2 {p : Program} {l : Launch} {e : Env} {s : State} {m : MethodId} {args : Array Value} {below : List Frame} {meth : Method} {c : Code} {E : zE} {q : Nat} {f_code : Int32} {a_tape : Nat → Int32} {a_size : Nat → Int32} {a_fault : Nat → Int32} {a_faultPlace : Nat → Int32} {a_many : Nat → Int32} {a_lands : Nat → Int32} {a_evenings : Nat → Int32} {a_sights : Nat → Int32} {a_choirs : Nat → Int32} {f_reached : Int32} {f_length : Int32} {f_begins : Int32} {f_sort : Int32} {f_value : Int32} {f_word : Int64} {f_wrongAt : Int32} {f_laterFault : Int32} {f_laterPlace : Int32} {a_told : Nat → Int32} {a_read : Nat → Int32} {f_farHut : Int32} {f_farSinger : Int32} {f_good : Int32} {f_land : Int32} {f_huts : Int32} {f_singers : Int32} {f_evening : Int32} {a_at : Nat → Int32} {a_knows : Nat → Int32} {a_climbed : Nat → Int32} {a_snow : Nat → Int32} {a_level : Nat → Int32} {f_begun : Int32} {f_minute : Int32} {f_avalanches : Int32} {a_run : Nat → Int32} {a_covers : Nat → Int32} {a_routes : Nat → Int32} {a_longest : Nat → Int32} {a_steep : Nat → Int32} {a_laid : Nat → Int32} {a_far : Nat → Int32} {f_sight : Int32} {a_runs : Nat → Int32} {f_choir : Int32} {f_voices : Int32} {a_rest : Nat → Int64} {a_wins : Nat → Int32} {f_seed : Int32} {a_other : Nat → Int32} {a_kept : Nat → Int32} {post : Int32 → (Nat → Int32) → (Nat → Int32) → (Int32) → (Int32) → (Int32) → (Int32) → (Int64) → (Int32) → (Int32) → (Int32) → (Nat → Int32) → (Nat → Int32) → (Int32) → (Int32) → (Int32) → Prop} {x1 : Int32} {x2 : Int32} {ls : Array Slot} {H : Heap} {locs : List Loc}
    (zc : zC p s m args meth c cX11_readText 3 RX11 (some .boolean))
    (hK : zK E s)
    (hM : mW E q f_code a_tape a_size a_fault a_faultPlace a_many a_lands a_evenings a_sights a_choirs f_reached f_length f_begins f_sort f_value f_word f_wrongAt f_laterFault f_laterPlace a_told a_read f_farHut f_farSinger f_good f_land f_huts f_singers f_evening a_at a_knows a_climbed a_snow a_level f_begun f_minute f_avalanches a_run a_covers a_routes a_longest a_steep a_laid a_far f_sight a_runs f_choir f_voices a_rest a_wins f_seed a_other a_kept H)
    (hS : va_S (mA q) s.heap H locs)
    (hl : lv_has ls 3 [(0, .ref q), (1, .int x1), (2, .int x2)])
    (hw : q_m_readText_2 a_tape a_fault a_faultPlace f_reached f_length f_begins f_sort f_value f_word f_wrongAt f_laterFault f_laterPlace a_told a_read f_farHut f_farSinger f_good x1 x2 post) :
    W p l e rm_m_readText s m args below meth c H locs 0 0 (MQ below (zQi (S := (Nat → Int32) × (Nat → Int32) × (Int32) × (Int32) × (Int32) × (Int32) × (Int64) × (Int32) × (Int32) × (Int32) × (Nat → Int32) × (Nat → Int32) × (Int32) × (Int32) × (Int32)) (fun r u => post r u.1 u.2.1 u.2.2.1 u.2.2.2.1 u.2.2.2.2.1 u.2.2.2.2.2.1 u.2.2.2.2.2.2.1 u.2.2.2.2.2.2.2.1 u.2.2.2.2.2.2.2.2.1 u.2.2.2.2.2.2.2.2.2.1 u.2.2.2.2.2.2.2.2.2.2.1 u.2.2.2.2.2.2.2.2.2.2.2.1 u.2.2.2.2.2.2.2.2.2.2.2.2.1 u.2.2.2.2.2.2.2.2.2.2.2.2.2.1 u.2.2.2.2.2.2.2.2.2.2.2.2.2.2) (fun u H => mW E q f_code a_tape a_size u.1 u.2.1 a_many a_lands a_evenings a_sights a_choirs u.2.2.1 f_length u.2.2.2.1 u.2.2.2.2.1 u.2.2.2.2.2.1 u.2.2.2.2.2.2.1 u.2.2.2.2.2.2.2.1 u.2.2.2.2.2.2.2.2.1 u.2.2.2.2.2.2.2.2.2.1 u.2.2.2.2.2.2.2.2.2.2.1 u.2.2.2.2.2.2.2.2.2.2.2.1 u.2.2.2.2.2.2.2.2.2.2.2.2.1 u.2.2.2.2.2.2.2.2.2.2.2.2.2.1 u.2.2.2.2.2.2.2.2.2.2.2.2.2.2 f_land f_huts f_singers f_evening a_at a_knows a_climbed a_snow a_level f_begun f_minute f_avalanches a_run a_covers a_routes a_longest a_steep a_laid a_far f_sight a_runs f_choir f_voices a_rest a_wins f_seed a_other a_kept H) (mA q)) args s 0 0 (mA q)) (F0 m 2 ls []) := by
  have hx := zc.1
  have hb := zc.2.1
  refine hw (fun x2 a_told => ∀ (H : Heap) (locs : List Loc) (ls : Array Slot), lv_has ls 3 [(0, .ref q), (1, .int x1), (2, .int x2)] → mW E q f_code a_tape a_size a_fault a_faultPlace a_many a_lands a_evenings a_sights a_choirs f_reached f_length f_begins f_sort f_value f_word f_wrongAt f_laterFault f_laterPlace a_told a_read f_farHut f_farSinger f_good f_land f_huts f_singers f_evening a_at a_knows a_climbed a_snow a_level f_begun f_minute f_avalanches a_run a_covers a_routes a_longest a_steep a_laid a_far f_sight a_runs f_choir f_voices a_rest a_wins f_seed a_other a_kept H → va_S (mA q) s.heap H locs → W p l e rm_m_readText s m args below meth c H locs 0 0 (MQ below (zQi (S := (Nat → Int32) × (Nat → Int32) × (Int32) × (Int32) × (Int32) × (Int32) × (Int64) × (Int32) × (Int32) × (Int32) × (Nat → Int32) × (Nat → Int32) × (Int32) × (Int32) × (Int32)) (fun r u => post r u.1 u.2.1 u.2.2.1 u.2.2.2.1 u.2.2.2.2.1 u.2.2.2.2.2.1 u.2.2.2.2.2.2.1 u.2.2.2.2.2.2.2.1 u.2.2.2.2.2.2.2.2.1 u.2.2.2.2.2.2.2.2.2.1 u.2.2.2.2.2.2.2.2.2.2.1 u.2.2.2.2.2.2.2.2.2.2.2.1 u.2.2.2.2.2.2.2.2.2.2.2.2.1 u.2.2.2.2.2.2.2.2.2.2.2.2.2.1 u.2.2.2.2.2.2.2.2.2.2.2.2.2.2) (fun u H => mW E q f_code a_tape a_size u.1 u.2.1 a_many a_lands a_evenings a_sights a_choirs u.2.2.1 f_length u.2.2.2.1 u.2.2.2.2.1 u.2.2.2.2.2.1 u.2.2.2.2.2.2.1 u.2.2.2.2.2.2.2.1 u.2.2.2.2.2.2.2.2.1 u.2.2.2.2.2.2.2.2.2.1 u.2.2.2.2.2.2.2.2.2.2.1 u.2.2.2.2.2.2.2.2.2.2.2.1 u.2.2.2.2.2.2.2.2.2.2.2.2.1 u.2.2.2.2.2.2.2.2.2.2.2.2.2.1 u.2.2.2.2.2.2.2.2.2.2.2.2.2.2 f_land f_huts f_singers f_evening a_at a_knows a_climbed a_snow a_level f_begun f_minute f_avalanches a_run a_covers a_routes a_longest a_steep a_laid a_far f_sight a_runs f_choir f_voices a_rest a_wins f_seed a_other a_kept H) (mA q)) args s 0 0 (mA q)) (F0 m 2 ls [])) ?_ _ _ _ hl hM hS
  intro x2 a_told hw H locs ls hl hM hS
  refine lv_iload_n hx hb dX11_readText_2 rfl (lv_at hl 2 rfl) ?_
  refine lv_sipush (v := (132 : Int32)) hx hb dX11_readText_3 (by decide) ?_
  refine lv_icmp_ge (tgt := 22) hx hb dX11_readText_6 (by decide) (fun hc => ?_) (fun hc => ?_)
  · have hw := hw.1 hc
    refine lv_iload_n hx hb dX11_readText_22 rfl (lv_at hl 1 rfl) ?_
    refine lv_if_ne (tgt := 41) hx hb dX11_readText_23 (by decide) (fun hc => ?_) (fun hc => ?_)
    · have hw := hw.1 hc
      exact t_m_readText_41 zc hK hM hS  (lv_sub hl [0, 1] rfl) hw
    · have hw := hw.2 hc
      refine lv_aload_n hx hb dX11_readText_26 rfl (lv_at hl 0 rfl) ?_
      refine mg_11_38_0 zc hK hM dX11_readText_27 ?_
      refine lv_iconst (v := (5 : Int32)) hx hb dX11_readText_30 (by decide) ?_
      refine lv_iconst (v := (2 : Int32)) hx hb dX11_readText_31 (by decide) ?_
      refine mst_10 zc hK hM hS (by unfold vp_in; decide) dX11_readText_32 (fun a_told_1 H locs ea_told_1 hM hS => ?_)
      have hw := hw a_told_1 ea_told_1
      refine lv_aload_n hx hb dX11_readText_33 rfl (lv_at hl 0 rfl) ?_
      refine mg_11_38_0 zc hK hM dX11_readText_34 ?_
      refine lv_bipush (v := (6 : Int32)) hx hb dX11_readText_37 (by decide) ?_
      refine lv_iconst (v := (5 : Int32)) hx hb dX11_readText_39 (by decide) ?_
      refine mst_10 zc hK hM hS (by unfold vp_in; decide) dX11_readText_40 (fun a_told_2 H locs ea_told_2 hM hS => ?_)
      have hw := hw a_told_2 ea_told_2
      exact t_m_readText_41 zc hK hM hS  (lv_sub hl [0, 1] rfl) hw
  · have hw := hw.2 hc
    refine lv_aload_n hx hb dX11_readText_9 rfl (lv_at hl 0 rfl) ?_
    refine mg_11_38_0 zc hK hM dX11_readText_10 ?_
    refine lv_iload_n hx hb dX11_readText_13 rfl (lv_at hl 2 rfl) ?_
    refine lv_iconst (v := (0 : Int32)) hx hb dX11_readText_14 (by decide) ?_
    refine mst_10 zc hK hM hS hw.1 dX11_readText_15 (fun a_told_3 H locs ea_told_3 hM hS => ?_)
    have hw := hw.2 a_told_3 ea_told_3
    obtain ⟨v_1, ev_1⟩ : ∃ y : Int32, y = x2 + (1 : Int32) := ⟨_, rfl⟩
    have hw := hw v_1 ev_1
    refine lv_iinc (v := v_1) (k := 2) (lv' := [(2, .int v_1), (0, .ref q), (1, .int x1)]) hx hb dX11_readText_16 hl rfl (by rw [ev_1]; rfl) (by decide) rfl (fun ls hl => ?_)
    refine lv_goto (tgt := 2) hx hb dX11_readText_19 (by decide) ?_
    exact hw _ _ _ (lv_sub hl [1, 2, 0] rfl) hM hS
set_option maxRecDepth 20000 in
theorem t_m_readText_0 {p : Program} {l : Launch} {e : Env} {s : State} {m : MethodId} {args : Array Value} {below : List Frame} {meth : Method} {c : Code} {E : zE} {q : Nat} {f_code : Int32} {a_tape : Nat → Int32} {a_size : Nat → Int32} {a_fault : Nat → Int32} {a_faultPlace : Nat → Int32} {a_many : Nat → Int32} {a_lands : Nat → Int32} {a_evenings : Nat → Int32} {a_sights : Nat → Int32} {a_choirs : Nat → Int32} {f_reached : Int32} {f_length : Int32} {f_begins : Int32} {f_sort : Int32} {f_value : Int32} {f_word : Int64} {f_wrongAt : Int32} {f_laterFault : Int32} {f_laterPlace : Int32} {a_told : Nat → Int32} {a_read : Nat → Int32} {f_farHut : Int32} {f_farSinger : Int32} {f_good : Int32} {f_land : Int32} {f_huts : Int32} {f_singers : Int32} {f_evening : Int32} {a_at : Nat → Int32} {a_knows : Nat → Int32} {a_climbed : Nat → Int32} {a_snow : Nat → Int32} {a_level : Nat → Int32} {f_begun : Int32} {f_minute : Int32} {f_avalanches : Int32} {a_run : Nat → Int32} {a_covers : Nat → Int32} {a_routes : Nat → Int32} {a_longest : Nat → Int32} {a_steep : Nat → Int32} {a_laid : Nat → Int32} {a_far : Nat → Int32} {f_sight : Int32} {a_runs : Nat → Int32} {f_choir : Int32} {f_voices : Int32} {a_rest : Nat → Int64} {a_wins : Nat → Int32} {f_seed : Int32} {a_other : Nat → Int32} {a_kept : Nat → Int32} {post : Int32 → (Nat → Int32) → (Nat → Int32) → (Int32) → (Int32) → (Int32) → (Int32) → (Int64) → (Int32) → (Int32) → (Int32) → (Nat → Int32) → (Nat → Int32) → (Int32) → (Int32) → (Int32) → Prop} {x1 : Int32} {ls : Array Slot} {H : Heap} {locs : List Loc}
    (zc : zC p s m args meth c cX11_readText 3 RX11 (some .boolean))
    (hK : zK E s)
    (hM : mW E q f_code a_tape a_size a_fault a_faultPlace a_many a_lands a_evenings a_sights a_choirs f_reached f_length f_begins f_sort f_value f_word f_wrongAt f_laterFault f_laterPlace a_told a_read f_farHut f_farSinger f_good f_land f_huts f_singers f_evening a_at a_knows a_climbed a_snow a_level f_begun f_minute f_avalanches a_run a_covers a_routes a_longest a_steep a_laid a_far f_sight a_runs f_choir f_voices a_rest a_wins f_seed a_other a_kept H)
    (hS : va_S (mA q) s.heap H locs)
    (hl : lv_has ls 3 [(0, .ref q), (1, .int x1)])
    (hw : q_m_readText_0 a_tape a_fault a_faultPlace f_reached f_length f_begins f_sort f_value f_word f_wrongAt f_laterFault f_laterPlace a_told a_read f_farHut f_farSinger f_good x1 post) :
    W p l e rm_m_readText s m args below meth c H locs 0 0 (MQ below (zQi (S := (Nat → Int32) × (Nat → Int32) × (Int32) × (Int32) × (Int32) × (Int32) × (Int64) × (Int32) × (Int32) × (Int32) × (Nat → Int32) × (Nat → Int32) × (Int32) × (Int32) × (Int32)) (fun r u => post r u.1 u.2.1 u.2.2.1 u.2.2.2.1 u.2.2.2.2.1 u.2.2.2.2.2.1 u.2.2.2.2.2.2.1 u.2.2.2.2.2.2.2.1 u.2.2.2.2.2.2.2.2.1 u.2.2.2.2.2.2.2.2.2.1 u.2.2.2.2.2.2.2.2.2.2.1 u.2.2.2.2.2.2.2.2.2.2.2.1 u.2.2.2.2.2.2.2.2.2.2.2.2.1 u.2.2.2.2.2.2.2.2.2.2.2.2.2.1 u.2.2.2.2.2.2.2.2.2.2.2.2.2.2) (fun u H => mW E q f_code a_tape a_size u.1 u.2.1 a_many a_lands a_evenings a_sights a_choirs u.2.2.1 f_length u.2.2.2.1 u.2.2.2.2.1 u.2.2.2.2.2.1 u.2.2.2.2.2.2.1 u.2.2.2.2.2.2.2.1 u.2.2.2.2.2.2.2.2.1 u.2.2.2.2.2.2.2.2.2.1 u.2.2.2.2.2.2.2.2.2.2.1 u.2.2.2.2.2.2.2.2.2.2.2.1 u.2.2.2.2.2.2.2.2.2.2.2.2.1 u.2.2.2.2.2.2.2.2.2.2.2.2.2.1 u.2.2.2.2.2.2.2.2.2.2.2.2.2.2 f_land f_huts f_singers f_evening a_at a_knows a_climbed a_snow a_level f_begun f_minute f_avalanches a_run a_covers a_routes a_longest a_steep a_laid a_far f_sight a_runs f_choir f_voices a_rest a_wins f_seed a_other a_kept H) (mA q)) args s 0 0 (mA q)) (F0 m 0 ls []) := by
  have hx := zc.1
  have hb := zc.2.1
  refine lv_iconst (v := (0 : Int32)) hx hb dX11_readText_0 (by decide) ?_
  refine lv_istore_n (lv' := [(2, .int (0 : Int32)), (0, .ref q), (1, .int x1)]) hx hb dX11_readText_1 rfl hl (by decide) rfl (fun ls hl => ?_)
  exact t_m_readText_2 zc hK hM hS  (lv_sub hl [1, 2, 0] rfl) hw
set_option maxRecDepth 20000 in
theorem c_m_readText (l : Launch) {E : zE} {q : Nat} {f_code : Int32} {a_tape : Nat → Int32} {a_size : Nat → Int32} {a_fault : Nat → Int32} {a_faultPlace : Nat → Int32} {a_many : Nat → Int32} {a_lands : Nat → Int32} {a_evenings : Nat → Int32} {a_sights : Nat → Int32} {a_choirs : Nat → Int32} {f_reached : Int32} {f_length : Int32} {f_begins : Int32} {f_sort : Int32} {f_value : Int32} {f_word : Int64} {f_wrongAt : Int32} {f_laterFault : Int32} {f_laterPlace : Int32} {a_told : Nat → Int32} {a_read : Nat → Int32} {f_farHut : Int32} {f_farSinger : Int32} {f_good : Int32} {f_land : Int32} {f_huts : Int32} {f_singers : Int32} {f_evening : Int32} {a_at : Nat → Int32} {a_knows : Nat → Int32} {a_climbed : Nat → Int32} {a_snow : Nat → Int32} {a_level : Nat → Int32} {f_begun : Int32} {f_minute : Int32} {f_avalanches : Int32} {a_run : Nat → Int32} {a_covers : Nat → Int32} {a_routes : Nat → Int32} {a_longest : Nat → Int32} {a_steep : Nat → Int32} {a_laid : Nat → Int32} {a_far : Nat → Int32} {f_sight : Int32} {a_runs : Nat → Int32} {f_choir : Int32} {f_voices : Int32} {a_rest : Nat → Int64} {a_wins : Nat → Int32} {f_seed : Int32} {a_other : Nat → Int32} {a_kept : Nat → Int32} {x1 : Int32} {post : Int32 → (Nat → Int32) → (Nat → Int32) → (Int32) → (Int32) → (Int32) → (Int32) → (Int64) → (Int32) → (Int32) → (Int32) → (Nat → Int32) → (Nat → Int32) → (Int32) → (Int32) → (Int32) → Prop} (hw : q_m_readText_0 a_tape a_fault a_faultPlace f_reached f_length f_begins f_sort f_value f_word f_wrongAt f_laterFault f_laterPlace a_told a_read f_farHut f_farSinger f_good x1 post) : Met l yX11_readText (Cond.code yX11_readText cX11_readText 3 (some .boolean) :: zb) rm_m_readText (va_Pc [.ref q, .int x1] (fun U => mW E q f_code a_tape a_size a_fault a_faultPlace a_many a_lands a_evenings a_sights a_choirs f_reached f_length f_begins f_sort f_value f_word f_wrongAt f_laterFault f_laterPlace a_told a_read f_farHut f_farSinger f_good f_land f_huts f_singers f_evening a_at a_knows a_climbed a_snow a_level f_begun f_minute f_avalanches a_run a_covers a_routes a_longest a_steep a_laid a_far f_sight a_runs f_choir f_voices a_rest a_wins f_seed a_other a_kept U.heap ∧ zK E U)) (zQi (S := (Nat → Int32) × (Nat → Int32) × (Int32) × (Int32) × (Int32) × (Int32) × (Int64) × (Int32) × (Int32) × (Int32) × (Nat → Int32) × (Nat → Int32) × (Int32) × (Int32) × (Int32)) (fun r u => post r u.1 u.2.1 u.2.2.1 u.2.2.2.1 u.2.2.2.2.1 u.2.2.2.2.2.1 u.2.2.2.2.2.2.1 u.2.2.2.2.2.2.2.1 u.2.2.2.2.2.2.2.2.1 u.2.2.2.2.2.2.2.2.2.1 u.2.2.2.2.2.2.2.2.2.2.1 u.2.2.2.2.2.2.2.2.2.2.2.1 u.2.2.2.2.2.2.2.2.2.2.2.2.1 u.2.2.2.2.2.2.2.2.2.2.2.2.2.1 u.2.2.2.2.2.2.2.2.2.2.2.2.2.2) (fun u H => mW E q f_code a_tape a_size u.1 u.2.1 a_many a_lands a_evenings a_sights a_choirs u.2.2.1 f_length u.2.2.2.1 u.2.2.2.2.1 u.2.2.2.2.2.1 u.2.2.2.2.2.2.1 u.2.2.2.2.2.2.2.1 u.2.2.2.2.2.2.2.2.1 u.2.2.2.2.2.2.2.2.2.1 u.2.2.2.2.2.2.2.2.2.2.1 u.2.2.2.2.2.2.2.2.2.2.2.1 u.2.2.2.2.2.2.2.2.2.2.2.2.1 u.2.2.2.2.2.2.2.2.2.2.2.2.2.1 u.2.2.2.2.2.2.2.2.2.2.2.2.2.2 f_land f_huts f_singers f_evening a_at a_knows a_climbed a_snow a_level f_begun f_minute f_avalanches a_run a_covers a_routes a_longest a_steep a_laid a_far f_sight a_runs f_choir f_voices a_rest a_wins f_seed a_other a_kept H) (mA q)) 0 0 (mA q) := by
  refine Met.ofW (cc := cX11_readText) (maxL := 3) (ret := (some .boolean)) (by decide) rfl ?_
  intro p e s m args below meth c s₁ B hml hv
  obtain ⟨rfl, hM, hK⟩ := hv
  have zc := zc_of B hml
  have hl := lv_entry ([.ref q, .int x1]) (n := 3) (Nat.le_of_ble_eq_true rfl)
  rw [lg_entry_eq]
  generalize (lg_sl ([.ref q, .int x1]) ++ List.replicate (3 - (lg_sl ([.ref q, .int x1])).length) Slot.unset).toArray = ls at hl ⊢
  have hl : lv_has ls 3 [(0, .ref q), (1, .int x1)] := hl
  exact t_m_readText_0 zc hK hM va_S.rf (lv_sub hl [0, 1] rfl) hw
end
