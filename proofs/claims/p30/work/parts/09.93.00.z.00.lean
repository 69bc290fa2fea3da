section
-- z_X4_isLetter
abbrev rm_z_X4_isLetter : Room := { frames := 0, cells := 0, slots := 0, locals := 0 }
def q_z_X4_isLetter_0 (x0 : Int32) (post : Int32 → Prop) : Prop :=
  (x0 < (97 : Int32) → (post (0 : Int32))) ∧ (¬ x0 < (97 : Int32) → (((122 : Int32) < x0 → (post (0 : Int32))) ∧ (¬ (122 : Int32) < x0 → (post (1 : Int32)))))
set_option maxRecDepth 20000 in
theorem t_z_X4_isLetter_0 {p : Program} {l : Launch} {e : Env} {s : State} {m : MethodId} {args : Array Value} {below : List Frame} {meth : Method} {c : Code} {post : Int32 → Prop} {x0 : Int32} {ls : Array Slot}
    (zc : zC p s m args meth c cX4_isLetter 1 RX4 (some .boolean))
    (hl : lv_has ls 1 [(0, .int x0)])
    (hw : q_z_X4_isLetter_0 x0 post) :
    W p l e rm_z_X4_isLetter s m args below meth c s.heap [] 0 0 (MQ below (vp_Si post) args s 0 0 (fun _ => False)) (F0 m 0 ls []) := by
  have hx := zc.1
  have hb := zc.2.1
  refine lv_iload_n hx hb dX4_isLetter_0 rfl (lv_at hl 0 rfl) ?_
  refine lv_bipush (v := (97 : Int32)) hx hb dX4_isLetter_1 (by decide) ?_
  refine lv_icmp_lt (tgt := 16) hx hb dX4_isLetter_3 (by decide) (fun hc => ?_) (fun hc => ?_)
  · have hw := hw.1 hc
    refine lv_iconst (v := (0 : Int32)) hx hb dX4_isLetter_16 (by decide) ?_
    exact zret_z zc rfl hw dX4_isLetter_17
  · have hw := hw.2 hc
    refine lv_iload_n hx hb dX4_isLetter_6 rfl (lv_at hl 0 rfl) ?_
    refine lv_bipush (v := (122 : Int32)) hx hb dX4_isLetter_7 (by decide) ?_
    refine lv_icmp_gt (tgt := 16) hx hb dX4_isLetter_9 (by decide) (fun hc => ?_) (fun hc => ?_)
    · have hw := hw.1 hc
      refine lv_iconst (v := (0 : Int32)) hx hb dX4_isLetter_16 (by decide) ?_
      exact zret_z zc rfl hw dX4_isLetter_17
    · have hw := hw.2 hc
      refine lv_iconst (v := (1 : Int32)) hx hb dX4_isLetter_12 (by decide) ?_
      refine lv_goto (tgt := 17) hx hb dX4_isLetter_13 (by decide) ?_
      exact zret_z zc rfl hw dX4_isLetter_17
set_option maxRecDepth 20000 in
theorem c_z_X4_isLetter (l : Launch) {x0 : Int32} {post : Int32 → Prop} (hw : q_z_X4_isLetter_0 x0 post) : Met l yX4_isLetter (Cond.code yX4_isLetter cX4_isLetter 1 (some .boolean) :: zb) rm_z_X4_isLetter (va_Pc [.int x0] (fun _ => True)) (vp_Si post) 0 0 (fun _ => False) := by
  refine Met.ofW (cc := cX4_isLetter) (maxL := 1) (ret := (some .boolean)) (by decide) rfl ?_
  intro p e s m args below meth c s₁ B hml hv
  obtain ⟨rfl, -⟩ := hv
  have zc := zc_of B hml
  have hl := lv_entry ([.int x0]) (n := 1) (Nat.le_of_ble_eq_true rfl)
  rw [lg_entry_eq]
  generalize (lg_sl ([.int x0]) ++ List.replicate (1 - (lg_sl ([.int x0])).length) Slot.unset).toArray = ls at hl ⊢
  have hl : lv_has ls 1 [(0, .int x0)] := hl
  exact t_z_X4_isLetter_0 zc (lv_sub hl [0] rfl) hw
-- z_X4_isDigit
abbrev rm_z_X4_isDigit : Room := { frames := 0, cells := 0, slots := 0, locals := 0 }
def q_z_X4_isDigit_0 (x0 : Int32) (post : Int32 → Prop) : Prop :=
  (x0 < (48 : Int32) → (post (0 : Int32))) ∧ (¬ x0 < (48 : Int32) → (((57 : Int32) < x0 → (post (0 : Int32))) ∧ (¬ (57 : Int32) < x0 → (post (1 : Int32)))))
set_option maxRecDepth 20000 in
theorem t_z_X4_isDigit_0 {p : Program} {l : Launch} {e : Env} {s : State} {m : MethodId} {args : Array Value} {below : List Frame} {meth : Method} {c : Code} {post : Int32 → Prop} {x0 : Int32} {ls : Array Slot}
    (zc : zC p s m args meth c cX4_isDigit 1 RX4 (some .boolean))
    (hl : lv_has ls 1 [(0, .int x0)])
    (hw : q_z_X4_isDigit_0 x0 post) :
    W p l e rm_z_X4_isDigit s m args below meth c s.heap [] 0 0 (MQ below (vp_Si post) args s 0 0 (fun _ => False)) (F0 m 0 ls []) := by
  have hx := zc.1
  have hb := zc.2.1
  refine lv_iload_n hx hb dX4_isDigit_0 rfl (lv_at hl 0 rfl) ?_
  refine lv_bipush (v := (48 : Int32)) hx hb dX4_isDigit_1 (by decide) ?_
  refine lv_icmp_lt (tgt := 16) hx hb dX4_isDigit_3 (by decide) (fun hc => ?_) (fun hc => ?_)
  · have hw := hw.1 hc
    refine lv_iconst (v := (0 : Int32)) hx hb dX4_isDigit_16 (by decide) ?_
    exact zret_z zc rfl hw dX4_isDigit_17
  · have hw := hw.2 hc
    refine lv_iload_n hx hb dX4_isDigit_6 rfl (lv_at hl 0 rfl) ?_
    refine lv_bipush (v := (57 : Int32)) hx hb dX4_isDigit_7 (by decide) ?_
    refine lv_icmp_gt (tgt := 16) hx hb dX4_isDigit_9 (by decide) (fun hc => ?_) (fun hc => ?_)
    · have hw := hw.1 hc
      refine lv_iconst (v := (0 : Int32)) hx hb dX4_isDigit_16 (by decide) ?_
      exact zret_z zc rfl hw dX4_isDigit_17
    · have hw := hw.2 hc
      refine lv_iconst (v := (1 : Int32)) hx hb dX4_isDigit_12 (by decide) ?_
      refine lv_goto (tgt := 17) hx hb dX4_isDigit_13 (by decide) ?_
      exact zret_z zc rfl hw dX4_isDigit_17
set_option maxRecDepth 20000 in
theorem c_z_X4_isDigit (l : Launch) {x0 : Int32} {post : Int32 → Prop} (hw : q_z_X4_isDigit_0 x0 post) : Met l yX4_isDigit (Cond.code yX4_isDigit cX4_isDigit 1 (some .boolean) :: zb) rm_z_X4_isDigit (va_Pc [.int x0] (fun _ => True)) (vp_Si post) 0 0 (fun _ => False) := by
  refine Met.ofW (cc := cX4_isDigit) (maxL := 1) (ret := (some .boolean)) (by decide) rfl ?_
  intro p e s m args below meth c s₁ B hml hv
  obtain ⟨rfl, -⟩ := hv
  have zc := zc_of B hml
  have hl := lv_entry ([.int x0]) (n := 1) (Nat.le_of_ble_eq_true rfl)
  rw [lg_entry_eq]
  generalize (lg_sl ([.int x0]) ++ List.replicate (1 - (lg_sl ([.int x0])).length) Slot.unset).toArray = ls at hl ⊢
  have hl : lv_has ls 1 [(0, .int x0)] := hl
  exact t_z_X4_isDigit_0 zc (lv_sub hl [0] rfl) hw
-- z_X10_nearOrNone
abbrev rm_z_X10_nearOrNone : Room := { frames := 0, cells := 0, slots := 0, locals := 0 }
def q_z_X10_nearOrNone_0 (x0 : Int32) (post : Int32 → Prop) : Prop :=
  ((1000 : Int32) ≤ x0 → (post (-1 : Int32))) ∧ (¬ (1000 : Int32) ≤ x0 → (post x0))
set_option maxRecDepth 20000 in
theorem t_z_X10_nearOrNone_0 {p : Program} {l : Launch} {e : Env} {s : State} {m : MethodId} {args : Array Value} {below : List Frame} {meth : Method} {c : Code} {post : Int32 → Prop} {x0 : Int32} {ls : Array Slot}
    (zc : zC p s m args meth c cX10_nearOrNone 1 RX10 (some .int))
    (hl : lv_has ls 1 [(0, .int x0)])
    (hw : q_z_X10_nearOrNone_0 x0 post) :
    W p l e rm_z_X10_nearOrNone s m args below meth c s.heap [] 0 0 (MQ below (vp_Si post) args s 0 0 (fun _ => False)) (F0 m 0 ls []) := by
  have hx := zc.1
  have hb := zc.2.1
  refine lv_iload_n hx hb dX10_nearOrNone_0 rfl (lv_at hl 0 rfl) ?_
  refine lv_sipush (v := (1000 : Int32)) hx hb dX10_nearOrNone_1 (by decide) ?_
  refine lv_icmp_ge (tgt := 11) hx hb dX10_nearOrNone_4 (by decide) (fun hc => ?_) (fun hc => ?_)
  · have hw := hw.1 hc
    refine lv_iconst (v := (-1 : Int32)) hx hb dX10_nearOrNone_11 (by decide) ?_
    exact zret_i zc hw dX10_nearOrNone_12
  · have hw := hw.2 hc
    refine lv_iload_n hx hb dX10_nearOrNone_7 rfl (lv_at hl 0 rfl) ?_
    refine lv_goto (tgt := 12) hx hb dX10_nearOrNone_8 (by decide) ?_
    exact zret_i zc hw dX10_nearOrNone_12
set_option maxRecDepth 20000 in
theorem c_z_X10_nearOrNone (l : Launch) {x0 : Int32} {post : Int32 → Prop} (hw : q_z_X10_nearOrNone_0 x0 post) : Met l yX10_nearOrNone (Cond.code yX10_nearOrNone cX10_nearOrNone 1 (some .int) :: zb) rm_z_X10_nearOrNone (va_Pc [.int x0] (fun _ => True)) (vp_Si post) 0 0 (fun _ => False) := by
  refine Met.ofW (cc := cX10_nearOrNone) (maxL := 1) (ret := (some .int)) (by decide) rfl ?_
  intro p e s m args below meth c s₁ B hml hv
  obtain ⟨rfl, -⟩ := hv
  have zc := zc_of B hml
  have hl := lv_entry ([.int x0]) (n := 1) (Nat.le_of_ble_eq_true rfl)
  rw [lg_entry_eq]
  generalize (lg_sl ([.int x0]) ++ List.replicate (1 - (lg_sl ([.int x0])).length) Slot.unset).toArray = ls at hl ⊢
  have hl : lv_has ls 1 [(0, .int x0)] := hl
  exact t_z_X10_nearOrNone_0 zc (lv_sub hl [0] rfl) hw
-- z_X10_sharedDivisor
abbrev rm_z_X10_sharedDivisor : Room := { frames := 0, cells := 0, slots := 0, locals := 0 }
def q_z_X10_sharedDivisor_0 (x0 : Int32) (post : Int32 → Prop) : Prop :=
  (¬ (x0 - x0 / (10 : Int32) * (10 : Int32)) = 0 → ((¬ (x0 - x0 / (5 : Int32) * (5 : Int32)) = 0 → ((¬ (x0 - x0 / (2 : Int32) * (2 : Int32)) = 0 → (post (1 : Int32))) ∧ ((x0 - x0 / (2 : Int32) * (2 : Int32)) = 0 → (post (2 : Int32))))) ∧ ((x0 - x0 / (5 : Int32) * (5 : Int32)) = 0 → (post (5 : Int32))))) ∧ ((x0 - x0 / (10 : Int32) * (10 : Int32)) = 0 → (post (10 : Int32)))
set_option maxRecDepth 20000 in
theorem t_z_X10_sharedDivisor_0 {p : Program} {l : Launch} {e : Env} {s : State} {m : MethodId} {args : Array Value} {below : List Frame} {meth : Method} {c : Code} {post : Int32 → Prop} {x0 : Int32} {ls : Array Slot}
    (zc : zC p s m args meth c cX10_sharedDivisor 1 RX10 (some .int))
    (hl : lv_has ls 1 [(0, .int x0)])
    (hw : q_z_X10_sharedDivisor_0 x0 post) :
    W p l e rm_z_X10_sharedDivisor s m args below meth c s.heap [] 0 0 (MQ below (vp_Si post) args s 0 0 (fun _ => False)) (F0 m 0 ls []) := by
  have hx := zc.1
  have hb := zc.2.1
  refine lv_iload_n hx hb dX10_sharedDivisor_0 rfl (lv_at hl 0 rfl) ?_
  refine lv_bipush (v := (10 : Int32)) hx hb dX10_sharedDivisor_1 (by decide) ?_
  refine lv_irem hx hb dX10_sharedDivisor_3 (by decide) ?_
  refine lv_if_ne (tgt := 10) hx hb dX10_sharedDivisor_4 (by decide) (fun hc => ?_) (fun hc => ?_)
  · have hw := hw.1 hc
    refine lv_iload_n hx hb dX10_sharedDivisor_10 rfl (lv_at hl 0 rfl) ?_
    refine lv_iconst (v := (5 : Int32)) hx hb dX10_sharedDivisor_11 (by decide) ?_
    refine lv_irem hx hb dX10_sharedDivisor_12 (by decide) ?_
    refine lv_if_ne (tgt := 18) hx hb dX10_sharedDivisor_13 (by decide) (fun hc => ?_) (fun hc => ?_)
    · have hw := hw.1 hc
      refine lv_iload_n hx hb dX10_sharedDivisor_18 rfl (lv_at hl 0 rfl) ?_
      refine lv_iconst (v := (2 : Int32)) hx hb dX10_sharedDivisor_19 (by decide) ?_
      refine lv_irem hx hb dX10_sharedDivisor_20 (by decide) ?_
      refine lv_if_ne (tgt := 28) hx hb dX10_sharedDivisor_21 (by decide) (fun hc => ?_) (fun hc => ?_)
      · have hw := hw.1 hc
        refine lv_iconst (v := (1 : Int32)) hx hb dX10_sharedDivisor_28 (by decide) ?_
        exact zret_i zc hw dX10_sharedDivisor_29
      · have hw := hw.2 hc
        refine lv_iconst (v := (2 : Int32)) hx hb dX10_sharedDivisor_24 (by decide) ?_
        refine lv_goto (tgt := 29) hx hb dX10_sharedDivisor_25 (by decide) ?_
        exact zret_i zc hw dX10_sharedDivisor_29
    · have hw := hw.2 hc
      refine lv_iconst (v := (5 : Int32)) hx hb dX10_sharedDivisor_16 (by decide) ?_
      exact zret_i zc hw dX10_sharedDivisor_17
  · have hw := hw.2 hc
    refine lv_bipush (v := (10 : Int32)) hx hb dX10_sharedDivisor_7 (by decide) ?_
    exact zret_i zc hw dX10_sharedDivisor_9
set_option maxRecDepth 20000 in
theorem c_z_X10_sharedDivisor (l : Launch) {x0 : Int32} {post : Int32 → Prop} (hw : q_z_X10_sharedDivisor_0 x0 post) : Met l yX10_sharedDivisor (Cond.code yX10_sharedDivisor cX10_sharedDivisor 1 (some .int) :: zb) rm_z_X10_sharedDivisor (va_Pc [.int x0] (fun _ => True)) (vp_Si post) 0 0 (fun _ => False) := by
  refine Met.ofW (cc := cX10_sharedDivisor) (maxL := 1) (ret := (some .int)) (by decide) rfl ?_
  intro p e s m args below meth c s₁ B hml hv
  obtain ⟨rfl, -⟩ := hv
  have zc := zc_of B hml
  have hl := lv_entry ([.int x0]) (n := 1) (Nat.le_of_ble_eq_true rfl)
  rw [lg_entry_eq]
  generalize (lg_sl ([.int x0]) ++ List.replicate (1 - (lg_sl ([.int x0])).length) Slot.unset).toArray = ls at hl ⊢
  have hl : lv_has ls 1 [(0, .int x0)] := hl
  exact t_z_X10_sharedDivisor_0 zc (lv_sub hl [0] rfl) hw
-- z_X10_power
abbrev rm_z_X10_power : Room := { frames := 0, cells := 0, slots := 0, locals := 0 }
def q_z_X10_power_5 (x0 : Int32) (x1 : Int32) (x2 : Int64) (x4 : Int32) (post : Int64 → Prop) : Prop :=
  ∀ P5 : Int64 → Int32 → Prop, (∀ (x2 : Int64) (x4 : Int32), ((x1 ≤ x4 → (post x2)) ∧ (¬ x1 ≤ x4 → (∀ v_1 : Int64, v_1 = (x2 * (Int32.toInt64 x0)) → (∀ v_2 : Int32, v_2 = x4 + (1 : Int32) → (P5 v_1 v_2))))) → P5 x2 x4) → P5 x2 x4
def q_z_X10_power_0 (x0 : Int32) (x1 : Int32) (post : Int64 → Prop) : Prop :=
  q_z_X10_power_5 x0 x1 (1 : Int64) (0 : Int32) post
set_option maxRecDepth 20000 in
theorem t_z_X10_power_5 {p : Program} {l : Launch} {e : Env} {s : State} {m : MethodId} {args : Array Value} {below : List Frame} {meth : Method} {c : Code} {post : Int64 → Prop} {x0 : Int32} {x1 : Int32} {x2 : Int64} {x4 : Int32} {ls : Array Slot}
    (zc : zC p s m args meth c cX10_power 5 RX10 (some .long))
    (hl : lv_has ls 5 [(0, .int x0), (1, .int x1), (2, .long x2), (4, .int x4)])
    (hw : q_z_X10_power_5 x0 x1 x2 x4 post) :
    W p l e rm_z_X10_power s m args below meth c s.heap [] 0 0 (MQ below (vp_Sl post) args s 0 0 (fun _ => False)) (F0 m 5 ls []) := by
  have hx := zc.1
  have hb := zc.2.1
  refine hw (fun x2 x4 => ∀ (ls : Array Slot), lv_has ls 5 [(0, .int x0), (1, .int x1), (2, .long x2), (4, .int x4)] → W p l e rm_z_X10_power s m args below meth c s.heap [] 0 0 (MQ below (vp_Sl post) args s 0 0 (fun _ => False)) (F0 m 5 ls [])) ?_ _ hl
  intro x2 x4 hw ls hl
  refine lv_iload hx hb dX10_power_5 (lv_at hl 3 rfl) ?_
  refine lv_iload_n hx hb dX10_power_7 rfl (lv_at hl 1 rfl) ?_
  refine lv_icmp_ge (tgt := 22) hx hb dX10_power_8 (by decide) (fun hc => ?_) (fun hc => ?_)
  · have hw := hw.1 hc
    refine lv_lload_n hx hb dX10_power_22 rfl (lv_at hl 2 rfl) ?_
    exact zret_l zc hw dX10_power_23
  · have hw := hw.2 hc
    refine lv_lload_n hx hb dX10_power_11 rfl (lv_at hl 2 rfl) ?_
    refine lv_iload_n hx hb dX10_power_12 rfl (lv_at hl 0 rfl) ?_
    refine lv_i2l hx hb dX10_power_13 rfl ?_
    refine lv_lmul hx hb dX10_power_14 ?_
    refine lv_topl (fun v_1 ev_1 => ?_)
    have hw := hw v_1 ev_1
    refine lv_lstore_n (lv' := [(2, .long v_1), (0, .int x0), (1, .int x1), (4, .int x4)]) hx hb dX10_power_15 rfl hl (by decide) rfl (fun ls hl => ?_)
    obtain ⟨v_2, ev_2⟩ : ∃ y : Int32, y = x4 + (1 : Int32) := ⟨_, rfl⟩
    have hw := hw v_2 ev_2
    refine lv_iinc (v := v_2) (k := 3) (lv' := [(4, .int v_2), (2, .long v_1), (0, .int x0), (1, .int x1)]) hx hb dX10_power_16 hl rfl (by rw [ev_2]; rfl) (by decide) rfl (fun ls hl => ?_)
    refine lv_goto (tgt := 5) hx hb dX10_power_19 (by decide) ?_
    exact hw _ (lv_sub hl [2, 3, 1, 0] rfl)
set_option maxRecDepth 20000 in
theorem t_z_X10_power_0 {p : Program} {l : Launch} {e : Env} {s : State} {m : MethodId} {args : Array Value} {below : List Frame} {meth : Method} {c : Code} {post : Int64 → Prop} {x0 : Int32} {x1 : Int32} {ls : Array Slot}
    (zc : zC p s m args meth c cX10_power 5 RX10 (some .long))
    (hl : lv_has ls 5 [(0, .int x0), (1, .int x1)])
    (hw : q_z_X10_power_0 x0 x1 post) :
    W p l e rm_z_X10_power s m args below meth c s.heap [] 0 0 (MQ below (vp_Sl post) args s 0 0 (fun _ => False)) (F0 m 0 ls []) := by
  have hx := zc.1
  have hb := zc.2.1
  refine lv_lconst (v := (1 : Int64)) hx hb dX10_power_0 (by decide) ?_
  refine lv_lstore_n (lv' := [(2, .long (1 : Int64)), (0, .int x0), (1, .int x1)]) hx hb dX10_power_1 rfl hl (by decide) rfl (fun ls hl => ?_)
  refine lv_iconst (v := (0 : Int32)) hx hb dX10_power_2 (by decide) ?_
  refine lv_istore (lv' := [(4, .int (0 : Int32)), (2, .long (1 : Int64)), (0, .int x0), (1, .int x1)]) hx hb dX10_power_3 hl (by decide) rfl (fun ls hl => ?_)
  exact t_z_X10_power_5 zc  (lv_sub hl [2, 3, 1, 0] rfl) hw
set_option maxRecDepth 20000 in
theorem c_z_X10_power (l : Launch) {x0 : Int32} {x1 : Int32} {post : Int64 → Prop} (hw : q_z_X10_power_0 x0 x1 post) : Met l yX10_power (Cond.code yX10_power cX10_power 5 (some .long) :: zb) rm_z_X10_power (va_Pc [.int x0, .int x1] (fun _ => True)) (vp_Sl post) 0 0 (fun _ => False) := by
  refine Met.ofW (cc := cX10_power) (maxL := 5) (ret := (some .long)) (by decide) rfl ?_
  intro p e s m args below meth c s₁ B hml hv
  obtain ⟨rfl, -⟩ := hv
  have zc := zc_of B hml
  have hl := lv_entry ([.int x0, .int x1]) (n := 5) (Nat.le_of_ble_eq_true rfl)
  rw [lg_entry_eq]
  generalize (lg_sl ([.int x0, .int x1]) ++ List.replicate (5 - (lg_sl ([.int x0, .int x1])).length) Slot.unset).toArray = ls at hl ⊢
  have hl : lv_has ls 5 [(0, .int x0), (1, .int x1)] := hl
  exact t_z_X10_power_0 zc (lv_sub hl [0, 1] rfl) hw
end
section
-- wc_X0_stepBetween
abbrev rm_wc_X0_stepBetween : Room := { frames := 1, cells := 0, slots := 0, locals := 40 }
def q_wc_X0_stepBetween_0 (a_parts : Nat → Int32) (a_heights : Nat → Int32) (x1 : Int32) (x2 : Int32) (post : Int32 → Prop) : Prop :=
  vp_in x1 9 ∧ (vp_in x2 9 ∧ ((¬ (a_parts (Int32.toNatClampNeg x1)) = (a_parts (Int32.toNatClampNeg x2)) → (vp_in x2 9 ∧ (vp_in x1 9 ∧ (post (if (0 : Int32) < ((a_heights (Int32.toNatClampNeg x2)) - (a_heights (Int32.toNatClampNeg x1))) then ((a_heights (Int32.toNatClampNeg x2)) - (a_heights (Int32.toNatClampNeg x1))) else (0 : Int32)))))) ∧ ((a_parts (Int32.toNatClampNeg x1)) = (a_parts (Int32.toNatClampNeg x2)) → (post (1000 : Int32)))))
set_option maxRecDepth 20000 in
theorem t_wc_X0_stepBetween_0 {p : Program} {l : Launch} {e : Env} {s : State} {m : MethodId} {args : Array Value} {below : List Frame} {meth : Method} {c : Code} {E : zE} {qc : Nat} {f_voices : Int32} {f_step : Int32} {a_parts : Nat → Int32} {a_heights : Nat → Int32} {post : Int32 → Prop} {x1 : Int32} {x2 : Int32} {ls : Array Slot}
    (zc : zC p s m args meth c cX0_stepBetween 3 RX0 (some .int))
    (hK : zK E s)
    (hM : wcW E qc f_voices f_step a_parts a_heights s.heap)
    (hl : lv_has ls 3 [(0, .ref qc), (1, .int x1), (2, .int x2)])
    (hw : q_wc_X0_stepBetween_0 a_parts a_heights x1 x2 post) :
    W p l e rm_wc_X0_stepBetween s m args below meth c s.heap [] 0 0 (MQ below (vp_Si post) args s 0 0 (fun _ => False)) (F0 m 0 ls []) := by
  have hx := zc.1
  have hb := zc.2.1
  refine lv_aload_n hx hb dX0_stepBetween_0 rfl (lv_at hl 0 rfl) ?_
  refine wcg_0_9_0 zc hK hM dX0_stepBetween_1 ?_
  refine lv_iload_n hx hb dX0_stepBetween_4 rfl (lv_at hl 1 rfl) ?_
  refine wcld_1 zc hK hM hw.1 dX0_stepBetween_5 ?_
  have hw := hw.2
  refine lv_aload_n hx hb dX0_stepBetween_6 rfl (lv_at hl 0 rfl) ?_
  refine wcg_0_9_0 zc hK hM dX0_stepBetween_7 ?_
  refine lv_iload_n hx hb dX0_stepBetween_10 rfl (lv_at hl 2 rfl) ?_
  refine wcld_1 zc hK hM hw.1 dX0_stepBetween_11 ?_
  have hw := hw.2
  refine lv_icmp_ne (tgt := 21) hx hb dX0_stepBetween_12 (by decide) (fun hc => ?_) (fun hc => ?_)
  · have hw := hw.1 hc
    refine lv_iconst (v := (0 : Int32)) hx hb dX0_stepBetween_21 (by decide) ?_
    refine lv_aload_n hx hb dX0_stepBetween_22 rfl (lv_at hl 0 rfl) ?_
    refine wcg_0_15_0 zc hK hM dX0_stepBetween_23 ?_
    refine lv_iload_n hx hb dX0_stepBetween_26 rfl (lv_at hl 2 rfl) ?_
    refine wcld_2 zc hK hM hw.1 dX0_stepBetween_27 ?_
    have hw := hw.2
    refine lv_aload_n hx hb dX0_stepBetween_28 rfl (lv_at hl 0 rfl) ?_
    refine wcg_0_15_0 zc hK hM dX0_stepBetween_29 ?_
    refine lv_iload_n hx hb dX0_stepBetween_32 rfl (lv_at hl 1 rfl) ?_
    refine wcld_2 zc hK hM hw.1 dX0_stepBetween_33 ?_
    have hw := hw.2
    refine lv_isub hx hb dX0_stepBetween_34 ?_
    refine va_mmax hx hb (zc.2.2.1.trans hl.1.symm) zc.2.2.2.1 (zc.2.2.2.2.1 _ km_0_31) (zc.2.2.2.2.1 _ k_mmaxs) (zc.2.2.2.2.1 _ k_mini) (zc.2.2.2.2.1 _ k_mmaxc) (Nat.le_of_ble_eq_true rfl) (Nat.le_of_ble_eq_true rfl) (Nat.zero_le _) (Nat.zero_le _) dX0_stepBetween_35 ?_
    exact zret_i zc hw dX0_stepBetween_38
  · have hw := hw.2 hc
    refine lv_sipush (v := (1000 : Int32)) hx hb dX0_stepBetween_15 (by decide) ?_
    refine lv_goto (tgt := 38) hx hb dX0_stepBetween_18 (by decide) ?_
    exact zret_i zc hw dX0_stepBetween_38
set_option maxRecDepth 20000 in
theorem c_wc_X0_stepBetween (l : Launch) {E : zE} {qc : Nat} {f_voices : Int32} {f_step : Int32} {a_parts : Nat → Int32} {a_heights : Nat → Int32} {x1 : Int32} {x2 : Int32} {post : Int32 → Prop} (hw : q_wc_X0_stepBetween_0 a_parts a_heights x1 x2 post) : Met l yX0_stepBetween (Cond.code yX0_stepBetween cX0_stepBetween 3 (some .int) :: zb) rm_wc_X0_stepBetween (va_Pc [.ref qc, .int x1, .int x2] (fun U => wcW E qc f_voices f_step a_parts a_heights U.heap ∧ zK E U)) (vp_Si post) 0 0 (fun _ => False) := by
  refine Met.ofW (cc := cX0_stepBetween) (maxL := 3) (ret := (some .int)) (by decide) rfl ?_
  intro p e s m args below meth c s₁ B hml hv
  obtain ⟨rfl, hM, hK⟩ := hv
  have zc := zc_of B hml
  have hl := lv_entry ([.ref qc, .int x1, .int x2]) (n := 3) (Nat.le_of_ble_eq_true rfl)
  rw [lg_entry_eq]
  generalize (lg_sl ([.ref qc, .int x1, .int x2]) ++ List.replicate (3 - (lg_sl ([.ref qc, .int x1, .int x2])).length) Slot.unset).toArray = ls at hl ⊢
  have hl : lv_has ls 3 [(0, .ref qc), (1, .int x1), (2, .int x2)] := hl
  exact t_wc_X0_stepBetween_0 zc hK hM (lv_sub hl [0, 1, 2] rfl) hw
end
section
-- wp_X7_together_9_2
abbrev rm_wp_X7_together_9_2 : Room := { frames := 1, cells := 0, slots := 0, locals := 40 }
def q_wp_X7_together_9_2_59 (P11 : Int32 → Int32 → Int32 → Prop) (a_walked : Nat → Int32) (lf_huts : Int32) (x3 : Int32) (x4 : Int32) (x5 : Int32) (x6 : Int32) (x7 : Int32) (x8 : Int32) (post : Int32 → Prop) : Prop :=
  ∀ v_1 : Int32, v_1 = x8 + (1 : Int32) → (P11 x6 x7 v_1)
def q_wp_X7_together_9_2_11 (a_walked : Nat → Int32) (lf_huts : Int32) (x3 : Int32) (x4 : Int32) (x5 : Int32) (x6 : Int32) (x7 : Int32) (x8 : Int32) (post : Int32 → Prop) : Prop :=
  ∀ P11 : Int32 → Int32 → Int32 → Prop, (∀ (x6 : Int32) (x7 : Int32) (x8 : Int32), ((lf_huts ≤ x8 → ((x6 = (-1 : Int32) → (post x6)) ∧ (¬ x6 = (-1 : Int32) → ((x5 = 0 → (post x6)) ∧ (¬ x5 = 0 → (post x7)))))) ∧ (¬ lf_huts ≤ x8 → (vp_in ((x3 * (9 : Int32)) + x8) 81 ∧ (vp_in ((x4 * (9 : Int32)) + x8) 81 ∧ (∀ v_1 : Int32, v_1 = (if (a_walked (Int32.toNatClampNeg ((x3 * (9 : Int32)) + x8))) < (a_walked (Int32.toNatClampNeg ((x4 * (9 : Int32)) + x8))) then (a_walked (Int32.toNatClampNeg ((x4 * (9 : Int32)) + x8))) else (a_walked (Int32.toNatClampNeg ((x3 * (9 : Int32)) + x8)))) → ((x7 ≤ v_1 → (q_wp_X7_together_9_2_59 P11 a_walked lf_huts x3 x4 x5 x6 x7 x8 post)) ∧ (¬ x7 ≤ v_1 → (q_wp_X7_together_9_2_59 P11 a_walked lf_huts x3 x4 x5 x8 v_1 x8 post)))))))) → P11 x6 x7 x8) → P11 x6 x7 x8
def q_wp_X7_together_9_2_0 (a_walked : Nat → Int32) (lf_huts : Int32) (x3 : Int32) (x4 : Int32) (x5 : Int32) (post : Int32 → Prop) : Prop :=
  q_wp_X7_together_9_2_11 a_walked lf_huts x3 x4 x5 (-1 : Int32) (1000 : Int32) (0 : Int32) post
set_option maxRecDepth 20000 in
theorem t_wp_X7_together_9_2_59 {p : Program} {l : Launch} {e : Env} {s : State} {m : MethodId} {args : Array Value} {below : List Frame} {meth : Method} {c : Code} {E : zE} {qp ql qs : Nat} {a_heard : Nat → Int32} {a_walked : Nat → Int32} {a_total : Nat → Int32} {a_longest : Nat → Int32} {a_next : Nat → Int32} {a_cover : Nat → Int32} {a_now : Nat → Int32} {a_then : Nat → Int32} {lf_huts : Int32} {lf_singers : Int32} {lf_villages : Int32} {lf_dams : Int32} {lf_echoes : Int32} {lf_deep : Int32} {lf_slide : Int32} {la_heights : Nat → Int32} {la_ladders : Nat → Int32} {la_minutes : Nat → Int32} {la_echoFrom : Nat → Int32} {la_echoTo : Nat → Int32} {la_homes : Nat → Int32} {la_talls : Nat → Int32} {la_known : Nat → Int32} {sf_facts : Int32} {sa_heard : Nat → Int32} {sa_huts : Nat → Int32} {sa_minutes : Nat → Int32} {P11 : Int32 → Int32 → Int32 → Prop} {post : Int32 → Prop} {x3 : Int32} {x4 : Int32} {x5 : Int32} {x6 : Int32} {x7 : Int32} {x8 : Int32} {ls : Array Slot}
    (zc : zC p s m args meth c cX7_together 10 RX7 (some .int))
    (hK : zK E s)
    (hM : wpW E qp ql qs a_heard a_walked a_total a_longest a_next a_cover a_now a_then lf_huts lf_singers lf_villages lf_dams lf_echoes lf_deep lf_slide la_heights la_ladders la_minutes la_echoFrom la_echoTo la_homes la_talls la_known sf_facts sa_heard sa_huts sa_minutes s.heap)
    (hP11 : ∀ (x6 : Int32) (x7 : Int32) (x8 : Int32) (ls : Array Slot), P11 x6 x7 x8 → lv_has ls 10 [(1, .ref ql), (2, .ref (qp + 2)), (3, .int x3), (4, .int x4), (5, .int x5), (6, .int x6), (7, .int x7), (8, .int x8)] → W p l e rm_wp_X7_together_9_2 s m args below meth c s.heap [] 0 0 (MQ below (vp_Si post) args s 0 0 (fun _ => False)) (F0 m 11 ls []))
    (hl : lv_has ls 10 [(1, .ref ql), (2, .ref (qp + 2)), (3, .int x3), (4, .int x4), (5, .int x5), (6, .int x6), (7, .int x7), (8, .int x8)])
    (hw : q_wp_X7_together_9_2_59 P11 a_walked lf_huts x3 x4 x5 x6 x7 x8 post) :
    W p l e rm_wp_X7_together_9_2 s m args below meth c s.heap [] 0 0 (MQ below (vp_Si post) args s 0 0 (fun _ => False)) (F0 m 59 ls []) := by
  have hx := zc.1
  have hb := zc.2.1
  obtain ⟨v_1, ev_1⟩ : ∃ y : Int32, y = x8 + (1 : Int32) := ⟨_, rfl⟩
  have hw := hw v_1 ev_1
  refine lv_iinc (v := v_1) (k := 7) (lv' := [(8, .int v_1), (1, .ref ql), (2, .ref (qp + 2)), (3, .int x3), (4, .int x4), (5, .int x5), (6, .int x6), (7, .int x7)]) hx hb dX7_together_59 hl rfl (by rw [ev_1]; rfl) (by decide) rfl (fun ls hl => ?_)
  refine lv_goto (tgt := 11) hx hb dX7_together_62 (by decide) ?_
  exact hP11 _ _ _ _ hw (lv_sub hl [1, 2, 3, 4, 5, 6, 7, 0] rfl)
set_option maxRecDepth 20000 in
theorem t_wp_X7_together_9_2_11 {p : Program} {l : Launch} {e : Env} {s : State} {m : MethodId} {args : Array Value} {below : List Frame} {meth : Method} {c : Code} {E : zE} {qp ql qs : Nat} {a_heard : Nat → Int32} {a_walked : Nat → Int32} {a_total : Nat → Int32} {a_longest : Nat → Int32} {a_next : Nat → Int32} {a_cover : Nat → Int32} {a_now : Nat → Int32} {a_then : Nat → Int32} {lf_huts : Int32} {lf_singers : Int32} {lf_villages : Int32} {lf_dams : Int32} {lf_echoes : Int32} {lf_deep : Int32} {lf_slide : Int32} {la_heights : Nat → Int32} {la_ladders : Nat → Int32} {la_minutes : Nat → Int32} {la_echoFrom : Nat → Int32} {la_echoTo : Nat → Int32} {la_homes : Nat → Int32} {la_talls : Nat → Int32} {la_known : Nat → Int32} {sf_facts : Int32} {sa_heard : Nat → Int32} {sa_huts : Nat → Int32} {sa_minutes : Nat → Int32} {post : Int32 → Prop} {x3 : Int32} {x4 : Int32} {x5 : Int32} {x6 : Int32} {x7 : Int32} {x8 : Int32} {ls : Array Slot}
    (zc : zC p s m args meth c cX7_together 10 RX7 (some .int))
    (hK : zK E s)
    (hM : wpW E qp ql qs a_heard a_walked a_total a_longest a_next a_cover a_now a_then lf_huts lf_singers lf_villages lf_dams lf_echoes lf_deep lf_slide la_heights la_ladders la_minutes la_echoFrom la_echoTo la_homes la_talls la_known sf_facts sa_heard sa_huts sa_minutes s.heap)
    (hl : lv_has ls 10 [(1, .ref ql), (2, .ref (qp + 2)), (3, .int x3), (4, .int x4), (5, .int x5), (6, .int x6), (7, .int x7), (8, .int x8)])
    (hw : q_wp_X7_together_9_2_11 a_walked lf_huts x3 x4 x5 x6 x7 x8 post) :
    W p l e rm_wp_X7_together_9_2 s m args below meth c s.heap [] 0 0 (MQ below (vp_Si post) args s 0 0 (fun _ => False)) (F0 m 11 ls []) := by
  have hx := zc.1
  have hb := zc.2.1
  refine hw (fun x6 x7 x8 => ∀ (ls : Array Slot), lv_has ls 10 [(1, .ref ql), (2, .ref (qp + 2)), (3, .int x3), (4, .int x4), (5, .int x5), (6, .int x6), (7, .int x7), (8, .int x8)] → W p l e rm_wp_X7_together_9_2 s m args below meth c s.heap [] 0 0 (MQ below (vp_Si post) args s 0 0 (fun _ => False)) (F0 m 11 ls [])) ?_ _ hl
  intro x6 x7 x8 hw ls hl
  refine lv_iload hx hb dX7_together_11 (lv_at hl 7 rfl) ?_
  refine lv_aload_n hx hb dX7_together_13 rfl (lv_at hl 0 rfl) ?_
  refine wpg_7_42_9 zc hK hM dX7_together_14 ?_
  refine lv_icmp_ge (tgt := 65) hx hb dX7_together_17 (by decide) (fun hc => ?_) (fun hc => ?_)
  · have hw := hw.1 hc
    refine lv_iload hx hb dX7_together_65 (lv_at hl 5 rfl) ?_
    refine lv_iconst (v := (-1 : Int32)) hx hb dX7_together_67 (by decide) ?_
    refine lv_icmp_eq (tgt := 81) hx hb dX7_together_68 (by decide) (fun hc => ?_) (fun hc => ?_)
    · have hw := hw.1 hc
      refine lv_iload hx hb dX7_together_81 (lv_at hl 5 rfl) ?_
      exact zret_i zc hw dX7_together_83
    · have hw := hw.2 hc
      refine lv_iload hx hb dX7_together_71 (lv_at hl 4 rfl) ?_
      refine lv_if_eq (tgt := 81) hx hb dX7_together_73 (by decide) (fun hc => ?_) (fun hc => ?_)
      · have hw := hw.1 hc
        refine lv_iload hx hb dX7_together_81 (lv_at hl 5 rfl) ?_
        exact zret_i zc hw dX7_together_83
      · have hw := hw.2 hc
        refine lv_iload hx hb dX7_together_76 (lv_at hl 6 rfl) ?_
        refine lv_goto (tgt := 83) hx hb dX7_together_78 (by decide) ?_
        exact zret_i zc hw dX7_together_83
  · have hw := hw.2 hc
    refine lv_aload_n hx hb dX7_together_20 rfl (lv_at hl 1 rfl) ?_
    refine lv_iload_n hx hb dX7_together_21 rfl (lv_at hl 2 rfl) ?_
    refine lv_bipush (v := (9 : Int32)) hx hb dX7_together_22 (by decide) ?_
    refine lv_imul hx hb dX7_together_24 ?_
    refine lv_iload hx hb dX7_together_25 (lv_at hl 7 rfl) ?_
    refine lv_iadd hx hb dX7_together_27 ?_
    refine wpld_2 zc hK hM hw.1 dX7_together_28 ?_
    have hw := hw.2
    refine lv_aload_n hx hb dX7_together_29 rfl (lv_at hl 1 rfl) ?_
    refine lv_iload hx hb dX7_together_30 (lv_at hl 3 rfl) ?_
    refine lv_bipush (v := (9 : Int32)) hx hb dX7_together_32 (by decide) ?_
    refine lv_imul hx hb dX7_together_34 ?_
    refine lv_iload hx hb dX7_together_35 (lv_at hl 7 rfl) ?_
    refine lv_iadd hx hb dX7_together_37 ?_
    refine wpld_2 zc hK hM hw.1 dX7_together_38 ?_
    have hw := hw.2
    refine va_mmax hx hb (zc.2.2.1.trans hl.1.symm) zc.2.2.2.1 (zc.2.2.2.2.1 _ km_7_76) (zc.2.2.2.2.1 _ k_mmaxs) (zc.2.2.2.2.1 _ k_mini) (zc.2.2.2.2.1 _ k_mmaxc) (Nat.le_of_ble_eq_true rfl) (Nat.le_of_ble_eq_true rfl) (Nat.zero_le _) (Nat.zero_le _) dX7_together_39 ?_
    refine lv_topi (fun v_1 ev_1 => ?_)
    have hw := hw v_1 ev_1
    refine lv_istore (lv' := [(9, .int v_1), (1, .ref ql), (2, .ref (qp + 2)), (3, .int x3), (4, .int x4), (5, .int x5), (6, .int x6), (7, .int x7), (8, .int x8)]) hx hb dX7_together_42 hl (by decide) rfl (fun ls hl => ?_)
    refine lv_iload hx hb dX7_together_44 (lv_at hl 0 rfl) ?_
    refine lv_iload hx hb dX7_together_46 (lv_at hl 7 rfl) ?_
    refine lv_icmp_ge (tgt := 59) hx hb dX7_together_48 (by decide) (fun hc => ?_) (fun hc => ?_)
    · have hw := hw.1 hc
      exact t_wp_X7_together_9_2_59 zc hK hM (fun _ _ _ ls h hl => h ls hl) (lv_sub hl [1, 2, 3, 4, 5, 6, 7, 8] rfl) hw
    · have hw := hw.2 hc
      refine lv_iload hx hb dX7_together_51 (lv_at hl 8 rfl) ?_
      refine lv_istore (lv' := [(6, .int x8), (9, .int v_1), (1, .ref ql), (2, .ref (qp + 2)), (3, .int x3), (4, .int x4), (5, .int x5), (7, .int x7), (8, .int x8)]) hx hb dX7_together_53 hl (by decide) rfl (fun ls hl => ?_)
      refine lv_iload hx hb dX7_together_55 (lv_at hl 1 rfl) ?_
      refine lv_istore (lv' := [(7, .int v_1), (6, .int x8), (9, .int v_1), (1, .ref ql), (2, .ref (qp + 2)), (3, .int x3), (4, .int x4), (5, .int x5), (8, .int x8)]) hx hb dX7_together_57 hl (by decide) rfl (fun ls hl => ?_)
      exact t_wp_X7_together_9_2_59 zc hK hM (fun _ _ _ ls h hl => h ls hl) (lv_sub hl [3, 4, 5, 6, 7, 1, 0, 8] rfl) hw
set_option maxRecDepth 20000 in
theorem t_wp_X7_together_9_2_0 {p : Program} {l : Launch} {e : Env} {s : State} {m : MethodId} {args : Array Value} {below : List Frame} {meth : Method} {c : Code} {E : zE} {qp ql qs : Nat} {a_heard : Nat → Int32} {a_walked : Nat → Int32} {a_total : Nat → Int32} {a_longest : Nat → Int32} {a_next : Nat → Int32} {a_cover : Nat → Int32} {a_now : Nat → Int32} {a_then : Nat → Int32} {lf_huts : Int32} {lf_singers : Int32} {lf_villages : Int32} {lf_dams : Int32} {lf_echoes : Int32} {lf_deep : Int32} {lf_slide : Int32} {la_heights : Nat → Int32} {la_ladders : Nat → Int32} {la_minutes : Nat → Int32} {la_echoFrom : Nat → Int32} {la_echoTo : Nat → Int32} {la_homes : Nat → Int32} {la_talls : Nat → Int32} {la_known : Nat → Int32} {sf_facts : Int32} {sa_heard : Nat → Int32} {sa_huts : Nat → Int32} {sa_minutes : Nat → Int32} {post : Int32 → Prop} {x3 : Int32} {x4 : Int32} {x5 : Int32} {ls : Array Slot}
    (zc : zC p s m args meth c cX7_together 10 RX7 (some .int))
    (hK : zK E s)
    (hM : wpW E qp ql qs a_heard a_walked a_total a_longest a_next a_cover a_now a_then lf_huts lf_singers lf_villages lf_dams lf_echoes lf_deep lf_slide la_heights la_ladders la_minutes la_echoFrom la_echoTo la_homes la_talls la_known sf_facts sa_heard sa_huts sa_minutes s.heap)
    (hl : lv_has ls 10 [(1, .ref ql), (2, .ref (qp + 2)), (3, .int x3), (4, .int x4), (5, .int x5)])
    (hw : q_wp_X7_together_9_2_0 a_walked lf_huts x3 x4 x5 post) :
    W p l e rm_wp_X7_together_9_2 s m args below meth c s.heap [] 0 0 (MQ below (vp_Si post) args s 0 0 (fun _ => False)) (F0 m 0 ls []) := by
  have hx := zc.1
  have hb := zc.2.1
  refine lv_iconst (v := (-1 : Int32)) hx hb dX7_together_0 (by decide) ?_
  refine lv_istore (lv' := [(6, .int (-1 : Int32)), (1, .ref ql), (2, .ref (qp + 2)), (3, .int x3), (4, .int x4), (5, .int x5)]) hx hb dX7_together_1 hl (by decide) rfl (fun ls hl => ?_)
  refine lv_sipush (v := (1000 : Int32)) hx hb dX7_together_3 (by decide) ?_
  refine lv_istore (lv' := [(7, .int (1000 : Int32)), (6, .int (-1 : Int32)), (1, .ref ql), (2, .ref (qp + 2)), (3, .int x3), (4, .int x4), (5, .int x5)]) hx hb dX7_together_6 hl (by decide) rfl (fun ls hl => ?_)
  refine lv_iconst (v := (0 : Int32)) hx hb dX7_together_8 (by decide) ?_
  refine lv_istore (lv' := [(8, .int (0 : Int32)), (7, .int (1000 : Int32)), (6, .int (-1 : Int32)), (1, .ref ql), (2, .ref (qp + 2)), (3, .int x3), (4, .int x4), (5, .int x5)]) hx hb dX7_together_9 hl (by decide) rfl (fun ls hl => ?_)
  exact t_wp_X7_together_9_2_11 zc hK hM  (lv_sub hl [3, 4, 5, 6, 7, 2, 1, 0] rfl) hw
set_option maxRecDepth 20000 in
theorem c_wp_X7_together_9_2 (l : Launch) {E : zE} {qp ql qs : Nat} {a_heard : Nat → Int32} {a_walked : Nat → Int32} {a_total : Nat → Int32} {a_longest : Nat → Int32} {a_next : Nat → Int32} {a_cover : Nat → Int32} {a_now : Nat → Int32} {a_then : Nat → Int32} {lf_huts : Int32} {lf_singers : Int32} {lf_villages : Int32} {lf_dams : Int32} {lf_echoes : Int32} {lf_deep : Int32} {lf_slide : Int32} {la_heights : Nat → Int32} {la_ladders : Nat → Int32} {la_minutes : Nat → Int32} {la_echoFrom : Nat → Int32} {la_echoTo : Nat → Int32} {la_homes : Nat → Int32} {la_talls : Nat → Int32} {la_known : Nat → Int32} {sf_facts : Int32} {sa_heard : Nat → Int32} {sa_huts : Nat → Int32} {sa_minutes : Nat → Int32} {x3 : Int32} {x4 : Int32} {x5 : Int32} {post : Int32 → Prop} (hw : q_wp_X7_together_9_2_0 a_walked lf_huts x3 x4 x5 post) : Met l yX7_together (Cond.code yX7_together cX7_together 10 (some .int) :: zb) rm_wp_X7_together_9_2 (va_Pc [.ref qp, .ref ql, .ref (qp + 2), .int x3, .int x4, .int x5] (fun U => wpW E qp ql qs a_heard a_walked a_total a_longest a_next a_cover a_now a_then lf_huts lf_singers lf_villages lf_dams lf_echoes lf_deep lf_slide la_heights la_ladders la_minutes la_echoFrom la_echoTo la_homes la_talls la_known sf_facts sa_heard sa_huts sa_minutes U.heap ∧ zK E U)) (vp_Si post) 0 0 (fun _ => False) := by
  refine Met.ofW (cc := cX7_together) (maxL := 10) (ret := (some .int)) (by decide) rfl ?_
  intro p e s m args below meth c s₁ B hml hv
  obtain ⟨rfl, hM, hK⟩ := hv
  have zc := zc_of B hml
  have hl := lv_entry ([.ref qp, .ref ql, .ref (qp + 2), .int x3, .int x4, .int x5]) (n := 10) (Nat.le_of_ble_eq_true rfl)
  rw [lg_entry_eq]
  generalize (lg_sl ([.ref qp, .ref ql, .ref (qp + 2), .int x3, .int x4, .int x5]) ++ List.replicate (10 - (lg_sl ([.ref qp, .ref ql, .ref (qp + 2), .int x3, .int x4, .int x5])).length) Slot.unset).toArray = ls at hl ⊢
  have hl : lv_has ls 10 [(0, .ref qp), (1, .ref ql), (2, .ref (qp + 2)), (3, .int x3), (4, .int x4), (5, .int x5)] := hl
  exact t_wp_X7_together_9_2_0 zc hK hM (lv_sub hl [1, 2, 3, 4, 5] rfl) hw
-- wp_X7_together_9_1
abbrev rm_wp_X7_together_9_1 : Room := { frames := 1, cells := 0, slots := 0, locals := 40 }
def q_wp_X7_together_9_1_59 (P11 : Int32 → Int32 → Int32 → Prop) (a_heard : Nat → Int32) (lf_huts : Int32) (x3 : Int32) (x4 : Int32) (x5 : Int32) (x6 : Int32) (x7 : Int32) (x8 : Int32) (post : Int32 → Prop) : Prop :=
  ∀ v_1 : Int32, v_1 = x8 + (1 : Int32) → (P11 x6 x7 v_1)
def q_wp_X7_together_9_1_11 (a_heard : Nat → Int32) (lf_huts : Int32) (x3 : Int32) (x4 : Int32) (x5 : Int32) (x6 : Int32) (x7 : Int32) (x8 : Int32) (post : Int32 → Prop) : Prop :=
  ∀ P11 : Int32 → Int32 → Int32 → Prop, (∀ (x6 : Int32) (x7 : Int32) (x8 : Int32), ((lf_huts ≤ x8 → ((x6 = (-1 : Int32) → (post x6)) ∧ (¬ x6 = (-1 : Int32) → ((x5 = 0 → (post x6)) ∧ (¬ x5 = 0 → (post x7)))))) ∧ (¬ lf_huts ≤ x8 → (vp_in ((x3 * (9 : Int32)) + x8) 81 ∧ (vp_in ((x4 * (9 : Int32)) + x8) 81 ∧ (∀ v_1 : Int32, v_1 = (if (a_heard (Int32.toNatClampNeg ((x3 * (9 : Int32)) + x8))) < (a_heard (Int32.toNatClampNeg ((x4 * (9 : Int32)) + x8))) then (a_heard (Int32.toNatClampNeg ((x4 * (9 : Int32)) + x8))) else (a_heard (Int32.toNatClampNeg ((x3 * (9 : Int32)) + x8)))) → ((x7 ≤ v_1 → (q_wp_X7_together_9_1_59 P11 a_heard lf_huts x3 x4 x5 x6 x7 x8 post)) ∧ (¬ x7 ≤ v_1 → (q_wp_X7_together_9_1_59 P11 a_heard lf_huts x3 x4 x5 x8 v_1 x8 post)))))))) → P11 x6 x7 x8) → P11 x6 x7 x8
def q_wp_X7_together_9_1_0 (a_heard : Nat → Int32) (lf_huts : Int32) (x3 : Int32) (x4 : Int32) (x5 : Int32) (post : Int32 → Prop) : Prop :=
  q_wp_X7_together_9_1_11 a_heard lf_huts x3 x4 x5 (-1 : Int32) (1000 : Int32) (0 : Int32) post
set_option maxRecDepth 20000 in
theorem t_wp_X7_together_9_1_59 {p : Program} {l : Launch} {e : Env} {s : State} {m : MethodId} {args : Array Value} {below : List Frame} {meth : Method} {c : Code} {E : zE} {qp ql qs : Nat} {a_heard : Nat → Int32} {a_walked : Nat → Int32} {a_total : Nat → Int32} {a_longest : Nat → Int32} {a_next : Nat → Int32} {a_cover : Nat → Int32} {a_now : Nat → Int32} {a_then : Nat → Int32} {lf_huts : Int32} {lf_singers : Int32} {lf_villages : Int32} {lf_dams : Int32} {lf_echoes : Int32} {lf_deep : Int32} {lf_slide : Int32} {la_heights : Nat → Int32} {la_ladders : Nat → Int32} {la_minutes : Nat → Int32} {la_echoFrom : Nat → Int32} {la_echoTo : Nat → Int32} {la_homes : Nat → Int32} {la_talls : Nat → Int32} {la_known : Nat → Int32} {sf_facts : Int32} {sa_heard : Nat → Int32} {sa_huts : Nat → Int32} {sa_minutes : Nat → Int32} {P11 : Int32 → Int32 → Int32 → Prop} {post : Int32 → Prop} {x3 : Int32} {x4 : Int32} {x5 : Int32} {x6 : Int32} {x7 : Int32} {x8 : Int32} {ls : Array Slot}
    (zc : zC p s m args meth c cX7_together 10 RX7 (some .int))
    (hK : zK E s)
    (hM : wpW E qp ql qs a_heard a_walked a_total a_longest a_next a_cover a_now a_then lf_huts lf_singers lf_villages lf_dams lf_echoes lf_deep lf_slide la_heights la_ladders la_minutes la_echoFrom la_echoTo la_homes la_talls la_known sf_facts sa_heard sa_huts sa_minutes s.heap)
    (hP11 : ∀ (x6 : Int32) (x7 : Int32) (x8 : Int32) (ls : Array Slot), P11 x6 x7 x8 → lv_has ls 10 [(1, .ref ql), (2, .ref (qp + 1)), (3, .int x3), (4, .int x4), (5, .int x5), (6, .int x6), (7, .int x7), (8, .int x8)] → W p l e rm_wp_X7_together_9_1 s m args below meth c s.heap [] 0 0 (MQ below (vp_Si post) args s 0 0 (fun _ => False)) (F0 m 11 ls []))
    (hl : lv_has ls 10 [(1, .ref ql), (2, .ref (qp + 1)), (3, .int x3), (4, .int x4), (5, .int x5), (6, .int x6), (7, .int x7), (8, .int x8)])
    (hw : q_wp_X7_together_9_1_59 P11 a_heard lf_huts x3 x4 x5 x6 x7 x8 post) :
    W p l e rm_wp_X7_together_9_1 s m args below meth c s.heap [] 0 0 (MQ below (vp_Si post) args s 0 0 (fun _ => False)) (F0 m 59 ls []) := by
  have hx := zc.1
  have hb := zc.2.1
  obtain ⟨v_1, ev_1⟩ : ∃ y : Int32, y = x8 + (1 : Int32) := ⟨_, rfl⟩
  have hw := hw v_1 ev_1
  refine lv_iinc (v := v_1) (k := 7) (lv' := [(8, .int v_1), (1, .ref ql), (2, .ref (qp + 1)), (3, .int x3), (4, .int x4), (5, .int x5), (6, .int x6), (7, .int x7)]) hx hb dX7_together_59 hl rfl (by rw [ev_1]; rfl) (by decide) rfl (fun ls hl => ?_)
  refine lv_goto (tgt := 11) hx hb dX7_together_62 (by decide) ?_
  exact hP11 _ _ _ _ hw (lv_sub hl [1, 2, 3, 4, 5, 6, 7, 0] rfl)
set_option maxRecDepth 20000 in
theorem t_wp_X7_together_9_1_11 {p : Program} {l : Launch} {e : Env} {s : State} {m : MethodId} {args : Array Value} {below : List Frame} {meth : Method} {c : Code} {E : zE} {qp ql qs : Nat} {a_heard : Nat → Int32} {a_walked : Nat → Int32} {a_total : Nat → Int32} {a_longest : Nat → Int32} {a_next : Nat → Int32} {a_cover : Nat → Int32} {a_now : Nat → Int32} {a_then : Nat → Int32} {lf_huts : Int32} {lf_singers : Int32} {lf_villages : Int32} {lf_dams : Int32} {lf_echoes : Int32} {lf_deep : Int32} {lf_slide : Int32} {la_heights : Nat → Int32} {la_ladders : Nat → Int32} {la_minutes : Nat → Int32} {la_echoFrom : Nat → Int32} {la_echoTo : Nat → Int32} {la_homes : Nat → Int32} {la_talls : Nat → Int32} {la_known : Nat → Int32} {sf_facts : Int32} {sa_heard : Nat → Int32} {sa_huts : Nat → Int32} {sa_minutes : Nat → Int32} {post : Int32 → Prop} {x3 : Int32} {x4 : Int32} {x5 : Int32} {x6 : Int32} {x7 : Int32} {x8 : Int32} {ls : Array Slot}
    (zc : zC p s m args meth c cX7_together 10 RX7 (some .int))
    (hK : zK E s)
    (hM : wpW E qp ql qs a_heard a_walked a_total a_longest a_next a_cover a_now a_then lf_huts lf_singers lf_villages lf_dams lf_echoes lf_deep lf_slide la_heights la_ladders la_minutes la_echoFrom la_echoTo la_homes la_talls la_known sf_facts sa_heard sa_huts sa_minutes s.heap)
    (hl : lv_has ls 10 [(1, .ref ql), (2, .ref (qp + 1)), (3, .int x3), (4, .int x4), (5, .int x5), (6, .int x6), (7, .int x7), (8, .int x8)])
    (hw : q_wp_X7_together_9_1_11 a_heard lf_huts x3 x4 x5 x6 x7 x8 post) :
    W p l e rm_wp_X7_together_9_1 s m args below meth c s.heap [] 0 0 (MQ below (vp_Si post) args s 0 0 (fun _ => False)) (F0 m 11 ls []) := by
  have hx := zc.1
  have hb := zc.2.1
  refine hw (fun x6 x7 x8 => ∀ (ls : Array Slot), lv_has ls 10 [(1, .ref ql), (2, .ref (qp + 1)), (3, .int x3), (4, .int x4), (5, .int x5), (6, .int x6), (7, .int x7), (8, .int x8)] → W p l e rm_wp_X7_together_9_1 s m args below meth c s.heap [] 0 0 (MQ below (vp_Si post) args s 0 0 (fun _ => False)) (F0 m 11 ls [])) ?_ _ hl
  intro x6 x7 x8 hw ls hl
  refine lv_iload hx hb dX7_together_11 (lv_at hl 7 rfl) ?_
  refine lv_aload_n hx hb dX7_together_13 rfl (lv_at hl 0 rfl) ?_
  refine wpg_7_42_9 zc hK hM dX7_together_14 ?_
  refine lv_icmp_ge (tgt := 65) hx hb dX7_together_17 (by decide) (fun hc => ?_) (fun hc => ?_)
  · have hw := hw.1 hc
    refine lv_iload hx hb dX7_together_65 (lv_at hl 5 rfl) ?_
    refine lv_iconst (v := (-1 : Int32)) hx hb dX7_together_67 (by decide) ?_
    refine lv_icmp_eq (tgt := 81) hx hb dX7_together_68 (by decide) (fun hc => ?_) (fun hc => ?_)
    · have hw := hw.1 hc
      refine lv_iload hx hb dX7_together_81 (lv_at hl 5 rfl) ?_
      exact zret_i zc hw dX7_together_83
    · have hw := hw.2 hc
      refine lv_iload hx hb dX7_together_71 (lv_at hl 4 rfl) ?_
      refine lv_if_eq (tgt := 81) hx hb dX7_together_73 (by decide) (fun hc => ?_) (fun hc => ?_)
      · have hw := hw.1 hc
        refine lv_iload hx hb dX7_together_81 (lv_at hl 5 rfl) ?_
        exact zret_i zc hw dX7_together_83
      · have hw := hw.2 hc
        refine lv_iload hx hb dX7_together_76 (lv_at hl 6 rfl) ?_
        refine lv_goto (tgt := 83) hx hb dX7_together_78 (by decide) ?_
        exact zret_i zc hw dX7_together_83
  · have hw := hw.2 hc
    refine lv_aload_n hx hb dX7_together_20 rfl (lv_at hl 1 rfl) ?_
    refine lv_iload_n hx hb dX7_together_21 rfl (lv_at hl 2 rfl) ?_
    refine lv_bipush (v := (9 : Int32)) hx hb dX7_together_22 (by decide) ?_
    refine lv_imul hx hb dX7_together_24 ?_
    refine lv_iload hx hb dX7_together_25 (lv_at hl 7 rfl) ?_
    refine lv_iadd hx hb dX7_together_27 ?_
    refine wpld_1 zc hK hM hw.1 dX7_together_28 ?_
    have hw := hw.2
    refine lv_aload_n hx hb dX7_together_29 rfl (lv_at hl 1 rfl) ?_
    refine lv_iload hx hb dX7_together_30 (lv_at hl 3 rfl) ?_
    refine lv_bipush (v := (9 : Int32)) hx hb dX7_together_32 (by decide) ?_
    refine lv_imul hx hb dX7_together_34 ?_
    refine lv_iload hx hb dX7_together_35 (lv_at hl 7 rfl) ?_
    refine lv_iadd hx hb dX7_together_37 ?_
    refine wpld_1 zc hK hM hw.1 dX7_together_38 ?_
    have hw := hw.2
    refine va_mmax hx hb (zc.2.2.1.trans hl.1.symm) zc.2.2.2.1 (zc.2.2.2.2.1 _ km_7_76) (zc.2.2.2.2.1 _ k_mmaxs) (zc.2.2.2.2.1 _ k_mini) (zc.2.2.2.2.1 _ k_mmaxc) (Nat.le_of_ble_eq_true rfl) (Nat.le_of_ble_eq_true rfl) (Nat.zero_le _) (Nat.zero_le _) dX7_together_39 ?_
    refine lv_topi (fun v_1 ev_1 => ?_)
    have hw := hw v_1 ev_1
    refine lv_istore (lv' := [(9, .int v_1), (1, .ref ql), (2, .ref (qp + 1)), (3, .int x3), (4, .int x4), (5, .int x5), (6, .int x6), (7, .int x7), (8, .int x8)]) hx hb dX7_together_42 hl (by decide) rfl (fun ls hl => ?_)
    refine lv_iload hx hb dX7_together_44 (lv_at hl 0 rfl) ?_
    refine lv_iload hx hb dX7_together_46 (lv_at hl 7 rfl) ?_
    refine lv_icmp_ge (tgt := 59) hx hb dX7_together_48 (by decide) (fun hc => ?_) (fun hc => ?_)
    · have hw := hw.1 hc
      exact t_wp_X7_together_9_1_59 zc hK hM (fun _ _ _ ls h hl => h ls hl) (lv_sub hl [1, 2, 3, 4, 5, 6, 7, 8] rfl) hw
    · have hw := hw.2 hc
      refine lv_iload hx hb dX7_together_51 (lv_at hl 8 rfl) ?_
      refine lv_istore (lv' := [(6, .int x8), (9, .int v_1), (1, .ref ql), (2, .ref (qp + 1)), (3, .int x3), (4, .int x4), (5, .int x5), (7, .int x7), (8, .int x8)]) hx hb dX7_together_53 hl (by decide) rfl (fun ls hl => ?_)
      refine lv_iload hx hb dX7_together_55 (lv_at hl 1 rfl) ?_
      refine lv_istore (lv' := [(7, .int v_1), (6, .int x8), (9, .int v_1), (1, .ref ql), (2, .ref (qp + 1)), (3, .int x3), (4, .int x4), (5, .int x5), (8, .int x8)]) hx hb dX7_together_57 hl (by decide) rfl (fun ls hl => ?_)
      exact t_wp_X7_together_9_1_59 zc hK hM (fun _ _ _ ls h hl => h ls hl) (lv_sub hl [3, 4, 5, 6, 7, 1, 0, 8] rfl) hw
set_option maxRecDepth 20000 in
theorem t_wp_X7_together_9_1_0 {p : Program} {l : Launch} {e : Env} {s : State} {m : MethodId} {args : Array Value} {below : List Frame} {meth : Method} {c : Code} {E : zE} {qp ql qs : Nat} {a_heard : Nat → Int32} {a_walked : Nat → Int32} {a_total : Nat → Int32} {a_longest : Nat → Int32} {a_next : Nat → Int32} {a_cover : Nat → Int32} {a_now : Nat → Int32} {a_then : Nat → Int32} {lf_huts : Int32} {lf_singers : Int32} {lf_villages : Int32} {lf_dams : Int32} {lf_echoes : Int32} {lf_deep : Int32} {lf_slide : Int32} {la_heights : Nat → Int32} {la_ladders : Nat → Int32} {la_minutes : Nat → Int32} {la_echoFrom : Nat → Int32} {la_echoTo : Nat → Int32} {la_homes : Nat → Int32} {la_talls : Nat → Int32} {la_known : Nat → Int32} {sf_facts : Int32} {sa_heard : Nat → Int32} {sa_huts : Nat → Int32} {sa_minutes : Nat → Int32} {post : Int32 → Prop} {x3 : Int32} {x4 : Int32} {x5 : Int32} {ls : Array Slot}
    (zc : zC p s m args meth c cX7_together 10 RX7 (some .int))
    (hK : zK E s)
    (hM : wpW E qp ql qs a_heard a_walked a_total a_longest a_next a_cover a_now a_then lf_huts lf_singers lf_villages lf_dams lf_echoes lf_deep lf_slide la_heights la_ladders la_minutes la_echoFrom la_echoTo la_homes la_talls la_known sf_facts sa_heard sa_huts sa_minutes s.heap)
    (hl : lv_has ls 10 [(1, .ref ql), (2, .ref (qp + 1)), (3, .int x3), (4, .int x4), (5, .int x5)])
    (hw : q_wp_X7_together_9_1_0 a_heard lf_huts x3 x4 x5 post) :
    W p l e rm_wp_X7_together_9_1 s m args below meth c s.heap [] 0 0 (MQ below (vp_Si post) args s 0 0 (fun _ => False)) (F0 m 0 ls []) := by
  have hx := zc.1
  have hb := zc.2.1
  refine lv_iconst (v := (-1 : Int32)) hx hb dX7_together_0 (by decide) ?_
  refine lv_istore (lv' := [(6, .int (-1 : Int32)), (1, .ref ql), (2, .ref (qp + 1)), (3, .int x3), (4, .int x4), (5, .int x5)]) hx hb dX7_together_1 hl (by decide) rfl (fun ls hl => ?_)
  refine lv_sipush (v := (1000 : Int32)) hx hb dX7_together_3 (by decide) ?_
  refine lv_istore (lv' := [(7, .int (1000 : Int32)), (6, .int (-1 : Int32)), (1, .ref ql), (2, .ref (qp + 1)), (3, .int x3), (4, .int x4), (5, .int x5)]) hx hb dX7_together_6 hl (by decide) rfl (fun ls hl => ?_)
  refine lv_iconst (v := (0 : Int32)) hx hb dX7_together_8 (by decide) ?_
  refine lv_istore (lv' := [(8, .int (0 : Int32)), (7, .int (1000 : Int32)), (6, .int (-1 : Int32)), (1, .ref ql), (2, .ref (qp + 1)), (3, .int x3), (4, .int x4), (5, .int x5)]) hx hb dX7_together_9 hl (by decide) rfl (fun ls hl => ?_)
  exact t_wp_X7_together_9_1_11 zc hK hM  (lv_sub hl [3, 4, 5, 6, 7, 2, 1, 0] rfl) hw
set_option maxRecDepth 20000 in
theorem c_wp_X7_together_9_1 (l : Launch) {E : zE} {qp ql qs : Nat} {a_heard : Nat → Int32} {a_walked : Nat → Int32} {a_total : Nat → Int32} {a_longest : Nat → Int32} {a_next : Nat → Int32} {a_cover : Nat → Int32} {a_now : Nat → Int32} {a_then : Nat → Int32} {lf_huts : Int32} {lf_singers : Int32} {lf_villages : Int32} {lf_dams : Int32} {lf_echoes : Int32} {lf_deep : Int32} {lf_slide : Int32} {la_heights : Nat → Int32} {la_ladders : Nat → Int32} {la_minutes : Nat → Int32} {la_echoFrom : Nat → Int32} {la_echoTo : Nat → Int32} {la_homes : Nat → Int32} {la_talls : Nat → Int32} {la_known : Nat → Int32} {sf_facts : Int32} {sa_heard : Nat → Int32} {sa_huts : Nat → Int32} {sa_minutes : Nat → Int32} {x3 : Int32} {x4 : Int32} {x5 : Int32} {post : Int32 → Prop} (hw : q_wp_X7_together_9_1_0 a_heard lf_huts x3 x4 x5 post) : Met l yX7_together (Cond.code yX7_together cX7_together 10 (some .int) :: zb) rm_wp_X7_together_9_1 (va_Pc [.ref qp, .ref ql, .ref (qp + 1), .int x3, .int x4, .int x5] (fun U => wpW E qp ql qs a_heard a_walked a_total a_longest a_next a_cover a_now a_then lf_huts lf_singers lf_villages lf_dams lf_echoes lf_deep lf_slide la_heights la_ladders la_minutes la_echoFrom la_echoTo la_homes la_talls la_known sf_facts sa_heard sa_huts sa_minutes U.heap ∧ zK E U)) (vp_Si post) 0 0 (fun _ => False) := by
  refine Met.ofW (cc := cX7_together) (maxL := 10) (ret := (some .int)) (by decide) rfl ?_
  intro p e s m args below meth c s₁ B hml hv
  obtain ⟨rfl, hM, hK⟩ := hv
  have zc := zc_of B hml
  have hl := lv_entry ([.ref qp, .ref ql, .ref (qp + 1), .int x3, .int x4, .int x5]) (n := 10) (Nat.le_of_ble_eq_true rfl)
  rw [lg_entry_eq]
  generalize (lg_sl ([.ref qp, .ref ql, .ref (qp + 1), .int x3, .int x4, .int x5]) ++ List.replicate (10 - (lg_sl ([.ref qp, .ref ql, .ref (qp + 1), .int x3, .int x4, .int x5])).length) Slot.unset).toArray = ls at hl ⊢
  have hl : lv_has ls 10 [(0, .ref qp), (1, .ref ql), (2, .ref (qp + 1)), (3, .int x3), (4, .int x4), (5, .int x5)] := hl
  exact t_wp_X7_together_9_1_0 zc hK hM (lv_sub hl [1, 2, 3, 4, 5] rfl) hw
end
section
-- wr_J7_fill_53178_3
abbrev rm_wr_J7_fill_53178_3 : Room := { frames := 0, cells := 0, slots := 0, locals := 0 }
def q_wr_J7_fill_53178_3_5 (la_ladders : Nat → Int32) (x1 : Int32) (x2 : Int32) (x3 : Int32) (post : (Nat → Int32) → Prop) : Prop :=
  ∀ P5 : Int32 → (Nat → Int32) → Prop, (∀ (x2 : Int32) (la_ladders : Nat → Int32), ((x3 ≤ x2 → (post la_ladders)) ∧ (¬ x3 ≤ x2 → (vp_in x2 9 ∧ (∀ la_ladders_1 : Nat → Int32, la_ladders_1 = upd la_ladders (Int32.toNatClampNeg x2) x1 → (∀ v_1 : Int32, v_1 = x2 + (1 : Int32) → (P5 v_1 la_ladders_1)))))) → P5 x2 la_ladders) → P5 x2 la_ladders
def q_wr_J7_fill_53178_3_0 (la_ladders : Nat → Int32) (x1 : Int32) (post : (Nat → Int32) → Prop) : Prop :=
  q_wr_J7_fill_53178_3_5 la_ladders x1 (0 : Int32) (9 : Int32) post
set_option maxRecDepth 20000 in
theorem t_wr_J7_fill_53178_3_5 {p : Program} {l : Launch} {e : Env} {s : State} {m : MethodId} {args : Array Value} {below : List Frame} {meth : Method} {c : Code} {E : zE} {qr qt : Nat} {lf_huts : Int32} {lf_singers : Int32} {lf_villages : Int32} {lf_dams : Int32} {lf_echoes : Int32} {lf_deep : Int32} {lf_slide : Int32} {la_heights : Nat → Int32} {la_ladders : Nat → Int32} {la_minutes : Nat → Int32} {la_echoFrom : Nat → Int32} {la_echoTo : Nat → Int32} {la_homes : Nat → Int32} {la_talls : Nat → Int32} {la_known : Nat → Int32} {vf_deeds : Int32} {va_kinds : Nat → Int32} {va_firsts : Nat → Int32} {va_seconds : Nat → Int32} {sf_facts : Int32} {sa_heard : Nat → Int32} {sa_huts : Nat → Int32} {sa_minutes : Nat → Int32} {cf_voices : Int32} {cf_step : Int32} {ca_parts : Nat → Int32} {ca_heights : Nat → Int32} {f_fault : Int32} {f_faultPlace : Int32} {a_numbers : Nat → Int32} {a_tape : Nat → Int32} {f_length : Int32} {f_behind : Int32} {f_kind : Int32} {f_first : Int32} {f_value : Int32} {f_hutsToldOf : Int32} {f_singersToldOf : Int32} {z_from : Nat → Int32} {post : (Nat → Int32) → Prop} {x1 : Int32} {x2 : Int32} {x3 : Int32} {ls : Array Slot} {H : Heap} {locs : List Loc}
    (zc : zC p s m args meth c cJ7_fill_53178 4 RJ7 none)
    (hK : zK E s)
    (hM : wrW E qr qt lf_huts lf_singers lf_villages lf_dams lf_echoes lf_deep lf_slide la_heights la_ladders la_minutes la_echoFrom la_echoTo la_homes la_talls la_known vf_deeds va_kinds va_firsts va_seconds sf_facts sa_heard sa_huts sa_minutes cf_voices cf_step ca_parts ca_heights f_fault f_faultPlace a_numbers a_tape f_length f_behind f_kind f_first f_value f_hutsToldOf f_singersToldOf z_from H)
    (hS : va_S (wrA qr qt) s.heap H locs)
    (hl : lv_has ls 4 [(0, .ref (qr + 3)), (1, .int x1), (2, .int x2), (3, .int x3)])
    (hw : q_wr_J7_fill_53178_3_5 la_ladders x1 x2 x3 post) :
    W p l e rm_wr_J7_fill_53178_3 s m args below meth c H locs 0 0 (MQ below (zQv (S := (Nat → Int32)) (fun u => post u) (fun u H => wrW E qr qt lf_huts lf_singers lf_villages lf_dams lf_echoes lf_deep lf_slide la_heights u la_minutes la_echoFrom la_echoTo la_homes la_talls la_known vf_deeds va_kinds va_firsts va_seconds sf_facts sa_heard sa_huts sa_minutes cf_voices cf_step ca_parts ca_heights f_fault f_faultPlace a_numbers a_tape f_length f_behind f_kind f_first f_value f_hutsToldOf f_singersToldOf z_from H) (wrA qr qt)) args s 0 0 (wrA qr qt)) (F0 m 5 ls []) := by
  have hx := zc.1
  have hb := zc.2.1
  refine hw (fun x2 la_ladders => ∀ (H : Heap) (locs : List Loc) (ls : Array Slot), lv_has ls 4 [(0, .ref (qr + 3)), (1, .int x1), (2, .int x2), (3, .int x3)] → wrW E qr qt lf_huts lf_singers lf_villages lf_dams lf_echoes lf_deep lf_slide la_heights la_ladders la_minutes la_echoFrom la_echoTo la_homes la_talls la_known vf_deeds va_kinds va_firsts va_seconds sf_facts sa_heard sa_huts sa_minutes cf_voices cf_step ca_parts ca_heights f_fault f_faultPlace a_numbers a_tape f_length f_behind f_kind f_first f_value f_hutsToldOf f_singersToldOf z_from H → va_S (wrA qr qt) s.heap H locs → W p l e rm_wr_J7_fill_53178_3 s m args below meth c H locs 0 0 (MQ below (zQv (S := (Nat → Int32)) (fun u => post u) (fun u H => wrW E qr qt lf_huts lf_singers lf_villages lf_dams lf_echoes lf_deep lf_slide la_heights u la_minutes la_echoFrom la_echoTo la_homes la_talls la_known vf_deeds va_kinds va_firsts va_seconds sf_facts sa_heard sa_huts sa_minutes cf_voices cf_step ca_parts ca_heights f_fault f_faultPlace a_numbers a_tape f_length f_behind f_kind f_first f_value f_hutsToldOf f_singersToldOf z_from H) (wrA qr qt)) args s 0 0 (wrA qr qt)) (F0 m 5 ls [])) ?_ _ _ _ hl hM hS
  intro x2 la_ladders hw H locs ls hl hM hS
  refine lv_iload_n hx hb dJ7_fill_53178_5 rfl (lv_at hl 2 rfl) ?_
  refine lv_iload_n hx hb dJ7_fill_53178_6 rfl (lv_at hl 3 rfl) ?_
  refine lv_icmp_ge (tgt := 20) hx hb dJ7_fill_53178_7 (by decide) (fun hc => ?_) (fun hc => ?_)
  · have hw := hw.1 hc
    exact zret_vw la_ladders zc hS hw hM dJ7_fill_53178_20
  · have hw := hw.2 hc
    refine lv_aload_n hx hb dJ7_fill_53178_10 rfl (lv_at hl 0 rfl) ?_
    refine lv_iload_n hx hb dJ7_fill_53178_11 rfl (lv_at hl 2 rfl) ?_
    refine lv_iload_n hx hb dJ7_fill_53178_12 rfl (lv_at hl 1 rfl) ?_
    refine wrst_3 zc hK hM hS hw.1 dJ7_fill_53178_13 (fun la_ladders_1 H locs ela_ladders_1 hM hS => ?_)
    have hw := hw.2 la_ladders_1 ela_ladders_1
    obtain ⟨v_1, ev_1⟩ : ∃ y : Int32, y = x2 + (1 : Int32) := ⟨_, rfl⟩
    have hw := hw v_1 ev_1
    refine lv_iinc (v := v_1) (k := 2) (lv' := [(2, .int v_1), (0, .ref (qr + 3)), (1, .int x1), (3, .int x3)]) hx hb dJ7_fill_53178_14 hl rfl (by rw [ev_1]; rfl) (by decide) rfl (fun ls hl => ?_)
    refine lv_goto (tgt := 5) hx hb dJ7_fill_53178_17 (by decide) ?_
    exact hw _ _ _ (lv_sub hl [1, 2, 0, 3] rfl) hM hS
set_option maxRecDepth 20000 in
theorem t_wr_J7_fill_53178_3_0 {p : Program} {l : Launch} {e : Env} {s : State} {m : MethodId} {args : Array Value} {below : List Frame} {meth : Method} {c : Code} {E : zE} {qr qt : Nat} {lf_huts : Int32} {lf_singers : Int32} {lf_villages : Int32} {lf_dams : Int32} {lf_echoes : Int32} {lf_deep : Int32} {lf_slide : Int32} {la_heights : Nat → Int32} {la_ladders : Nat → Int32} {la_minutes : Nat → Int32} {la_echoFrom : Nat → Int32} {la_echoTo : Nat → Int32} {la_homes : Nat → Int32} {la_talls : Nat → Int32} {la_known : Nat → Int32} {vf_deeds : Int32} {va_kinds : Nat → Int32} {va_firsts : Nat → Int32} {va_seconds : Nat → Int32} {sf_facts : Int32} {sa_heard : Nat → Int32} {sa_huts : Nat → Int32} {sa_minutes : Nat → Int32} {cf_voices : Int32} {cf_step : Int32} {ca_parts : Nat → Int32} {ca_heights : Nat → Int32} {f_fault : Int32} {f_faultPlace : Int32} {a_numbers : Nat → Int32} {a_tape : Nat → Int32} {f_length : Int32} {f_behind : Int32} {f_kind : Int32} {f_first : Int32} {f_value : Int32} {f_hutsToldOf : Int32} {f_singersToldOf : Int32} {z_from : Nat → Int32} {post : (Nat → Int32) → Prop} {x1 : Int32} {ls : Array Slot} {H : Heap} {locs : List Loc}
    (zc : zC p s m args meth c cJ7_fill_53178 4 RJ7 none)
    (hK : zK E s)
    (hM : wrW E qr qt lf_huts lf_singers lf_villages lf_dams lf_echoes lf_deep lf_slide la_heights la_ladders la_minutes la_echoFrom la_echoTo la_homes la_talls la_known vf_deeds va_kinds va_firsts va_seconds sf_facts sa_heard sa_huts sa_minutes cf_voices cf_step ca_parts ca_heights f_fault f_faultPlace a_numbers a_tape f_length f_behind f_kind f_first f_value f_hutsToldOf f_singersToldOf z_from H)
    (hS : va_S (wrA qr qt) s.heap H locs)
    (hl : lv_has ls 4 [(0, .ref (qr + 3)), (1, .int x1)])
    (hw : q_wr_J7_fill_53178_3_0 la_ladders x1 post) :
    W p l e rm_wr_J7_fill_53178_3 s m args below meth c H locs 0 0 (MQ below (zQv (S := (Nat → Int32)) (fun u => post u) (fun u H => wrW E qr qt lf_huts lf_singers lf_villages lf_dams lf_echoes lf_deep lf_slide la_heights u la_minutes la_echoFrom la_echoTo la_homes la_talls la_known vf_deeds va_kinds va_firsts va_seconds sf_facts sa_heard sa_huts sa_minutes cf_voices cf_step ca_parts ca_heights f_fault f_faultPlace a_numbers a_tape f_length f_behind f_kind f_first f_value f_hutsToldOf f_singersToldOf z_from H) (wrA qr qt)) args s 0 0 (wrA qr qt)) (F0 m 0 ls []) := by
  have hx := zc.1
  have hb := zc.2.1
  refine lv_iconst (v := (0 : Int32)) hx hb dJ7_fill_53178_0 (by decide) ?_
  refine lv_istore_n (lv' := [(2, .int (0 : Int32)), (0, .ref (qr + 3)), (1, .int x1)]) hx hb dJ7_fill_53178_1 rfl hl (by decide) rfl (fun ls hl => ?_)
  refine lv_aload_n hx hb dJ7_fill_53178_2 rfl (lv_at hl 1 rfl) ?_
  refine va_alen (v := (9 : Int32)) hx hb hK.1 hM.1 3 1 rfl rfl rfl dJ7_fill_53178_3 ?_
  refine lv_istore_n (lv' := [(3, .int (9 : Int32)), (2, .int (0 : Int32)), (0, .ref (qr + 3)), (1, .int x1)]) hx hb dJ7_fill_53178_4 rfl hl (by decide) rfl (fun ls hl => ?_)
  exact t_wr_J7_fill_53178_3_5 zc hK hM hS  (lv_sub hl [2, 3, 1, 0] rfl) hw
set_option maxRecDepth 20000 in
theorem c_wr_J7_fill_53178_3 (l : Launch) {E : zE} {qr qt : Nat} {lf_huts : Int32} {lf_singers : Int32} {lf_villages : Int32} {lf_dams : Int32} {lf_echoes : Int32} {lf_deep : Int32} {lf_slide : Int32} {la_heights : Nat → Int32} {la_ladders : Nat → Int32} {la_minutes : Nat → Int32} {la_echoFrom : Nat → Int32} {la_echoTo : Nat → Int32} {la_homes : Nat → Int32} {la_talls : Nat → Int32} {la_known : Nat → Int32} {vf_deeds : Int32} {va_kinds : Nat → Int32} {va_firsts : Nat → Int32} {va_seconds : Nat → Int32} {sf_facts : Int32} {sa_heard : Nat → Int32} {sa_huts : Nat → Int32} {sa_minutes : Nat → Int32} {cf_voices : Int32} {cf_step : Int32} {ca_parts : Nat → Int32} {ca_heights : Nat → Int32} {f_fault : Int32} {f_faultPlace : Int32} {a_numbers : Nat → Int32} {a_tape : Nat → Int32} {f_length : Int32} {f_behind : Int32} {f_kind : Int32} {f_first : Int32} {f_value : Int32} {f_hutsToldOf : Int32} {f_singersToldOf : Int32} {z_from : Nat → Int32} {x1 : Int32} {post : (Nat → Int32) → Prop} (hw : q_wr_J7_fill_53178_3_0 la_ladders x1 post) : Met l yJ7_fill_53178 (Cond.code yJ7_fill_53178 cJ7_fill_53178 4 none :: zb) rm_wr_J7_fill_53178_3 (va_Pc [.ref (qr + 3), .int x1] (fun U => wrW E qr qt lf_huts lf_singers lf_villages lf_dams lf_echoes lf_deep lf_slide la_heights la_ladders la_minutes la_echoFrom la_echoTo la_homes la_talls la_known vf_deeds va_kinds va_firsts va_seconds sf_facts sa_heard sa_huts sa_minutes cf_voices cf_step ca_parts ca_heights f_fault f_faultPlace a_numbers a_tape f_length f_behind f_kind f_first f_value f_hutsToldOf f_singersToldOf z_from U.heap ∧ zK E U)) (zQv (S := (Nat → Int32)) (fun u => post u) (fun u H => wrW E qr qt lf_huts lf_singers lf_villages lf_dams lf_echoes lf_deep lf_slide la_heights u la_minutes la_echoFrom la_echoTo la_homes la_talls la_known vf_deeds va_kinds va_firsts va_seconds sf_facts sa_heard sa_huts sa_minutes cf_voices cf_step ca_parts ca_heights f_fault f_faultPlace a_numbers a_tape f_length f_behind f_kind f_first f_value f_hutsToldOf f_singersToldOf z_from H) (wrA qr qt)) 0 0 (wrA qr qt) := by
  refine Met.ofW (cc := cJ7_fill_53178) (maxL := 4) (ret := none) (by decide) rfl ?_
  intro p e s m args below meth c s₁ B hml hv
  obtain ⟨rfl, hM, hK⟩ := hv
  have zc := zc_of B hml
  have hl := lv_entry ([.ref (qr + 3), .int x1]) (n := 4) (Nat.le_of_ble_eq_true rfl)
  rw [lg_entry_eq]
  generalize (lg_sl ([.ref (qr + 3), .int x1]) ++ List.replicate (4 - (lg_sl ([.ref (qr + 3), .int x1])).length) Slot.unset).toArray = ls at hl ⊢
  have hl : lv_has ls 4 [(0, .ref (qr + 3)), (1, .int x1)] := hl
  exact t_wr_J7_fill_53178_3_0 zc hK hM va_S.rf (lv_sub hl [0, 1] rfl) hw
-- wr_J7_fill_53178_4
abbrev rm_wr_J7_fill_53178_4 : Room := { frames := 0, cells := 0, slots := 0, locals := 0 }
def q_wr_J7_fill_53178_4_5 (la_minutes : Nat → Int32) (x1 : Int32) (x2 : Int32) (x3 : Int32) (post : (Nat → Int32) → Prop) : Prop :=
  ∀ P5 : Int32 → (Nat → Int32) → Prop, (∀ (x2 : Int32) (la_minutes : Nat → Int32), ((x3 ≤ x2 → (post la_minutes)) ∧ (¬ x3 ≤ x2 → (vp_in x2 81 ∧ (∀ la_minutes_1 : Nat → Int32, la_minutes_1 = upd la_minutes (Int32.toNatClampNeg x2) x1 → (∀ v_1 : Int32, v_1 = x2 + (1 : Int32) → (P5 v_1 la_minutes_1)))))) → P5 x2 la_minutes) → P5 x2 la_minutes
def q_wr_J7_fill_53178_4_0 (la_minutes : Nat → Int32) (x1 : Int32) (post : (Nat → Int32) → Prop) : Prop :=
  q_wr_J7_fill_53178_4_5 la_minutes x1 (0 : Int32) (81 : Int32) post
set_option maxRecDepth 20000 in
theorem t_wr_J7_fill_53178_4_5 {p : Program} {l : Launch} {e : Env} {s : State} {m : MethodId} {args : Array Value} {below : List Frame} {meth : Method} {c : Code} {E : zE} {qr qt : Nat} {lf_huts : Int32} {lf_singers : Int32} {lf_villages : Int32} {lf_dams : Int32} {lf_echoes : Int32} {lf_deep : Int32} {lf_slide : Int32} {la_heights : Nat → Int32} {la_ladders : Nat → Int32} {la_minutes : Nat → Int32} {la_echoFrom : Nat → Int32} {la_echoTo : Nat → Int32} {la_homes : Nat → Int32} {la_talls : Nat → Int32} {la_known : Nat → Int32} {vf_deeds : Int32} {va_kinds : Nat → Int32} {va_firsts : Nat → Int32} {va_seconds : Nat → Int32} {sf_facts : Int32} {sa_heard : Nat → Int32} {sa_huts : Nat → Int32} {sa_minutes : Nat → Int32} {cf_voices : Int32} {cf_step : Int32} {ca_parts : Nat → Int32} {ca_heights : Nat → Int32} {f_fault : Int32} {f_faultPlace : Int32} {a_numbers : Nat → Int32} {a_tape : Nat → Int32} {f_length : Int32} {f_behind : Int32} {f_kind : Int32} {f_first : Int32} {f_value : Int32} {f_hutsToldOf : Int32} {f_singersToldOf : Int32} {z_from : Nat → Int32} {post : (Nat → Int32) → Prop} {x1 : Int32} {x2 : Int32} {x3 : Int32} {ls : Array Slot} {H : Heap} {locs : List Loc}
    (zc : zC p s m args meth c cJ7_fill_53178 4 RJ7 none)
    (hK : zK E s)
    (hM : wrW E qr qt lf_huts lf_singers lf_villages lf_dams lf_echoes lf_deep lf_slide la_heights la_ladders la_minutes la_echoFrom la_echoTo la_homes la_talls la_known vf_deeds va_kinds va_firsts va_seconds sf_facts sa_heard sa_huts sa_minutes cf_voices cf_step ca_parts ca_heights f_fault f_faultPlace a_numbers a_tape f_length f_behind f_kind f_first f_value f_hutsToldOf f_singersToldOf z_from H)
    (hS : va_S (wrA qr qt) s.heap H locs)
    (hl : lv_has ls 4 [(0, .ref (qr + 4)), (1, .int x1), (2, .int x2), (3, .int x3)])
    (hw : q_wr_J7_fill_53178_4_5 la_minutes x1 x2 x3 post) :
    W p l e rm_wr_J7_fill_53178_4 s m args below meth c H locs 0 0 (MQ below (zQv (S := (Nat → Int32)) (fun u => post u) (fun u H => wrW E qr qt lf_huts lf_singers lf_villages lf_dams lf_echoes lf_deep lf_slide la_heights la_ladders u la_echoFrom la_echoTo la_homes la_talls la_known vf_deeds va_kinds va_firsts va_seconds sf_facts sa_heard sa_huts sa_minutes cf_voices cf_step ca_parts ca_heights f_fault f_faultPlace a_numbers a_tape f_length f_behind f_kind f_first f_value f_hutsToldOf f_singersToldOf z_from H) (wrA qr qt)) args s 0 0 (wrA qr qt)) (F0 m 5 ls []) := by
  have hx := zc.1
  have hb := zc.2.1
  refine hw (fun x2 la_minutes => ∀ (H : Heap) (locs : List Loc) (ls : Array Slot), lv_has ls 4 [(0, .ref (qr + 4)), (1, .int x1), (2, .int x2), (3, .int x3)] → wrW E qr qt lf_huts lf_singers lf_villages lf_dams lf_echoes lf_deep lf_slide la_heights la_ladders la_minutes la_echoFrom la_echoTo la_homes la_talls la_known vf_deeds va_kinds va_firsts va_seconds sf_facts sa_heard sa_huts sa_minutes cf_voices cf_step ca_parts ca_heights f_fault f_faultPlace a_numbers a_tape f_length f_behind f_kind f_first f_value f_hutsToldOf f_singersToldOf z_from H → va_S (wrA qr qt) s.heap H locs → W p l e rm_wr_J7_fill_53178_4 s m args below meth c H locs 0 0 (MQ below (zQv (S := (Nat → Int32)) (fun u => post u) (fun u H => wrW E qr qt lf_huts lf_singers lf_villages lf_dams lf_echoes lf_deep lf_slide la_heights la_ladders u la_echoFrom la_echoTo la_homes la_talls la_known vf_deeds va_kinds va_firsts va_seconds sf_facts sa_heard sa_huts sa_minutes cf_voices cf_step ca_parts ca_heights f_fault f_faultPlace a_numbers a_tape f_length f_behind f_kind f_first f_value f_hutsToldOf f_singersToldOf z_from H) (wrA qr qt)) args s 0 0 (wrA qr qt)) (F0 m 5 ls [])) ?_ _ _ _ hl hM hS
  intro x2 la_minutes hw H locs ls hl hM hS
  refine lv_iload_n hx hb dJ7_fill_53178_5 rfl (lv_at hl 2 rfl) ?_
  refine lv_iload_n hx hb dJ7_fill_53178_6 rfl (lv_at hl 3 rfl) ?_
  refine lv_icmp_ge (tgt := 20) hx hb dJ7_fill_53178_7 (by decide) (fun hc => ?_) (fun hc => ?_)
  · have hw := hw.1 hc
    exact zret_vw la_minutes zc hS hw hM dJ7_fill_53178_20
  · have hw := hw.2 hc
    refine lv_aload_n hx hb dJ7_fill_53178_10 rfl (lv_at hl 0 rfl) ?_
    refine lv_iload_n hx hb dJ7_fill_53178_11 rfl (lv_at hl 2 rfl) ?_
    refine lv_iload_n hx hb dJ7_fill_53178_12 rfl (lv_at hl 1 rfl) ?_
    refine wrst_4 zc hK hM hS hw.1 dJ7_fill_53178_13 (fun la_minutes_1 H locs ela_minutes_1 hM hS => ?_)
    have hw := hw.2 la_minutes_1 ela_minutes_1
    obtain ⟨v_1, ev_1⟩ : ∃ y : Int32, y = x2 + (1 : Int32) := ⟨_, rfl⟩
    have hw := hw v_1 ev_1
    refine lv_iinc (v := v_1) (k := 2) (lv' := [(2, .int v_1), (0, .ref (qr + 4)), (1, .int x1), (3, .int x3)]) hx hb dJ7_fill_53178_14 hl rfl (by rw [ev_1]; rfl) (by decide) rfl (fun ls hl => ?_)
    refine lv_goto (tgt := 5) hx hb dJ7_fill_53178_17 (by decide) ?_
    exact hw _ _ _ (lv_sub hl [1, 2, 0, 3] rfl) hM hS
set_option maxRecDepth 20000 in
theorem t_wr_J7_fill_53178_4_0 {p : Program} {l : Launch} {e : Env} {s : State} {m : MethodId} {args : Array Value} {below : List Frame} {meth : Method} {c : Code} {E : zE} {qr qt : Nat} {lf_huts : Int32} {lf_singers : Int32} {lf_villages : Int32} {lf_dams : Int32} {lf_echoes : Int32} {lf_deep : Int32} {lf_slide : Int32} {la_heights : Nat → Int32} {la_ladders : Nat → Int32} {la_minutes : Nat → Int32} {la_echoFrom : Nat → Int32} {la_echoTo : Nat → Int32} {la_homes : Nat → Int32} {la_talls : Nat → Int32} {la_known : Nat → Int32} {vf_deeds : Int32} {va_kinds : Nat → Int32} {va_firsts : Nat → Int32} {va_seconds : Nat → Int32} {sf_facts : Int32} {sa_heard : Nat → Int32} {sa_huts : Nat → Int32} {sa_minutes : Nat → Int32} {cf_voices : Int32} {cf_step : Int32} {ca_parts : Nat → Int32} {ca_heights : Nat → Int32} {f_fault : Int32} {f_faultPlace : Int32} {a_numbers : Nat → Int32} {a_tape : Nat → Int32} {f_length : Int32} {f_behind : Int32} {f_kind : Int32} {f_first : Int32} {f_value : Int32} {f_hutsToldOf : Int32} {f_singersToldOf : Int32} {z_from : Nat → Int32} {post : (Nat → Int32) → Prop} {x1 : Int32} {ls : Array Slot} {H : Heap} {locs : List Loc}
    (zc : zC p s m args meth c cJ7_fill_53178 4 RJ7 none)
    (hK : zK E s)
    (hM : wrW E qr qt lf_huts lf_singers lf_villages lf_dams lf_echoes lf_deep lf_slide la_heights la_ladders la_minutes la_echoFrom la_echoTo la_homes la_talls la_known vf_deeds va_kinds va_firsts va_seconds sf_facts sa_heard sa_huts sa_minutes cf_voices cf_step ca_parts ca_heights f_fault f_faultPlace a_numbers a_tape f_length f_behind f_kind f_first f_value f_hutsToldOf f_singersToldOf z_from H)
    (hS : va_S (wrA qr qt) s.heap H locs)
    (hl : lv_has ls 4 [(0, .ref (qr + 4)), (1, .int x1)])
    (hw : q_wr_J7_fill_53178_4_0 la_minutes x1 post) :
    W p l e rm_wr_J7_fill_53178_4 s m args below meth c H locs 0 0 (MQ below (zQv (S := (Nat → Int32)) (fun u => post u) (fun u H => wrW E qr qt lf_huts lf_singers lf_villages lf_dams lf_echoes lf_deep lf_slide la_heights la_ladders u la_echoFrom la_echoTo la_homes la_talls la_known vf_deeds va_kinds va_firsts va_seconds sf_facts sa_heard sa_huts sa_minutes cf_voices cf_step ca_parts ca_heights f_fault f_faultPlace a_numbers a_tape f_length f_behind f_kind f_first f_value f_hutsToldOf f_singersToldOf z_from H) (wrA qr qt)) args s 0 0 (wrA qr qt)) (F0 m 0 ls []) := by
  have hx := zc.1
  have hb := zc.2.1
  refine lv_iconst (v := (0 : Int32)) hx hb dJ7_fill_53178_0 (by decide) ?_
  refine lv_istore_n (lv' := [(2, .int (0 : Int32)), (0, .ref (qr + 4)), (1, .int x1)]) hx hb dJ7_fill_53178_1 rfl hl (by decide) rfl (fun ls hl => ?_)
  refine lv_aload_n hx hb dJ7_fill_53178_2 rfl (lv_at hl 1 rfl) ?_
  refine va_alen (v := (81 : Int32)) hx hb hK.1 hM.1 4 1 rfl rfl rfl dJ7_fill_53178_3 ?_
  refine lv_istore_n (lv' := [(3, .int (81 : Int32)), (2, .int (0 : Int32)), (0, .ref (qr + 4)), (1, .int x1)]) hx hb dJ7_fill_53178_4 rfl hl (by decide) rfl (fun ls hl => ?_)
  exact t_wr_J7_fill_53178_4_5 zc hK hM hS  (lv_sub hl [2, 3, 1, 0] rfl) hw
set_option maxRecDepth 20000 in
theorem c_wr_J7_fill_53178_4 (l : Launch) {E : zE} {qr qt : Nat} {lf_huts : Int32} {lf_singers : Int32} {lf_villages : Int32} {lf_dams : Int32} {lf_echoes : Int32} {lf_deep : Int32} {lf_slide : Int32} {la_heights : Nat → Int32} {la_ladders : Nat → Int32} {la_minutes : Nat → Int32} {la_echoFrom : Nat → Int32} {la_echoTo : Nat → Int32} {la_homes : Nat → Int32} {la_talls : Nat → Int32} {la_known : Nat → Int32} {vf_deeds : Int32} {va_kinds : Nat → Int32} {va_firsts : Nat → Int32} {va_seconds : Nat → Int32} {sf_facts : Int32} {sa_heard : Nat → Int32} {sa_huts : Nat → Int32} {sa_minutes : Nat → Int32} {cf_voices : Int32} {cf_step : Int32} {ca_parts : Nat → Int32} {ca_heights : Nat → Int32} {f_fault : Int32} {f_faultPlace : Int32} {a_numbers : Nat → Int32} {a_tape : Nat → Int32} {f_length : Int32} {f_behind : Int32} {f_kind : Int32} {f_first : Int32} {f_value : Int32} {f_hutsToldOf : Int32} {f_singersToldOf : Int32} {z_from : Nat → Int32} {x1 : Int32} {post : (Nat → Int32) → Prop} (hw : q_wr_J7_fill_53178_4_0 la_minutes x1 post) : Met l yJ7_fill_53178 (Cond.code yJ7_fill_53178 cJ7_fill_53178 4 none :: zb) rm_wr_J7_fill_53178_4 (va_Pc [.ref (qr + 4), .int x1] (fun U => wrW E qr qt lf_huts lf_singers lf_villages lf_dams lf_echoes lf_deep lf_slide la_heights la_ladders la_minutes la_echoFrom la_echoTo la_homes la_talls la_known vf_deeds va_kinds va_firsts va_seconds sf_facts sa_heard sa_huts sa_minutes cf_voices cf_step ca_parts ca_heights f_fault f_faultPlace a_numbers a_tape f_length f_behind f_kind f_first f_value f_hutsToldOf f_singersToldOf z_from U.heap ∧ zK E U)) (zQv (S := (Nat → Int32)) (fun u => post u) (fun u H => wrW E qr qt lf_huts lf_singers lf_villages lf_dams lf_echoes lf_deep lf_slide la_heights la_ladders u la_echoFrom la_echoTo la_homes la_talls la_known vf_deeds va_kinds va_firsts va_seconds sf_facts sa_heard sa_huts sa_minutes cf_voices cf_step ca_parts ca_heights f_fault f_faultPlace a_numbers a_tape f_length f_behind f_kind f_first f_value f_hutsToldOf f_singersToldOf z_from H) (wrA qr qt)) 0 0 (wrA qr qt) := by
  refine Met.ofW (cc := cJ7_fill_53178) (maxL := 4) (ret := none) (by decide) rfl ?_
  intro p e s m args below meth c s₁ B hml hv
  obtain ⟨rfl, hM, hK⟩ := hv
  have zc := zc_of B hml
  have hl := lv_entry ([.ref (qr + 4), .int x1]) (n := 4) (Nat.le_of_ble_eq_true rfl)
  rw [lg_entry_eq]
  generalize (lg_sl ([.ref (qr + 4), .int x1]) ++ List.replicate (4 - (lg_sl ([.ref (qr + 4), .int x1])).length) Slot.unset).toArray = ls at hl ⊢
  have hl : lv_has ls 4 [(0, .ref (qr + 4)), (1, .int x1)] := hl
  exact t_wr_J7_fill_53178_4_0 zc hK hM va_S.rf (lv_sub hl [0, 1] rfl) hw
-- wr_J7_fill_53178_9
abbrev rm_wr_J7_fill_53178_9 : Room := { frames := 0, cells := 0, slots := 0, locals := 0 }
def q_wr_J7_fill_53178_9_5 (la_known : Nat → Int32) (x1 : Int32) (x2 : Int32) (x3 : Int32) (post : (Nat → Int32) → Prop) : Prop :=
  ∀ P5 : Int32 → (Nat → Int32) → Prop, (∀ (x2 : Int32) (la_known : Nat → Int32), ((x3 ≤ x2 → (post la_known)) ∧ (¬ x3 ≤ x2 → (vp_in x2 6 ∧ (∀ la_known_1 : Nat → Int32, la_known_1 = upd la_known (Int32.toNatClampNeg x2) x1 → (∀ v_1 : Int32, v_1 = x2 + (1 : Int32) → (P5 v_1 la_known_1)))))) → P5 x2 la_known) → P5 x2 la_known
def q_wr_J7_fill_53178_9_0 (la_known : Nat → Int32) (x1 : Int32) (post : (Nat → Int32) → Prop) : Prop :=
  q_wr_J7_fill_53178_9_5 la_known x1 (0 : Int32) (6 : Int32) post
set_option maxRecDepth 20000 in
theorem t_wr_J7_fill_53178_9_5 {p : Program} {l : Launch} {e : Env} {s : State} {m : MethodId} {args : Array Value} {below : List Frame} {meth : Method} {c : Code} {E : zE} {qr qt : Nat} {lf_huts : Int32} {lf_singers : Int32} {lf_villages : Int32} {lf_dams : Int32} {lf_echoes : Int32} {lf_deep : Int32} {lf_slide : Int32} {la_heights : Nat → Int32} {la_ladders : Nat → Int32} {la_minutes : Nat → Int32} {la_echoFrom : Nat → Int32} {la_echoTo : Nat → Int32} {la_homes : Nat → Int32} {la_talls : Nat → Int32} {la_known : Nat → Int32} {vf_deeds : Int32} {va_kinds : Nat → Int32} {va_firsts : Nat → Int32} {va_seconds : Nat → Int32} {sf_facts : Int32} {sa_heard : Nat → Int32} {sa_huts : Nat → Int32} {sa_minutes : Nat → Int32} {cf_voices : Int32} {cf_step : Int32} {ca_parts : Nat → Int32} {ca_heights : Nat → Int32} {f_fault : Int32} {f_faultPlace : Int32} {a_numbers : Nat → Int32} {a_tape : Nat → Int32} {f_length : Int32} {f_behind : Int32} {f_kind : Int32} {f_first : Int32} {f_value : Int32} {f_hutsToldOf : Int32} {f_singersToldOf : Int32} {z_from : Nat → Int32} {post : (Nat → Int32) → Prop} {x1 : Int32} {x2 : Int32} {x3 : Int32} {ls : Array Slot} {H : Heap} {locs : List Loc}
    (zc : zC p s m args meth c cJ7_fill_53178 4 RJ7 none)
    (hK : zK E s)
    (hM : wrW E qr qt lf_huts lf_singers lf_villages lf_dams lf_echoes lf_deep lf_slide la_heights la_ladders la_minutes la_echoFrom la_echoTo la_homes la_talls la_known vf_deeds va_kinds va_firsts va_seconds sf_facts sa_heard sa_huts sa_minutes cf_voices cf_step ca_parts ca_heights f_fault f_faultPlace a_numbers a_tape f_length f_behind f_kind f_first f_value f_hutsToldOf f_singersToldOf z_from H)
    (hS : va_S (wrA qr qt) s.heap H locs)
    (hl : lv_has ls 4 [(0, .ref (qr + 9)), (1, .int x1), (2, .int x2), (3, .int x3)])
    (hw : q_wr_J7_fill_53178_9_5 la_known x1 x2 x3 post) :
    W p l e rm_wr_J7_fill_53178_9 s m args below meth c H locs 0 0 (MQ below (zQv (S := (Nat → Int32)) (fun u => post u) (fun u H => wrW E qr qt lf_huts lf_singers lf_villages lf_dams lf_echoes lf_deep lf_slide la_heights la_ladders la_minutes la_echoFrom la_echoTo la_homes la_talls u vf_deeds va_kinds va_firsts va_seconds sf_facts sa_heard sa_huts sa_minutes cf_voices cf_step ca_parts ca_heights f_fault f_faultPlace a_numbers a_tape f_length f_behind f_kind f_first f_value f_hutsToldOf f_singersToldOf z_from H) (wrA qr qt)) args s 0 0 (wrA qr qt)) (F0 m 5 ls []) := by
  have hx := zc.1
  have hb := zc.2.1
  refine hw (fun x2 la_known => ∀ (H : Heap) (locs : List Loc) (ls : Array Slot), lv_has ls 4 [(0, .ref (qr + 9)), (1, .int x1), (2, .int x2), (3, .int x3)] → wrW E qr qt lf_huts lf_singers lf_villages lf_dams lf_echoes lf_deep lf_slide la_heights la_ladders la_minutes la_echoFrom la_echoTo la_homes la_talls la_known vf_deeds va_kinds va_firsts va_seconds sf_facts sa_heard sa_huts sa_minutes cf_voices cf_step ca_parts ca_heights f_fault f_faultPlace a_numbers a_tape f_length f_behind f_kind f_first f_value f_hutsToldOf f_singersToldOf z_from H → va_S (wrA qr qt) s.heap H locs → W p l e rm_wr_J7_fill_53178_9 s m args below meth c H locs 0 0 (MQ below (zQv (S := (Nat → Int32)) (fun u => post u) (fun u H => wrW E qr qt lf_huts lf_singers lf_villages lf_dams lf_echoes lf_deep lf_slide la_heights la_ladders la_minutes la_echoFrom la_echoTo la_homes la_talls u vf_deeds va_kinds va_firsts va_seconds sf_facts sa_heard sa_huts sa_minutes cf_voices cf_step ca_parts ca_heights f_fault f_faultPlace a_numbers a_tape f_length f_behind f_kind f_first f_value f_hutsToldOf f_singersToldOf z_from H) (wrA qr qt)) args s 0 0 (wrA qr qt)) (F0 m 5 ls [])) ?_ _ _ _ hl hM hS
  intro x2 la_known hw H locs ls hl hM hS
  refine lv_iload_n hx hb dJ7_fill_53178_5 rfl (lv_at hl 2 rfl) ?_
  refine lv_iload_n hx hb dJ7_fill_53178_6 rfl (lv_at hl 3 rfl) ?_
  refine lv_icmp_ge (tgt := 20) hx hb dJ7_fill_53178_7 (by decide) (fun hc => ?_) (fun hc => ?_)
  · have hw := hw.1 hc
    exact zret_vw la_known zc hS hw hM dJ7_fill_53178_20
  · have hw := hw.2 hc
    refine lv_aload_n hx hb dJ7_fill_53178_10 rfl (lv_at hl 0 rfl) ?_
    refine lv_iload_n hx hb dJ7_fill_53178_11 rfl (lv_at hl 2 rfl) ?_
    refine lv_iload_n hx hb dJ7_fill_53178_12 rfl (lv_at hl 1 rfl) ?_
    refine wrst_9 zc hK hM hS hw.1 dJ7_fill_53178_13 (fun la_known_1 H locs ela_known_1 hM hS => ?_)
    have hw := hw.2 la_known_1 ela_known_1
    obtain ⟨v_1, ev_1⟩ : ∃ y : Int32, y = x2 + (1 : Int32) := ⟨_, rfl⟩
    have hw := hw v_1 ev_1
    refine lv_iinc (v := v_1) (k := 2) (lv' := [(2, .int v_1), (0, .ref (qr + 9)), (1, .int x1), (3, .int x3)]) hx hb dJ7_fill_53178_14 hl rfl (by rw [ev_1]; rfl) (by decide) rfl (fun ls hl => ?_)
    refine lv_goto (tgt := 5) hx hb dJ7_fill_53178_17 (by decide) ?_
    exact hw _ _ _ (lv_sub hl [1, 2, 0, 3] rfl) hM hS
set_option maxRecDepth 20000 in
theorem t_wr_J7_fill_53178_9_0 {p : Program} {l : Launch} {e : Env} {s : State} {m : MethodId} {args : Array Value} {below : List Frame} {meth : Method} {c : Code} {E : zE} {qr qt : Nat} {lf_huts : Int32} {lf_singers : Int32} {lf_villages : Int32} {lf_dams : Int32} {lf_echoes : Int32} {lf_deep : Int32} {lf_slide : Int32} {la_heights : Nat → Int32} {la_ladders : Nat → Int32} {la_minutes : Nat → Int32} {la_echoFrom : Nat → Int32} {la_echoTo : Nat → Int32} {la_homes : Nat → Int32} {la_talls : Nat → Int32} {la_known : Nat → Int32} {vf_deeds : Int32} {va_kinds : Nat → Int32} {va_firsts : Nat → Int32} {va_seconds : Nat → Int32} {sf_facts : Int32} {sa_heard : Nat → Int32} {sa_huts : Nat → Int32} {sa_minutes : Nat → Int32} {cf_voices : Int32} {cf_step : Int32} {ca_parts : Nat → Int32} {ca_heights : Nat → Int32} {f_fault : Int32} {f_faultPlace : Int32} {a_numbers : Nat → Int32} {a_tape : Nat → Int32} {f_length : Int32} {f_behind : Int32} {f_kind : Int32} {f_first : Int32} {f_value : Int32} {f_hutsToldOf : Int32} {f_singersToldOf : Int32} {z_from : Nat → Int32} {post : (Nat → Int32) → Prop} {x1 : Int32} {ls : Array Slot} {H : Heap} {locs : List Loc}
    (zc : zC p s m args meth c cJ7_fill_53178 4 RJ7 none)
    (hK : zK E s)
    (hM : wrW E qr qt lf_huts lf_singers lf_villages lf_dams lf_echoes lf_deep lf_slide la_heights la_ladders la_minutes la_echoFrom la_echoTo la_homes la_talls la_known vf_deeds va_kinds va_firsts va_seconds sf_facts sa_heard sa_huts sa_minutes cf_voices cf_step ca_parts ca_heights f_fault f_faultPlace a_numbers a_tape f_length f_behind f_kind f_first f_value f_hutsToldOf f_singersToldOf z_from H)
    (hS : va_S (wrA qr qt) s.heap H locs)
    (hl : lv_has ls 4 [(0, .ref (qr + 9)), (1, .int x1)])
    (hw : q_wr_J7_fill_53178_9_0 la_known x1 post) :
    W p l e rm_wr_J7_fill_53178_9 s m args below meth c H locs 0 0 (MQ below (zQv (S := (Nat → Int32)) (fun u => post u) (fun u H => wrW E qr qt lf_huts lf_singers lf_villages lf_dams lf_echoes lf_deep lf_slide la_heights la_ladders la_minutes la_echoFrom la_echoTo la_homes la_talls u vf_deeds va_kinds va_firsts va_seconds sf_facts sa_heard sa_huts sa_minutes cf_voices cf_step ca_parts ca_heights f_fault f_faultPlace a_numbers a_tape f_length f_behind f_kind f_first f_value f_hutsToldOf f_singersToldOf z_from H) (wrA qr qt)) args s 0 0 (wrA qr qt)) (F0 m 0 ls []) := by
  have hx := zc.1
  have hb := zc.2.1
  refine lv_iconst (v := (0 : Int32)) hx hb dJ7_fill_53178_0 (by decide) ?_
  refine lv_istore_n (lv' := [(2, .int (0 : Int32)), (0, .ref (qr + 9)), (1, .int x1)]) hx hb dJ7_fill_53178_1 rfl hl (by decide) rfl (fun ls hl => ?_)
  refine lv_aload_n hx hb dJ7_fill_53178_2 rfl (lv_at hl 1 rfl) ?_
  refine va_alen (v := (6 : Int32)) hx hb hK.1 hM.1 9 1 rfl rfl rfl dJ7_fill_53178_3 ?_
  refine lv_istore_n (lv' := [(3, .int (6 : Int32)), (2, .int (0 : Int32)), (0, .ref (qr + 9)), (1, .int x1)]) hx hb dJ7_fill_53178_4 rfl hl (by decide) rfl (fun ls hl => ?_)
  exact t_wr_J7_fill_53178_9_5 zc hK hM hS  (lv_sub hl [2, 3, 1, 0] rfl) hw
set_option maxRecDepth 20000 in
theorem c_wr_J7_fill_53178_9 (l : Launch) {E : zE} {qr qt : Nat} {lf_huts : Int32} {lf_singers : Int32} {lf_villages : Int32} {lf_dams : Int32} {lf_echoes : Int32} {lf_deep : Int32} {lf_slide : Int32} {la_heights : Nat → Int32} {la_ladders : Nat → Int32} {la_minutes : Nat → Int32} {la_echoFrom : Nat → Int32} {la_echoTo : Nat → Int32} {la_homes : Nat → Int32} {la_talls : Nat → Int32} {la_known : Nat → Int32} {vf_deeds : Int32} {va_kinds : Nat → Int32} {va_firsts : Nat → Int32} {va_seconds : Nat → Int32} {sf_facts : Int32} {sa_heard : Nat → Int32} {sa_huts : Nat → Int32} {sa_minutes : Nat → Int32} {cf_voices : Int32} {cf_step : Int32} {ca_parts : Nat → Int32} {ca_heights : Nat → Int32} {f_fault : Int32} {f_faultPlace : Int32} {a_numbers : Nat → Int32} {a_tape : Nat → Int32} {f_length : Int32} {f_behind : Int32} {f_kind : Int32} {f_first : Int32} {f_value : Int32} {f_hutsToldOf : Int32} {f_singersToldOf : Int32} {z_from : Nat → Int32} {x1 : Int32} {post : (Nat → Int32) → Prop} (hw : q_wr_J7_fill_53178_9_0 la_known x1 post) : Met l yJ7_fill_53178 (Cond.code yJ7_fill_53178 cJ7_fill_53178 4 none :: zb) rm_wr_J7_fill_53178_9 (va_Pc [.ref (qr + 9), .int x1] (fun U => wrW E qr qt lf_huts lf_singers lf_villages lf_dams lf_echoes lf_deep lf_slide la_heights la_ladders la_minutes la_echoFrom la_echoTo la_homes la_talls la_known vf_deeds va_kinds va_firsts va_seconds sf_facts sa_heard sa_huts sa_minutes cf_voices cf_step ca_parts ca_heights f_fault f_faultPlace a_numbers a_tape f_length f_behind f_kind f_first f_value f_hutsToldOf f_singersToldOf z_from U.heap ∧ zK E U)) (zQv (S := (Nat → Int32)) (fun u => post u) (fun u H => wrW E qr qt lf_huts lf_singers lf_villages lf_dams lf_echoes lf_deep lf_slide la_heights la_ladders la_minutes la_echoFrom la_echoTo la_homes la_talls u vf_deeds va_kinds va_firsts va_seconds sf_facts sa_heard sa_huts sa_minutes cf_voices cf_step ca_parts ca_heights f_fault f_faultPlace a_numbers a_tape f_length f_behind f_kind f_first f_value f_hutsToldOf f_singersToldOf z_from H) (wrA qr qt)) 0 0 (wrA qr qt) := by
  refine Met.ofW (cc := cJ7_fill_53178) (maxL := 4) (ret := none) (by decide) rfl ?_
  intro p e s m args below meth c s₁ B hml hv
  obtain ⟨rfl, hM, hK⟩ := hv
  have zc := zc_of B hml
  have hl := lv_entry ([.ref (qr + 9), .int x1]) (n := 4) (Nat.le_of_ble_eq_true rfl)
  rw [lg_entry_eq]
  generalize (lg_sl ([.ref (qr + 9), .int x1]) ++ List.replicate (4 - (lg_sl ([.ref (qr + 9), .int x1])).length) Slot.unset).toArray = ls at hl ⊢
  have hl : lv_has ls 4 [(0, .ref (qr + 9)), (1, .int x1)] := hl
  exact t_wr_J7_fill_53178_9_0 zc hK hM va_S.rf (lv_sub hl [0, 1] rfl) hw
-- wr_X2_clear
abbrev rm_wr_X2_clear : Room := { frames := 1, cells := 0, slots := 0, locals := 23 }
def q_wr_X2_clear_0 (lf_huts : Int32) (lf_singers : Int32) (lf_villages : Int32) (lf_dams : Int32) (lf_echoes : Int32) (lf_deep : Int32) (lf_slide : Int32) (la_ladders : Nat → Int32) (la_minutes : Nat → Int32) (la_known : Nat → Int32) (post : (Int32) → (Int32) → (Int32) → (Int32) → (Int32) → (Int32) → (Int32) → (Nat → Int32) → (Nat → Int32) → (Nat → Int32) → Prop) : Prop :=
  q_wr_J7_fill_53178_3_0 la_ladders (0 : Int32) (fun la_ladders_1 => q_wr_J7_fill_53178_4_0 la_minutes (0 : Int32) (fun la_minutes_1 => q_wr_J7_fill_53178_9_0 la_known (0 : Int32) (fun la_known_1 => post (0 : Int32) (0 : Int32) (0 : Int32) (0 : Int32) (0 : Int32) (2 : Int32) (5 : Int32) la_ladders_1 la_minutes_1 la_known_1)))
set_option maxRecDepth 20000 in
theorem t_wr_X2_clear_0 {p : Program} {l : Launch} {e : Env} {s : State} {m : MethodId} {args : Array Value} {below : List Frame} {meth : Method} {c : Code} {E : zE} {qr qt : Nat} {lf_huts : Int32} {lf_singers : Int32} {lf_villages : Int32} {lf_dams : Int32} {lf_echoes : Int32} {lf_deep : Int32} {lf_slide : Int32} {la_heights : Nat → Int32} {la_ladders : Nat → Int32} {la_minutes : Nat → Int32} {la_echoFrom : Nat → Int32} {la_echoTo : Nat → Int32} {la_homes : Nat → Int32} {la_talls : Nat → Int32} {la_known : Nat → Int32} {vf_deeds : Int32} {va_kinds : Nat → Int32} {va_firsts : Nat → Int32} {va_seconds : Nat → Int32} {sf_facts : Int32} {sa_heard : Nat → Int32} {sa_huts : Nat → Int32} {sa_minutes : Nat → Int32} {cf_voices : Int32} {cf_step : Int32} {ca_parts : Nat → Int32} {ca_heights : Nat → Int32} {f_fault : Int32} {f_faultPlace : Int32} {a_numbers : Nat → Int32} {a_tape : Nat → Int32} {f_length : Int32} {f_behind : Int32} {f_kind : Int32} {f_first : Int32} {f_value : Int32} {f_hutsToldOf : Int32} {f_singersToldOf : Int32} {z_from : Nat → Int32} {post : (Int32) → (Int32) → (Int32) → (Int32) → (Int32) → (Int32) → (Int32) → (Nat → Int32) → (Nat → Int32) → (Nat → Int32) → Prop} {ls : Array Slot} {H : Heap} {locs : List Loc}
    (zc : zC p s m args meth c cX2_clear 1 RX2 none)
    (hK : zK E s)
    (hM : wrW E qr qt lf_huts lf_singers lf_villages lf_dams lf_echoes lf_deep lf_slide la_heights la_ladders la_minutes la_echoFrom la_echoTo la_homes la_talls la_known vf_deeds va_kinds va_firsts va_seconds sf_facts sa_heard sa_huts sa_minutes cf_voices cf_step ca_parts ca_heights f_fault f_faultPlace a_numbers a_tape f_length f_behind f_kind f_first f_value f_hutsToldOf f_singersToldOf z_from H)
    (hS : va_S (wrA qr qt) s.heap H locs)
    (hl : lv_has ls 1 [(0, .ref (qr + 1))])
    (hw : q_wr_X2_clear_0 lf_huts lf_singers lf_villages lf_dams lf_echoes lf_deep lf_slide la_ladders la_minutes la_known post) :
    W p l e rm_wr_X2_clear s m args below meth c H locs 0 0 (MQ below (zQv (S := (Int32) × (Int32) × (Int32) × (Int32) × (Int32) × (Int32) × (Int32) × (Nat → Int32) × (Nat → Int32) × (Nat → Int32)) (fun u => post u.1 u.2.1 u.2.2.1 u.2.2.2.1 u.2.2.2.2.1 u.2.2.2.2.2.1 u.2.2.2.2.2.2.1 u.2.2.2.2.2.2.2.1 u.2.2.2.2.2.2.2.2.1 u.2.2.2.2.2.2.2.2.2) (fun u H => wrW E qr qt u.1 u.2.1 u.2.2.1 u.2.2.2.1 u.2.2.2.2.1 u.2.2.2.2.2.1 u.2.2.2.2.2.2.1 la_heights u.2.2.2.2.2.2.2.1 u.2.2.2.2.2.2.2.2.1 la_echoFrom la_echoTo la_homes la_talls u.2.2.2.2.2.2.2.2.2 vf_deeds va_kinds va_firsts va_seconds sf_facts sa_heard sa_huts sa_minutes cf_voices cf_step ca_parts ca_heights f_fault f_faultPlace a_numbers a_tape f_length f_behind f_kind f_first f_value f_hutsToldOf f_singersToldOf z_from H) (wrA qr qt)) args s 0 0 (wrA qr qt)) (F0 m 0 ls []) := by
  have hx := zc.1
  have hb := zc.2.1
  refine lv_aload_n hx hb dX2_clear_0 rfl (lv_at hl 0 rfl) ?_
  refine lv_iconst (v := (0 : Int32)) hx hb dX2_clear_1 (by decide) ?_
  refine wrp_2_43_1 zc hK hM hS dX2_clear_2 (fun H locs hM hS => ?_)
  refine lv_aload_n hx hb dX2_clear_5 rfl (lv_at hl 0 rfl) ?_
  refine lv_iconst (v := (0 : Int32)) hx hb dX2_clear_6 (by decide) ?_
  refine wrp_2_46_1 zc hK hM hS dX2_clear_7 (fun H locs hM hS => ?_)
  refine lv_aload_n hx hb dX2_clear_10 rfl (lv_at hl 0 rfl) ?_
  refine lv_iconst (v := (0 : Int32)) hx hb dX2_clear_11 (by decide) ?_
  refine wrp_2_49_1 zc hK hM hS dX2_clear_12 (fun H locs hM hS => ?_)
  refine lv_aload_n hx hb dX2_clear_15 rfl (lv_at hl 0 rfl) ?_
  refine lv_iconst (v := (0 : Int32)) hx hb dX2_clear_16 (by decide) ?_
  refine wrp_2_52_1 zc hK hM hS dX2_clear_17 (fun H locs hM hS => ?_)
  refine lv_aload_n hx hb dX2_clear_20 rfl (lv_at hl 0 rfl) ?_
  refine lv_iconst (v := (0 : Int32)) hx hb dX2_clear_21 (by decide) ?_
  refine wrp_2_55_1 zc hK hM hS dX2_clear_22 (fun H locs hM hS => ?_)
  refine lv_aload_n hx hb dX2_clear_25 rfl (lv_at hl 0 rfl) ?_
  refine lv_iconst (v := (2 : Int32)) hx hb dX2_clear_26 (by decide) ?_
  refine wrp_2_9_1 zc hK hM hS dX2_clear_27 (fun H locs hM hS => ?_)
  refine lv_aload_n hx hb dX2_clear_30 rfl (lv_at hl 0 rfl) ?_
  refine lv_iconst (v := (5 : Int32)) hx hb dX2_clear_31 (by decide) ?_
  refine wrp_2_15_1 zc hK hM hS dX2_clear_32 (fun H locs hM hS => ?_)
  refine lv_aload_n hx hb dX2_clear_35 rfl (lv_at hl 0 rfl) ?_
  refine wrg_2_22_1 zc hK hM dX2_clear_36 ?_
  refine lv_iconst (v := (0 : Int32)) hx hb dX2_clear_39 (by decide) ?_
  refine zSw_v [.ref (qr + 3), .int (0 : Int32)] [] zc ky_J7_fill_53178 kz_J7_fill_53178 km_2_58 (c_wr_J7_fill_53178_3 l hw) (wrPreS hK hM) hS rfl rfl hl.1 (Nat.le_of_ble_eq_true rfl) ⟨rfl, rfl⟩ ⟨Nat.le_of_ble_eq_true rfl, Nat.le_of_ble_eq_true rfl⟩ ⟨(Nat.zero_le _), (Nat.zero_le _)⟩ dX2_clear_40 (fun la_ladders_1 H locs hw hM hS => ?_)
  refine lv_aload_n hx hb dX2_clear_43 rfl (lv_at hl 0 rfl) ?_
  refine wrg_2_25_1 zc hK hM dX2_clear_44 ?_
  refine lv_iconst (v := (0 : Int32)) hx hb dX2_clear_47 (by decide) ?_
  refine zSw_v [.ref (qr + 4), .int (0 : Int32)] [] zc ky_J7_fill_53178 kz_J7_fill_53178 km_2_58 (c_wr_J7_fill_53178_4 l hw) (wrPreS hK hM) hS rfl rfl hl.1 (Nat.le_of_ble_eq_true rfl) ⟨rfl, rfl⟩ ⟨Nat.le_of_ble_eq_true rfl, Nat.le_of_ble_eq_true rfl⟩ ⟨(Nat.zero_le _), (Nat.zero_le _)⟩ dX2_clear_48 (fun la_minutes_1 H locs hw hM hS => ?_)
  refine lv_aload_n hx hb dX2_clear_51 rfl (lv_at hl 0 rfl) ?_
  refine wrg_2_40_1 zc hK hM dX2_clear_52 ?_
  refine lv_iconst (v := (0 : Int32)) hx hb dX2_clear_55 (by decide) ?_
  refine zSw_v [.ref (qr + 9), .int (0 : Int32)] [] zc ky_J7_fill_53178 kz_J7_fill_53178 km_2_58 (c_wr_J7_fill_53178_9 l hw) (wrPreS hK hM) hS rfl rfl hl.1 (Nat.le_of_ble_eq_true rfl) ⟨rfl, rfl⟩ ⟨Nat.le_of_ble_eq_true rfl, Nat.le_of_ble_eq_true rfl⟩ ⟨(Nat.zero_le _), (Nat.zero_le _)⟩ dX2_clear_56 (fun la_known_1 H locs hw hM hS => ?_)
  exact zret_vw ⟨(0 : Int32), (0 : Int32), (0 : Int32), (0 : Int32), (0 : Int32), (2 : Int32), (5 : Int32), la_ladders_1, la_minutes_1, la_known_1⟩ zc hS hw hM dX2_clear_59
set_option maxRecDepth 20000 in
theorem c_wr_X2_clear (l : Launch) {E : zE} {qr qt : Nat} {lf_huts : Int32} {lf_singers : Int32} {lf_villages : Int32} {lf_dams : Int32} {lf_echoes : Int32} {lf_deep : Int32} {lf_slide : Int32} {la_heights : Nat → Int32} {la_ladders : Nat → Int32} {la_minutes : Nat → Int32} {la_echoFrom : Nat → Int32} {la_echoTo : Nat → Int32} {la_homes : Nat → Int32} {la_talls : Nat → Int32} {la_known : Nat → Int32} {vf_deeds : Int32} {va_kinds : Nat → Int32} {va_firsts : Nat → Int32} {va_seconds : Nat → Int32} {sf_facts : Int32} {sa_heard : Nat → Int32} {sa_huts : Nat → Int32} {sa_minutes : Nat → Int32} {cf_voices : Int32} {cf_step : Int32} {ca_parts : Nat → Int32} {ca_heights : Nat → Int32} {f_fault : Int32} {f_faultPlace : Int32} {a_numbers : Nat → Int32} {a_tape : Nat → Int32} {f_length : Int32} {f_behind : Int32} {f_kind : Int32} {f_first : Int32} {f_value : Int32} {f_hutsToldOf : Int32} {f_singersToldOf : Int32} {z_from : Nat → Int32} {post : (Int32) → (Int32) → (Int32) → (Int32) → (Int32) → (Int32) → (Int32) → (Nat → Int32) → (Nat → Int32) → (Nat → Int32) → Prop} (hw : q_wr_X2_clear_0 lf_huts lf_singers lf_villages lf_dams lf_echoes lf_deep lf_slide la_ladders la_minutes la_known post) : Met l yX2_clear (Cond.code yX2_clear cX2_clear 1 none :: zb) rm_wr_X2_clear (va_Pc [.ref (qr + 1)] (fun U => wrW E qr qt lf_huts lf_singers lf_villages lf_dams lf_echoes lf_deep lf_slide la_heights la_ladders la_minutes la_echoFrom la_echoTo la_homes la_talls la_known vf_deeds va_kinds va_firsts va_seconds sf_facts sa_heard sa_huts sa_minutes cf_voices cf_step ca_parts ca_heights f_fault f_faultPlace a_numbers a_tape f_length f_behind f_kind f_first f_value f_hutsToldOf f_singersToldOf z_from U.heap ∧ zK E U)) (zQv (S := (Int32) × (Int32) × (Int32) × (Int32) × (Int32) × (Int32) × (Int32) × (Nat → Int32) × (Nat → Int32) × (Nat → Int32)) (fun u => post u.1 u.2.1 u.2.2.1 u.2.2.2.1 u.2.2.2.2.1 u.2.2.2.2.2.1 u.2.2.2.2.2.2.1 u.2.2.2.2.2.2.2.1 u.2.2.2.2.2.2.2.2.1 u.2.2.2.2.2.2.2.2.2) (fun u H => wrW E qr qt u.1 u.2.1 u.2.2.1 u.2.2.2.1 u.2.2.2.2.1 u.2.2.2.2.2.1 u.2.2.2.2.2.2.1 la_heights u.2.2.2.2.2.2.2.1 u.2.2.2.2.2.2.2.2.1 la_echoFrom la_echoTo la_homes la_talls u.2.2.2.2.2.2.2.2.2 vf_deeds va_kinds va_firsts va_seconds sf_facts sa_heard sa_huts sa_minutes cf_voices cf_step ca_parts ca_heights f_fault f_faultPlace a_numbers a_tape f_length f_behind f_kind f_first f_value f_hutsToldOf f_singersToldOf z_from H) (wrA qr qt)) 0 0 (wrA qr qt) := by
  refine Met.ofW (cc := cX2_clear) (maxL := 1) (ret := none) (by decide) rfl ?_
  intro p e s m args below meth c s₁ B hml hv
  obtain ⟨rfl, hM, hK⟩ := hv
  have zc := zc_of B hml
  have hl := lv_entry ([.ref (qr + 1)]) (n := 1) (Nat.le_of_ble_eq_true rfl)
  rw [lg_entry_eq]
  generalize (lg_sl ([.ref (qr + 1)]) ++ List.replicate (1 - (lg_sl ([.ref (qr + 1)])).length) Slot.unset).toArray = ls at hl ⊢
  have hl : lv_has ls 1 [(0, .ref (qr + 1))] := hl
  exact t_wr_X2_clear_0 zc hK hM va_S.rf (lv_sub hl [0] rfl) hw
-- wr_X4_clearDraft
abbrev rm_wr_X4_clearDraft : Room := { frames := 2, cells := 0, slots := 0, locals := 43 }
def q_wr_X4_clearDraft_0 (lf_huts : Int32) (lf_singers : Int32) (lf_villages : Int32) (lf_dams : Int32) (lf_echoes : Int32) (lf_deep : Int32) (lf_slide : Int32) (la_ladders : Nat → Int32) (la_minutes : Nat → Int32) (la_known : Nat → Int32) (vf_deeds : Int32) (sf_facts : Int32) (cf_voices : Int32) (cf_step : Int32) (f_hutsToldOf : Int32) (f_singersToldOf : Int32) (x1 : Int32) (post : (Int32) → (Int32) → (Int32) → (Int32) → (Int32) → (Int32) → (Int32) → (Nat → Int32) → (Nat → Int32) → (Nat → Int32) → (Int32) → (Int32) → (Int32) → (Int32) → (Int32) → (Int32) → Prop) : Prop :=
  (¬ x1 = 0 → ((¬ x1 = (1 : Int32) → ((¬ x1 = (2 : Int32) → (post lf_huts lf_singers lf_villages lf_dams lf_echoes lf_deep lf_slide la_ladders la_minutes la_known vf_deeds sf_facts (0 : Int32) (0 : Int32) f_hutsToldOf f_singersToldOf)) ∧ (x1 = (2 : Int32) → (post lf_huts lf_singers lf_villages lf_dams lf_echoes lf_deep lf_slide la_ladders la_minutes la_known vf_deeds (0 : Int32) cf_voices cf_step f_hutsToldOf f_singersToldOf)))) ∧ (x1 = (1 : Int32) → (post lf_huts lf_singers lf_villages lf_dams lf_echoes lf_deep lf_slide la_ladders la_minutes la_known (0 : Int32) sf_facts cf_voices cf_step f_hutsToldOf f_singersToldOf)))) ∧ (x1 = 0 → (q_wr_X2_clear_0 lf_huts lf_singers lf_villages lf_dams lf_echoes lf_deep lf_slide la_ladders la_minutes la_known (fun lf_huts_1 lf_singers_1 lf_villages_1 lf_dams_1 lf_echoes_1 lf_deep_1 lf_slide_1 la_ladders_1 la_minutes_1 la_known_1 => post lf_huts_1 lf_singers_1 lf_villages_1 lf_dams_1 lf_echoes_1 lf_deep_1 lf_slide_1 la_ladders_1 la_minutes_1 la_known_1 vf_deeds sf_facts cf_voices cf_step (0 : Int32) (0 : Int32))))
set_option maxRecDepth 20000 in
theorem t_wr_X4_clearDraft_0 {p : Program} {l : Launch} {e : Env} {s : State} {m : MethodId} {args : Array Value} {below : List Frame} {meth : Method} {c : Code} {E : zE} {qr qt : Nat} {lf_huts : Int32} {lf_singers : Int32} {lf_villages : Int32} {lf_dams : Int32} {lf_echoes : Int32} {lf_deep : Int32} {lf_slide : Int32} {la_heights : Nat → Int32} {la_ladders : Nat → Int32} {la_minutes : Nat → Int32} {la_echoFrom : Nat → Int32} {la_echoTo : Nat → Int32} {la_homes : Nat → Int32} {la_talls : Nat → Int32} {la_known : Nat → Int32} {vf_deeds : Int32} {va_kinds : Nat → Int32} {va_firsts : Nat → Int32} {va_seconds : Nat → Int32} {sf_facts : Int32} {sa_heard : Nat → Int32} {sa_huts : Nat → Int32} {sa_minutes : Nat → Int32} {cf_voices : Int32} {cf_step : Int32} {ca_parts : Nat → Int32} {ca_heights : Nat → Int32} {f_fault : Int32} {f_faultPlace : Int32} {a_numbers : Nat → Int32} {a_tape : Nat → Int32} {f_length : Int32} {f_behind : Int32} {f_kind : Int32} {f_first : Int32} {f_value : Int32} {f_hutsToldOf : Int32} {f_singersToldOf : Int32} {z_from : Nat → Int32} {post : (Int32) → (Int32) → (Int32) → (Int32) → (Int32) → (Int32) → (Int32) → (Nat → Int32) → (Nat → Int32) → (Nat → Int32) → (Int32) → (Int32) → (Int32) → (Int32) → (Int32) → (Int32) → Prop} {x1 : Int32} {ls : Array Slot} {H : Heap} {locs : List Loc}
    (zc : zC p s m args meth c cX4_clearDraft 2 RX4 none)
    (hK : zK E s)
    (hM : wrW E qr qt lf_huts lf_singers lf_villages lf_dams lf_echoes lf_deep lf_slide la_heights la_ladders la_minutes la_echoFrom la_echoTo la_homes la_talls la_known vf_deeds va_kinds va_firsts va_seconds sf_facts sa_heard sa_huts sa_minutes cf_voices cf_step ca_parts ca_heights f_fault f_faultPlace a_numbers a_tape f_length f_behind f_kind f_first f_value f_hutsToldOf f_singersToldOf z_from H)
    (hS : va_S (wrA qr qt) s.heap H locs)
    (hl : lv_has ls 2 [(0, .ref qr), (1, .int x1)])
    (hw : q_wr_X4_clearDraft_0 lf_huts lf_singers lf_villages lf_dams lf_echoes lf_deep lf_slide la_ladders la_minutes la_known vf_deeds sf_facts cf_voices cf_step f_hutsToldOf f_singersToldOf x1 post) :
    W p l e rm_wr_X4_clearDraft s m args below meth c H locs 0 0 (MQ below (zQv (S := (Int32) × (Int32) × (Int32) × (Int32) × (Int32) × (Int32) × (Int32) × (Nat → Int32) × (Nat → Int32) × (Nat → Int32) × (Int32) × (Int32) × (Int32) × (Int32) × (Int32) × (Int32)) (fun u => post u.1 u.2.1 u.2.2.1 u.2.2.2.1 u.2.2.2.2.1 u.2.2.2.2.2.1 u.2.2.2.2.2.2.1 u.2.2.2.2.2.2.2.1 u.2.2.2.2.2.2.2.2.1 u.2.2.2.2.2.2.2.2.2.1 u.2.2.2.2.2.2.2.2.2.2.1 u.2.2.2.2.2.2.2.2.2.2.2.1 u.2.2.2.2.2.2.2.2.2.2.2.2.1 u.2.2.2.2.2.2.2.2.2.2.2.2.2.1 u.2.2.2.2.2.2.2.2.2.2.2.2.2.2.1 u.2.2.2.2.2.2.2.2.2.2.2.2.2.2.2) (fun u H => wrW E qr qt u.1 u.2.1 u.2.2.1 u.2.2.2.1 u.2.2.2.2.1 u.2.2.2.2.2.1 u.2.2.2.2.2.2.1 la_heights u.2.2.2.2.2.2.2.1 u.2.2.2.2.2.2.2.2.1 la_echoFrom la_echoTo la_homes la_talls u.2.2.2.2.2.2.2.2.2.1 u.2.2.2.2.2.2.2.2.2.2.1 va_kinds va_firsts va_seconds u.2.2.2.2.2.2.2.2.2.2.2.1 sa_heard sa_huts sa_minutes u.2.2.2.2.2.2.2.2.2.2.2.2.1 u.2.2.2.2.2.2.2.2.2.2.2.2.2.1 ca_parts ca_heights f_fault f_faultPlace a_numbers a_tape f_length f_behind f_kind f_first f_value u.2.2.2.2.2.2.2.2.2.2.2.2.2.2.1 u.2.2.2.2.2.2.2.2.2.2.2.2.2.2.2 z_from H) (wrA qr qt)) args s 0 0 (wrA qr qt)) (F0 m 0 ls []) := by
  have hx := zc.1
  have hb := zc.2.1
  refine lv_iload_n hx hb dX4_clearDraft_0 rfl (lv_at hl 1 rfl) ?_
  refine lv_if_ne (tgt := 24) hx hb dX4_clearDraft_1 (by decide) (fun hc => ?_) (fun hc => ?_)
  · have hw := hw.1 hc
    refine lv_iload_n hx hb dX4_clearDraft_24 rfl (lv_at hl 1 rfl) ?_
    refine lv_iconst (v := (1 : Int32)) hx hb dX4_clearDraft_25 (by decide) ?_
    refine lv_icmp_ne (tgt := 40) hx hb dX4_clearDraft_26 (by decide) (fun hc => ?_) (fun hc => ?_)
    · have hw := hw.1 hc
      refine lv_iload_n hx hb dX4_clearDraft_40 rfl (lv_at hl 1 rfl) ?_
      refine lv_iconst (v := (2 : Int32)) hx hb dX4_clearDraft_41 (by decide) ?_
      refine lv_icmp_ne (tgt := 56) hx hb dX4_clearDraft_42 (by decide) (fun hc => ?_) (fun hc => ?_)
      · have hw := hw.1 hc
        refine lv_aload_n hx hb dX4_clearDraft_56 rfl (lv_at hl 0 rfl) ?_
        refine wrg_4_35_0 zc hK hM dX4_clearDraft_57 ?_
        refine lv_iconst (v := (0 : Int32)) hx hb dX4_clearDraft_60 (by decide) ?_
        refine wrp_4_102_18 zc hK hM hS dX4_clearDraft_61 (fun H locs hM hS => ?_)
        refine lv_aload_n hx hb dX4_clearDraft_64 rfl (lv_at hl 0 rfl) ?_
        refine wrg_4_35_0 zc hK hM dX4_clearDraft_65 ?_
        refine lv_iconst (v := (0 : Int32)) hx hb dX4_clearDraft_68 (by decide) ?_
        refine wrp_4_105_18 zc hK hM hS dX4_clearDraft_69 (fun H locs hM hS => ?_)
        exact zret_vw ⟨lf_huts, lf_singers, lf_villages, lf_dams, lf_echoes, lf_deep, lf_slide, la_ladders, la_minutes, la_known, vf_deeds, sf_facts, (0 : Int32), (0 : Int32), f_hutsToldOf, f_singersToldOf⟩ zc hS hw hM dX4_clearDraft_72
      · have hw := hw.2 hc
        refine lv_aload_n hx hb dX4_clearDraft_45 rfl (lv_at hl 0 rfl) ?_
        refine wrg_4_28_0 zc hK hM dX4_clearDraft_46 ?_
        refine lv_iconst (v := (0 : Int32)) hx hb dX4_clearDraft_49 (by decide) ?_
        refine wrp_4_99_14 zc hK hM hS dX4_clearDraft_50 (fun H locs hM hS => ?_)
        refine lv_goto (tgt := 72) hx hb dX4_clearDraft_53 (by decide) ?_
        exact zret_vw ⟨lf_huts, lf_singers, lf_villages, lf_dams, lf_echoes, lf_deep, lf_slide, la_ladders, la_minutes, la_known, vf_deeds, (0 : Int32), cf_voices, cf_step, f_hutsToldOf, f_singersToldOf⟩ zc hS hw hM dX4_clearDraft_72
    · have hw := hw.2 hc
      refine lv_aload_n hx hb dX4_clearDraft_29 rfl (lv_at hl 0 rfl) ?_
      refine wrg_4_21_0 zc hK hM dX4_clearDraft_30 ?_
      refine lv_iconst (v := (0 : Int32)) hx hb dX4_clearDraft_33 (by decide) ?_
      refine wrp_4_96_10 zc hK hM hS dX4_clearDraft_34 (fun H locs hM hS => ?_)
      refine lv_goto (tgt := 72) hx hb dX4_clearDraft_37 (by decide) ?_
      exact zret_vw ⟨lf_huts, lf_singers, lf_villages, lf_dams, lf_echoes, lf_deep, lf_slide, la_ladders, la_minutes, la_known, (0 : Int32), sf_facts, cf_voices, cf_step, f_hutsToldOf, f_singersToldOf⟩ zc hS hw hM dX4_clearDraft_72
  · have hw := hw.2 hc
    refine lv_aload_n hx hb dX4_clearDraft_4 rfl (lv_at hl 0 rfl) ?_
    refine wrg_4_12_0 zc hK hM dX4_clearDraft_5 ?_
    refine zVw_v [] [] zc ky_X2_clear kz_X2_clear km_4_87 (c_wr_X2_clear l hw) (wrPreV1 hK hM) hS rfl rfl hl.1 (Nat.le_of_ble_eq_true rfl) ⟨rfl, rfl⟩ ⟨Nat.le_of_ble_eq_true rfl, Nat.le_of_ble_eq_true rfl⟩ ⟨(Nat.zero_le _), (Nat.zero_le _)⟩ dX4_clearDraft_8 (fun u H locs hw hM hS => ?_)
    obtain ⟨lf_huts_1, lf_singers_1, lf_villages_1, lf_dams_1, lf_echoes_1, lf_deep_1, lf_slide_1, la_ladders_1, la_minutes_1, la_known_1⟩ := u
    refine lv_aload_n hx hb dX4_clearDraft_11 rfl (lv_at hl 0 rfl) ?_
    refine lv_iconst (v := (0 : Int32)) hx hb dX4_clearDraft_12 (by decide) ?_
    refine wrp_4_90_0 zc hK hM hS dX4_clearDraft_13 (fun H locs hM hS => ?_)
    refine lv_aload_n hx hb dX4_clearDraft_16 rfl (lv_at hl 0 rfl) ?_
    refine lv_iconst (v := (0 : Int32)) hx hb dX4_clearDraft_17 (by decide) ?_
    refine wrp_4_93_0 zc hK hM hS dX4_clearDraft_18 (fun H locs hM hS => ?_)
    refine lv_goto (tgt := 72) hx hb dX4_clearDraft_21 (by decide) ?_
    exact zret_vw ⟨lf_huts_1, lf_singers_1, lf_villages_1, lf_dams_1, lf_echoes_1, lf_deep_1, lf_slide_1, la_ladders_1, la_minutes_1, la_known_1, vf_deeds, sf_facts, cf_voices, cf_step, (0 : Int32), (0 : Int32)⟩ zc hS hw hM dX4_clearDraft_72
set_option maxRecDepth 20000 in
theorem c_wr_X4_clearDraft (l : Launch) {E : zE} {qr qt : Nat} {lf_huts : Int32} {lf_singers : Int32} {lf_villages : Int32} {lf_dams : Int32} {lf_echoes : Int32} {lf_deep : Int32} {lf_slide : Int32} {la_heights : Nat → Int32} {la_ladders : Nat → Int32} {la_minutes : Nat → Int32} {la_echoFrom : Nat → Int32} {la_echoTo : Nat → Int32} {la_homes : Nat → Int32} {la_talls : Nat → Int32} {la_known : Nat → Int32} {vf_deeds : Int32} {va_kinds : Nat → Int32} {va_firsts : Nat → Int32} {va_seconds : Nat → Int32} {sf_facts : Int32} {sa_heard : Nat → Int32} {sa_huts : Nat → Int32} {sa_minutes : Nat → Int32} {cf_voices : Int32} {cf_step : Int32} {ca_parts : Nat → Int32} {ca_heights : Nat → Int32} {f_fault : Int32} {f_faultPlace : Int32} {a_numbers : Nat → Int32} {a_tape : Nat → Int32} {f_length : Int32} {f_behind : Int32} {f_kind : Int32} {f_first : Int32} {f_value : Int32} {f_hutsToldOf : Int32} {f_singersToldOf : Int32} {z_from : Nat → Int32} {x1 : Int32} {post : (Int32) → (Int32) → (Int32) → (Int32) → (Int32) → (Int32) → (Int32) → (Nat → Int32) → (Nat → Int32) → (Nat → Int32) → (Int32) → (Int32) → (Int32) → (Int32) → (Int32) → (Int32) → Prop} (hw : q_wr_X4_clearDraft_0 lf_huts lf_singers lf_villages lf_dams lf_echoes lf_deep lf_slide la_ladders la_minutes la_known vf_deeds sf_facts cf_voices cf_step f_hutsToldOf f_singersToldOf x1 post) : Met l yX4_clearDraft (Cond.code yX4_clearDraft cX4_clearDraft 2 none :: zb) rm_wr_X4_clearDraft (va_Pc [.ref qr, .int x1] (fun U => wrW E qr qt lf_huts lf_singers lf_villages lf_dams lf_echoes lf_deep lf_slide la_heights la_ladders la_minutes la_echoFrom la_echoTo la_homes la_talls la_known vf_deeds va_kinds va_firsts va_seconds sf_facts sa_heard sa_huts sa_minutes cf_voices cf_step ca_parts ca_heights f_fault f_faultPlace a_numbers a_tape f_length f_behind f_kind f_first f_value f_hutsToldOf f_singersToldOf z_from U.heap ∧ zK E U)) (zQv (S := (Int32) × (Int32) × (Int32) × (Int32) × (Int32) × (Int32) × (Int32) × (Nat → Int32) × (Nat → Int32) × (Nat → Int32) × (Int32) × (Int32) × (Int32) × (Int32) × (Int32) × (Int32)) (fun u => post u.1 u.2.1 u.2.2.1 u.2.2.2.1 u.2.2.2.2.1 u.2.2.2.2.2.1 u.2.2.2.2.2.2.1 u.2.2.2.2.2.2.2.1 u.2.2.2.2.2.2.2.2.1 u.2.2.2.2.2.2.2.2.2.1 u.2.2.2.2.2.2.2.2.2.2.1 u.2.2.2.2.2.2.2.2.2.2.2.1 u.2.2.2.2.2.2.2.2.2.2.2.2.1 u.2.2.2.2.2.2.2.2.2.2.2.2.2.1 u.2.2.2.2.2.2.2.2.2.2.2.2.2.2.1 u.2.2.2.2.2.2.2.2.2.2.2.2.2.2.2) (fun u H => wrW E qr qt u.1 u.2.1 u.2.2.1 u.2.2.2.1 u.2.2.2.2.1 u.2.2.2.2.2.1 u.2.2.2.2.2.2.1 la_heights u.2.2.2.2.2.2.2.1 u.2.2.2.2.2.2.2.2.1 la_echoFrom la_echoTo la_homes la_talls u.2.2.2.2.2.2.2.2.2.1 u.2.2.2.2.2.2.2.2.2.2.1 va_kinds va_firsts va_seconds u.2.2.2.2.2.2.2.2.2.2.2.1 sa_heard sa_huts sa_minutes u.2.2.2.2.2.2.2.2.2.2.2.2.1 u.2.2.2.2.2.2.2.2.2.2.2.2.2.1 ca_parts ca_heights f_fault f_faultPlace a_numbers a_tape f_length f_behind f_kind f_first f_value u.2.2.2.2.2.2.2.2.2.2.2.2.2.2.1 u.2.2.2.2.2.2.2.2.2.2.2.2.2.2.2 z_from H) (wrA qr qt)) 0 0 (wrA qr qt) := by
  refine Met.ofW (cc := cX4_clearDraft) (maxL := 2) (ret := none) (by decide) rfl ?_
  intro p e s m args below meth c s₁ B hml hv
  obtain ⟨rfl, hM, hK⟩ := hv
  have zc := zc_of B hml
  have hl := lv_entry ([.ref qr, .int x1]) (n := 2) (Nat.le_of_ble_eq_true rfl)
  rw [lg_entry_eq]
  generalize (lg_sl ([.ref qr, .int x1]) ++ List.replicate (2 - (lg_sl ([.ref qr, .int x1])).length) Slot.unset).toArray = ls at hl ⊢
  have hl : lv_has ls 2 [(0, .ref qr), (1, .int x1)] := hl
  exact t_wr_X4_clearDraft_0 zc hK hM va_S.rf (lv_sub hl [0, 1] rfl) hw
-- wr_X4_readNumber
abbrev rm_wr_X4_readNumber : Room := { frames := 1, cells := 0, slots := 0, locals := 20 }
def q_wr_X4_readNumber_59 (P7 : Int32 → (Int32) → Prop) (a_tape : Nat → Int32) (f_length : Int32) (f_kind : Int32) (f_value : Int32) (x1 : Int32) (x2 : Int32) (y0 : Int32) (post : Int32 → (Int32) → (Int32) → Prop) : Prop :=
  ∀ v_1 : Int32, v_1 = x2 + (1 : Int32) → (P7 v_1 y0)
def q_wr_X4_readNumber_81 (a_tape : Nat → Int32) (f_length : Int32) (f_kind : Int32) (f_value : Int32) (x2 : Int32) (y0 : Int32) (post : Int32 → (Int32) → (Int32) → Prop) : Prop :=
  post x2 y0 f_value
def q_wr_X4_readNumber_68 (a_tape : Nat → Int32) (f_length : Int32) (f_kind : Int32) (f_value : Int32) (x1 : Int32) (x2 : Int32) (post : Int32 → (Int32) → (Int32) → Prop) : Prop :=
  ((2 : Int32) < (x2 - x1) → (q_wr_X4_readNumber_81 a_tape f_length f_kind f_value x2 (4 : Int32) post)) ∧ (¬ (2 : Int32) < (x2 - x1) → (q_wr_X4_readNumber_81 a_tape f_length f_kind f_value x2 (2 : Int32) post))
def q_wr_X4_readNumber_7 (a_tape : Nat → Int32) (f_length : Int32) (f_kind : Int32) (f_value : Int32) (x1 : Int32) (x2 : Int32) (post : Int32 → (Int32) → (Int32) → Prop) : Prop :=
  ∀ P7 : Int32 → (Int32) → Prop, (∀ (x2 : Int32) (f_value : Int32), ((f_length ≤ x2 → (q_wr_X4_readNumber_68 a_tape f_length f_kind f_value x1 x2 post)) ∧ (¬ f_length ≤ x2 → (vp_in x2 600 ∧ (q_z_X4_isDigit_0 (a_tape (Int32.toNatClampNeg x2)) (fun r_1 => (r_1 = 0 → (q_wr_X4_readNumber_68 a_tape f_length f_kind f_value x1 x2 post)) ∧ (¬ r_1 = 0 → (((2 : Int32) ≤ (x2 - x1) → (q_wr_X4_readNumber_59 P7 a_tape f_length f_kind f_value x1 x2 f_value post)) ∧ (¬ (2 : Int32) ≤ (x2 - x1) → (vp_in x2 600 ∧ (q_wr_X4_readNumber_59 P7 a_tape f_length f_kind f_value x1 x2 (((f_value * (10 : Int32)) + (a_tape (Int32.toNatClampNeg x2))) - (48 : Int32)) post)))))))))) → P7 x2 f_value) → P7 x2 f_value
def q_wr_X4_readNumber_0 (a_tape : Nat → Int32) (f_length : Int32) (f_kind : Int32) (f_value : Int32) (x1 : Int32) (post : Int32 → (Int32) → (Int32) → Prop) : Prop :=
  q_wr_X4_readNumber_7 a_tape f_length f_kind (0 : Int32) x1 x1 post
set_option maxRecDepth 20000 in
theorem t_wr_X4_readNumber_59 {p : Program} {l : Launch} {e : Env} {s : State} {m : MethodId} {args : Array Value} {below : List Frame} {meth : Method} {c : Code} {E : zE} {qr qt : Nat} {lf_huts : Int32} {lf_singers : Int32} {lf_villages : Int32} {lf_dams : Int32} {lf_echoes : Int32} {lf_deep : Int32} {lf_slide : Int32} {la_heights : Nat → Int32} {la_ladders : Nat → Int32} {la_minutes : Nat → Int32} {la_echoFrom : Nat → Int32} {la_echoTo : Nat → Int32} {la_homes : Nat → Int32} {la_talls : Nat → Int32} {la_known : Nat → Int32} {vf_deeds : Int32} {va_kinds : Nat → Int32} {va_firsts : Nat → Int32} {va_seconds : Nat → Int32} {sf_facts : Int32} {sa_heard : Nat → Int32} {sa_huts : Nat → Int32} {sa_minutes : Nat → Int32} {cf_voices : Int32} {cf_step : Int32} {ca_parts : Nat → Int32} {ca_heights : Nat → Int32} {f_fault : Int32} {f_faultPlace : Int32} {a_numbers : Nat → Int32} {a_tape : Nat → Int32} {f_length : Int32} {f_behind : Int32} {f_kind : Int32} {f_first : Int32} {f_value : Int32} {f_hutsToldOf : Int32} {f_singersToldOf : Int32} {z_from : Nat → Int32} {P7 : Int32 → (Int32) → Prop} {post : Int32 → (Int32) → (Int32) → Prop} {x1 : Int32} {x2 : Int32} {y0 : Int32} {ls : Array Slot} {H : Heap} {locs : List Loc}
    (zc : zC p s m args meth c cX4_readNumber 3 RX4 (some .int))
    (hK : zK E s)
    (hM : wrW E qr qt lf_huts lf_singers lf_villages lf_dams lf_echoes lf_deep lf_slide la_heights la_ladders la_minutes la_echoFrom la_echoTo la_homes la_talls la_known vf_deeds va_kinds va_firsts va_seconds sf_facts sa_heard sa_huts sa_minutes cf_voices cf_step ca_parts ca_heights f_fault f_faultPlace a_numbers a_tape f_length f_behind f_kind f_first f_value f_hutsToldOf f_singersToldOf z_from H)
    (hS : va_S (wrA qr qt) s.heap H locs)
    (hP7 : ∀ (x2 : Int32) (f_value : Int32) (H : Heap) (locs : List Loc) (ls : Array Slot), P7 x2 f_value → lv_has ls 3 [(0, .ref qr), (1, .int x1), (2, .int x2)] → wrW E qr qt lf_huts lf_singers lf_villages lf_dams lf_echoes lf_deep lf_slide la_heights la_ladders la_minutes la_echoFrom la_echoTo la_homes la_talls la_known vf_deeds va_kinds va_firsts va_seconds sf_facts sa_heard sa_huts sa_minutes cf_voices cf_step ca_parts ca_heights f_fault f_faultPlace a_numbers a_tape f_length f_behind f_kind f_first f_value f_hutsToldOf f_singersToldOf z_from H → va_S (wrA qr qt) s.heap H locs → W p l e rm_wr_X4_readNumber s m args below meth c H locs 0 0 (MQ below (zQi (S := (Int32) × (Int32)) (fun r u => post r u.1 u.2) (fun u H => wrW E qr qt lf_huts lf_singers lf_villages lf_dams lf_echoes lf_deep lf_slide la_heights la_ladders la_minutes la_echoFrom la_echoTo la_homes la_talls la_known vf_deeds va_kinds va_firsts va_seconds sf_facts sa_heard sa_huts sa_minutes cf_voices cf_step ca_parts ca_heights f_fault f_faultPlace a_numbers a_tape f_length f_behind u.1 f_first u.2 f_hutsToldOf f_singersToldOf z_from H) (wrA qr qt)) args s 0 0 (wrA qr qt)) (F0 m 7 ls []))
    (hl : lv_has ls 3 [(0, .ref qr), (1, .int x1), (2, .int x2)])
    (hw : q_wr_X4_readNumber_59 P7 a_tape f_length f_kind f_value x1 x2 y0 post) :
    W p l e rm_wr_X4_readNumber s m args below meth c H locs 0 0 (MQ below (zQi (S := (Int32) × (Int32)) (fun r u => post r u.1 u.2) (fun u H => wrW E qr qt lf_huts lf_singers lf_villages lf_dams lf_echoes lf_deep lf_slide la_heights la_ladders la_minutes la_echoFrom la_echoTo la_homes la_talls la_known vf_deeds va_kinds va_firsts va_seconds sf_facts sa_heard sa_huts sa_minutes cf_voices cf_step ca_parts ca_heights f_fault f_faultPlace a_numbers a_tape f_length f_behind u.1 f_first u.2 f_hutsToldOf f_singersToldOf z_from H) (wrA qr qt)) args s 0 0 (wrA qr qt)) (F0 m 59 ls [.int y0, .ref qr]) := by
  have hx := zc.1
  have hb := zc.2.1
  refine wrp_4_131_0 zc hK hM hS dX4_readNumber_59 (fun H locs hM hS => ?_)
  obtain ⟨v_1, ev_1⟩ : ∃ y : Int32, y = x2 + (1 : Int32) := ⟨_, rfl⟩
  have hw := hw v_1 ev_1
  refine lv_iinc (v := v_1) (k := 2) (lv' := [(2, .int v_1), (0, .ref qr), (1, .int x1)]) hx hb dX4_readNumber_62 hl rfl (by rw [ev_1]; rfl) (by decide) rfl (fun ls hl => ?_)
  refine lv_goto (tgt := 7) hx hb dX4_readNumber_65 (by decide) ?_
  exact hP7 _ _ _ _ _ hw (lv_sub hl [1, 2, 0] rfl) hM hS
set_option maxRecDepth 20000 in
theorem t_wr_X4_readNumber_81 {p : Program} {l : Launch} {e : Env} {s : State} {m : MethodId} {args : Array Value} {below : List Frame} {meth : Method} {c : Code} {E : zE} {qr qt : Nat} {lf_huts : Int32} {lf_singers : Int32} {lf_villages : Int32} {lf_dams : Int32} {lf_echoes : Int32} {lf_deep : Int32} {lf_slide : Int32} {la_heights : Nat → Int32} {la_ladders : Nat → Int32} {la_minutes : Nat → Int32} {la_echoFrom : Nat → Int32} {la_echoTo : Nat → Int32} {la_homes : Nat → Int32} {la_talls : Nat → Int32} {la_known : Nat → Int32} {vf_deeds : Int32} {va_kinds : Nat → Int32} {va_firsts : Nat → Int32} {va_seconds : Nat → Int32} {sf_facts : Int32} {sa_heard : Nat → Int32} {sa_huts : Nat → Int32} {sa_minutes : Nat → Int32} {cf_voices : Int32} {cf_step : Int32} {ca_parts : Nat → Int32} {ca_heights : Nat → Int32} {f_fault : Int32} {f_faultPlace : Int32} {a_numbers : Nat → Int32} {a_tape : Nat → Int32} {f_length : Int32} {f_behind : Int32} {f_kind : Int32} {f_first : Int32} {f_value : Int32} {f_hutsToldOf : Int32} {f_singersToldOf : Int32} {z_from : Nat → Int32} {post : Int32 → (Int32) → (Int32) → Prop} {x2 : Int32} {y0 : Int32} {ls : Array Slot} {H : Heap} {locs : List Loc}
    (zc : zC p s m args meth c cX4_readNumber 3 RX4 (some .int))
    (hK : zK E s)
    (hM : wrW E qr qt lf_huts lf_singers lf_villages lf_dams lf_echoes lf_deep lf_slide la_heights la_ladders la_minutes la_echoFrom la_echoTo la_homes la_talls la_known vf_deeds va_kinds va_firsts va_seconds sf_facts sa_heard sa_huts sa_minutes cf_voices cf_step ca_parts ca_heights f_fault f_faultPlace a_numbers a_tape f_length f_behind f_kind f_first f_value f_hutsToldOf f_singersToldOf z_from H)
    (hS : va_S (wrA qr qt) s.heap H locs)
    (hl : lv_has ls 3 [(2, .int x2)])
    (hw : q_wr_X4_readNumber_81 a_tape f_length f_kind f_value x2 y0 post) :
    W p l e rm_wr_X4_readNumber s m args below meth c H locs 0 0 (MQ below (zQi (S := (Int32) × (Int32)) (fun r u => post r u.1 u.2) (fun u H => wrW E qr qt lf_huts lf_singers lf_villages lf_dams lf_echoes lf_deep lf_slide la_heights la_ladders la_minutes la_echoFrom la_echoTo la_homes la_talls la_known vf_deeds va_kinds va_firsts va_seconds sf_facts sa_heard sa_huts sa_minutes cf_voices cf_step ca_parts ca_heights f_fault f_faultPlace a_numbers a_tape f_length f_behind u.1 f_first u.2 f_hutsToldOf f_singersToldOf z_from H) (wrA qr qt)) args s 0 0 (wrA qr qt)) (F0 m 81 ls [.int y0, .ref qr]) := by
  have hx := zc.1
  have hb := zc.2.1
  refine wrp_4_73_0 zc hK hM hS dX4_readNumber_81 (fun H locs hM hS => ?_)
  refine lv_iload_n hx hb dX4_readNumber_84 rfl (lv_at hl 0 rfl) ?_
  exact zret_iw ⟨y0, f_value⟩ zc hS hw hM dX4_readNumber_85
set_option maxRecDepth 20000 in
theorem t_wr_X4_readNumber_68 {p : Program} {l : Launch} {e : Env} {s : State} {m : MethodId} {args : Array Value} {below : List Frame} {meth : Method} {c : Code} {E : zE} {qr qt : Nat} {lf_huts : Int32} {lf_singers : Int32} {lf_villages : Int32} {lf_dams : Int32} {lf_echoes : Int32} {lf_deep : Int32} {lf_slide : Int32} {la_heights : Nat → Int32} {la_ladders : Nat → Int32} {la_minutes : Nat → Int32} {la_echoFrom : Nat → Int32} {la_echoTo : Nat → Int32} {la_homes : Nat → Int32} {la_talls : Nat → Int32} {la_known : Nat → Int32} {vf_deeds : Int32} {va_kinds : Nat → Int32} {va_firsts : Nat → Int32} {va_seconds : Nat → Int32} {sf_facts : Int32} {sa_heard : Nat → Int32} {sa_huts : Nat → Int32} {sa_minutes : Nat → Int32} {cf_voices : Int32} {cf_step : Int32} {ca_parts : Nat → Int32} {ca_heights : Nat → Int32} {f_fault : Int32} {f_faultPlace : Int32} {a_numbers : Nat → Int32} {a_tape : Nat → Int32} {f_length : Int32} {f_behind : Int32} {f_kind : Int32} {f_first : Int32} {f_value : Int32} {f_hutsToldOf : Int32} {f_singersToldOf : Int32} {z_from : Nat → Int32} {post : Int32 → (Int32) → (Int32) → Prop} {x1 : Int32} {x2 : Int32} {ls : Array Slot} {H : Heap} {locs : List Loc}
    (zc : zC p s m args meth c cX4_readNumber 3 RX4 (some .int))
    (hK : zK E s)
    (hM : wrW E qr qt lf_huts lf_singers lf_villages lf_dams lf_echoes lf_deep lf_slide la_heights la_ladders la_minutes la_echoFrom la_echoTo la_homes la_talls la_known vf_deeds va_kinds va_firsts va_seconds sf_facts sa_heard sa_huts sa_minutes cf_voices cf_step ca_parts ca_heights f_fault f_faultPlace a_numbers a_tape f_length f_behind f_kind f_first f_value f_hutsToldOf f_singersToldOf z_from H)
    (hS : va_S (wrA qr qt) s.heap H locs)
    (hl : lv_has ls 3 [(0, .ref qr), (1, .int x1), (2, .int x2)])
    (hw : q_wr_X4_readNumber_68 a_tape f_length f_kind f_value x1 x2 post) :
    W p l e rm_wr_X4_readNumber s m args below meth c H locs 0 0 (MQ below (zQi (S := (Int32) × (Int32)) (fun r u => post r u.1 u.2) (fun u H => wrW E qr qt lf_huts lf_singers lf_villages lf_dams lf_echoes lf_deep lf_slide la_heights la_ladders la_minutes la_echoFrom la_echoTo la_homes la_talls la_known vf_deeds va_kinds va_firsts va_seconds sf_facts sa_heard sa_huts sa_minutes cf_voices cf_step ca_parts ca_heights f_fault f_faultPlace a_numbers a_tape f_length f_behind u.1 f_first u.2 f_hutsToldOf f_singersToldOf z_from H) (wrA qr qt)) args s 0 0 (wrA qr qt)) (F0 m 68 ls []) := by
  have hx := zc.1
  have hb := zc.2.1
  refine lv_aload_n hx hb dX4_readNumber_68 rfl (lv_at hl 0 rfl) ?_
  refine lv_iload_n hx hb dX4_readNumber_69 rfl (lv_at hl 2 rfl) ?_
  refine lv_iload_n hx hb dX4_readNumber_70 rfl (lv_at hl 1 rfl) ?_
  refine lv_isub hx hb dX4_readNumber_71 ?_
  refine lv_iconst (v := (2 : Int32)) hx hb dX4_readNumber_72 (by decide) ?_
  refine lv_icmp_gt (tgt := 80) hx hb dX4_readNumber_73 (by decide) (fun hc => ?_) (fun hc => ?_)
  · have hw := hw.1 hc
    refine lv_iconst (v := (4 : Int32)) hx hb dX4_readNumber_80 (by decide) ?_
    exact t_wr_X4_readNumber_81 zc hK hM hS  (lv_sub hl [2] rfl) hw
  · have hw := hw.2 hc
    refine lv_iconst (v := (2 : Int32)) hx hb dX4_readNumber_76 (by decide) ?_
    refine lv_goto (tgt := 81) hx hb dX4_readNumber_77 (by decide) ?_
    exact t_wr_X4_readNumber_81 zc hK hM hS  (lv_sub hl [2] rfl) hw
set_option maxRecDepth 20000 in
theorem t_wr_X4_readNumber_7 {p : Program} {l : Launch} {e : Env} {s : State} {m : MethodId} {args : Array Value} {below : List Frame} {meth : Method} {c : Code} {E : zE} {qr qt : Nat} {lf_huts : Int32} {lf_singers : Int32} {lf_villages : Int32} {lf_dams : Int32} {lf_echoes : Int32} {lf_deep : Int32} {lf_slide : Int32} {la_heights : Nat → Int32} {la_ladders : Nat → Int32} {la_minutes : Nat → Int32} {la_echoFrom : Nat → Int32} {la_echoTo : Nat → Int32} {la_homes : Nat → Int32} {la_talls : Nat → Int32} {la_known : Nat → Int32} {vf_deeds : Int32} {va_kinds : Nat → Int32} {va_firsts : Nat → Int32} {va_seconds : Nat → Int32} {sf_facts : Int32} {sa_heard : Nat → Int32} {sa_huts : Nat → Int32} {sa_minutes : Nat → Int32} {cf_voices : Int32} {cf_step : Int32} {ca_parts : Nat → Int32} {ca_heights : Nat → Int32} {f_fault : Int32} {f_faultPlace : Int32} {a_numbers : Nat → Int32} {a_tape : Nat → Int32} {f_length : Int32} {f_behind : Int32} {f_kind : Int32} {f_first : Int32} {f_value : Int32} {f_hutsToldOf : Int32} {f_singersToldOf : Int32} {z_from : Nat → Int32} {post : Int32 → (Int32) → (Int32) → Prop} {x1 : Int32} {x2 : Int32} {ls : Array Slot} {H : Heap} {locs : List Loc}
    (zc : zC p s m args meth c cX4_readNumber 3 RX4 (some .int))
    (hK : zK E s)
    (hM : wrW E qr qt lf_huts lf_singers lf_villages lf_dams lf_echoes lf_deep lf_slide la_heights la_ladders la_minutes la_echoFrom la_echoTo la_homes la_talls la_known vf_deeds va_kinds va_firsts va_seconds sf_facts sa_heard sa_huts sa_minutes cf_voices cf_step ca_parts ca_heights f_fault f_faultPlace a_numbers a_tape f_length f_behind f_kind f_first f_value f_hutsToldOf f_singersToldOf z_from H)
    (hS : va_S (wrA qr qt) s.heap H locs)
    (hl : lv_has ls 3 [(0, .ref qr), (1, .int x1), (2, .int x2)])
    (hw : q_wr_X4_readNumber_7 a_tape f_length f_kind f_value x1 x2 post) :
    W p l e rm_wr_X4_readNumber s m args below meth c H locs 0 0 (MQ below (zQi (S := (Int32) × (Int32)) (fun r u => post r u.1 u.2) (fun u H => wrW E qr qt lf_huts lf_singers lf_villages lf_dams lf_echoes lf_deep lf_slide la_heights la_ladders la_minutes la_echoFrom la_echoTo la_homes la_talls la_known vf_deeds va_kinds va_firsts va_seconds sf_facts sa_heard sa_huts sa_minutes cf_voices cf_step ca_parts ca_heights f_fault f_faultPlace a_numbers a_tape f_length f_behind u.1 f_first u.2 f_hutsToldOf f_singersToldOf z_from H) (wrA qr qt)) args s 0 0 (wrA qr qt)) (F0 m 7 ls []) := by
  have hx := zc.1
  have hb := zc.2.1
  refine hw (fun x2 f_value => ∀ (H : Heap) (locs : List Loc) (ls : Array Slot), lv_has ls 3 [(0, .ref qr), (1, .int x1), (2, .int x2)] → wrW E qr qt lf_huts lf_singers lf_villages lf_dams lf_echoes lf_deep lf_slide la_heights la_ladders la_minutes la_echoFrom la_echoTo la_homes la_talls la_known vf_deeds va_kinds va_firsts va_seconds sf_facts sa_heard sa_huts sa_minutes cf_voices cf_step ca_parts ca_heights f_fault f_faultPlace a_numbers a_tape f_length f_behind f_kind f_first f_value f_hutsToldOf f_singersToldOf z_from H → va_S (wrA qr qt) s.heap H locs → W p l e rm_wr_X4_readNumber s m args below meth c H locs 0 0 (MQ below (zQi (S := (Int32) × (Int32)) (fun r u => post r u.1 u.2) (fun u H => wrW E qr qt lf_huts lf_singers lf_villages lf_dams lf_echoes lf_deep lf_slide la_heights la_ladders la_minutes la_echoFrom la_echoTo la_homes la_talls la_known vf_deeds va_kinds va_firsts va_seconds sf_facts sa_heard sa_huts sa_minutes cf_voices cf_step ca_parts ca_heights f_fault f_faultPlace a_numbers a_tape f_length f_behind u.1 f_first u.2 f_hutsToldOf f_singersToldOf z_from H) (wrA qr qt)) args s 0 0 (wrA qr qt)) (F0 m 7 ls [])) ?_ _ _ _ hl hM hS
  intro x2 f_value hw H locs ls hl hM hS
  refine lv_iload_n hx hb dX4_readNumber_7 rfl (lv_at hl 2 rfl) ?_
  refine lv_aload_n hx hb dX4_readNumber_8 rfl (lv_at hl 0 rfl) ?_
  refine wrg_4_57_0 zc hK hM dX4_readNumber_9 ?_
  refine lv_icmp_ge (tgt := 68) hx hb dX4_readNumber_12 (by decide) (fun hc => ?_) (fun hc => ?_)
  · have hw := hw.1 hc
    exact t_wr_X4_readNumber_68 zc hK hM hS  (lv_sub hl [0, 1, 2] rfl) hw
  · have hw := hw.2 hc
    refine lv_aload_n hx hb dX4_readNumber_15 rfl (lv_at hl 0 rfl) ?_
    refine wrg_4_47_0 zc hK hM dX4_readNumber_16 ?_
    refine lv_iload_n hx hb dX4_readNumber_19 rfl (lv_at hl 2 rfl) ?_
    refine wrld_22 zc hK hM hw.1 dX4_readNumber_20 ?_
    have hw := hw.2
    refine zS_i [.int (a_tape (Int32.toNatClampNeg x2))] [] zc ky_X4_isDigit kz_X4_isDigit km_4_200 (c_z_X4_isDigit l hw) (zPre0 _) rfl rfl hl.1 (Nat.le_of_ble_eq_true rfl) ⟨rfl, rfl⟩ ⟨Nat.le_of_ble_eq_true rfl, Nat.le_of_ble_eq_true rfl⟩ ⟨(Nat.zero_le _), (Nat.zero_le _)⟩ dX4_readNumber_21 (fun r_1 hw => ?_)
    refine lv_if_eq (tgt := 68) hx hb dX4_readNumber_24 (by decide) (fun hc => ?_) (fun hc => ?_)
    · have hw := hw.1 hc
      exact t_wr_X4_readNumber_68 zc hK hM hS  (lv_sub hl [0, 1, 2] rfl) hw
    · have hw := hw.2 hc
      refine lv_aload_n hx hb dX4_readNumber_27 rfl (lv_at hl 0 rfl) ?_
      refine lv_iload_n hx hb dX4_readNumber_28 rfl (lv_at hl 2 rfl) ?_
      refine lv_iload_n hx hb dX4_readNumber_29 rfl (lv_at hl 1 rfl) ?_
      refine lv_isub hx hb dX4_readNumber_30 ?_
      refine lv_iconst (v := (2 : Int32)) hx hb dX4_readNumber_31 (by decide) ?_
      refine lv_icmp_ge (tgt := 55) hx hb dX4_readNumber_32 (by decide) (fun hc => ?_) (fun hc => ?_)
      · have hw := hw.1 hc
        refine lv_aload_n hx hb dX4_readNumber_55 rfl (lv_at hl 0 rfl) ?_
        refine wrg_4_131_0 zc hK hM dX4_readNumber_56 ?_
        exact t_wr_X4_readNumber_59 zc hK hM hS (fun _ _ H locs ls h hl hM hS => h H locs ls hl hM hS) (lv_sub hl [0, 1, 2] rfl) hw
      · have hw := hw.2 hc
        refine lv_aload_n hx hb dX4_readNumber_35 rfl (lv_at hl 0 rfl) ?_
        refine wrg_4_131_0 zc hK hM dX4_readNumber_36 ?_
        refine lv_bipush (v := (10 : Int32)) hx hb dX4_readNumber_39 (by decide) ?_
        refine lv_imul hx hb dX4_readNumber_41 ?_
        refine lv_aload_n hx hb dX4_readNumber_42 rfl (lv_at hl 0 rfl) ?_
        refine wrg_4_47_0 zc hK hM dX4_readNumber_43 ?_
        refine lv_iload_n hx hb dX4_readNumber_46 rfl (lv_at hl 2 rfl) ?_
        refine wrld_22 zc hK hM hw.1 dX4_readNumber_47 ?_
        have hw := hw.2
        refine lv_iadd hx hb dX4_readNumber_48 ?_
        refine lv_bipush (v := (48 : Int32)) hx hb dX4_readNumber_49 (by decide) ?_
        refine lv_isub hx hb dX4_readNumber_51 ?_
        refine lv_goto (tgt := 59) hx hb dX4_readNumber_52 (by decide) ?_
        exact t_wr_X4_readNumber_59 zc hK hM hS (fun _ _ H locs ls h hl hM hS => h H locs ls hl hM hS) (lv_sub hl [0, 1, 2] rfl) hw
set_option maxRecDepth 20000 in
theorem t_wr_X4_readNumber_0 {p : Program} {l : Launch} {e : Env} {s : State} {m : MethodId} {args : Array Value} {below : List Frame} {meth : Method} {c : Code} {E : zE} {qr qt : Nat} {lf_huts : Int32} {lf_singers : Int32} {lf_villages : Int32} {lf_dams : Int32} {lf_echoes : Int32} {lf_deep : Int32} {lf_slide : Int32} {la_heights : Nat → Int32} {la_ladders : Nat → Int32} {la_minutes : Nat → Int32} {la_echoFrom : Nat → Int32} {la_echoTo : Nat → Int32} {la_homes : Nat → Int32} {la_talls : Nat → Int32} {la_known : Nat → Int32} {vf_deeds : Int32} {va_kinds : Nat → Int32} {va_firsts : Nat → Int32} {va_seconds : Nat → Int32} {sf_facts : Int32} {sa_heard : Nat → Int32} {sa_huts : Nat → Int32} {sa_minutes : Nat → Int32} {cf_voices : Int32} {cf_step : Int32} {ca_parts : Nat → Int32} {ca_heights : Nat → Int32} {f_fault : Int32} {f_faultPlace : Int32} {a_numbers : Nat → Int32} {a_tape : Nat → Int32} {f_length : Int32} {f_behind : Int32} {f_kind : Int32} {f_first : Int32} {f_value : Int32} {f_hutsToldOf : Int32} {f_singersToldOf : Int32} {z_from : Nat → Int32} {post : Int32 → (Int32) → (Int32) → Prop} {x1 : Int32} {ls : Array Slot} {H : Heap} {locs : List Loc}
    (zc : zC p s m args meth c cX4_readNumber 3 RX4 (some .int))
    (hK : zK E s)
    (hM : wrW E qr qt lf_huts lf_singers lf_villages lf_dams lf_echoes lf_deep lf_slide la_heights la_ladders la_minutes la_echoFrom la_echoTo la_homes la_talls la_known vf_deeds va_kinds va_firsts va_seconds sf_facts sa_heard sa_huts sa_minutes cf_voices cf_step ca_parts ca_heights f_fault f_faultPlace a_numbers a_tape f_length f_behind f_kind f_first f_value f_hutsToldOf f_singersToldOf z_from H)
    (hS : va_S (wrA qr qt) s.heap H locs)
    (hl : lv_has ls 3 [(0, .ref qr), (1, .int x1)])
    (hw : q_wr_X4_readNumber_0 a_tape f_length f_kind f_value x1 post) :
    W p l e rm_wr_X4_readNumber s m args below meth c H locs 0 0 (MQ below (zQi (S := (Int32) × (Int32)) (fun r u => post r u.1 u.2) (fun u H => wrW E qr qt lf_huts lf_singers lf_villages lf_dams lf_echoes lf_deep lf_slide la_heights la_ladders la_minutes la_echoFrom la_echoTo la_homes la_talls la_known vf_deeds va_kinds va_firsts va_seconds sf_facts sa_heard sa_huts sa_minutes cf_voices cf_step ca_parts ca_heights f_fault f_faultPlace a_numbers a_tape f_length f_behind u.1 f_first u.2 f_hutsToldOf f_singersToldOf z_from H) (wrA qr qt)) args s 0 0 (wrA qr qt)) (F0 m 0 ls []) := by
  have hx := zc.1
  have hb := zc.2.1
  refine lv_iload_n hx hb dX4_readNumber_0 rfl (lv_at hl 1 rfl) ?_
  refine lv_istore_n (lv' := [(2, .int x1), (0, .ref qr), (1, .int x1)]) hx hb dX4_readNumber_1 rfl hl (by decide) rfl (fun ls hl => ?_)
  refine lv_aload_n hx hb dX4_readNumber_2 rfl (lv_at hl 1 rfl) ?_
  refine lv_iconst (v := (0 : Int32)) hx hb dX4_readNumber_3 (by decide) ?_
  refine wrp_4_131_0 zc hK hM hS dX4_readNumber_4 (fun H locs hM hS => ?_)
  exact t_wr_X4_readNumber_7 zc hK hM hS  (lv_sub hl [1, 2, 0] rfl) hw
set_option maxRecDepth 20000 in
theorem c_wr_X4_readNumber (l : Launch) {E : zE} {qr qt : Nat} {lf_huts : Int32} {lf_singers : Int32} {lf_villages : Int32} {lf_dams : Int32} {lf_echoes : Int32} {lf_deep : Int32} {lf_slide : Int32} {la_heights : Nat → Int32} {la_ladders : Nat → Int32} {la_minutes : Nat → Int32} {la_echoFrom : Nat → Int32} {la_echoTo : Nat → Int32} {la_homes : Nat → Int32} {la_talls : Nat → Int32} {la_known : Nat → Int32} {vf_deeds : Int32} {va_kinds : Nat → Int32} {va_firsts : Nat → Int32} {va_seconds : Nat → Int32} {sf_facts : Int32} {sa_heard : Nat → Int32} {sa_huts : Nat → Int32} {sa_minutes : Nat → Int32} {cf_voices : Int32} {cf_step : Int32} {ca_parts : Nat → Int32} {ca_heights : Nat → Int32} {f_fault : Int32} {f_faultPlace : Int32} {a_numbers : Nat → Int32} {a_tape : Nat → Int32} {f_length : Int32} {f_behind : Int32} {f_kind : Int32} {f_first : Int32} {f_value : Int32} {f_hutsToldOf : Int32} {f_singersToldOf : Int32} {z_from : Nat → Int32} {x1 : Int32} {post : Int32 → (Int32) → (Int32) → Prop} (hw : q_wr_X4_readNumber_0 a_tape f_length f_kind f_value x1 post) : Met l yX4_readNumber (Cond.code yX4_readNumber cX4_readNumber 3 (some .int) :: zb) rm_wr_X4_readNumber (va_Pc [.ref qr, .int x1] (fun U => wrW E qr qt lf_huts lf_singers lf_villages lf_dams lf_echoes lf_deep lf_slide la_heights la_ladders la_minutes la_echoFrom la_echoTo la_homes la_talls la_known vf_deeds va_kinds va_firsts va_seconds sf_facts sa_heard sa_huts sa_minutes cf_voices cf_step ca_parts ca_heights f_fault f_faultPlace a_numbers a_tape f_length f_behind f_kind f_first f_value f_hutsToldOf f_singersToldOf z_from U.heap ∧ zK E U)) (zQi (S := (Int32) × (Int32)) (fun r u => post r u.1 u.2) (fun u H => wrW E qr qt lf_huts lf_singers lf_villages lf_dams lf_echoes lf_deep lf_slide la_heights la_ladders la_minutes la_echoFrom la_echoTo la_homes la_talls la_known vf_deeds va_kinds va_firsts va_seconds sf_facts sa_heard sa_huts sa_minutes cf_voices cf_step ca_parts ca_heights f_fault f_faultPlace a_numbers a_tape f_length f_behind u.1 f_first u.2 f_hutsToldOf f_singersToldOf z_from H) (wrA qr qt)) 0 0 (wrA qr qt) := by
  refine Met.ofW (cc := cX4_readNumber) (maxL := 3) (ret := (some .int)) (by decide) rfl ?_
  intro p e s m args below meth c s₁ B hml hv
  obtain ⟨rfl, hM, hK⟩ := hv
  have zc := zc_of B hml
  have hl := lv_entry ([.ref qr, .int x1]) (n := 3) (Nat.le_of_ble_eq_true rfl)
  rw [lg_entry_eq]
  generalize (lg_sl ([.ref qr, .int x1]) ++ List.replicate (3 - (lg_sl ([.ref qr, .int x1])).length) Slot.unset).toArray = ls at hl ⊢
  have hl : lv_has ls 3 [(0, .ref qr), (1, .int x1)] := hl
  exact t_wr_X4_readNumber_0 zc hK hM va_S.rf (lv_sub hl [0, 1] rfl) hw
-- wr_X4_advance
abbrev rm_wr_X4_advance : Room := { frames := 2, cells := 0, slots := 0, locals := 42 }
def q_wr_X4_advance_35 (P5 : Int32 → Prop) (a_tape : Nat → Int32) (f_length : Int32) (f_behind : Int32) (f_kind : Int32) (f_first : Int32) (f_value : Int32) (x1 : Int32) (post : (Int32) → (Int32) → (Int32) → (Int32) → Prop) : Prop :=
  ∀ v_1 : Int32, v_1 = x1 + (1 : Int32) → (P5 v_1)
def q_wr_X4_advance_149 (a_tape : Nat → Int32) (f_length : Int32) (f_behind : Int32) (f_kind : Int32) (f_first : Int32) (f_value : Int32) (x1 : Int32) (post : (Int32) → (Int32) → (Int32) → (Int32) → Prop) : Prop :=
  post x1 f_kind f_first f_value
def q_wr_X4_advance_143 (a_tape : Nat → Int32) (f_length : Int32) (f_behind : Int32) (f_kind : Int32) (f_first : Int32) (f_value : Int32) (x1 : Int32) (y0 : Int32) (post : (Int32) → (Int32) → (Int32) → (Int32) → Prop) : Prop :=
  ∀ v_1 : Int32, v_1 = x1 + (1 : Int32) → (q_wr_X4_advance_149 a_tape f_length f_behind y0 f_first f_value v_1 post)
def q_wr_X4_advance_79 (a_tape : Nat → Int32) (f_length : Int32) (f_behind : Int32) (f_kind : Int32) (f_first : Int32) (f_value : Int32) (x1 : Int32) (post : (Int32) → (Int32) → (Int32) → (Int32) → Prop) : Prop :=
  ∀ P79 : Int32 → Prop, (∀ (x1 : Int32), ((f_length ≤ x1 → (q_wr_X4_advance_149 a_tape f_length f_behind f_kind f_first f_value x1 post)) ∧ (¬ f_length ≤ x1 → (vp_in x1 600 ∧ (q_z_X4_isLetter_0 (a_tape (Int32.toNatClampNeg x1)) (fun r_1 => (r_1 = 0 → (q_wr_X4_advance_149 a_tape f_length f_behind f_kind f_first f_value x1 post)) ∧ (¬ r_1 = 0 → (∀ v_1 : Int32, v_1 = x1 + (1 : Int32) → (P79 v_1)))))))) → P79 x1) → P79 x1
def q_wr_X4_advance_41 (a_tape : Nat → Int32) (f_length : Int32) (f_behind : Int32) (f_kind : Int32) (f_first : Int32) (f_value : Int32) (x1 : Int32) (post : (Int32) → (Int32) → (Int32) → (Int32) → Prop) : Prop :=
  (x1 < f_length → (vp_in x1 600 ∧ (q_z_X4_isLetter_0 (a_tape (Int32.toNatClampNeg x1)) (fun r_1 => (r_1 = 0 → (vp_in x1 600 ∧ (q_z_X4_isDigit_0 (a_tape (Int32.toNatClampNeg x1)) (fun r_2 => (r_2 = 0 → (vp_in x1 600 ∧ ((¬ (a_tape (Int32.toNatClampNeg x1)) = (59 : Int32) → (q_wr_X4_advance_143 a_tape f_length f_behind f_kind x1 f_value x1 (4 : Int32) post)) ∧ ((a_tape (Int32.toNatClampNeg x1)) = (59 : Int32) → (q_wr_X4_advance_143 a_tape f_length f_behind f_kind x1 f_value x1 (3 : Int32) post))))) ∧ (¬ r_2 = 0 → (q_wr_X4_readNumber_0 a_tape f_length f_kind f_value x1 (fun r_3 f_kind_1 f_value_1 => q_wr_X4_advance_149 a_tape f_length f_behind f_kind_1 x1 f_value_1 r_3 post))))))) ∧ (¬ r_1 = 0 → (q_wr_X4_advance_79 a_tape f_length f_behind (1 : Int32) x1 f_value x1 post)))))) ∧ (¬ x1 < f_length → (q_wr_X4_advance_149 a_tape f_length f_behind (0 : Int32) x1 f_value x1 post))
def q_wr_X4_advance_5 (a_tape : Nat → Int32) (f_length : Int32) (f_behind : Int32) (f_kind : Int32) (f_first : Int32) (f_value : Int32) (x1 : Int32) (post : (Int32) → (Int32) → (Int32) → (Int32) → Prop) : Prop :=
  ∀ P5 : Int32 → Prop, (∀ (x1 : Int32), ((f_length ≤ x1 → (q_wr_X4_advance_41 a_tape f_length f_behind f_kind f_first f_value x1 post)) ∧ (¬ f_length ≤ x1 → (vp_in x1 600 ∧ (((a_tape (Int32.toNatClampNeg x1)) = (10 : Int32) → (q_wr_X4_advance_35 P5 a_tape f_length f_behind f_kind f_first f_value x1 post)) ∧ (¬ (a_tape (Int32.toNatClampNeg x1)) = (10 : Int32) → (vp_in x1 600 ∧ ((¬ (a_tape (Int32.toNatClampNeg x1)) = (32 : Int32) → (q_wr_X4_advance_41 a_tape f_length f_behind f_kind f_first f_value x1 post)) ∧ ((a_tape (Int32.toNatClampNeg x1)) = (32 : Int32) → (q_wr_X4_advance_35 P5 a_tape f_length f_behind f_kind f_first f_value x1 post))))))))) → P5 x1) → P5 x1
def q_wr_X4_advance_0 (a_tape : Nat → Int32) (f_length : Int32) (f_behind : Int32) (f_kind : Int32) (f_first : Int32) (f_value : Int32) (post : (Int32) → (Int32) → (Int32) → (Int32) → Prop) : Prop :=
  q_wr_X4_advance_5 a_tape f_length f_behind f_kind f_first f_value f_behind post
set_option maxRecDepth 20000 in
theorem t_wr_X4_advance_35 {p : Program} {l : Launch} {e : Env} {s : State} {m : MethodId} {args : Array Value} {below : List Frame} {meth : Method} {c : Code} {E : zE} {qr qt : Nat} {lf_huts : Int32} {lf_singers : Int32} {lf_villages : Int32} {lf_dams : Int32} {lf_echoes : Int32} {lf_deep : Int32} {lf_slide : Int32} {la_heights : Nat → Int32} {la_ladders : Nat → Int32} {la_minutes : Nat → Int32} {la_echoFrom : Nat → Int32} {la_echoTo : Nat → Int32} {la_homes : Nat → Int32} {la_talls : Nat → Int32} {la_known : Nat → Int32} {vf_deeds : Int32} {va_kinds : Nat → Int32} {va_firsts : Nat → Int32} {va_seconds : Nat → Int32} {sf_facts : Int32} {sa_heard : Nat → Int32} {sa_huts : Nat → Int32} {sa_minutes : Nat → Int32} {cf_voices : Int32} {cf_step : Int32} {ca_parts : Nat → Int32} {ca_heights : Nat → Int32} {f_fault : Int32} {f_faultPlace : Int32} {a_numbers : Nat → Int32} {a_tape : Nat → Int32} {f_length : Int32} {f_behind : Int32} {f_kind : Int32} {f_first : Int32} {f_value : Int32} {f_hutsToldOf : Int32} {f_singersToldOf : Int32} {z_from : Nat → Int32} {P5 : Int32 → Prop} {post : (Int32) → (Int32) → (Int32) → (Int32) → Prop} {x1 : Int32} {ls : Array Slot} {H : Heap} {locs : List Loc}
    (zc : zC p s m args meth c cX4_advance 2 RX4 none)
    (hK : zK E s)
    (hM : wrW E qr qt lf_huts lf_singers lf_villages lf_dams lf_echoes lf_deep lf_slide la_heights la_ladders la_minutes la_echoFrom la_echoTo la_homes la_talls la_known vf_deeds va_kinds va_firsts va_seconds sf_facts sa_heard sa_huts sa_minutes cf_voices cf_step ca_parts ca_heights f_fault f_faultPlace a_numbers a_tape f_length f_behind f_kind f_first f_value f_hutsToldOf f_singersToldOf z_from H)
    (hS : va_S (wrA qr qt) s.heap H locs)
    (hP5 : ∀ (x1 : Int32) (H : Heap) (locs : List Loc) (ls : Array Slot), P5 x1 → lv_has ls 2 [(0, .ref qr), (1, .int x1)] → wrW E qr qt lf_huts lf_singers lf_villages lf_dams lf_echoes lf_deep lf_slide la_heights la_ladders la_minutes la_echoFrom la_echoTo la_homes la_talls la_known vf_deeds va_kinds va_firsts va_seconds sf_facts sa_heard sa_huts sa_minutes cf_voices cf_step ca_parts ca_heights f_fault f_faultPlace a_numbers a_tape f_length f_behind f_kind f_first f_value f_hutsToldOf f_singersToldOf z_from H → va_S (wrA qr qt) s.heap H locs → W p l e rm_wr_X4_advance s m args below meth c H locs 0 0 (MQ below (zQv (S := (Int32) × (Int32) × (Int32) × (Int32)) (fun u => post u.1 u.2.1 u.2.2.1 u.2.2.2) (fun u H => wrW E qr qt lf_huts lf_singers lf_villages lf_dams lf_echoes lf_deep lf_slide la_heights la_ladders la_minutes la_echoFrom la_echoTo la_homes la_talls la_known vf_deeds va_kinds va_firsts va_seconds sf_facts sa_heard sa_huts sa_minutes cf_voices cf_step ca_parts ca_heights f_fault f_faultPlace a_numbers a_tape f_length u.1 u.2.1 u.2.2.1 u.2.2.2 f_hutsToldOf f_singersToldOf z_from H) (wrA qr qt)) args s 0 0 (wrA qr qt)) (F0 m 5 ls []))
    (hl : lv_has ls 2 [(0, .ref qr), (1, .int x1)])
    (hw : q_wr_X4_advance_35 P5 a_tape f_length f_behind f_kind f_first f_value x1 post) :
    W p l e rm_wr_X4_advance s m args below meth c H locs 0 0 (MQ below (zQv (S := (Int32) × (Int32) × (Int32) × (Int32)) (fun u => post u.1 u.2.1 u.2.2.1 u.2.2.2) (fun u H => wrW E qr qt lf_huts lf_singers lf_villages lf_dams lf_echoes lf_deep lf_slide la_heights la_ladders la_minutes la_echoFrom la_echoTo la_homes la_talls la_known vf_deeds va_kinds va_firsts va_seconds sf_facts sa_heard sa_huts sa_minutes cf_voices cf_step ca_parts ca_heights f_fault f_faultPlace a_numbers a_tape f_length u.1 u.2.1 u.2.2.1 u.2.2.2 f_hutsToldOf f_singersToldOf z_from H) (wrA qr qt)) args s 0 0 (wrA qr qt)) (F0 m 35 ls []) := by
  have hx := zc.1
  have hb := zc.2.1
  obtain ⟨v_1, ev_1⟩ : ∃ y : Int32, y = x1 + (1 : Int32) := ⟨_, rfl⟩
  have hw := hw v_1 ev_1
  refine lv_iinc (v := v_1) (k := 1) (lv' := [(1, .int v_1), (0, .ref qr)]) hx hb dX4_advance_35 hl rfl (by rw [ev_1]; rfl) (by decide) rfl (fun ls hl => ?_)
  refine lv_goto (tgt := 5) hx hb dX4_advance_38 (by decide) ?_
  exact hP5 _ _ _ _ hw (lv_sub hl [1, 0] rfl) hM hS
set_option maxRecDepth 20000 in
theorem t_wr_X4_advance_149 {p : Program} {l : Launch} {e : Env} {s : State} {m : MethodId} {args : Array Value} {below : List Frame} {meth : Method} {c : Code} {E : zE} {qr qt : Nat} {lf_huts : Int32} {lf_singers : Int32} {lf_villages : Int32} {lf_dams : Int32} {lf_echoes : Int32} {lf_deep : Int32} {lf_slide : Int32} {la_heights : Nat → Int32} {la_ladders : Nat → Int32} {la_minutes : Nat → Int32} {la_echoFrom : Nat → Int32} {la_echoTo : Nat → Int32} {la_homes : Nat → Int32} {la_talls : Nat → Int32} {la_known : Nat → Int32} {vf_deeds : Int32} {va_kinds : Nat → Int32} {va_firsts : Nat → Int32} {va_seconds : Nat → Int32} {sf_facts : Int32} {sa_heard : Nat → Int32} {sa_huts : Nat → Int32} {sa_minutes : Nat → Int32} {cf_voices : Int32} {cf_step : Int32} {ca_parts : Nat → Int32} {ca_heights : Nat → Int32} {f_fault : Int32} {f_faultPlace : Int32} {a_numbers : Nat → Int32} {a_tape : Nat → Int32} {f_length : Int32} {f_behind : Int32} {f_kind : Int32} {f_first : Int32} {f_value : Int32} {f_hutsToldOf : Int32} {f_singersToldOf : Int32} {z_from : Nat → Int32} {post : (Int32) → (Int32) → (Int32) → (Int32) → Prop} {x1 : Int32} {ls : Array Slot} {H : Heap} {locs : List Loc}
    (zc : zC p s m args meth c cX4_advance 2 RX4 none)
    (hK : zK E s)
    (hM : wrW E qr qt lf_huts lf_singers lf_villages lf_dams lf_echoes lf_deep lf_slide la_heights la_ladders la_minutes la_echoFrom la_echoTo la_homes la_talls la_known vf_deeds va_kinds va_firsts va_seconds sf_facts sa_heard sa_huts sa_minutes cf_voices cf_step ca_parts ca_heights f_fault f_faultPlace a_numbers a_tape f_length f_behind f_kind f_first f_value f_hutsToldOf f_singersToldOf z_from H)
    (hS : va_S (wrA qr qt) s.heap H locs)
    (hl : lv_has ls 2 [(0, .ref qr), (1, .int x1)])
    (hw : q_wr_X4_advance_149 a_tape f_length f_behind f_kind f_first f_value x1 post) :
    W p l e rm_wr_X4_advance s m args below meth c H locs 0 0 (MQ below (zQv (S := (Int32) × (Int32) × (Int32) × (Int32)) (fun u => post u.1 u.2.1 u.2.2.1 u.2.2.2) (fun u H => wrW E qr qt lf_huts lf_singers lf_villages lf_dams lf_echoes lf_deep lf_slide la_heights la_ladders la_minutes la_echoFrom la_echoTo la_homes la_talls la_known vf_deeds va_kinds va_firsts va_seconds sf_facts sa_heard sa_huts sa_minutes cf_voices cf_step ca_parts ca_heights f_fault f_faultPlace a_numbers a_tape f_length u.1 u.2.1 u.2.2.1 u.2.2.2 f_hutsToldOf f_singersToldOf z_from H) (wrA qr qt)) args s 0 0 (wrA qr qt)) (F0 m 149 ls []) := by
  have hx := zc.1
  have hb := zc.2.1
  refine lv_aload_n hx hb dX4_advance_149 rfl (lv_at hl 0 rfl) ?_
  refine lv_iload_n hx hb dX4_advance_150 rfl (lv_at hl 1 rfl) ?_
  refine wrp_4_60_0 zc hK hM hS dX4_advance_151 (fun H locs hM hS => ?_)
  exact zret_vw ⟨x1, f_kind, f_first, f_value⟩ zc hS hw hM dX4_advance_154
set_option maxRecDepth 20000 in
theorem t_wr_X4_advance_143 {p : Program} {l : Launch} {e : Env} {s : State} {m : MethodId} {args : Array Value} {below : List Frame} {meth : Method} {c : Code} {E : zE} {qr qt : Nat} {lf_huts : Int32} {lf_singers : Int32} {lf_villages : Int32} {lf_dams : Int32} {lf_echoes : Int32} {lf_deep : Int32} {lf_slide : Int32} {la_heights : Nat → Int32} {la_ladders : Nat → Int32} {la_minutes : Nat → Int32} {la_echoFrom : Nat → Int32} {la_echoTo : Nat → Int32} {la_homes : Nat → Int32} {la_talls : Nat → Int32} {la_known : Nat → Int32} {vf_deeds : Int32} {va_kinds : Nat → Int32} {va_firsts : Nat → Int32} {va_seconds : Nat → Int32} {sf_facts : Int32} {sa_heard : Nat → Int32} {sa_huts : Nat → Int32} {sa_minutes : Nat → Int32} {cf_voices : Int32} {cf_step : Int32} {ca_parts : Nat → Int32} {ca_heights : Nat → Int32} {f_fault : Int32} {f_faultPlace : Int32} {a_numbers : Nat → Int32} {a_tape : Nat → Int32} {f_length : Int32} {f_behind : Int32} {f_kind : Int32} {f_first : Int32} {f_value : Int32} {f_hutsToldOf : Int32} {f_singersToldOf : Int32} {z_from : Nat → Int32} {post : (Int32) → (Int32) → (Int32) → (Int32) → Prop} {x1 : Int32} {y0 : Int32} {ls : Array Slot} {H : Heap} {locs : List Loc}
    (zc : zC p s m args meth c cX4_advance 2 RX4 none)
    (hK : zK E s)
    (hM : wrW E qr qt lf_huts lf_singers lf_villages lf_dams lf_echoes lf_deep lf_slide la_heights la_ladders la_minutes la_echoFrom la_echoTo la_homes la_talls la_known vf_deeds va_kinds va_firsts va_seconds sf_facts sa_heard sa_huts sa_minutes cf_voices cf_step ca_parts ca_heights f_fault f_faultPlace a_numbers a_tape f_length f_behind f_kind f_first f_value f_hutsToldOf f_singersToldOf z_from H)
    (hS : va_S (wrA qr qt) s.heap H locs)
    (hl : lv_has ls 2 [(0, .ref qr), (1, .int x1)])
    (hw : q_wr_X4_advance_143 a_tape f_length f_behind f_kind f_first f_value x1 y0 post) :
    W p l e rm_wr_X4_advance s m args below meth c H locs 0 0 (MQ below (zQv (S := (Int32) × (Int32) × (Int32) × (Int32)) (fun u => post u.1 u.2.1 u.2.2.1 u.2.2.2) (fun u H => wrW E qr qt lf_huts lf_singers lf_villages lf_dams lf_echoes lf_deep lf_slide la_heights la_ladders la_minutes la_echoFrom la_echoTo la_homes la_talls la_known vf_deeds va_kinds va_firsts va_seconds sf_facts sa_heard sa_huts sa_minutes cf_voices cf_step ca_parts ca_heights f_fault f_faultPlace a_numbers a_tape f_length u.1 u.2.1 u.2.2.1 u.2.2.2 f_hutsToldOf f_singersToldOf z_from H) (wrA qr qt)) args s 0 0 (wrA qr qt)) (F0 m 143 ls [.int y0, .ref qr]) := by
  have hx := zc.1
  have hb := zc.2.1
  refine wrp_4_73_0 zc hK hM hS dX4_advance_143 (fun H locs hM hS => ?_)
  obtain ⟨v_1, ev_1⟩ : ∃ y : Int32, y = x1 + (1 : Int32) := ⟨_, rfl⟩
  have hw := hw v_1 ev_1
  refine lv_iinc (v := v_1) (k := 1) (lv' := [(1, .int v_1), (0, .ref qr)]) hx hb dX4_advance_146 hl rfl (by rw [ev_1]; rfl) (by decide) rfl (fun ls hl => ?_)
  exact t_wr_X4_advance_149 zc hK hM hS  (lv_sub hl [1, 0] rfl) hw
set_option maxRecDepth 20000 in
theorem t_wr_X4_advance_79 {p : Program} {l : Launch} {e : Env} {s : State} {m : MethodId} {args : Array Value} {below : List Frame} {meth : Method} {c : Code} {E : zE} {qr qt : Nat} {lf_huts : Int32} {lf_singers : Int32} {lf_villages : Int32} {lf_dams : Int32} {lf_echoes : Int32} {lf_deep : Int32} {lf_slide : Int32} {la_heights : Nat → Int32} {la_ladders : Nat → Int32} {la_minutes : Nat → Int32} {la_echoFrom : Nat → Int32} {la_echoTo : Nat → Int32} {la_homes : Nat → Int32} {la_talls : Nat → Int32} {la_known : Nat → Int32} {vf_deeds : Int32} {va_kinds : Nat → Int32} {va_firsts : Nat → Int32} {va_seconds : Nat → Int32} {sf_facts : Int32} {sa_heard : Nat → Int32} {sa_huts : Nat → Int32} {sa_minutes : Nat → Int32} {cf_voices : Int32} {cf_step : Int32} {ca_parts : Nat → Int32} {ca_heights : Nat → Int32} {f_fault : Int32} {f_faultPlace : Int32} {a_numbers : Nat → Int32} {a_tape : Nat → Int32} {f_length : Int32} {f_behind : Int32} {f_kind : Int32} {f_first : Int32} {f_value : Int32} {f_hutsToldOf : Int32} {f_singersToldOf : Int32} {z_from : Nat → Int32} {post : (Int32) → (Int32) → (Int32) → (Int32) → Prop} {x1 : Int32} {ls : Array Slot} {H : Heap} {locs : List Loc}
    (zc : zC p s m args meth c cX4_advance 2 RX4 none)
    (hK : zK E s)
    (hM : wrW E qr qt lf_huts lf_singers lf_villages lf_dams lf_echoes lf_deep lf_slide la_heights la_ladders la_minutes la_echoFrom la_echoTo la_homes la_talls la_known vf_deeds va_kinds va_firsts va_seconds sf_facts sa_heard sa_huts sa_minutes cf_voices cf_step ca_parts ca_heights f_fault f_faultPlace a_numbers a_tape f_length f_behind f_kind f_first f_value f_hutsToldOf f_singersToldOf z_from H)
    (hS : va_S (wrA qr qt) s.heap H locs)
    (hl : lv_has ls 2 [(0, .ref qr), (1, .int x1)])
    (hw : q_wr_X4_advance_79 a_tape f_length f_behind f_kind f_first f_value x1 post) :
    W p l e rm_wr_X4_advance s m args below meth c H locs 0 0 (MQ below (zQv (S := (Int32) × (Int32) × (Int32) × (Int32)) (fun u => post u.1 u.2.1 u.2.2.1 u.2.2.2) (fun u H => wrW E qr qt lf_huts lf_singers lf_villages lf_dams lf_echoes lf_deep lf_slide la_heights la_ladders la_minutes la_echoFrom la_echoTo la_homes la_talls la_known vf_deeds va_kinds va_firsts va_seconds sf_facts sa_heard sa_huts sa_minutes cf_voices cf_step ca_parts ca_heights f_fault f_faultPlace a_numbers a_tape f_length u.1 u.2.1 u.2.2.1 u.2.2.2 f_hutsToldOf f_singersToldOf z_from H) (wrA qr qt)) args s 0 0 (wrA qr qt)) (F0 m 79 ls []) := by
  have hx := zc.1
  have hb := zc.2.1
  refine hw (fun x1 => ∀ (H : Heap) (locs : List Loc) (ls : Array Slot), lv_has ls 2 [(0, .ref qr), (1, .int x1)] → wrW E qr qt lf_huts lf_singers lf_villages lf_dams lf_echoes lf_deep lf_slide la_heights la_ladders la_minutes la_echoFrom la_echoTo la_homes la_talls la_known vf_deeds va_kinds va_firsts va_seconds sf_facts sa_heard sa_huts sa_minutes cf_voices cf_step ca_parts ca_heights f_fault f_faultPlace a_numbers a_tape f_length f_behind f_kind f_first f_value f_hutsToldOf f_singersToldOf z_from H → va_S (wrA qr qt) s.heap H locs → W p l e rm_wr_X4_advance s m args below meth c H locs 0 0 (MQ below (zQv (S := (Int32) × (Int32) × (Int32) × (Int32)) (fun u => post u.1 u.2.1 u.2.2.1 u.2.2.2) (fun u H => wrW E qr qt lf_huts lf_singers lf_villages lf_dams lf_echoes lf_deep lf_slide la_heights la_ladders la_minutes la_echoFrom la_echoTo la_homes la_talls la_known vf_deeds va_kinds va_firsts va_seconds sf_facts sa_heard sa_huts sa_minutes cf_voices cf_step ca_parts ca_heights f_fault f_faultPlace a_numbers a_tape f_length u.1 u.2.1 u.2.2.1 u.2.2.2 f_hutsToldOf f_singersToldOf z_from H) (wrA qr qt)) args s 0 0 (wrA qr qt)) (F0 m 79 ls [])) ?_ _ _ _ hl hM hS
  intro x1 hw H locs ls hl hM hS
  refine lv_iload_n hx hb dX4_advance_79 rfl (lv_at hl 1 rfl) ?_
  refine lv_aload_n hx hb dX4_advance_80 rfl (lv_at hl 0 rfl) ?_
  refine wrg_4_57_0 zc hK hM dX4_advance_81 ?_
  refine lv_icmp_ge (tgt := 149) hx hb dX4_advance_84 (by decide) (fun hc => ?_) (fun hc => ?_)
  · have hw := hw.1 hc
    exact t_wr_X4_advance_149 zc hK hM hS  (lv_sub hl [0, 1] rfl) hw
  · have hw := hw.2 hc
    refine lv_aload_n hx hb dX4_advance_87 rfl (lv_at hl 0 rfl) ?_
    refine wrg_4_47_0 zc hK hM dX4_advance_88 ?_
    refine lv_iload_n hx hb dX4_advance_91 rfl (lv_at hl 1 rfl) ?_
    refine wrld_22 zc hK hM hw.1 dX4_advance_92 ?_
    have hw := hw.2
    refine zS_i [.int (a_tape (Int32.toNatClampNeg x1))] [] zc ky_X4_isLetter kz_X4_isLetter km_4_196 (c_z_X4_isLetter l hw) (zPre0 _) rfl rfl hl.1 (Nat.le_of_ble_eq_true rfl) ⟨rfl, rfl⟩ ⟨Nat.le_of_ble_eq_true rfl, Nat.le_of_ble_eq_true rfl⟩ ⟨(Nat.zero_le _), (Nat.zero_le _)⟩ dX4_advance_93 (fun r_1 hw => ?_)
    refine lv_if_eq (tgt := 149) hx hb dX4_advance_96 (by decide) (fun hc => ?_) (fun hc => ?_)
    · have hw := hw.1 hc
      exact t_wr_X4_advance_149 zc hK hM hS  (lv_sub hl [0, 1] rfl) hw
    · have hw := hw.2 hc
      obtain ⟨v_1, ev_1⟩ : ∃ y : Int32, y = x1 + (1 : Int32) := ⟨_, rfl⟩
      have hw := hw v_1 ev_1
      refine lv_iinc (v := v_1) (k := 1) (lv' := [(1, .int v_1), (0, .ref qr)]) hx hb dX4_advance_99 hl rfl (by rw [ev_1]; rfl) (by decide) rfl (fun ls hl => ?_)
      refine lv_goto (tgt := 79) hx hb dX4_advance_102 (by decide) ?_
      exact hw _ _ _ (lv_sub hl [1, 0] rfl) hM hS
set_option maxRecDepth 20000 in
theorem t_wr_X4_advance_41 {p : Program} {l : Launch} {e : Env} {s : State} {m : MethodId} {args : Array Value} {below : List Frame} {meth : Method} {c : Code} {E : zE} {qr qt : Nat} {lf_huts : Int32} {lf_singers : Int32} {lf_villages : Int32} {lf_dams : Int32} {lf_echoes : Int32} {lf_deep : Int32} {lf_slide : Int32} {la_heights : Nat → Int32} {la_ladders : Nat → Int32} {la_minutes : Nat → Int32} {la_echoFrom : Nat → Int32} {la_echoTo : Nat → Int32} {la_homes : Nat → Int32} {la_talls : Nat → Int32} {la_known : Nat → Int32} {vf_deeds : Int32} {va_kinds : Nat → Int32} {va_firsts : Nat → Int32} {va_seconds : Nat → Int32} {sf_facts : Int32} {sa_heard : Nat → Int32} {sa_huts : Nat → Int32} {sa_minutes : Nat → Int32} {cf_voices : Int32} {cf_step : Int32} {ca_parts : Nat → Int32} {ca_heights : Nat → Int32} {f_fault : Int32} {f_faultPlace : Int32} {a_numbers : Nat → Int32} {a_tape : Nat → Int32} {f_length : Int32} {f_behind : Int32} {f_kind : Int32} {f_first : Int32} {f_value : Int32} {f_hutsToldOf : Int32} {f_singersToldOf : Int32} {z_from : Nat → Int32} {post : (Int32) → (Int32) → (Int32) → (Int32) → Prop} {x1 : Int32} {ls : Array Slot} {H : Heap} {locs : List Loc}
    (zc : zC p s m args meth c cX4_advance 2 RX4 none)
    (hK : zK E s)
    (hM : wrW E qr qt lf_huts lf_singers lf_villages lf_dams lf_echoes lf_deep lf_slide la_heights la_ladders la_minutes la_echoFrom la_echoTo la_homes la_talls la_known vf_deeds va_kinds va_firsts va_seconds sf_facts sa_heard sa_huts sa_minutes cf_voices cf_step ca_parts ca_heights f_fault f_faultPlace a_numbers a_tape f_length f_behind f_kind f_first f_value f_hutsToldOf f_singersToldOf z_from H)
    (hS : va_S (wrA qr qt) s.heap H locs)
    (hl : lv_has ls 2 [(0, .ref qr), (1, .int x1)])
    (hw : q_wr_X4_advance_41 a_tape f_length f_behind f_kind f_first f_value x1 post) :
    W p l e rm_wr_X4_advance s m args below meth c H locs 0 0 (MQ below (zQv (S := (Int32) × (Int32) × (Int32) × (Int32)) (fun u => post u.1 u.2.1 u.2.2.1 u.2.2.2) (fun u H => wrW E qr qt lf_huts lf_singers lf_villages lf_dams lf_echoes lf_deep lf_slide la_heights la_ladders la_minutes la_echoFrom la_echoTo la_homes la_talls la_known vf_deeds va_kinds va_firsts va_seconds sf_facts sa_heard sa_huts sa_minutes cf_voices cf_step ca_parts ca_heights f_fault f_faultPlace a_numbers a_tape f_length u.1 u.2.1 u.2.2.1 u.2.2.2 f_hutsToldOf f_singersToldOf z_from H) (wrA qr qt)) args s 0 0 (wrA qr qt)) (F0 m 41 ls []) := by
  have hx := zc.1
  have hb := zc.2.1
  refine lv_aload_n hx hb dX4_advance_41 rfl (lv_at hl 0 rfl) ?_
  refine lv_iload_n hx hb dX4_advance_42 rfl (lv_at hl 1 rfl) ?_
  refine wrp_4_125_0 zc hK hM hS dX4_advance_43 (fun H locs hM hS => ?_)
  refine lv_iload_n hx hb dX4_advance_46 rfl (lv_at hl 1 rfl) ?_
  refine lv_aload_n hx hb dX4_advance_47 rfl (lv_at hl 0 rfl) ?_
  refine wrg_4_57_0 zc hK hM dX4_advance_48 ?_
  refine lv_icmp_lt (tgt := 62) hx hb dX4_advance_51 (by decide) (fun hc => ?_) (fun hc => ?_)
  · have hw := hw.1 hc
    refine lv_aload_n hx hb dX4_advance_62 rfl (lv_at hl 0 rfl) ?_
    refine wrg_4_47_0 zc hK hM dX4_advance_63 ?_
    refine lv_iload_n hx hb dX4_advance_66 rfl (lv_at hl 1 rfl) ?_
    refine wrld_22 zc hK hM hw.1 dX4_advance_67 ?_
    have hw := hw.2
    refine zS_i [.int (a_tape (Int32.toNatClampNeg x1))] [] zc ky_X4_isLetter kz_X4_isLetter km_4_196 (c_z_X4_isLetter l hw) (zPre0 _) rfl rfl hl.1 (Nat.le_of_ble_eq_true rfl) ⟨rfl, rfl⟩ ⟨Nat.le_of_ble_eq_true rfl, Nat.le_of_ble_eq_true rfl⟩ ⟨(Nat.zero_le _), (Nat.zero_le _)⟩ dX4_advance_68 (fun r_1 hw => ?_)
    refine lv_if_eq (tgt := 105) hx hb dX4_advance_71 (by decide) (fun hc => ?_) (fun hc => ?_)
    · have hw := hw.1 hc
      refine lv_aload_n hx hb dX4_advance_105 rfl (lv_at hl 0 rfl) ?_
      refine wrg_4_47_0 zc hK hM dX4_advance_106 ?_
      refine lv_iload_n hx hb dX4_advance_109 rfl (lv_at hl 1 rfl) ?_
      refine wrld_22 zc hK hM hw.1 dX4_advance_110 ?_
      have hw := hw.2
      refine zS_i [.int (a_tape (Int32.toNatClampNeg x1))] [] zc ky_X4_isDigit kz_X4_isDigit km_4_200 (c_z_X4_isDigit l hw) (zPre0 _) rfl rfl hl.1 (Nat.le_of_ble_eq_true rfl) ⟨rfl, rfl⟩ ⟨Nat.le_of_ble_eq_true rfl, Nat.le_of_ble_eq_true rfl⟩ ⟨(Nat.zero_le _), (Nat.zero_le _)⟩ dX4_advance_111 (fun r_2 hw => ?_)
      refine lv_if_eq (tgt := 126) hx hb dX4_advance_114 (by decide) (fun hc => ?_) (fun hc => ?_)
      · have hw := hw.1 hc
        refine lv_aload_n hx hb dX4_advance_126 rfl (lv_at hl 0 rfl) ?_
        refine lv_aload_n hx hb dX4_advance_127 rfl (lv_at hl 0 rfl) ?_
        refine wrg_4_47_0 zc hK hM dX4_advance_128 ?_
        refine lv_iload_n hx hb dX4_advance_131 rfl (lv_at hl 1 rfl) ?_
        refine wrld_22 zc hK hM hw.1 dX4_advance_132 ?_
        have hw := hw.2
        refine lv_bipush (v := (59 : Int32)) hx hb dX4_advance_133 (by decide) ?_
        refine lv_icmp_ne (tgt := 142) hx hb dX4_advance_135 (by decide) (fun hc => ?_) (fun hc => ?_)
        · have hw := hw.1 hc
          refine lv_iconst (v := (4 : Int32)) hx hb dX4_advance_142 (by decide) ?_
          exact t_wr_X4_advance_143 zc hK hM hS  (lv_sub hl [0, 1] rfl) hw
        · have hw := hw.2 hc
          refine lv_iconst (v := (3 : Int32)) hx hb dX4_advance_138 (by decide) ?_
          refine lv_goto (tgt := 143) hx hb dX4_advance_139 (by decide) ?_
          exact t_wr_X4_advance_143 zc hK hM hS  (lv_sub hl [0, 1] rfl) hw
      · have hw := hw.2 hc
        refine lv_aload_n hx hb dX4_advance_117 rfl (lv_at hl 0 rfl) ?_
        refine lv_iload_n hx hb dX4_advance_118 rfl (lv_at hl 1 rfl) ?_
        refine zVw_i [.int x1] [] zc ky_X4_readNumber kz_X4_readNumber km_4_203 (c_wr_X4_readNumber l hw) (wrPreV0 hK hM) hS rfl rfl hl.1 (Nat.le_of_ble_eq_true rfl) ⟨rfl, rfl⟩ ⟨Nat.le_of_ble_eq_true rfl, Nat.le_of_ble_eq_true rfl⟩ ⟨(Nat.zero_le _), (Nat.zero_le _)⟩ dX4_advance_119 (fun r_3 u H locs hw hM hS => ?_)
        obtain ⟨f_kind_1, f_value_1⟩ := u
        refine lv_istore_n (lv' := [(1, .int r_3), (0, .ref qr)]) hx hb dX4_advance_122 rfl hl (by decide) rfl (fun ls hl => ?_)
        refine lv_goto (tgt := 149) hx hb dX4_advance_123 (by decide) ?_
        exact t_wr_X4_advance_149 zc hK hM hS  (lv_sub hl [1, 0] rfl) hw
    · have hw := hw.2 hc
      refine lv_aload_n hx hb dX4_advance_74 rfl (lv_at hl 0 rfl) ?_
      refine lv_iconst (v := (1 : Int32)) hx hb dX4_advance_75 (by decide) ?_
      refine wrp_4_73_0 zc hK hM hS dX4_advance_76 (fun H locs hM hS => ?_)
      exact t_wr_X4_advance_79 zc hK hM hS  (lv_sub hl [0, 1] rfl) hw
  · have hw := hw.2 hc
    refine lv_aload_n hx hb dX4_advance_54 rfl (lv_at hl 0 rfl) ?_
    refine lv_iconst (v := (0 : Int32)) hx hb dX4_advance_55 (by decide) ?_
    refine wrp_4_73_0 zc hK hM hS dX4_advance_56 (fun H locs hM hS => ?_)
    refine lv_goto (tgt := 149) hx hb dX4_advance_59 (by decide) ?_
    exact t_wr_X4_advance_149 zc hK hM hS  (lv_sub hl [0, 1] rfl) hw
set_option maxRecDepth 20000 in
theorem t_wr_X4_advance_5 {p : Program} {l : Launch} {e : Env} {s : State} {m : MethodId} {args : Array Value} {below : List Frame} {meth : Method} {c : Code} {E : zE} {qr qt : Nat} {lf_huts : Int32} {lf_singers : Int32} {lf_villages : Int32} {lf_dams : Int32} {lf_echoes : Int32} {lf_deep : Int32} {lf_slide : Int32} {la_heights : Nat → Int32} {la_ladders : Nat → Int32} {la_minutes : Nat → Int32} {la_echoFrom : Nat → Int32} {la_echoTo : Nat → Int32} {la_homes : Nat → Int32} {la_talls : Nat → Int32} {la_known : Nat → Int32} {vf_deeds : Int32} {va_kinds : Nat → Int32} {va_firsts : Nat → Int32} {va_seconds : Nat → Int32} {sf_facts : Int32} {sa_heard : Nat → Int32} {sa_huts : Nat → Int32} {sa_minutes : Nat → Int32} {cf_voices : Int32} {cf_step : Int32} {ca_parts : Nat → Int32} {ca_heights : Nat → Int32} {f_fault : Int32} {f_faultPlace : Int32} {a_numbers : Nat → Int32} {a_tape : Nat → Int32} {f_length : Int32} {f_behind : Int32} {f_kind : Int32} {f_first : Int32} {f_value : Int32} {f_hutsToldOf : Int32} {f_singersToldOf : Int32} {z_from : Nat → Int32} {post : (Int32) → (Int32) → (Int32) → (Int32) → Prop} {x1 : Int32} {ls : Array Slot} {H : Heap} {locs : List Loc}
    (zc : zC p s m args meth c cX4_advance 2 RX4 none)
    (hK : zK E s)
    (hM : wrW E qr qt lf_huts lf_singers lf_villages lf_dams lf_echoes lf_deep lf_slide la_heights la_ladders la_minutes la_echoFrom la_echoTo la_homes la_talls la_known vf_deeds va_kinds va_firsts va_seconds sf_facts sa_heard sa_huts sa_minutes cf_voices cf_step ca_parts ca_heights f_fault f_faultPlace a_numbers a_tape f_length f_behind f_kind f_first f_value f_hutsToldOf f_singersToldOf z_from H)
    (hS : va_S (wrA qr qt) s.heap H locs)
    (hl : lv_has ls 2 [(0, .ref qr), (1, .int x1)])
    (hw : q_wr_X4_advance_5 a_tape f_length f_behind f_kind f_first f_value x1 post) :
    W p l e rm_wr_X4_advance s m args below meth c H locs 0 0 (MQ below (zQv (S := (Int32) × (Int32) × (Int32) × (Int32)) (fun u => post u.1 u.2.1 u.2.2.1 u.2.2.2) (fun u H => wrW E qr qt lf_huts lf_singers lf_villages lf_dams lf_echoes lf_deep lf_slide la_heights la_ladders la_minutes la_echoFrom la_echoTo la_homes la_talls la_known vf_deeds va_kinds va_firsts va_seconds sf_facts sa_heard sa_huts sa_minutes cf_voices cf_step ca_parts ca_heights f_fault f_faultPlace a_numbers a_tape f_length u.1 u.2.1 u.2.2.1 u.2.2.2 f_hutsToldOf f_singersToldOf z_from H) (wrA qr qt)) args s 0 0 (wrA qr qt)) (F0 m 5 ls []) := by
  have hx := zc.1
  have hb := zc.2.1
  refine hw (fun x1 => ∀ (H : Heap) (locs : List Loc) (ls : Array Slot), lv_has ls 2 [(0, .ref qr), (1, .int x1)] → wrW E qr qt lf_huts lf_singers lf_villages lf_dams lf_echoes lf_deep lf_slide la_heights la_ladders la_minutes la_echoFrom la_echoTo la_homes la_talls la_known vf_deeds va_kinds va_firsts va_seconds sf_facts sa_heard sa_huts sa_minutes cf_voices cf_step ca_parts ca_heights f_fault f_faultPlace a_numbers a_tape f_length f_behind f_kind f_first f_value f_hutsToldOf f_singersToldOf z_from H → va_S (wrA qr qt) s.heap H locs → W p l e rm_wr_X4_advance s m args below meth c H locs 0 0 (MQ below (zQv (S := (Int32) × (Int32) × (Int32) × (Int32)) (fun u => post u.1 u.2.1 u.2.2.1 u.2.2.2) (fun u H => wrW E qr qt lf_huts lf_singers lf_villages lf_dams lf_echoes lf_deep lf_slide la_heights la_ladders la_minutes la_echoFrom la_echoTo la_homes la_talls la_known vf_deeds va_kinds va_firsts va_seconds sf_facts sa_heard sa_huts sa_minutes cf_voices cf_step ca_parts ca_heights f_fault f_faultPlace a_numbers a_tape f_length u.1 u.2.1 u.2.2.1 u.2.2.2 f_hutsToldOf f_singersToldOf z_from H) (wrA qr qt)) args s 0 0 (wrA qr qt)) (F0 m 5 ls [])) ?_ _ _ _ hl hM hS
  intro x1 hw H locs ls hl hM hS
  refine lv_iload_n hx hb dX4_advance_5 rfl (lv_at hl 1 rfl) ?_
  refine lv_aload_n hx hb dX4_advance_6 rfl (lv_at hl 0 rfl) ?_
  refine wrg_4_57_0 zc hK hM dX4_advance_7 ?_
  refine lv_icmp_ge (tgt := 41) hx hb dX4_advance_10 (by decide) (fun hc => ?_) (fun hc => ?_)
  · have hw := hw.1 hc
    exact t_wr_X4_advance_41 zc hK hM hS  (lv_sub hl [0, 1] rfl) hw
  · have hw := hw.2 hc
    refine lv_aload_n hx hb dX4_advance_13 rfl (lv_at hl 0 rfl) ?_
    refine wrg_4_47_0 zc hK hM dX4_advance_14 ?_
    refine lv_iload_n hx hb dX4_advance_17 rfl (lv_at hl 1 rfl) ?_
    refine wrld_22 zc hK hM hw.1 dX4_advance_18 ?_
    have hw := hw.2
    refine lv_bipush (v := (10 : Int32)) hx hb dX4_advance_19 (by decide) ?_
    refine lv_icmp_eq (tgt := 35) hx hb dX4_advance_21 (by decide) (fun hc => ?_) (fun hc => ?_)
    · have hw := hw.1 hc
      exact t_wr_X4_advance_35 zc hK hM hS (fun _ H locs ls h hl hM hS => h H locs ls hl hM hS) (lv_sub hl [0, 1] rfl) hw
    · have hw := hw.2 hc
      refine lv_aload_n hx hb dX4_advance_24 rfl (lv_at hl 0 rfl) ?_
      refine wrg_4_47_0 zc hK hM dX4_advance_25 ?_
      refine lv_iload_n hx hb dX4_advance_28 rfl (lv_at hl 1 rfl) ?_
      refine wrld_22 zc hK hM hw.1 dX4_advance_29 ?_
      have hw := hw.2
      refine lv_bipush (v := (32 : Int32)) hx hb dX4_advance_30 (by decide) ?_
      refine lv_icmp_ne (tgt := 41) hx hb dX4_advance_32 (by decide) (fun hc => ?_) (fun hc => ?_)
      · have hw := hw.1 hc
        exact t_wr_X4_advance_41 zc hK hM hS  (lv_sub hl [0, 1] rfl) hw
      · have hw := hw.2 hc
        exact t_wr_X4_advance_35 zc hK hM hS (fun _ H locs ls h hl hM hS => h H locs ls hl hM hS) (lv_sub hl [0, 1] rfl) hw
set_option maxRecDepth 20000 in
theorem t_wr_X4_advance_0 {p : Program} {l : Launch} {e : Env} {s : State} {m : MethodId} {args : Array Value} {below : List Frame} {meth : Method} {c : Code} {E : zE} {qr qt : Nat} {lf_huts : Int32} {lf_singers : Int32} {lf_villages : Int32} {lf_dams : Int32} {lf_echoes : Int32} {lf_deep : Int32} {lf_slide : Int32} {la_heights : Nat → Int32} {la_ladders : Nat → Int32} {la_minutes : Nat → Int32} {la_echoFrom : Nat → Int32} {la_echoTo : Nat → Int32} {la_homes : Nat → Int32} {la_talls : Nat → Int32} {la_known : Nat → Int32} {vf_deeds : Int32} {va_kinds : Nat → Int32} {va_firsts : Nat → Int32} {va_seconds : Nat → Int32} {sf_facts : Int32} {sa_heard : Nat → Int32} {sa_huts : Nat → Int32} {sa_minutes : Nat → Int32} {cf_voices : Int32} {cf_step : Int32} {ca_parts : Nat → Int32} {ca_heights : Nat → Int32} {f_fault : Int32} {f_faultPlace : Int32} {a_numbers : Nat → Int32} {a_tape : Nat → Int32} {f_length : Int32} {f_behind : Int32} {f_kind : Int32} {f_first : Int32} {f_value : Int32} {f_hutsToldOf : Int32} {f_singersToldOf : Int32} {z_from : Nat → Int32} {post : (Int32) → (Int32) → (Int32) → (Int32) → Prop} {ls : Array Slot} {H : Heap} {locs : List Loc}
    (zc : zC p s m args meth c cX4_advance 2 RX4 none)
    (hK : zK E s)
    (hM : wrW E qr qt lf_huts lf_singers lf_villages lf_dams lf_echoes lf_deep lf_slide la_heights la_ladders la_minutes la_echoFrom la_echoTo la_homes la_talls la_known vf_deeds va_kinds va_firsts va_seconds sf_facts sa_heard sa_huts sa_minutes cf_voices cf_step ca_parts ca_heights f_fault f_faultPlace a_numbers a_tape f_length f_behind f_kind f_first f_value f_hutsToldOf f_singersToldOf z_from H)
    (hS : va_S (wrA qr qt) s.heap H locs)
    (hl : lv_has ls 2 [(0, .ref qr)])
    (hw : q_wr_X4_advance_0 a_tape f_length f_behind f_kind f_first f_value post) :
    W p l e rm_wr_X4_advance s m args below meth c H locs 0 0 (MQ below (zQv (S := (Int32) × (Int32) × (Int32) × (Int32)) (fun u => post u.1 u.2.1 u.2.2.1 u.2.2.2) (fun u H => wrW E qr qt lf_huts lf_singers lf_villages lf_dams lf_echoes lf_deep lf_slide la_heights la_ladders la_minutes la_echoFrom la_echoTo la_homes la_talls la_known vf_deeds va_kinds va_firsts va_seconds sf_facts sa_heard sa_huts sa_minutes cf_voices cf_step ca_parts ca_heights f_fault f_faultPlace a_numbers a_tape f_length u.1 u.2.1 u.2.2.1 u.2.2.2 f_hutsToldOf f_singersToldOf z_from H) (wrA qr qt)) args s 0 0 (wrA qr qt)) (F0 m 0 ls []) := by
  have hx := zc.1
  have hb := zc.2.1
  refine lv_aload_n hx hb dX4_advance_0 rfl (lv_at hl 0 rfl) ?_
  refine wrg_4_60_0 zc hK hM dX4_advance_1 ?_
  refine lv_istore_n (lv' := [(1, .int f_behind), (0, .ref qr)]) hx hb dX4_advance_4 rfl hl (by decide) rfl (fun ls hl => ?_)
  exact t_wr_X4_advance_5 zc hK hM hS  (lv_sub hl [1, 0] rfl) hw
set_option maxRecDepth 20000 in
theorem c_wr_X4_advance (l : Launch) {E : zE} {qr qt : Nat} {lf_huts : Int32} {lf_singers : Int32} {lf_villages : Int32} {lf_dams : Int32} {lf_echoes : Int32} {lf_deep : Int32} {lf_slide : Int32} {la_heights : Nat → Int32} {la_ladders : Nat → Int32} {la_minutes : Nat → Int32} {la_echoFrom : Nat → Int32} {la_echoTo : Nat → Int32} {la_homes : Nat → Int32} {la_talls : Nat → Int32} {la_known : Nat → Int32} {vf_deeds : Int32} {va_kinds : Nat → Int32} {va_firsts : Nat → Int32} {va_seconds : Nat → Int32} {sf_facts : Int32} {sa_heard : Nat → Int32} {sa_huts : Nat → Int32} {sa_minutes : Nat → Int32} {cf_voices : Int32} {cf_step : Int32} {ca_parts : Nat → Int32} {ca_heights : Nat → Int32} {f_fault : Int32} {f_faultPlace : Int32} {a_numbers : Nat → Int32} {a_tape : Nat → Int32} {f_length : Int32} {f_behind : Int32} {f_kind : Int32} {f_first : Int32} {f_value : Int32} {f_hutsToldOf : Int32} {f_singersToldOf : Int32} {z_from : Nat → Int32} {post : (Int32) → (Int32) → (Int32) → (Int32) → Prop} (hw : q_wr_X4_advance_0 a_tape f_length f_behind f_kind f_first f_value post) : Met l yX4_advance (Cond.code yX4_advance cX4_advance 2 none :: zb) rm_wr_X4_advance (va_Pc [.ref qr] (fun U => wrW E qr qt lf_huts lf_singers lf_villages lf_dams lf_echoes lf_deep lf_slide la_heights la_ladders la_minutes la_echoFrom la_echoTo la_homes la_talls la_known vf_deeds va_kinds va_firsts va_seconds sf_facts sa_heard sa_huts sa_minutes cf_voices cf_step ca_parts ca_heights f_fault f_faultPlace a_numbers a_tape f_length f_behind f_kind f_first f_value f_hutsToldOf f_singersToldOf z_from U.heap ∧ zK E U)) (zQv (S := (Int32) × (Int32) × (Int32) × (Int32)) (fun u => post u.1 u.2.1 u.2.2.1 u.2.2.2) (fun u H => wrW E qr qt lf_huts lf_singers lf_villages lf_dams lf_echoes lf_deep lf_slide la_heights la_ladders la_minutes la_echoFrom la_echoTo la_homes la_talls la_known vf_deeds va_kinds va_firsts va_seconds sf_facts sa_heard sa_huts sa_minutes cf_voices cf_step ca_parts ca_heights f_fault f_faultPlace a_numbers a_tape f_length u.1 u.2.1 u.2.2.1 u.2.2.2 f_hutsToldOf f_singersToldOf z_from H) (wrA qr qt)) 0 0 (wrA qr qt) := by
  refine Met.ofW (cc := cX4_advance) (maxL := 2) (ret := none) (by decide) rfl ?_
  intro p e s m args below meth c s₁ B hml hv
  obtain ⟨rfl, hM, hK⟩ := hv
  have zc := zc_of B hml
  have hl := lv_entry ([.ref qr]) (n := 2) (Nat.le_of_ble_eq_true rfl)
  rw [lg_entry_eq]
  generalize (lg_sl ([.ref qr]) ++ List.replicate (2 - (lg_sl ([.ref qr])).length) Slot.unset).toArray = ls at hl ⊢
  have hl : lv_has ls 2 [(0, .ref qr)] := hl
  exact t_wr_X4_advance_0 zc hK hM va_S.rf (lv_sub hl [0] rfl) hw
-- wr_X4_tellsOfMissing
abbrev rm_wr_X4_tellsOfMissing : Room := { frames := 0, cells := 0, slots := 0, locals := 0 }
def q_wr_X4_tellsOfMissing_30 (lf_huts : Int32) (lf_singers : Int32) (f_hutsToldOf : Int32) (f_singersToldOf : Int32) (post : Int32 → Prop) : Prop :=
  post (1 : Int32)
def q_wr_X4_tellsOfMissing_0 (lf_huts : Int32) (lf_singers : Int32) (f_hutsToldOf : Int32) (f_singersToldOf : Int32) (post : Int32 → Prop) : Prop :=
  (¬ (f_hutsToldOf >>> (lf_huts &&& 31)) = 0 → (q_wr_X4_tellsOfMissing_30 lf_huts lf_singers f_hutsToldOf f_singersToldOf post)) ∧ ((f_hutsToldOf >>> (lf_huts &&& 31)) = 0 → (((f_singersToldOf >>> (lf_singers &&& 31)) = 0 → (post (0 : Int32))) ∧ (¬ (f_singersToldOf >>> (lf_singers &&& 31)) = 0 → (q_wr_X4_tellsOfMissing_30 lf_huts lf_singers f_hutsToldOf f_singersToldOf post))))
set_option maxRecDepth 20000 in
theorem t_wr_X4_tellsOfMissing_30 {p : Program} {l : Launch} {e : Env} {s : State} {m : MethodId} {args : Array Value} {below : List Frame} {meth : Method} {c : Code} {E : zE} {qr qt : Nat} {lf_huts : Int32} {lf_singers : Int32} {lf_villages : Int32} {lf_dams : Int32} {lf_echoes : Int32} {lf_deep : Int32} {lf_slide : Int32} {la_heights : Nat → Int32} {la_ladders : Nat → Int32} {la_minutes : Nat → Int32} {la_echoFrom : Nat → Int32} {la_echoTo : Nat → Int32} {la_homes : Nat → Int32} {la_talls : Nat → Int32} {la_known : Nat → Int32} {vf_deeds : Int32} {va_kinds : Nat → Int32} {va_firsts : Nat → Int32} {va_seconds : Nat → Int32} {sf_facts : Int32} {sa_heard : Nat → Int32} {sa_huts : Nat → Int32} {sa_minutes : Nat → Int32} {cf_voices : Int32} {cf_step : Int32} {ca_parts : Nat → Int32} {ca_heights : Nat → Int32} {f_fault : Int32} {f_faultPlace : Int32} {a_numbers : Nat → Int32} {a_tape : Nat → Int32} {f_length : Int32} {f_behind : Int32} {f_kind : Int32} {f_first : Int32} {f_value : Int32} {f_hutsToldOf : Int32} {f_singersToldOf : Int32} {z_from : Nat → Int32} {post : Int32 → Prop} {ls : Array Slot}
    (zc : zC p s m args meth c cX4_tellsOfMissing 1 RX4 (some .boolean))
    (hK : zK E s)
    (hM : wrW E qr qt lf_huts lf_singers lf_villages lf_dams lf_echoes lf_deep lf_slide la_heights la_ladders la_minutes la_echoFrom la_echoTo la_homes la_talls la_known vf_deeds va_kinds va_firsts va_seconds sf_facts sa_heard sa_huts sa_minutes cf_voices cf_step ca_parts ca_heights f_fault f_faultPlace a_numbers a_tape f_length f_behind f_kind f_first f_value f_hutsToldOf f_singersToldOf z_from s.heap)
    (hl : lv_has ls 1 [])
    (hw : q_wr_X4_tellsOfMissing_30 lf_huts lf_singers f_hutsToldOf f_singersToldOf post) :
    W p l e rm_wr_X4_tellsOfMissing s m args below meth c s.heap [] 0 0 (MQ below (vp_Si post) args s 0 0 (fun _ => False)) (F0 m 30 ls []) := by
  have hx := zc.1
  have hb := zc.2.1
  refine lv_iconst (v := (1 : Int32)) hx hb dX4_tellsOfMissing_30 (by decide) ?_
  refine lv_goto (tgt := 35) hx hb dX4_tellsOfMissing_31 (by decide) ?_
  exact zret_z zc rfl hw dX4_tellsOfMissing_35
set_option maxRecDepth 20000 in
theorem t_wr_X4_tellsOfMissing_0 {p : Program} {l : Launch} {e : Env} {s : State} {m : MethodId} {args : Array Value} {below : List Frame} {meth : Method} {c : Code} {E : zE} {qr qt : Nat} {lf_huts : Int32} {lf_singers : Int32} {lf_villages : Int32} {lf_dams : Int32} {lf_echoes : Int32} {lf_deep : Int32} {lf_slide : Int32} {la_heights : Nat → Int32} {la_ladders : Nat → Int32} {la_minutes : Nat → Int32} {la_echoFrom : Nat → Int32} {la_echoTo : Nat → Int32} {la_homes : Nat → Int32} {la_talls : Nat → Int32} {la_known : Nat → Int32} {vf_deeds : Int32} {va_kinds : Nat → Int32} {va_firsts : Nat → Int32} {va_seconds : Nat → Int32} {sf_facts : Int32} {sa_heard : Nat → Int32} {sa_huts : Nat → Int32} {sa_minutes : Nat → Int32} {cf_voices : Int32} {cf_step : Int32} {ca_parts : Nat → Int32} {ca_heights : Nat → Int32} {f_fault : Int32} {f_faultPlace : Int32} {a_numbers : Nat → Int32} {a_tape : Nat → Int32} {f_length : Int32} {f_behind : Int32} {f_kind : Int32} {f_first : Int32} {f_value : Int32} {f_hutsToldOf : Int32} {f_singersToldOf : Int32} {z_from : Nat → Int32} {post : Int32 → Prop} {ls : Array Slot}
    (zc : zC p s m args meth c cX4_tellsOfMissing 1 RX4 (some .boolean))
    (hK : zK E s)
    (hM : wrW E qr qt lf_huts lf_singers lf_villages lf_dams lf_echoes lf_deep lf_slide la_heights la_ladders la_minutes la_echoFrom la_echoTo la_homes la_talls la_known vf_deeds va_kinds va_firsts va_seconds sf_facts sa_heard sa_huts sa_minutes cf_voices cf_step ca_parts ca_heights f_fault f_faultPlace a_numbers a_tape f_length f_behind f_kind f_first f_value f_hutsToldOf f_singersToldOf z_from s.heap)
    (hl : lv_has ls 1 [(0, .ref qr)])
    (hw : q_wr_X4_tellsOfMissing_0 lf_huts lf_singers f_hutsToldOf f_singersToldOf post) :
    W p l e rm_wr_X4_tellsOfMissing s m args below meth c s.heap [] 0 0 (MQ below (vp_Si post) args s 0 0 (fun _ => False)) (F0 m 0 ls []) := by
  have hx := zc.1
  have hb := zc.2.1
  refine lv_aload_n hx hb dX4_tellsOfMissing_0 rfl (lv_at hl 0 rfl) ?_
  refine wrg_4_90_0 zc hK hM dX4_tellsOfMissing_1 ?_
  refine lv_aload_n hx hb dX4_tellsOfMissing_4 rfl (lv_at hl 0 rfl) ?_
  refine wrg_4_12_0 zc hK hM dX4_tellsOfMissing_5 ?_
  refine wrg_4_108_1 zc hK hM dX4_tellsOfMissing_8 ?_
  refine lv_ishr hx hb dX4_tellsOfMissing_11 ?_
  refine lv_if_ne (tgt := 30) hx hb dX4_tellsOfMissing_12 (by decide) (fun hc => ?_) (fun hc => ?_)
  · have hw := hw.1 hc
    exact t_wr_X4_tellsOfMissing_30 zc hK hM  (lv_sub hl [] rfl) hw
  · have hw := hw.2 hc
    refine lv_aload_n hx hb dX4_tellsOfMissing_15 rfl (lv_at hl 0 rfl) ?_
    refine wrg_4_93_0 zc hK hM dX4_tellsOfMissing_16 ?_
    refine lv_aload_n hx hb dX4_tellsOfMissing_19 rfl (lv_at hl 0 rfl) ?_
    refine wrg_4_12_0 zc hK hM dX4_tellsOfMissing_20 ?_
    refine wrg_4_111_1 zc hK hM dX4_tellsOfMissing_23 ?_
    refine lv_ishr hx hb dX4_tellsOfMissing_26 ?_
    refine lv_if_eq (tgt := 34) hx hb dX4_tellsOfMissing_27 (by decide) (fun hc => ?_) (fun hc => ?_)
    · have hw := hw.1 hc
      refine lv_iconst (v := (0 : Int32)) hx hb dX4_tellsOfMissing_34 (by decide) ?_
      exact zret_z zc rfl hw dX4_tellsOfMissing_35
    · have hw := hw.2 hc
      exact t_wr_X4_tellsOfMissing_30 zc hK hM  (lv_sub hl [] rfl) hw
set_option maxRecDepth 20000 in
theorem c_wr_X4_tellsOfMissing (l : Launch) {E : zE} {qr qt : Nat} {lf_huts : Int32} {lf_singers : Int32} {lf_villages : Int32} {lf_dams : Int32} {lf_echoes : Int32} {lf_deep : Int32} {lf_slide : Int32} {la_heights : Nat → Int32} {la_ladders : Nat → Int32} {la_minutes : Nat → Int32} {la_echoFrom : Nat → Int32} {la_echoTo : Nat → Int32} {la_homes : Nat → Int32} {la_talls : Nat → Int32} {la_known : Nat → Int32} {vf_deeds : Int32} {va_kinds : Nat → Int32} {va_firsts : Nat → Int32} {va_seconds : Nat → Int32} {sf_facts : Int32} {sa_heard : Nat → Int32} {sa_huts : Nat → Int32} {sa_minutes : Nat → Int32} {cf_voices : Int32} {cf_step : Int32} {ca_parts : Nat → Int32} {ca_heights : Nat → Int32} {f_fault : Int32} {f_faultPlace : Int32} {a_numbers : Nat → Int32} {a_tape : Nat → Int32} {f_length : Int32} {f_behind : Int32} {f_kind : Int32} {f_first : Int32} {f_value : Int32} {f_hutsToldOf : Int32} {f_singersToldOf : Int32} {z_from : Nat → Int32} {post : Int32 → Prop} (hw : q_wr_X4_tellsOfMissing_0 lf_huts lf_singers f_hutsToldOf f_singersToldOf post) : Met l yX4_tellsOfMissing (Cond.code yX4_tellsOfMissing cX4_tellsOfMissing 1 (some .boolean) :: zb) rm_wr_X4_tellsOfMissing (va_Pc [.ref qr] (fun U => wrW E qr qt lf_huts lf_singers lf_villages lf_dams lf_echoes lf_deep lf_slide la_heights la_ladders la_minutes la_echoFrom la_echoTo la_homes la_talls la_known vf_deeds va_kinds va_firsts va_seconds sf_facts sa_heard sa_huts sa_minutes cf_voices cf_step ca_parts ca_heights f_fault f_faultPlace a_numbers a_tape f_length f_behind f_kind f_first f_value f_hutsToldOf f_singersToldOf z_from U.heap ∧ zK E U)) (vp_Si post) 0 0 (fun _ => False) := by
  refine Met.ofW (cc := cX4_tellsOfMissing) (maxL := 1) (ret := (some .boolean)) (by decide) rfl ?_
  intro p e s m args below meth c s₁ B hml hv
  obtain ⟨rfl, hM, hK⟩ := hv
  have zc := zc_of B hml
  have hl := lv_entry ([.ref qr]) (n := 1) (Nat.le_of_ble_eq_true rfl)
  rw [lg_entry_eq]
  generalize (lg_sl ([.ref qr]) ++ List.replicate (1 - (lg_sl ([.ref qr])).length) Slot.unset).toArray = ls at hl ⊢
  have hl : lv_has ls 1 [(0, .ref qr)] := hl
  exact t_wr_X4_tellsOfMissing_0 zc hK hM (lv_sub hl [0] rfl) hw
-- wr_X4_mark
abbrev rm_wr_X4_mark : Room := { frames := 0, cells := 0, slots := 0, locals := 0 }
def q_wr_X4_mark_0 (f_fault : Int32) (f_faultPlace : Int32) (x1 : Int32) (x2 : Int32) (post : (Int32) → (Int32) → Prop) : Prop :=
  (¬ f_fault = 0 → (post f_fault f_faultPlace)) ∧ (f_fault = 0 → (post x1 x2))
set_option maxRecDepth 20000 in
theorem t_wr_X4_mark_0 {p : Program} {l : Launch} {e : Env} {s : State} {m : MethodId} {args : Array Value} {below : List Frame} {meth : Method} {c : Code} {E : zE} {qr qt : Nat} {lf_huts : Int32} {lf_singers : Int32} {lf_villages : Int32} {lf_dams : Int32} {lf_echoes : Int32} {lf_deep : Int32} {lf_slide : Int32} {la_heights : Nat → Int32} {la_ladders : Nat → Int32} {la_minutes : Nat → Int32} {la_echoFrom : Nat → Int32} {la_echoTo : Nat → Int32} {la_homes : Nat → Int32} {la_talls : Nat → Int32} {la_known : Nat → Int32} {vf_deeds : Int32} {va_kinds : Nat → Int32} {va_firsts : Nat → Int32} {va_seconds : Nat → Int32} {sf_facts : Int32} {sa_heard : Nat → Int32} {sa_huts : Nat → Int32} {sa_minutes : Nat → Int32} {cf_voices : Int32} {cf_step : Int32} {ca_parts : Nat → Int32} {ca_heights : Nat → Int32} {f_fault : Int32} {f_faultPlace : Int32} {a_numbers : Nat → Int32} {a_tape : Nat → Int32} {f_length : Int32} {f_behind : Int32} {f_kind : Int32} {f_first : Int32} {f_value : Int32} {f_hutsToldOf : Int32} {f_singersToldOf : Int32} {z_from : Nat → Int32} {post : (Int32) → (Int32) → Prop} {x1 : Int32} {x2 : Int32} {ls : Array Slot} {H : Heap} {locs : List Loc}
    (zc : zC p s m args meth c cX4_mark 3 RX4 none)
    (hK : zK E s)
    (hM : wrW E qr qt lf_huts lf_singers lf_villages lf_dams lf_echoes lf_deep lf_slide la_heights la_ladders la_minutes la_echoFrom la_echoTo la_homes la_talls la_known vf_deeds va_kinds va_firsts va_seconds sf_facts sa_heard sa_huts sa_minutes cf_voices cf_step ca_parts ca_heights f_fault f_faultPlace a_numbers a_tape f_length f_behind f_kind f_first f_value f_hutsToldOf f_singersToldOf z_from H)
    (hS : va_S (wrA qr qt) s.heap H locs)
    (hl : lv_has ls 3 [(0, .ref qr), (1, .int x1), (2, .int x2)])
    (hw : q_wr_X4_mark_0 f_fault f_faultPlace x1 x2 post) :
    W p l e rm_wr_X4_mark s m args below meth c H locs 0 0 (MQ below (zQv (S := (Int32) × (Int32)) (fun u => post u.1 u.2) (fun u H => wrW E qr qt lf_huts lf_singers lf_villages lf_dams lf_echoes lf_deep lf_slide la_heights la_ladders la_minutes la_echoFrom la_echoTo la_homes la_talls la_known vf_deeds va_kinds va_firsts va_seconds sf_facts sa_heard sa_huts sa_minutes cf_voices cf_step ca_parts ca_heights u.1 u.2 a_numbers a_tape f_length f_behind f_kind f_first f_value f_hutsToldOf f_singersToldOf z_from H) (wrA qr qt)) args s 0 0 (wrA qr qt)) (F0 m 0 ls []) := by
  have hx := zc.1
  have hb := zc.2.1
  refine lv_aload_n hx hb dX4_mark_0 rfl (lv_at hl 0 rfl) ?_
  refine wrg_4_63_0 zc hK hM dX4_mark_1 ?_
  refine lv_if_ne (tgt := 17) hx hb dX4_mark_4 (by decide) (fun hc => ?_) (fun hc => ?_)
  · have hw := hw.1 hc
    exact zret_vw ⟨f_fault, f_faultPlace⟩ zc hS hw hM dX4_mark_17
  · have hw := hw.2 hc
    refine lv_aload_n hx hb dX4_mark_7 rfl (lv_at hl 0 rfl) ?_
    refine lv_iload_n hx hb dX4_mark_8 rfl (lv_at hl 1 rfl) ?_
    refine wrp_4_63_0 zc hK hM hS dX4_mark_9 (fun H locs hM hS => ?_)
    refine lv_aload_n hx hb dX4_mark_12 rfl (lv_at hl 0 rfl) ?_
    refine lv_iload_n hx hb dX4_mark_13 rfl (lv_at hl 2 rfl) ?_
    refine wrp_4_39_0 zc hK hM hS dX4_mark_14 (fun H locs hM hS => ?_)
    exact zret_vw ⟨x1, x2⟩ zc hS hw hM dX4_mark_17
set_option maxRecDepth 20000 in
theorem c_wr_X4_mark (l : Launch) {E : zE} {qr qt : Nat} {lf_huts : Int32} {lf_singers : Int32} {lf_villages : Int32} {lf_dams : Int32} {lf_echoes : Int32} {lf_deep : Int32} {lf_slide : Int32} {la_heights : Nat → Int32} {la_ladders : Nat → Int32} {la_minutes : Nat → Int32} {la_echoFrom : Nat → Int32} {la_echoTo : Nat → Int32} {la_homes : Nat → Int32} {la_talls : Nat → Int32} {la_known : Nat → Int32} {vf_deeds : Int32} {va_kinds : Nat → Int32} {va_firsts : Nat → Int32} {va_seconds : Nat → Int32} {sf_facts : Int32} {sa_heard : Nat → Int32} {sa_huts : Nat → Int32} {sa_minutes : Nat → Int32} {cf_voices : Int32} {cf_step : Int32} {ca_parts : Nat → Int32} {ca_heights : Nat → Int32} {f_fault : Int32} {f_faultPlace : Int32} {a_numbers : Nat → Int32} {a_tape : Nat → Int32} {f_length : Int32} {f_behind : Int32} {f_kind : Int32} {f_first : Int32} {f_value : Int32} {f_hutsToldOf : Int32} {f_singersToldOf : Int32} {z_from : Nat → Int32} {x1 : Int32} {x2 : Int32} {post : (Int32) → (Int32) → Prop} (hw : q_wr_X4_mark_0 f_fault f_faultPlace x1 x2 post) : Met l yX4_mark (Cond.code yX4_mark cX4_mark 3 none :: zb) rm_wr_X4_mark (va_Pc [.ref qr, .int x1, .int x2] (fun U => wrW E qr qt lf_huts lf_singers lf_villages lf_dams lf_echoes lf_deep lf_slide la_heights la_ladders la_minutes la_echoFrom la_echoTo la_homes la_talls la_known vf_deeds va_kinds va_firsts va_seconds sf_facts sa_heard sa_huts sa_minutes cf_voices cf_step ca_parts ca_heights f_fault f_faultPlace a_numbers a_tape f_length f_behind f_kind f_first f_value f_hutsToldOf f_singersToldOf z_from U.heap ∧ zK E U)) (zQv (S := (Int32) × (Int32)) (fun u => post u.1 u.2) (fun u H => wrW E qr qt lf_huts lf_singers lf_villages lf_dams lf_echoes lf_deep lf_slide la_heights la_ladders la_minutes la_echoFrom la_echoTo la_homes la_talls la_known vf_deeds va_kinds va_firsts va_seconds sf_facts sa_heard sa_huts sa_minutes cf_voices cf_step ca_parts ca_heights u.1 u.2 a_numbers a_tape f_length f_behind f_kind f_first f_value f_hutsToldOf f_singersToldOf z_from H) (wrA qr qt)) 0 0 (wrA qr qt) := by
  refine Met.ofW (cc := cX4_mark) (maxL := 3) (ret := none) (by decide) rfl ?_
  intro p e s m args below meth c s₁ B hml hv
  obtain ⟨rfl, hM, hK⟩ := hv
  have zc := zc_of B hml
  have hl := lv_entry ([.ref qr, .int x1, .int x2]) (n := 3) (Nat.le_of_ble_eq_true rfl)
  rw [lg_entry_eq]
  generalize (lg_sl ([.ref qr, .int x1, .int x2]) ++ List.replicate (3 - (lg_sl ([.ref qr, .int x1, .int x2])).length) Slot.unset).toArray = ls at hl ⊢
  have hl : lv_has ls 3 [(0, .ref qr), (1, .int x1), (2, .int x2)] := hl
  exact t_wr_X4_mark_0 zc hK hM va_S.rf (lv_sub hl [0, 1, 2] rfl) hw
-- wr_X4_isSpelled
abbrev rm_wr_X4_isSpelled : Room := { frames := 4, cells := 0, slots := 0, locals := 129 }
def q_wr_X4_isSpelled_20 (a_tape : Nat → Int32) (f_behind : Int32) (f_first : Int32) (x1 : Nat) (x2 : Int32) (post : Int32 → Prop) : Prop :=
  ∀ P20 : Int32 → Prop, (∀ (x2 : Int32), (x1 < 20 ∧ (((nI (sLen.getD x1 0)) ≤ x2 → (post (1 : Int32))) ∧ (¬ (nI (sLen.getD x1 0)) ≤ x2 → (vp_in (f_first + x2) 600 ∧ (x1 < 20 ∧ vp_in x2 (sLen.getD x1 0) ∧ (((a_tape (Int32.toNatClampNeg (f_first + x2))) = ((sByt.getD x1 []).getD (Int32.toNatClampNeg x2) 0 &&& 255) → (∀ v_1 : Int32, v_1 = x2 + (1 : Int32) → (P20 v_1))) ∧ (¬ (a_tape (Int32.toNatClampNeg (f_first + x2))) = ((sByt.getD x1 []).getD (Int32.toNatClampNeg x2) 0 &&& 255) → (post (0 : Int32))))))))) → P20 x2) → P20 x2
def q_wr_X4_isSpelled_0 (a_tape : Nat → Int32) (f_behind : Int32) (f_first : Int32) (x1 : Nat) (post : Int32 → Prop) : Prop :=
  x1 < 20 ∧ (((nI (sLen.getD x1 0)) = (f_behind - f_first) → (q_wr_X4_isSpelled_20 a_tape f_behind f_first x1 (0 : Int32) post)) ∧ (¬ (nI (sLen.getD x1 0)) = (f_behind - f_first) → (post (0 : Int32))))
set_option maxRecDepth 20000 in
theorem t_wr_X4_isSpelled_20 {p : Program} {l : Launch} {e : Env} {s : State} {m : MethodId} {args : Array Value} {below : List Frame} {meth : Method} {c : Code} {G : zG} {E : zE} {qr qt : Nat} {lf_huts : Int32} {lf_singers : Int32} {lf_villages : Int32} {lf_dams : Int32} {lf_echoes : Int32} {lf_deep : Int32} {lf_slide : Int32} {la_heights : Nat → Int32} {la_ladders : Nat → Int32} {la_minutes : Nat → Int32} {la_echoFrom : Nat → Int32} {la_echoTo : Nat → Int32} {la_homes : Nat → Int32} {la_talls : Nat → Int32} {la_known : Nat → Int32} {vf_deeds : Int32} {va_kinds : Nat → Int32} {va_firsts : Nat → Int32} {va_seconds : Nat → Int32} {sf_facts : Int32} {sa_heard : Nat → Int32} {sa_huts : Nat → Int32} {sa_minutes : Nat → Int32} {cf_voices : Int32} {cf_step : Int32} {ca_parts : Nat → Int32} {ca_heights : Nat → Int32} {f_fault : Int32} {f_faultPlace : Int32} {a_numbers : Nat → Int32} {a_tape : Nat → Int32} {f_length : Int32} {f_behind : Int32} {f_kind : Int32} {f_first : Int32} {f_value : Int32} {f_hutsToldOf : Int32} {f_singersToldOf : Int32} {z_from : Nat → Int32} {post : Int32 → Prop} {x1 : Nat} {x2 : Int32} {ls : Array Slot}
    (zc : zC p s m args meth c cX4_isSpelled 3 RX4 (some .boolean))
    (hK : zK E s)
    (hM : wrW E qr qt lf_huts lf_singers lf_villages lf_dams lf_echoes lf_deep lf_slide la_heights la_ladders la_minutes la_echoFrom la_echoTo la_homes la_talls la_known vf_deeds va_kinds va_firsts va_seconds sf_facts sa_heard sa_huts sa_minutes cf_voices cf_step ca_parts ca_heights f_fault f_faultPlace a_numbers a_tape f_length f_behind f_kind f_first f_value f_hutsToldOf f_singersToldOf z_from s.heap)
    (hZ : zZ G (wrA qr qt) s s.heap)
    (hl : lv_has ls 3 [(0, .ref qr), (1, .ref (G.1 x1)), (2, .int x2)])
    (hw : q_wr_X4_isSpelled_20 a_tape f_behind f_first x1 x2 post) :
    W p l e rm_wr_X4_isSpelled s m args below meth c s.heap [] 0 0 (MQ below (vp_Si post) args s 0 0 (fun _ => False)) (F0 m 20 ls []) := by
  have hx := zc.1
  have hb := zc.2.1
  refine hw (fun x2 => ∀ (ls : Array Slot), lv_has ls 3 [(0, .ref qr), (1, .ref (G.1 x1)), (2, .int x2)] → W p l e rm_wr_X4_isSpelled s m args below meth c s.heap [] 0 0 (MQ below (vp_Si post) args s 0 0 (fun _ => False)) (F0 m 20 ls [])) ?_ _ hl
  intro x2 hw ls hl
  refine lv_iload_n hx hb dX4_isSpelled_20 rfl (lv_at hl 2 rfl) ?_
  refine lv_aload_n hx hb dX4_isSpelled_21 rfl (lv_at hl 1 rfl) ?_
  have hs1 := hw.1
  have hw := hw.2
  refine zV_i [] [.int x2] zc ky_J0_length_8abf5 kz_J0_length_8abf5 km_4_217 (c_str_length l hs1) (strPreV hZ va_S.rf hs1) rfl rfl hl.1 (Nat.le_of_ble_eq_true rfl) ⟨rfl, rfl⟩ ⟨Nat.le_of_ble_eq_true rfl, Nat.le_of_ble_eq_true rfl⟩ ⟨(Nat.zero_le _), (Nat.zero_le _)⟩ dX4_isSpelled_22 (fun r hr => ?_)
  subst hr
  refine lv_icmp_ge (tgt := 55) hx hb dX4_isSpelled_25 (by decide) (fun hc => ?_) (fun hc => ?_)
  · have hw := hw.1 hc
    refine lv_iconst (v := (1 : Int32)) hx hb dX4_isSpelled_55 (by decide) ?_
    exact zret_z zc rfl hw dX4_isSpelled_56
  · have hw := hw.2 hc
    refine lv_aload_n hx hb dX4_isSpelled_28 rfl (lv_at hl 0 rfl) ?_
    refine wrg_4_47_0 zc hK hM dX4_isSpelled_29 ?_
    refine lv_aload_n hx hb dX4_isSpelled_32 rfl (lv_at hl 0 rfl) ?_
    refine wrg_4_125_0 zc hK hM dX4_isSpelled_33 ?_
    refine lv_iload_n hx hb dX4_isSpelled_36 rfl (lv_at hl 2 rfl) ?_
    refine lv_iadd hx hb dX4_isSpelled_37 ?_
    refine wrld_22 zc hK hM hw.1 dX4_isSpelled_38 ?_
    have hw := hw.2
    refine lv_aload_n hx hb dX4_isSpelled_39 rfl (lv_at hl 1 rfl) ?_
    refine lv_iload_n hx hb dX4_isSpelled_40 rfl (lv_at hl 2 rfl) ?_
    have hs2 := hw.1
    have hs3 := hw.2.1
    have hw := hw.2.2
    refine zV_i [.int x2] [.int (a_tape (Int32.toNatClampNeg (f_first + x2)))] zc ky_J0_charAt_5068e kz_J0_charAt_5068e km_4_222 (c_str_charAt l hs2 hs3) (strPreV hZ va_S.rf hs2) rfl rfl hl.1 (Nat.le_of_ble_eq_true rfl) ⟨rfl, rfl⟩ ⟨Nat.le_of_ble_eq_true rfl, Nat.le_of_ble_eq_true rfl⟩ ⟨(Nat.zero_le _), (Nat.zero_le _)⟩ dX4_isSpelled_41 (fun r hr => ?_)
    subst hr
    refine lv_icmp_eq (tgt := 49) hx hb dX4_isSpelled_44 (by decide) (fun hc => ?_) (fun hc => ?_)
    · have hw := hw.1 hc
      obtain ⟨v_1, ev_1⟩ : ∃ y : Int32, y = x2 + (1 : Int32) := ⟨_, rfl⟩
      have hw := hw v_1 ev_1
      refine lv_iinc (v := v_1) (k := 2) (lv' := [(2, .int v_1), (0, .ref qr), (1, .ref (G.1 x1))]) hx hb dX4_isSpelled_49 hl rfl (by rw [ev_1]; rfl) (by decide) rfl (fun ls hl => ?_)
      refine lv_goto (tgt := 20) hx hb dX4_isSpelled_52 (by decide) ?_
      exact hw _ (lv_sub hl [1, 2, 0] rfl)
    · have hw := hw.2 hc
      refine lv_iconst (v := (0 : Int32)) hx hb dX4_isSpelled_47 (by decide) ?_
      exact zret_z zc rfl hw dX4_isSpelled_48
set_option maxRecDepth 20000 in
theorem t_wr_X4_isSpelled_0 {p : Program} {l : Launch} {e : Env} {s : State} {m : MethodId} {args : Array Value} {below : List Frame} {meth : Method} {c : Code} {G : zG} {E : zE} {qr qt : Nat} {lf_huts : Int32} {lf_singers : Int32} {lf_villages : Int32} {lf_dams : Int32} {lf_echoes : Int32} {lf_deep : Int32} {lf_slide : Int32} {la_heights : Nat → Int32} {la_ladders : Nat → Int32} {la_minutes : Nat → Int32} {la_echoFrom : Nat → Int32} {la_echoTo : Nat → Int32} {la_homes : Nat → Int32} {la_talls : Nat → Int32} {la_known : Nat → Int32} {vf_deeds : Int32} {va_kinds : Nat → Int32} {va_firsts : Nat → Int32} {va_seconds : Nat → Int32} {sf_facts : Int32} {sa_heard : Nat → Int32} {sa_huts : Nat → Int32} {sa_minutes : Nat → Int32} {cf_voices : Int32} {cf_step : Int32} {ca_parts : Nat → Int32} {ca_heights : Nat → Int32} {f_fault : Int32} {f_faultPlace : Int32} {a_numbers : Nat → Int32} {a_tape : Nat → Int32} {f_length : Int32} {f_behind : Int32} {f_kind : Int32} {f_first : Int32} {f_value : Int32} {f_hutsToldOf : Int32} {f_singersToldOf : Int32} {z_from : Nat → Int32} {post : Int32 → Prop} {x1 : Nat} {ls : Array Slot}
    (zc : zC p s m args meth c cX4_isSpelled 3 RX4 (some .boolean))
    (hK : zK E s)
    (hM : wrW E qr qt lf_huts lf_singers lf_villages lf_dams lf_echoes lf_deep lf_slide la_heights la_ladders la_minutes la_echoFrom la_echoTo la_homes la_talls la_known vf_deeds va_kinds va_firsts va_seconds sf_facts sa_heard sa_huts sa_minutes cf_voices cf_step ca_parts ca_heights f_fault f_faultPlace a_numbers a_tape f_length f_behind f_kind f_first f_value f_hutsToldOf f_singersToldOf z_from s.heap)
    (hZ : zZ G (wrA qr qt) s s.heap)
    (hl : lv_has ls 3 [(0, .ref qr), (1, .ref (G.1 x1))])
    (hw : q_wr_X4_isSpelled_0 a_tape f_behind f_first x1 post) :
    W p l e rm_wr_X4_isSpelled s m args below meth c s.heap [] 0 0 (MQ below (vp_Si post) args s 0 0 (fun _ => False)) (F0 m 0 ls []) := by
  have hx := zc.1
  have hb := zc.2.1
  refine lv_aload_n hx hb dX4_isSpelled_0 rfl (lv_at hl 1 rfl) ?_
  have hs4 := hw.1
  have hw := hw.2
  refine zV_i [] [] zc ky_J0_length_8abf5 kz_J0_length_8abf5 km_4_217 (c_str_length l hs4) (strPreV hZ va_S.rf hs4) rfl rfl hl.1 (Nat.le_of_ble_eq_true rfl) ⟨rfl, rfl⟩ ⟨Nat.le_of_ble_eq_true rfl, Nat.le_of_ble_eq_true rfl⟩ ⟨(Nat.zero_le _), (Nat.zero_le _)⟩ dX4_isSpelled_1 (fun r hr => ?_)
  subst hr
  refine lv_aload_n hx hb dX4_isSpelled_4 rfl (lv_at hl 0 rfl) ?_
  refine wrg_4_60_0 zc hK hM dX4_isSpelled_5 ?_
  refine lv_aload_n hx hb dX4_isSpelled_8 rfl (lv_at hl 0 rfl) ?_
  refine wrg_4_125_0 zc hK hM dX4_isSpelled_9 ?_
  refine lv_isub hx hb dX4_isSpelled_12 ?_
  refine lv_icmp_eq (tgt := 18) hx hb dX4_isSpelled_13 (by decide) (fun hc => ?_) (fun hc => ?_)
  · have hw := hw.1 hc
    refine lv_iconst (v := (0 : Int32)) hx hb dX4_isSpelled_18 (by decide) ?_
    refine lv_istore_n (lv' := [(2, .int (0 : Int32)), (0, .ref qr), (1, .ref (G.1 x1))]) hx hb dX4_isSpelled_19 rfl hl (by decide) rfl (fun ls hl => ?_)
    exact t_wr_X4_isSpelled_20 zc hK hM hZ  (lv_sub hl [1, 2, 0] rfl) hw
  · have hw := hw.2 hc
    refine lv_iconst (v := (0 : Int32)) hx hb dX4_isSpelled_16 (by decide) ?_
    exact zret_z zc rfl hw dX4_isSpelled_17
set_option maxRecDepth 20000 in
theorem c_wr_X4_isSpelled (l : Launch) {G : zG} {E : zE} {qr qt : Nat} {lf_huts : Int32} {lf_singers : Int32} {lf_villages : Int32} {lf_dams : Int32} {lf_echoes : Int32} {lf_deep : Int32} {lf_slide : Int32} {la_heights : Nat → Int32} {la_ladders : Nat → Int32} {la_minutes : Nat → Int32} {la_echoFrom : Nat → Int32} {la_echoTo : Nat → Int32} {la_homes : Nat → Int32} {la_talls : Nat → Int32} {la_known : Nat → Int32} {vf_deeds : Int32} {va_kinds : Nat → Int32} {va_firsts : Nat → Int32} {va_seconds : Nat → Int32} {sf_facts : Int32} {sa_heard : Nat → Int32} {sa_huts : Nat → Int32} {sa_minutes : Nat → Int32} {cf_voices : Int32} {cf_step : Int32} {ca_parts : Nat → Int32} {ca_heights : Nat → Int32} {f_fault : Int32} {f_faultPlace : Int32} {a_numbers : Nat → Int32} {a_tape : Nat → Int32} {f_length : Int32} {f_behind : Int32} {f_kind : Int32} {f_first : Int32} {f_value : Int32} {f_hutsToldOf : Int32} {f_singersToldOf : Int32} {z_from : Nat → Int32} {x1 : Nat} {post : Int32 → Prop} (hw : q_wr_X4_isSpelled_0 a_tape f_behind f_first x1 post) : Met l yX4_isSpelled (Cond.code yX4_isSpelled cX4_isSpelled 3 (some .boolean) :: zb) rm_wr_X4_isSpelled (va_Pc [.ref qr, .ref (G.1 x1)] (fun U => (wrW E qr qt lf_huts lf_singers lf_villages lf_dams lf_echoes lf_deep lf_slide la_heights la_ladders la_minutes la_echoFrom la_echoTo la_homes la_talls la_known vf_deeds va_kinds va_firsts va_seconds sf_facts sa_heard sa_huts sa_minutes cf_voices cf_step ca_parts ca_heights f_fault f_faultPlace a_numbers a_tape f_length f_behind f_kind f_first f_value f_hutsToldOf f_singersToldOf z_from U.heap ∧ zK E U) ∧ zZ G (wrA qr qt) U U.heap)) (vp_Si post) 0 0 (fun _ => False) := by
  refine Met.ofW (cc := cX4_isSpelled) (maxL := 3) (ret := (some .boolean)) (by decide) rfl ?_
  intro p e s m args below meth c s₁ B hml hv
  obtain ⟨rfl, ⟨hM, hK⟩, hZ⟩ := hv
  have zc := zc_of B hml
  have hl := lv_entry ([.ref qr, .ref (G.1 x1)]) (n := 3) (Nat.le_of_ble_eq_true rfl)
  rw [lg_entry_eq]
  generalize (lg_sl ([.ref qr, .ref (G.1 x1)]) ++ List.replicate (3 - (lg_sl ([.ref qr, .ref (G.1 x1)])).length) Slot.unset).toArray = ls at hl ⊢
  have hl : lv_has ls 3 [(0, .ref qr), (1, .ref (G.1 x1))] := hl
  exact t_wr_X4_isSpelled_0 zc hK hM hZ (lv_sub hl [0, 1] rfl) hw
-- wr_X4_wordOf
abbrev rm_wr_X4_wordOf : Room := { frames := 5, cells := 0, slots := 0, locals := 151 }
def q_wr_X4_wordOf_16 (a_tape : Nat → Int32) (f_behind : Int32) (f_kind : Int32) (f_first : Int32) (x1 : Int32) (x2 : Int32) (post : Int32 → Prop) : Prop :=
  ∀ P16 : Int32 → Prop, (∀ (x2 : Int32), (vp_in (x1 + (1 : Int32)) 5 ∧ (((tbf_0 (Int32.toNatClampNeg (x1 + (1 : Int32)))) ≤ x2 → (post (-1 : Int32))) ∧ (¬ (tbf_0 (Int32.toNatClampNeg (x1 + (1 : Int32)))) ≤ x2 → (q_spelling x2 (fun r_1 => q_wr_X4_isSpelled_0 a_tape f_behind f_first r_1 (fun r_2 => (r_2 = 0 → (∀ v_1 : Int32, v_1 = x2 + (1 : Int32) → (P16 v_1))) ∧ (¬ r_2 = 0 → (post x2)))))))) → P16 x2) → P16 x2
def q_wr_X4_wordOf_0 (a_tape : Nat → Int32) (f_behind : Int32) (f_kind : Int32) (f_first : Int32) (x1 : Int32) (post : Int32 → Prop) : Prop :=
  (f_kind = (1 : Int32) → (vp_in x1 5 ∧ (∀ v_1 : Int32, v_1 = (tbf_0 (Int32.toNatClampNeg x1)) → (q_wr_X4_wordOf_16 a_tape f_behind f_kind f_first x1 v_1 post)))) ∧ (¬ f_kind = (1 : Int32) → (post (-1 : Int32)))
set_option maxRecDepth 20000 in
theorem t_wr_X4_wordOf_16 {p : Program} {l : Launch} {e : Env} {s : State} {m : MethodId} {args : Array Value} {below : List Frame} {meth : Method} {c : Code} {G : zG} {E : zE} {qr qt : Nat} {lf_huts : Int32} {lf_singers : Int32} {lf_villages : Int32} {lf_dams : Int32} {lf_echoes : Int32} {lf_deep : Int32} {lf_slide : Int32} {la_heights : Nat → Int32} {la_ladders : Nat → Int32} {la_minutes : Nat → Int32} {la_echoFrom : Nat → Int32} {la_echoTo : Nat → Int32} {la_homes : Nat → Int32} {la_talls : Nat → Int32} {la_known : Nat → Int32} {vf_deeds : Int32} {va_kinds : Nat → Int32} {va_firsts : Nat → Int32} {va_seconds : Nat → Int32} {sf_facts : Int32} {sa_heard : Nat → Int32} {sa_huts : Nat → Int32} {sa_minutes : Nat → Int32} {cf_voices : Int32} {cf_step : Int32} {ca_parts : Nat → Int32} {ca_heights : Nat → Int32} {f_fault : Int32} {f_faultPlace : Int32} {a_numbers : Nat → Int32} {a_tape : Nat → Int32} {f_length : Int32} {f_behind : Int32} {f_kind : Int32} {f_first : Int32} {f_value : Int32} {f_hutsToldOf : Int32} {f_singersToldOf : Int32} {z_from : Nat → Int32} {post : Int32 → Prop} {x1 : Int32} {x2 : Int32} {ls : Array Slot}
    (zc : zC p s m args meth c cX4_wordOf 3 RX4 (some .int))
    (hK : zK E s)
    (hM : wrW E qr qt lf_huts lf_singers lf_villages lf_dams lf_echoes lf_deep lf_slide la_heights la_ladders la_minutes la_echoFrom la_echoTo la_homes la_talls la_known vf_deeds va_kinds va_firsts va_seconds sf_facts sa_heard sa_huts sa_minutes cf_voices cf_step ca_parts ca_heights f_fault f_faultPlace a_numbers a_tape f_length f_behind f_kind f_first f_value f_hutsToldOf f_singersToldOf z_from s.heap)
    (hZ : zZ G (wrA qr qt) s s.heap)
    (hl : lv_has ls 3 [(0, .ref qr), (1, .int x1), (2, .int x2)])
    (hw : q_wr_X4_wordOf_16 a_tape f_behind f_kind f_first x1 x2 post) :
    W p l e rm_wr_X4_wordOf s m args below meth c s.heap [] 0 0 (MQ below (vp_Si post) args s 0 0 (fun _ => False)) (F0 m 16 ls []) := by
  have hx := zc.1
  have hb := zc.2.1
  refine hw (fun x2 => ∀ (ls : Array Slot), lv_has ls 3 [(0, .ref qr), (1, .int x1), (2, .int x2)] → W p l e rm_wr_X4_wordOf s m args below meth c s.heap [] 0 0 (MQ below (vp_Si post) args s 0 0 (fun _ => False)) (F0 m 16 ls [])) ?_ _ hl
  intro x2 hw ls hl
  refine lv_iload_n hx hb dX4_wordOf_16 rfl (lv_at hl 2 rfl) ?_
  refine va_gets hx hb hZ.1.1 va_S.rf zc.2.2.2.1 (zc.2.2.2.2.1 _ kf_4_206) (fun _ h => h) dX4_wordOf_17 ?_
  refine lv_iload_n hx hb dX4_wordOf_20 rfl (lv_at hl 1 rfl) ?_
  refine lv_iconst (v := (1 : Int32)) hx hb dX4_wordOf_21 (by decide) ?_
  refine lv_iadd hx hb dX4_wordOf_22 ?_
  refine va_ti hx hb hZ.2.1.1 va_S.rf hw.1 rfl dX4_wordOf_23 ?_
  have hw := hw.2
  refine lv_icmp_ge (tgt := 46) hx hb dX4_wordOf_24 (by decide) (fun hc => ?_) (fun hc => ?_)
  · have hw := hw.1 hc
    refine lv_iconst (v := (-1 : Int32)) hx hb dX4_wordOf_46 (by decide) ?_
    exact zret_i zc hw dX4_wordOf_47
  · have hw := hw.2 hc
    refine lv_aload_n hx hb dX4_wordOf_27 rfl (lv_at hl 0 rfl) ?_
    refine lv_iload_n hx hb dX4_wordOf_28 rfl (lv_at hl 2 rfl) ?_
    refine zS_r (ad := fun k => .ref (G.1 k)) [.int x2] [.ref qr] zc ky_X4_spelling kz_X4_spelling km_4_209 (c_spelling2 l hw) (strPreS hZ va_S.rf) rfl rfl hl.1 (Nat.le_of_ble_eq_true rfl) ⟨rfl, rfl⟩ ⟨Nat.le_of_ble_eq_true rfl, Nat.le_of_ble_eq_true rfl⟩ ⟨(Nat.zero_le _), (Nat.zero_le _)⟩ dX4_wordOf_29 (fun r_1 hw => ?_)
    refine W.eq (g2 := F0 m 32 ls (.ref (G.1 r_1) :: .ref qr :: [])) rfl ?_
    refine zV_i [.ref (G.1 r_1)] [] zc ky_X4_isSpelled kz_X4_isSpelled km_4_213 (c_wr_X4_isSpelled l hw) (wrPreVZ0 hK hM hZ va_S.rf (fun _ h => h)) rfl rfl hl.1 (Nat.le_of_ble_eq_true rfl) ⟨rfl, rfl⟩ ⟨Nat.le_of_ble_eq_true rfl, Nat.le_of_ble_eq_true rfl⟩ ⟨(Nat.zero_le _), (Nat.zero_le _)⟩ dX4_wordOf_32 (fun r_2 hw => ?_)
    refine lv_if_eq (tgt := 40) hx hb dX4_wordOf_35 (by decide) (fun hc => ?_) (fun hc => ?_)
    · have hw := hw.1 hc
      obtain ⟨v_1, ev_1⟩ : ∃ y : Int32, y = x2 + (1 : Int32) := ⟨_, rfl⟩
      have hw := hw v_1 ev_1
      refine lv_iinc (v := v_1) (k := 2) (lv' := [(2, .int v_1), (0, .ref qr), (1, .int x1)]) hx hb dX4_wordOf_40 hl rfl (by rw [ev_1]; rfl) (by decide) rfl (fun ls hl => ?_)
      refine lv_goto (tgt := 16) hx hb dX4_wordOf_43 (by decide) ?_
      exact hw _ (lv_sub hl [1, 2, 0] rfl)
    · have hw := hw.2 hc
      refine lv_iload_n hx hb dX4_wordOf_38 rfl (lv_at hl 2 rfl) ?_
      exact zret_i zc hw dX4_wordOf_39
set_option maxRecDepth 20000 in
theorem t_wr_X4_wordOf_0 {p : Program} {l : Launch} {e : Env} {s : State} {m : MethodId} {args : Array Value} {below : List Frame} {meth : Method} {c : Code} {G : zG} {E : zE} {qr qt : Nat} {lf_huts : Int32} {lf_singers : Int32} {lf_villages : Int32} {lf_dams : Int32} {lf_echoes : Int32} {lf_deep : Int32} {lf_slide : Int32} {la_heights : Nat → Int32} {la_ladders : Nat → Int32} {la_minutes : Nat → Int32} {la_echoFrom : Nat → Int32} {la_echoTo : Nat → Int32} {la_homes : Nat → Int32} {la_talls : Nat → Int32} {la_known : Nat → Int32} {vf_deeds : Int32} {va_kinds : Nat → Int32} {va_firsts : Nat → Int32} {va_seconds : Nat → Int32} {sf_facts : Int32} {sa_heard : Nat → Int32} {sa_huts : Nat → Int32} {sa_minutes : Nat → Int32} {cf_voices : Int32} {cf_step : Int32} {ca_parts : Nat → Int32} {ca_heights : Nat → Int32} {f_fault : Int32} {f_faultPlace : Int32} {a_numbers : Nat → Int32} {a_tape : Nat → Int32} {f_length : Int32} {f_behind : Int32} {f_kind : Int32} {f_first : Int32} {f_value : Int32} {f_hutsToldOf : Int32} {f_singersToldOf : Int32} {z_from : Nat → Int32} {post : Int32 → Prop} {x1 : Int32} {ls : Array Slot}
    (zc : zC p s m args meth c cX4_wordOf 3 RX4 (some .int))
    (hK : zK E s)
    (hM : wrW E qr qt lf_huts lf_singers lf_villages lf_dams lf_echoes lf_deep lf_slide la_heights la_ladders la_minutes la_echoFrom la_echoTo la_homes la_talls la_known vf_deeds va_kinds va_firsts va_seconds sf_facts sa_heard sa_huts sa_minutes cf_voices cf_step ca_parts ca_heights f_fault f_faultPlace a_numbers a_tape f_length f_behind f_kind f_first f_value f_hutsToldOf f_singersToldOf z_from s.heap)
    (hZ : zZ G (wrA qr qt) s s.heap)
    (hl : lv_has ls 3 [(0, .ref qr), (1, .int x1)])
    (hw : q_wr_X4_wordOf_0 a_tape f_behind f_kind f_first x1 post) :
    W p l e rm_wr_X4_wordOf s m args below meth c s.heap [] 0 0 (MQ below (vp_Si post) args s 0 0 (fun _ => False)) (F0 m 0 ls []) := by
  have hx := zc.1
  have hb := zc.2.1
  refine lv_aload_n hx hb dX4_wordOf_0 rfl (lv_at hl 0 rfl) ?_
  refine wrg_4_73_0 zc hK hM dX4_wordOf_1 ?_
  refine lv_iconst (v := (1 : Int32)) hx hb dX4_wordOf_4 (by decide) ?_
  refine lv_icmp_eq (tgt := 10) hx hb dX4_wordOf_5 (by decide) (fun hc => ?_) (fun hc => ?_)
  · have hw := hw.1 hc
    refine va_gets hx hb hZ.1.1 va_S.rf zc.2.2.2.1 (zc.2.2.2.2.1 _ kf_4_206) (fun _ h => h) dX4_wordOf_10 ?_
    refine lv_iload_n hx hb dX4_wordOf_13 rfl (lv_at hl 1 rfl) ?_
    refine va_ti hx hb hZ.2.1.1 va_S.rf hw.1 rfl dX4_wordOf_14 ?_
    have hw := hw.2
    refine lv_topi (fun v_1 ev_1 => ?_)
    have hw := hw v_1 ev_1
    refine lv_istore_n (lv' := [(2, .int v_1), (0, .ref qr), (1, .int x1)]) hx hb dX4_wordOf_15 rfl hl (by decide) rfl (fun ls hl => ?_)
    exact t_wr_X4_wordOf_16 zc hK hM hZ  (lv_sub hl [1, 2, 0] rfl) hw
  · have hw := hw.2 hc
    refine lv_iconst (v := (-1 : Int32)) hx hb dX4_wordOf_8 (by decide) ?_
    exact zret_i zc hw dX4_wordOf_9
set_option maxRecDepth 20000 in
theorem c_wr_X4_wordOf (l : Launch) {G : zG} {E : zE} {qr qt : Nat} {lf_huts : Int32} {lf_singers : Int32} {lf_villages : Int32} {lf_dams : Int32} {lf_echoes : Int32} {lf_deep : Int32} {lf_slide : Int32} {la_heights : Nat → Int32} {la_ladders : Nat → Int32} {la_minutes : Nat → Int32} {la_echoFrom : Nat → Int32} {la_echoTo : Nat → Int32} {la_homes : Nat → Int32} {la_talls : Nat → Int32} {la_known : Nat → Int32} {vf_deeds : Int32} {va_kinds : Nat → Int32} {va_firsts : Nat → Int32} {va_seconds : Nat → Int32} {sf_facts : Int32} {sa_heard : Nat → Int32} {sa_huts : Nat → Int32} {sa_minutes : Nat → Int32} {cf_voices : Int32} {cf_step : Int32} {ca_parts : Nat → Int32} {ca_heights : Nat → Int32} {f_fault : Int32} {f_faultPlace : Int32} {a_numbers : Nat → Int32} {a_tape : Nat → Int32} {f_length : Int32} {f_behind : Int32} {f_kind : Int32} {f_first : Int32} {f_value : Int32} {f_hutsToldOf : Int32} {f_singersToldOf : Int32} {z_from : Nat → Int32} {x1 : Int32} {post : Int32 → Prop} (hw : q_wr_X4_wordOf_0 a_tape f_behind f_kind f_first x1 post) : Met l yX4_wordOf (Cond.code yX4_wordOf cX4_wordOf 3 (some .int) :: zb) rm_wr_X4_wordOf (va_Pc [.ref qr, .int x1] (fun U => (wrW E qr qt lf_huts lf_singers lf_villages lf_dams lf_echoes lf_deep lf_slide la_heights la_ladders la_minutes la_echoFrom la_echoTo la_homes la_talls la_known vf_deeds va_kinds va_firsts va_seconds sf_facts sa_heard sa_huts sa_minutes cf_voices cf_step ca_parts ca_heights f_fault f_faultPlace a_numbers a_tape f_length f_behind f_kind f_first f_value f_hutsToldOf f_singersToldOf z_from U.heap ∧ zK E U) ∧ zZ G (wrA qr qt) U U.heap)) (vp_Si post) 0 0 (fun _ => False) := by
  refine Met.ofW (cc := cX4_wordOf) (maxL := 3) (ret := (some .int)) (by decide) rfl ?_
  intro p e s m args below meth c s₁ B hml hv
  obtain ⟨rfl, ⟨hM, hK⟩, hZ⟩ := hv
  have zc := zc_of B hml
  have hl := lv_entry ([.ref qr, .int x1]) (n := 3) (Nat.le_of_ble_eq_true rfl)
  rw [lg_entry_eq]
  generalize (lg_sl ([.ref qr, .int x1]) ++ List.replicate (3 - (lg_sl ([.ref qr, .int x1])).length) Slot.unset).toArray = ls at hl ⊢
  have hl : lv_has ls 3 [(0, .ref qr), (1, .int x1)] := hl
  exact t_wr_X4_wordOf_0 zc hK hM hZ (lv_sub hl [0, 1] rfl) hw
-- wr_X4_isFull
abbrev rm_wr_X4_isFull : Room := { frames := 0, cells := 0, slots := 0, locals := 0 }
def q_wr_X4_isFull_173 (lf_huts : Int32) (lf_singers : Int32) (lf_echoes : Int32) (vf_deeds : Int32) (sf_facts : Int32) (cf_voices : Int32) (post : Int32 → Prop) : Prop :=
  (¬ sf_facts = (10 : Int32) → (post (0 : Int32))) ∧ (sf_facts = (10 : Int32) → (post (1 : Int32)))
def q_wr_X4_isFull_30 (lf_huts : Int32) (lf_singers : Int32) (lf_echoes : Int32) (vf_deeds : Int32) (sf_facts : Int32) (cf_voices : Int32) (x1 : Int32) (post : Int32 → Prop) : Prop :=
  (x1.toInt < 0 ∨ 18 < x1.toInt → (post (0 : Int32))) ∧ (x1 = (0 : Int32) → ((¬ lf_huts = (9 : Int32) → (post (0 : Int32))) ∧ (lf_huts = (9 : Int32) → (post (1 : Int32))))) ∧ (x1 = (1 : Int32) → (post (0 : Int32))) ∧ (x1 = (2 : Int32) → (post (0 : Int32))) ∧ (x1 = (3 : Int32) → (post (0 : Int32))) ∧ (x1 = (4 : Int32) → (post (0 : Int32))) ∧ (x1 = (5 : Int32) → (post (0 : Int32))) ∧ (x1 = (6 : Int32) → ((¬ lf_echoes = (4 : Int32) → (post (0 : Int32))) ∧ (lf_echoes = (4 : Int32) → (post (1 : Int32))))) ∧ (x1 = (7 : Int32) → (post (0 : Int32))) ∧ (x1 = (8 : Int32) → ((¬ lf_singers = (6 : Int32) → (post (0 : Int32))) ∧ (lf_singers = (6 : Int32) → (post (1 : Int32))))) ∧ (x1 = (9 : Int32) → (post (0 : Int32))) ∧ (x1 = (10 : Int32) → (post (0 : Int32))) ∧ (x1 = (11 : Int32) → (post (0 : Int32))) ∧ (x1 = (12 : Int32) → (post (0 : Int32))) ∧ (x1 = (13 : Int32) → (post (0 : Int32))) ∧ (x1 = (14 : Int32) → (post (0 : Int32))) ∧ (x1 = (15 : Int32) → (post (0 : Int32))) ∧ (x1 = (16 : Int32) → (q_wr_X4_isFull_173 lf_huts lf_singers lf_echoes vf_deeds sf_facts cf_voices post)) ∧ (x1 = (17 : Int32) → (q_wr_X4_isFull_173 lf_huts lf_singers lf_echoes vf_deeds sf_facts cf_voices post)) ∧ (x1 = (18 : Int32) → ((¬ cf_voices = (9 : Int32) → (post (0 : Int32))) ∧ (cf_voices = (9 : Int32) → (post (1 : Int32)))))
def q_wr_X4_isFull_0 (lf_huts : Int32) (lf_singers : Int32) (lf_echoes : Int32) (vf_deeds : Int32) (sf_facts : Int32) (cf_voices : Int32) (x1 : Int32) (post : Int32 → Prop) : Prop :=
  (x1 < (10 : Int32) → (q_wr_X4_isFull_30 lf_huts lf_singers lf_echoes vf_deeds sf_facts cf_voices x1 post)) ∧ (¬ x1 < (10 : Int32) → (((16 : Int32) ≤ x1 → (q_wr_X4_isFull_30 lf_huts lf_singers lf_echoes vf_deeds sf_facts cf_voices x1 post)) ∧ (¬ (16 : Int32) ≤ x1 → ((¬ vf_deeds = (40 : Int32) → (post (0 : Int32))) ∧ (vf_deeds = (40 : Int32) → (post (1 : Int32)))))))
set_option maxRecDepth 20000 in
theorem t_wr_X4_isFull_173 {p : Program} {l : Launch} {e : Env} {s : State} {m : MethodId} {args : Array Value} {below : List Frame} {meth : Method} {c : Code} {E : zE} {qr qt : Nat} {lf_huts : Int32} {lf_singers : Int32} {lf_villages : Int32} {lf_dams : Int32} {lf_echoes : Int32} {lf_deep : Int32} {lf_slide : Int32} {la_heights : Nat → Int32} {la_ladders : Nat → Int32} {la_minutes : Nat → Int32} {la_echoFrom : Nat → Int32} {la_echoTo : Nat → Int32} {la_homes : Nat → Int32} {la_talls : Nat → Int32} {la_known : Nat → Int32} {vf_deeds : Int32} {va_kinds : Nat → Int32} {va_firsts : Nat → Int32} {va_seconds : Nat → Int32} {sf_facts : Int32} {sa_heard : Nat → Int32} {sa_huts : Nat → Int32} {sa_minutes : Nat → Int32} {cf_voices : Int32} {cf_step : Int32} {ca_parts : Nat → Int32} {ca_heights : Nat → Int32} {f_fault : Int32} {f_faultPlace : Int32} {a_numbers : Nat → Int32} {a_tape : Nat → Int32} {f_length : Int32} {f_behind : Int32} {f_kind : Int32} {f_first : Int32} {f_value : Int32} {f_hutsToldOf : Int32} {f_singersToldOf : Int32} {z_from : Nat → Int32} {post : Int32 → Prop} {ls : Array Slot}
    (zc : zC p s m args meth c cX4_isFull 2 RX4 (some .boolean))
    (hK : zK E s)
    (hM : wrW E qr qt lf_huts lf_singers lf_villages lf_dams lf_echoes lf_deep lf_slide la_heights la_ladders la_minutes la_echoFrom la_echoTo la_homes la_talls la_known vf_deeds va_kinds va_firsts va_seconds sf_facts sa_heard sa_huts sa_minutes cf_voices cf_step ca_parts ca_heights f_fault f_faultPlace a_numbers a_tape f_length f_behind f_kind f_first f_value f_hutsToldOf f_singersToldOf z_from s.heap)
    (hl : lv_has ls 2 [(0, .ref qr)])
    (hw : q_wr_X4_isFull_173 lf_huts lf_singers lf_echoes vf_deeds sf_facts cf_voices post) :
    W p l e rm_wr_X4_isFull s m args below meth c s.heap [] 0 0 (MQ below (vp_Si post) args s 0 0 (fun _ => False)) (F0 m 173 ls []) := by
  have hx := zc.1
  have hb := zc.2.1
  refine lv_aload_n hx hb dX4_isFull_173 rfl (lv_at hl 0 rfl) ?_
  refine wrg_4_28_0 zc hK hM dX4_isFull_174 ?_
  refine wrg_4_99_14 zc hK hM dX4_isFull_177 ?_
  refine lv_bipush (v := (10 : Int32)) hx hb dX4_isFull_180 (by decide) ?_
  refine lv_icmp_ne (tgt := 189) hx hb dX4_isFull_182 (by decide) (fun hc => ?_) (fun hc => ?_)
  · have hw := hw.1 hc
    refine lv_iconst (v := (0 : Int32)) hx hb dX4_isFull_189 (by decide) ?_
    exact zret_z zc rfl hw dX4_isFull_190
  · have hw := hw.2 hc
    refine lv_iconst (v := (1 : Int32)) hx hb dX4_isFull_185 (by decide) ?_
    refine lv_goto (tgt := 190) hx hb dX4_isFull_186 (by decide) ?_
    exact zret_z zc rfl hw dX4_isFull_190
set_option maxRecDepth 20000 in
theorem t_wr_X4_isFull_30 {p : Program} {l : Launch} {e : Env} {s : State} {m : MethodId} {args : Array Value} {below : List Frame} {meth : Method} {c : Code} {E : zE} {qr qt : Nat} {lf_huts : Int32} {lf_singers : Int32} {lf_villages : Int32} {lf_dams : Int32} {lf_echoes : Int32} {lf_deep : Int32} {lf_slide : Int32} {la_heights : Nat → Int32} {la_ladders : Nat → Int32} {la_minutes : Nat → Int32} {la_echoFrom : Nat → Int32} {la_echoTo : Nat → Int32} {la_homes : Nat → Int32} {la_talls : Nat → Int32} {la_known : Nat → Int32} {vf_deeds : Int32} {va_kinds : Nat → Int32} {va_firsts : Nat → Int32} {va_seconds : Nat → Int32} {sf_facts : Int32} {sa_heard : Nat → Int32} {sa_huts : Nat → Int32} {sa_minutes : Nat → Int32} {cf_voices : Int32} {cf_step : Int32} {ca_parts : Nat → Int32} {ca_heights : Nat → Int32} {f_fault : Int32} {f_faultPlace : Int32} {a_numbers : Nat → Int32} {a_tape : Nat → Int32} {f_length : Int32} {f_behind : Int32} {f_kind : Int32} {f_first : Int32} {f_value : Int32} {f_hutsToldOf : Int32} {f_singersToldOf : Int32} {z_from : Nat → Int32} {post : Int32 → Prop} {x1 : Int32} {ls : Array Slot}
    (zc : zC p s m args meth c cX4_isFull 2 RX4 (some .boolean))
    (hK : zK E s)
    (hM : wrW E qr qt lf_huts lf_singers lf_villages lf_dams lf_echoes lf_deep lf_slide la_heights la_ladders la_minutes la_echoFrom la_echoTo la_homes la_talls la_known vf_deeds va_kinds va_firsts va_seconds sf_facts sa_heard sa_huts sa_minutes cf_voices cf_step ca_parts ca_heights f_fault f_faultPlace a_numbers a_tape f_length f_behind f_kind f_first f_value f_hutsToldOf f_singersToldOf z_from s.heap)
    (hl : lv_has ls 2 [(0, .ref qr), (1, .int x1)])
    (hw : q_wr_X4_isFull_30 lf_huts lf_singers lf_echoes vf_deeds sf_facts cf_voices x1 post) :
    W p l e rm_wr_X4_isFull s m args below meth c s.heap [] 0 0 (MQ below (vp_Si post) args s 0 0 (fun _ => False)) (F0 m 30 ls []) := by
  have hx := zc.1
  have hb := zc.2.1
  refine lv_iload_n hx hb dX4_isFull_30 rfl (lv_at hl 1 rfl) ?_
  by_cases hc : x1.toInt < 0 ∨ 18 < x1.toInt
  · have hw := hw.1 hc
    refine lv_tableOut (tgt := 209) hx hb dX4_isFull_31 hc (by decide) ?_
    refine lv_iconst (v := (0 : Int32)) hx hb dX4_isFull_209 (by decide) ?_
    exact zret_z zc rfl hw dX4_isFull_210
  have hin := zsw hc
  by_cases hc0 : x1 = (0 : Int32)
  · have hw := hw.2.1 hc0
    refine lv_tableIn (tgt := 120) hx hb dX4_isFull_31 (by rw [hc0]; decide) (by rw [hc0]; decide) (by rw [hc0]; rfl) (by decide) ?_
    refine lv_aload_n hx hb dX4_isFull_120 rfl (lv_at hl 0 rfl) ?_
    refine wrg_4_12_0 zc hK hM dX4_isFull_121 ?_
    refine wrg_4_108_1 zc hK hM dX4_isFull_124 ?_
    refine lv_bipush (v := (9 : Int32)) hx hb dX4_isFull_127 (by decide) ?_
    refine lv_icmp_ne (tgt := 136) hx hb dX4_isFull_129 (by decide) (fun hc => ?_) (fun hc => ?_)
    · have hw := hw.1 hc
      refine lv_iconst (v := (0 : Int32)) hx hb dX4_isFull_136 (by decide) ?_
      exact zret_z zc rfl hw dX4_isFull_137
    · have hw := hw.2 hc
      refine lv_iconst (v := (1 : Int32)) hx hb dX4_isFull_132 (by decide) ?_
      refine lv_goto (tgt := 137) hx hb dX4_isFull_133 (by decide) ?_
      exact zret_z zc rfl hw dX4_isFull_137
  by_cases hc1 : x1 = (1 : Int32)
  · have hw := hw.2.2.1 hc1
    refine lv_tableIn (tgt := 209) hx hb dX4_isFull_31 (by rw [hc1]; decide) (by rw [hc1]; decide) (by rw [hc1]; rfl) (by decide) ?_
    refine lv_iconst (v := (0 : Int32)) hx hb dX4_isFull_209 (by decide) ?_
    exact zret_z zc rfl hw dX4_isFull_210
  by_cases hc2 : x1 = (2 : Int32)
  · have hw := hw.2.2.2.1 hc2
    refine lv_tableIn (tgt := 209) hx hb dX4_isFull_31 (by rw [hc2]; decide) (by rw [hc2]; decide) (by rw [hc2]; rfl) (by decide) ?_
    refine lv_iconst (v := (0 : Int32)) hx hb dX4_isFull_209 (by decide) ?_
    exact zret_z zc rfl hw dX4_isFull_210
  by_cases hc3 : x1 = (3 : Int32)
  · have hw := hw.2.2.2.2.1 hc3
    refine lv_tableIn (tgt := 209) hx hb dX4_isFull_31 (by rw [hc3]; decide) (by rw [hc3]; decide) (by rw [hc3]; rfl) (by decide) ?_
    refine lv_iconst (v := (0 : Int32)) hx hb dX4_isFull_209 (by decide) ?_
    exact zret_z zc rfl hw dX4_isFull_210
  by_cases hc4 : x1 = (4 : Int32)
  · have hw := hw.2.2.2.2.2.1 hc4
    refine lv_tableIn (tgt := 209) hx hb dX4_isFull_31 (by rw [hc4]; decide) (by rw [hc4]; decide) (by rw [hc4]; rfl) (by decide) ?_
    refine lv_iconst (v := (0 : Int32)) hx hb dX4_isFull_209 (by decide) ?_
    exact zret_z zc rfl hw dX4_isFull_210
  by_cases hc5 : x1 = (5 : Int32)
  · have hw := hw.2.2.2.2.2.2.1 hc5
    refine lv_tableIn (tgt := 209) hx hb dX4_isFull_31 (by rw [hc5]; decide) (by rw [hc5]; decide) (by rw [hc5]; rfl) (by decide) ?_
    refine lv_iconst (v := (0 : Int32)) hx hb dX4_isFull_209 (by decide) ?_
    exact zret_z zc rfl hw dX4_isFull_210
  by_cases hc6 : x1 = (6 : Int32)
  · have hw := hw.2.2.2.2.2.2.2.1 hc6
    refine lv_tableIn (tgt := 138) hx hb dX4_isFull_31 (by rw [hc6]; decide) (by rw [hc6]; decide) (by rw [hc6]; rfl) (by decide) ?_
    refine lv_aload_n hx hb dX4_isFull_138 rfl (lv_at hl 0 rfl) ?_
    refine wrg_4_12_0 zc hK hM dX4_isFull_139 ?_
    refine wrg_4_141_1 zc hK hM dX4_isFull_142 ?_
    refine lv_iconst (v := (4 : Int32)) hx hb dX4_isFull_145 (by decide) ?_
    refine lv_icmp_ne (tgt := 153) hx hb dX4_isFull_146 (by decide) (fun hc => ?_) (fun hc => ?_)
    · have hw := hw.1 hc
      refine lv_iconst (v := (0 : Int32)) hx hb dX4_isFull_153 (by decide) ?_
      exact zret_z zc rfl hw dX4_isFull_154
    · have hw := hw.2 hc
      refine lv_iconst (v := (1 : Int32)) hx hb dX4_isFull_149 (by decide) ?_
      refine lv_goto (tgt := 154) hx hb dX4_isFull_150 (by decide) ?_
      exact zret_z zc rfl hw dX4_isFull_154
  by_cases hc7 : x1 = (7 : Int32)
  · have hw := hw.2.2.2.2.2.2.2.2.1 hc7
    refine lv_tableIn (tgt := 209) hx hb dX4_isFull_31 (by rw [hc7]; decide) (by rw [hc7]; decide) (by rw [hc7]; rfl) (by decide) ?_
    refine lv_iconst (v := (0 : Int32)) hx hb dX4_isFull_209 (by decide) ?_
    exact zret_z zc rfl hw dX4_isFull_210
  by_cases hc8 : x1 = (8 : Int32)
  · have hw := hw.2.2.2.2.2.2.2.2.2.1 hc8
    refine lv_tableIn (tgt := 155) hx hb dX4_isFull_31 (by rw [hc8]; decide) (by rw [hc8]; decide) (by rw [hc8]; rfl) (by decide) ?_
    refine lv_aload_n hx hb dX4_isFull_155 rfl (lv_at hl 0 rfl) ?_
    refine wrg_4_12_0 zc hK hM dX4_isFull_156 ?_
    refine wrg_4_111_1 zc hK hM dX4_isFull_159 ?_
    refine lv_bipush (v := (6 : Int32)) hx hb dX4_isFull_162 (by decide) ?_
    refine lv_icmp_ne (tgt := 171) hx hb dX4_isFull_164 (by decide) (fun hc => ?_) (fun hc => ?_)
    · have hw := hw.1 hc
      refine lv_iconst (v := (0 : Int32)) hx hb dX4_isFull_171 (by decide) ?_
      exact zret_z zc rfl hw dX4_isFull_172
    · have hw := hw.2 hc
      refine lv_iconst (v := (1 : Int32)) hx hb dX4_isFull_167 (by decide) ?_
      refine lv_goto (tgt := 172) hx hb dX4_isFull_168 (by decide) ?_
      exact zret_z zc rfl hw dX4_isFull_172
  by_cases hc9 : x1 = (9 : Int32)
  · have hw := hw.2.2.2.2.2.2.2.2.2.2.1 hc9
    refine lv_tableIn (tgt := 209) hx hb dX4_isFull_31 (by rw [hc9]; decide) (by rw [hc9]; decide) (by rw [hc9]; rfl) (by decide) ?_
    refine lv_iconst (v := (0 : Int32)) hx hb dX4_isFull_209 (by decide) ?_
    exact zret_z zc rfl hw dX4_isFull_210
  by_cases hc10 : x1 = (10 : Int32)
  · have hw := hw.2.2.2.2.2.2.2.2.2.2.2.1 hc10
    refine lv_tableIn (tgt := 209) hx hb dX4_isFull_31 (by rw [hc10]; decide) (by rw [hc10]; decide) (by rw [hc10]; rfl) (by decide) ?_
    refine lv_iconst (v := (0 : Int32)) hx hb dX4_isFull_209 (by decide) ?_
    exact zret_z zc rfl hw dX4_isFull_210
  by_cases hc11 : x1 = (11 : Int32)
  · have hw := hw.2.2.2.2.2.2.2.2.2.2.2.2.1 hc11
    refine lv_tableIn (tgt := 209) hx hb dX4_isFull_31 (by rw [hc11]; decide) (by rw [hc11]; decide) (by rw [hc11]; rfl) (by decide) ?_
    refine lv_iconst (v := (0 : Int32)) hx hb dX4_isFull_209 (by decide) ?_
    exact zret_z zc rfl hw dX4_isFull_210
  by_cases hc12 : x1 = (12 : Int32)
  · have hw := hw.2.2.2.2.2.2.2.2.2.2.2.2.2.1 hc12
    refine lv_tableIn (tgt := 209) hx hb dX4_isFull_31 (by rw [hc12]; decide) (by rw [hc12]; decide) (by rw [hc12]; rfl) (by decide) ?_
    refine lv_iconst (v := (0 : Int32)) hx hb dX4_isFull_209 (by decide) ?_
    exact zret_z zc rfl hw dX4_isFull_210
  by_cases hc13 : x1 = (13 : Int32)
  · have hw := hw.2.2.2.2.2.2.2.2.2.2.2.2.2.2.1 hc13
    refine lv_tableIn (tgt := 209) hx hb dX4_isFull_31 (by rw [hc13]; decide) (by rw [hc13]; decide) (by rw [hc13]; rfl) (by decide) ?_
    refine lv_iconst (v := (0 : Int32)) hx hb dX4_isFull_209 (by decide) ?_
    exact zret_z zc rfl hw dX4_isFull_210
  by_cases hc14 : x1 = (14 : Int32)
  · have hw := hw.2.2.2.2.2.2.2.2.2.2.2.2.2.2.2.1 hc14
    refine lv_tableIn (tgt := 209) hx hb dX4_isFull_31 (by rw [hc14]; decide) (by rw [hc14]; decide) (by rw [hc14]; rfl) (by decide) ?_
    refine lv_iconst (v := (0 : Int32)) hx hb dX4_isFull_209 (by decide) ?_
    exact zret_z zc rfl hw dX4_isFull_210
  by_cases hc15 : x1 = (15 : Int32)
  · have hw := hw.2.2.2.2.2.2.2.2.2.2.2.2.2.2.2.2.1 hc15
    refine lv_tableIn (tgt := 209) hx hb dX4_isFull_31 (by rw [hc15]; decide) (by rw [hc15]; decide) (by rw [hc15]; rfl) (by decide) ?_
    refine lv_iconst (v := (0 : Int32)) hx hb dX4_isFull_209 (by decide) ?_
    exact zret_z zc rfl hw dX4_isFull_210
  by_cases hc16 : x1 = (16 : Int32)
  · have hw := hw.2.2.2.2.2.2.2.2.2.2.2.2.2.2.2.2.2.1 hc16
    refine lv_tableIn (tgt := 173) hx hb dX4_isFull_31 (by rw [hc16]; decide) (by rw [hc16]; decide) (by rw [hc16]; rfl) (by decide) ?_
    exact t_wr_X4_isFull_173 zc hK hM  (lv_sub hl [0] rfl) hw
  by_cases hc17 : x1 = (17 : Int32)
  · have hw := hw.2.2.2.2.2.2.2.2.2.2.2.2.2.2.2.2.2.2.1 hc17
    refine lv_tableIn (tgt := 173) hx hb dX4_isFull_31 (by rw [hc17]; decide) (by rw [hc17]; decide) (by rw [hc17]; rfl) (by decide) ?_
    exact t_wr_X4_isFull_173 zc hK hM  (lv_sub hl [0] rfl) hw
  by_cases hc18 : x1 = (18 : Int32)
  · have hw := hw.2.2.2.2.2.2.2.2.2.2.2.2.2.2.2.2.2.2.2 hc18
    refine lv_tableIn (tgt := 191) hx hb dX4_isFull_31 (by rw [hc18]; decide) (by rw [hc18]; decide) (by rw [hc18]; rfl) (by decide) ?_
    refine lv_aload_n hx hb dX4_isFull_191 rfl (lv_at hl 0 rfl) ?_
    refine wrg_4_35_0 zc hK hM dX4_isFull_192 ?_
    refine wrg_4_102_18 zc hK hM dX4_isFull_195 ?_
    refine lv_bipush (v := (9 : Int32)) hx hb dX4_isFull_198 (by decide) ?_
    refine lv_icmp_ne (tgt := 207) hx hb dX4_isFull_200 (by decide) (fun hc => ?_) (fun hc => ?_)
    · have hw := hw.1 hc
      refine lv_iconst (v := (0 : Int32)) hx hb dX4_isFull_207 (by decide) ?_
      exact zret_z zc rfl hw dX4_isFull_208
    · have hw := hw.2 hc
      refine lv_iconst (v := (1 : Int32)) hx hb dX4_isFull_203 (by decide) ?_
      refine lv_goto (tgt := 208) hx hb dX4_isFull_204 (by decide) ?_
      exact zret_z zc rfl hw dX4_isFull_208
  exact absurd hin (by have h0 := zne hc0; have h1 := zne hc1; have h2 := zne hc2; have h3 := zne hc3; have h4 := zne hc4; have h5 := zne hc5; have h6 := zne hc6; have h7 := zne hc7; have h8 := zne hc8; have h9 := zne hc9; have h10 := zne hc10; have h11 := zne hc11; have h12 := zne hc12; have h13 := zne hc13; have h14 := zne hc14; have h15 := zne hc15; have h16 := zne hc16; have h17 := zne hc17; have h18 := zne hc18; simp at *; omega)
set_option maxRecDepth 20000 in
theorem t_wr_X4_isFull_0 {p : Program} {l : Launch} {e : Env} {s : State} {m : MethodId} {args : Array Value} {below : List Frame} {meth : Method} {c : Code} {E : zE} {qr qt : Nat} {lf_huts : Int32} {lf_singers : Int32} {lf_villages : Int32} {lf_dams : Int32} {lf_echoes : Int32} {lf_deep : Int32} {lf_slide : Int32} {la_heights : Nat → Int32} {la_ladders : Nat → Int32} {la_minutes : Nat → Int32} {la_echoFrom : Nat → Int32} {la_echoTo : Nat → Int32} {la_homes : Nat → Int32} {la_talls : Nat → Int32} {la_known : Nat → Int32} {vf_deeds : Int32} {va_kinds : Nat → Int32} {va_firsts : Nat → Int32} {va_seconds : Nat → Int32} {sf_facts : Int32} {sa_heard : Nat → Int32} {sa_huts : Nat → Int32} {sa_minutes : Nat → Int32} {cf_voices : Int32} {cf_step : Int32} {ca_parts : Nat → Int32} {ca_heights : Nat → Int32} {f_fault : Int32} {f_faultPlace : Int32} {a_numbers : Nat → Int32} {a_tape : Nat → Int32} {f_length : Int32} {f_behind : Int32} {f_kind : Int32} {f_first : Int32} {f_value : Int32} {f_hutsToldOf : Int32} {f_singersToldOf : Int32} {z_from : Nat → Int32} {post : Int32 → Prop} {x1 : Int32} {ls : Array Slot}
    (zc : zC p s m args meth c cX4_isFull 2 RX4 (some .boolean))
    (hK : zK E s)
    (hM : wrW E qr qt lf_huts lf_singers lf_villages lf_dams lf_echoes lf_deep lf_slide la_heights la_ladders la_minutes la_echoFrom la_echoTo la_homes la_talls la_known vf_deeds va_kinds va_firsts va_seconds sf_facts sa_heard sa_huts sa_minutes cf_voices cf_step ca_parts ca_heights f_fault f_faultPlace a_numbers a_tape f_length f_behind f_kind f_first f_value f_hutsToldOf f_singersToldOf z_from s.heap)
    (hl : lv_has ls 2 [(0, .ref qr), (1, .int x1)])
    (hw : q_wr_X4_isFull_0 lf_huts lf_singers lf_echoes vf_deeds sf_facts cf_voices x1 post) :
    W p l e rm_wr_X4_isFull s m args below meth c s.heap [] 0 0 (MQ below (vp_Si post) args s 0 0 (fun _ => False)) (F0 m 0 ls []) := by
  have hx := zc.1
  have hb := zc.2.1
  refine lv_iload_n hx hb dX4_isFull_0 rfl (lv_at hl 1 rfl) ?_
  refine lv_bipush (v := (10 : Int32)) hx hb dX4_isFull_1 (by decide) ?_
  refine lv_icmp_lt (tgt := 30) hx hb dX4_isFull_3 (by decide) (fun hc => ?_) (fun hc => ?_)
  · have hw := hw.1 hc
    exact t_wr_X4_isFull_30 zc hK hM  (lv_sub hl [0, 1] rfl) hw
  · have hw := hw.2 hc
    refine lv_iload_n hx hb dX4_isFull_6 rfl (lv_at hl 1 rfl) ?_
    refine lv_bipush (v := (16 : Int32)) hx hb dX4_isFull_7 (by decide) ?_
    refine lv_icmp_ge (tgt := 30) hx hb dX4_isFull_9 (by decide) (fun hc => ?_) (fun hc => ?_)
    · have hw := hw.1 hc
      exact t_wr_X4_isFull_30 zc hK hM  (lv_sub hl [0, 1] rfl) hw
    · have hw := hw.2 hc
      refine lv_aload_n hx hb dX4_isFull_12 rfl (lv_at hl 0 rfl) ?_
      refine wrg_4_21_0 zc hK hM dX4_isFull_13 ?_
      refine wrg_4_96_10 zc hK hM dX4_isFull_16 ?_
      refine lv_bipush (v := (40 : Int32)) hx hb dX4_isFull_19 (by decide) ?_
      refine lv_icmp_ne (tgt := 28) hx hb dX4_isFull_21 (by decide) (fun hc => ?_) (fun hc => ?_)
      · have hw := hw.1 hc
        refine lv_iconst (v := (0 : Int32)) hx hb dX4_isFull_28 (by decide) ?_
        exact zret_z zc rfl hw dX4_isFull_29
      · have hw := hw.2 hc
        refine lv_iconst (v := (1 : Int32)) hx hb dX4_isFull_24 (by decide) ?_
        refine lv_goto (tgt := 29) hx hb dX4_isFull_25 (by decide) ?_
        exact zret_z zc rfl hw dX4_isFull_29
set_option maxRecDepth 20000 in
theorem c_wr_X4_isFull (l : Launch) {E : zE} {qr qt : Nat} {lf_huts : Int32} {lf_singers : Int32} {lf_villages : Int32} {lf_dams : Int32} {lf_echoes : Int32} {lf_deep : Int32} {lf_slide : Int32} {la_heights : Nat → Int32} {la_ladders : Nat → Int32} {la_minutes : Nat → Int32} {la_echoFrom : Nat → Int32} {la_echoTo : Nat → Int32} {la_homes : Nat → Int32} {la_talls : Nat → Int32} {la_known : Nat → Int32} {vf_deeds : Int32} {va_kinds : Nat → Int32} {va_firsts : Nat → Int32} {va_seconds : Nat → Int32} {sf_facts : Int32} {sa_heard : Nat → Int32} {sa_huts : Nat → Int32} {sa_minutes : Nat → Int32} {cf_voices : Int32} {cf_step : Int32} {ca_parts : Nat → Int32} {ca_heights : Nat → Int32} {f_fault : Int32} {f_faultPlace : Int32} {a_numbers : Nat → Int32} {a_tape : Nat → Int32} {f_length : Int32} {f_behind : Int32} {f_kind : Int32} {f_first : Int32} {f_value : Int32} {f_hutsToldOf : Int32} {f_singersToldOf : Int32} {z_from : Nat → Int32} {x1 : Int32} {post : Int32 → Prop} (hw : q_wr_X4_isFull_0 lf_huts lf_singers lf_echoes vf_deeds sf_facts cf_voices x1 post) : Met l yX4_isFull (Cond.code yX4_isFull cX4_isFull 2 (some .boolean) :: zb) rm_wr_X4_isFull (va_Pc [.ref qr, .int x1] (fun U => wrW E qr qt lf_huts lf_singers lf_villages lf_dams lf_echoes lf_deep lf_slide la_heights la_ladders la_minutes la_echoFrom la_echoTo la_homes la_talls la_known vf_deeds va_kinds va_firsts va_seconds sf_facts sa_heard sa_huts sa_minutes cf_voices cf_step ca_parts ca_heights f_fault f_faultPlace a_numbers a_tape f_length f_behind f_kind f_first f_value f_hutsToldOf f_singersToldOf z_from U.heap ∧ zK E U)) (vp_Si post) 0 0 (fun _ => False) := by
  refine Met.ofW (cc := cX4_isFull) (maxL := 2) (ret := (some .boolean)) (by decide) rfl ?_
  intro p e s m args below meth c s₁ B hml hv
  obtain ⟨rfl, hM, hK⟩ := hv
  have zc := zc_of B hml
  have hl := lv_entry ([.ref qr, .int x1]) (n := 2) (Nat.le_of_ble_eq_true rfl)
  rw [lg_entry_eq]
  generalize (lg_sl ([.ref qr, .int x1]) ++ List.replicate (2 - (lg_sl ([.ref qr, .int x1])).length) Slot.unset).toArray = ls at hl ⊢
  have hl : lv_has ls 2 [(0, .ref qr), (1, .int x1)] := hl
  exact t_wr_X4_isFull_0 zc hK hM (lv_sub hl [0, 1] rfl) hw
end
section
-- wr_X0_tell
abbrev rm_wr_X0_tell : Room := { frames := 0, cells := 0, slots := 0, locals := 0 }
def q_wr_X0_tell_0 (cf_voices : Int32) (ca_parts : Nat → Int32) (ca_heights : Nat → Int32) (x1 : Int32) (x2 : Int32) (post : (Int32) → (Nat → Int32) → (Nat → Int32) → Prop) : Prop :=
  ((9 : Int32) ≤ cf_voices → (post cf_voices ca_parts ca_heights)) ∧ (¬ (9 : Int32) ≤ cf_voices → (vp_in cf_voices 9 ∧ (∀ ca_parts_1 : Nat → Int32, ca_parts_1 = upd ca_parts (Int32.toNatClampNeg cf_voices) x1 → (vp_in cf_voices 9 ∧ (∀ ca_heights_1 : Nat → Int32, ca_heights_1 = upd ca_heights (Int32.toNatClampNeg cf_voices) x2 → (∀ v_1 : Int32, v_1 = (cf_voices + (1 : Int32)) → (post v_1 ca_parts_1 ca_heights_1)))))))
set_option maxRecDepth 20000 in
theorem t_wr_X0_tell_0 {p : Program} {l : Launch} {e : Env} {s : State} {m : MethodId} {args : Array Value} {below : List Frame} {meth : Method} {c : Code} {E : zE} {qr qt : Nat} {lf_huts : Int32} {lf_singers : Int32} {lf_villages : Int32} {lf_dams : Int32} {lf_echoes : Int32} {lf_deep : Int32} {lf_slide : Int32} {la_heights : Nat → Int32} {la_ladders : Nat → Int32} {la_minutes : Nat → Int32} {la_echoFrom : Nat → Int32} {la_echoTo : Nat → Int32} {la_homes : Nat → Int32} {la_talls : Nat → Int32} {la_known : Nat → Int32} {vf_deeds : Int32} {va_kinds : Nat → Int32} {va_firsts : Nat → Int32} {va_seconds : Nat → Int32} {sf_facts : Int32} {sa_heard : Nat → Int32} {sa_huts : Nat → Int32} {sa_minutes : Nat → Int32} {cf_voices : Int32} {cf_step : Int32} {ca_parts : Nat → Int32} {ca_heights : Nat → Int32} {f_fault : Int32} {f_faultPlace : Int32} {a_numbers : Nat → Int32} {a_tape : Nat → Int32} {f_length : Int32} {f_behind : Int32} {f_kind : Int32} {f_first : Int32} {f_value : Int32} {f_hutsToldOf : Int32} {f_singersToldOf : Int32} {z_from : Nat → Int32} {post : (Int32) → (Nat → Int32) → (Nat → Int32) → Prop} {x1 : Int32} {x2 : Int32} {ls : Array Slot} {H : Heap} {locs : List Loc}
    (zc : zC p s m args meth c cX0_tell 3 RX0 none)
    (hK : zK E s)
    (hM : wrW E qr qt lf_huts lf_singers lf_villages lf_dams lf_echoes lf_deep lf_slide la_heights la_ladders la_minutes la_echoFrom la_echoTo la_homes la_talls la_known vf_deeds va_kinds va_firsts va_seconds sf_facts sa_heard sa_huts sa_minutes cf_voices cf_step ca_parts ca_heights f_fault f_faultPlace a_numbers a_tape f_length f_behind f_kind f_first f_value f_hutsToldOf f_singersToldOf z_from H)
    (hS : va_S (wrA qr qt) s.heap H locs)
    (hl : lv_has ls 3 [(0, .ref (qr + 18)), (1, .int x1), (2, .int x2)])
    (hw : q_wr_X0_tell_0 cf_voices ca_parts ca_heights x1 x2 post) :
    W p l e rm_wr_X0_tell s m args below meth c H locs 0 0 (MQ below (zQv (S := (Int32) × (Nat → Int32) × (Nat → Int32)) (fun u => post u.1 u.2.1 u.2.2) (fun u H => wrW E qr qt lf_huts lf_singers lf_villages lf_dams lf_echoes lf_deep lf_slide la_heights la_ladders la_minutes la_echoFrom la_echoTo la_homes la_talls la_known vf_deeds va_kinds va_firsts va_seconds sf_facts sa_heard sa_huts sa_minutes u.1 cf_step u.2.1 u.2.2 f_fault f_faultPlace a_numbers a_tape f_length f_behind f_kind f_first f_value f_hutsToldOf f_singersToldOf z_from H) (wrA qr qt)) args s 0 0 (wrA qr qt)) (F0 m 0 ls []) := by
  have hx := zc.1
  have hb := zc.2.1
  refine lv_aload_n hx hb dX0_tell_0 rfl (lv_at hl 0 rfl) ?_
  refine wrg_0_18_18 zc hK hM dX0_tell_1 ?_
  refine lv_bipush (v := (9 : Int32)) hx hb dX0_tell_4 (by decide) ?_
  refine lv_icmp_ge (tgt := 39) hx hb dX0_tell_6 (by decide) (fun hc => ?_) (fun hc => ?_)
  · have hw := hw.1 hc
    exact zret_vw ⟨cf_voices, ca_parts, ca_heights⟩ zc hS hw hM dX0_tell_39
  · have hw := hw.2 hc
    refine lv_aload_n hx hb dX0_tell_9 rfl (lv_at hl 0 rfl) ?_
    refine wrg_0_9_18 zc hK hM dX0_tell_10 ?_
    refine lv_aload_n hx hb dX0_tell_13 rfl (lv_at hl 0 rfl) ?_
    refine wrg_0_18_18 zc hK hM dX0_tell_14 ?_
    refine lv_iload_n hx hb dX0_tell_17 rfl (lv_at hl 1 rfl) ?_
    refine wrst_19 zc hK hM hS hw.1 dX0_tell_18 (fun ca_parts_1 H locs eca_parts_1 hM hS => ?_)
    have hw := hw.2 ca_parts_1 eca_parts_1
    refine lv_aload_n hx hb dX0_tell_19 rfl (lv_at hl 0 rfl) ?_
    refine wrg_0_15_18 zc hK hM dX0_tell_20 ?_
    refine lv_aload_n hx hb dX0_tell_23 rfl (lv_at hl 0 rfl) ?_
    refine wrg_0_18_18 zc hK hM dX0_tell_24 ?_
    refine lv_iload_n hx hb dX0_tell_27 rfl (lv_at hl 2 rfl) ?_
    refine wrst_20 zc hK hM hS hw.1 dX0_tell_28 (fun ca_heights_1 H locs eca_heights_1 hM hS => ?_)
    have hw := hw.2 ca_heights_1 eca_heights_1
    refine lv_aload_n hx hb dX0_tell_29 rfl (lv_at hl 0 rfl) ?_
    refine lv_dup hx hb dX0_tell_30 rfl ?_
    refine wrg_0_18_18 zc hK hM dX0_tell_31 ?_
    refine lv_iconst (v := (1 : Int32)) hx hb dX0_tell_34 (by decide) ?_
    refine lv_iadd hx hb dX0_tell_35 ?_
    refine lv_topi (fun v_1 ev_1 => ?_)
    have hw := hw v_1 ev_1
    refine wrp_0_18_18 zc hK hM hS dX0_tell_36 (fun H locs hM hS => ?_)
    exact zret_vw ⟨v_1, ca_parts_1, ca_heights_1⟩ zc hS hw hM dX0_tell_39
set_option maxRecDepth 20000 in
theorem c_wr_X0_tell (l : Launch) {E : zE} {qr qt : Nat} {lf_huts : Int32} {lf_singers : Int32} {lf_villages : Int32} {lf_dams : Int32} {lf_echoes : Int32} {lf_deep : Int32} {lf_slide : Int32} {la_heights : Nat → Int32} {la_ladders : Nat → Int32} {la_minutes : Nat → Int32} {la_echoFrom : Nat → Int32} {la_echoTo : Nat → Int32} {la_homes : Nat → Int32} {la_talls : Nat → Int32} {la_known : Nat → Int32} {vf_deeds : Int32} {va_kinds : Nat → Int32} {va_firsts : Nat → Int32} {va_seconds : Nat → Int32} {sf_facts : Int32} {sa_heard : Nat → Int32} {sa_huts : Nat → Int32} {sa_minutes : Nat → Int32} {cf_voices : Int32} {cf_step : Int32} {ca_parts : Nat → Int32} {ca_heights : Nat → Int32} {f_fault : Int32} {f_faultPlace : Int32} {a_numbers : Nat → Int32} {a_tape : Nat → Int32} {f_length : Int32} {f_behind : Int32} {f_kind : Int32} {f_first : Int32} {f_value : Int32} {f_hutsToldOf : Int32} {f_singersToldOf : Int32} {z_from : Nat → Int32} {x1 : Int32} {x2 : Int32} {post : (Int32) → (Nat → Int32) → (Nat → Int32) → Prop} (hw : q_wr_X0_tell_0 cf_voices ca_parts ca_heights x1 x2 post) : Met l yX0_tell (Cond.code yX0_tell cX0_tell 3 none :: zb) rm_wr_X0_tell (va_Pc [.ref (qr + 18), .int x1, .int x2] (fun U => wrW E qr qt lf_huts lf_singers lf_villages lf_dams lf_echoes lf_deep lf_slide la_heights la_ladders la_minutes la_echoFrom la_echoTo la_homes la_talls la_known vf_deeds va_kinds va_firsts va_seconds sf_facts sa_heard sa_huts sa_minutes cf_voices cf_step ca_parts ca_heights f_fault f_faultPlace a_numbers a_tape f_length f_behind f_kind f_first f_value f_hutsToldOf f_singersToldOf z_from U.heap ∧ zK E U)) (zQv (S := (Int32) × (Nat → Int32) × (Nat → Int32)) (fun u => post u.1 u.2.1 u.2.2) (fun u H => wrW E qr qt lf_huts lf_singers lf_villages lf_dams lf_echoes lf_deep lf_slide la_heights la_ladders la_minutes la_echoFrom la_echoTo la_homes la_talls la_known vf_deeds va_kinds va_firsts va_seconds sf_facts sa_heard sa_huts sa_minutes u.1 cf_step u.2.1 u.2.2 f_fault f_faultPlace a_numbers a_tape f_length f_behind f_kind f_first f_value f_hutsToldOf f_singersToldOf z_from H) (wrA qr qt)) 0 0 (wrA qr qt) := by
  refine Met.ofW (cc := cX0_tell) (maxL := 3) (ret := none) (by decide) rfl ?_
  intro p e s m args below meth c s₁ B hml hv
  obtain ⟨rfl, hM, hK⟩ := hv
  have zc := zc_of B hml
  have hl := lv_entry ([.ref (qr + 18), .int x1, .int x2]) (n := 3) (Nat.le_of_ble_eq_true rfl)
  rw [lg_entry_eq]
  generalize (lg_sl ([.ref (qr + 18), .int x1, .int x2]) ++ List.replicate (3 - (lg_sl ([.ref (qr + 18), .int x1, .int x2])).length) Slot.unset).toArray = ls at hl ⊢
  have hl : lv_has ls 3 [(0, .ref (qr + 18)), (1, .int x1), (2, .int x2)] := hl
  exact t_wr_X0_tell_0 zc hK hM va_S.rf (lv_sub hl [0, 1, 2] rfl) hw
-- wr_X6_tell
abbrev rm_wr_X6_tell : Room := { frames := 0, cells := 0, slots := 0, locals := 0 }
def q_wr_X6_tell_0 (sf_facts : Int32) (sa_heard : Nat → Int32) (sa_huts : Nat → Int32) (sa_minutes : Nat → Int32) (x1 : Int32) (x2 : Int32) (x3 : Int32) (post : (Int32) → (Nat → Int32) → (Nat → Int32) → (Nat → Int32) → Prop) : Prop :=
  ((10 : Int32) ≤ sf_facts → (post sf_facts sa_heard sa_huts sa_minutes)) ∧ (¬ (10 : Int32) ≤ sf_facts → (vp_in sf_facts 10 ∧ (∀ sa_heard_1 : Nat → Int32, sa_heard_1 = upd sa_heard (Int32.toNatClampNeg sf_facts) x1 → (vp_in sf_facts 10 ∧ (∀ sa_huts_1 : Nat → Int32, sa_huts_1 = upd sa_huts (Int32.toNatClampNeg sf_facts) x2 → (vp_in sf_facts 10 ∧ (∀ sa_minutes_1 : Nat → Int32, sa_minutes_1 = upd sa_minutes (Int32.toNatClampNeg sf_facts) x3 → (∀ v_1 : Int32, v_1 = (sf_facts + (1 : Int32)) → (post v_1 sa_heard_1 sa_huts_1 sa_minutes_1)))))))))
set_option maxRecDepth 20000 in
theorem t_wr_X6_tell_0 {p : Program} {l : Launch} {e : Env} {s : State} {m : MethodId} {args : Array Value} {below : List Frame} {meth : Method} {c : Code} {E : zE} {qr qt : Nat} {lf_huts : Int32} {lf_singers : Int32} {lf_villages : Int32} {lf_dams : Int32} {lf_echoes : Int32} {lf_deep : Int32} {lf_slide : Int32} {la_heights : Nat → Int32} {la_ladders : Nat → Int32} {la_minutes : Nat → Int32} {la_echoFrom : Nat → Int32} {la_echoTo : Nat → Int32} {la_homes : Nat → Int32} {la_talls : Nat → Int32} {la_known : Nat → Int32} {vf_deeds : Int32} {va_kinds : Nat → Int32} {va_firsts : Nat → Int32} {va_seconds : Nat → Int32} {sf_facts : Int32} {sa_heard : Nat → Int32} {sa_huts : Nat → Int32} {sa_minutes : Nat → Int32} {cf_voices : Int32} {cf_step : Int32} {ca_parts : Nat → Int32} {ca_heights : Nat → Int32} {f_fault : Int32} {f_faultPlace : Int32} {a_numbers : Nat → Int32} {a_tape : Nat → Int32} {f_length : Int32} {f_behind : Int32} {f_kind : Int32} {f_first : Int32} {f_value : Int32} {f_hutsToldOf : Int32} {f_singersToldOf : Int32} {z_from : Nat → Int32} {post : (Int32) → (Nat → Int32) → (Nat → Int32) → (Nat → Int32) → Prop} {x1 : Int32} {x2 : Int32} {x3 : Int32} {ls : Array Slot} {H : Heap} {locs : List Loc}
    (zc : zC p s m args meth c cX6_tell 4 RX6 none)
    (hK : zK E s)
    (hM : wrW E qr qt lf_huts lf_singers lf_villages lf_dams lf_echoes lf_deep lf_slide la_heights la_ladders la_minutes la_echoFrom la_echoTo la_homes la_talls la_known vf_deeds va_kinds va_firsts va_seconds sf_facts sa_heard sa_huts sa_minutes cf_voices cf_step ca_parts ca_heights f_fault f_faultPlace a_numbers a_tape f_length f_behind f_kind f_first f_value f_hutsToldOf f_singersToldOf z_from H)
    (hS : va_S (wrA qr qt) s.heap H locs)
    (hl : lv_has ls 4 [(0, .ref (qr + 14)), (1, .int x1), (2, .int x2), (3, .int x3)])
    (hw : q_wr_X6_tell_0 sf_facts sa_heard sa_huts sa_minutes x1 x2 x3 post) :
    W p l e rm_wr_X6_tell s m args below meth c H locs 0 0 (MQ below (zQv (S := (Int32) × (Nat → Int32) × (Nat → Int32) × (Nat → Int32)) (fun u => post u.1 u.2.1 u.2.2.1 u.2.2.2) (fun u H => wrW E qr qt lf_huts lf_singers lf_villages lf_dams lf_echoes lf_deep lf_slide la_heights la_ladders la_minutes la_echoFrom la_echoTo la_homes la_talls la_known vf_deeds va_kinds va_firsts va_seconds u.1 u.2.1 u.2.2.1 u.2.2.2 cf_voices cf_step ca_parts ca_heights f_fault f_faultPlace a_numbers a_tape f_length f_behind f_kind f_first f_value f_hutsToldOf f_singersToldOf z_from H) (wrA qr qt)) args s 0 0 (wrA qr qt)) (F0 m 0 ls []) := by
  have hx := zc.1
  have hb := zc.2.1
  refine lv_aload_n hx hb dX6_tell_0 rfl (lv_at hl 0 rfl) ?_
  refine wrg_6_21_14 zc hK hM dX6_tell_1 ?_
  refine lv_bipush (v := (10 : Int32)) hx hb dX6_tell_4 (by decide) ?_
  refine lv_icmp_ge (tgt := 49) hx hb dX6_tell_6 (by decide) (fun hc => ?_) (fun hc => ?_)
  · have hw := hw.1 hc
    exact zret_vw ⟨sf_facts, sa_heard, sa_huts, sa_minutes⟩ zc hS hw hM dX6_tell_49
  · have hw := hw.2 hc
    refine lv_aload_n hx hb dX6_tell_9 rfl (lv_at hl 0 rfl) ?_
    refine wrg_6_9_14 zc hK hM dX6_tell_10 ?_
    refine lv_aload_n hx hb dX6_tell_13 rfl (lv_at hl 0 rfl) ?_
    refine wrg_6_21_14 zc hK hM dX6_tell_14 ?_
    refine lv_iload_n hx hb dX6_tell_17 rfl (lv_at hl 1 rfl) ?_
    refine wrst_15 zc hK hM hS hw.1 dX6_tell_18 (fun sa_heard_1 H locs esa_heard_1 hM hS => ?_)
    have hw := hw.2 sa_heard_1 esa_heard_1
    refine lv_aload_n hx hb dX6_tell_19 rfl (lv_at hl 0 rfl) ?_
    refine wrg_6_15_14 zc hK hM dX6_tell_20 ?_
    refine lv_aload_n hx hb dX6_tell_23 rfl (lv_at hl 0 rfl) ?_
    refine wrg_6_21_14 zc hK hM dX6_tell_24 ?_
    refine lv_iload_n hx hb dX6_tell_27 rfl (lv_at hl 2 rfl) ?_
    refine wrst_16 zc hK hM hS hw.1 dX6_tell_28 (fun sa_huts_1 H locs esa_huts_1 hM hS => ?_)
    have hw := hw.2 sa_huts_1 esa_huts_1
    refine lv_aload_n hx hb dX6_tell_29 rfl (lv_at hl 0 rfl) ?_
    refine wrg_6_18_14 zc hK hM dX6_tell_30 ?_
    refine lv_aload_n hx hb dX6_tell_33 rfl (lv_at hl 0 rfl) ?_
    refine wrg_6_21_14 zc hK hM dX6_tell_34 ?_
    refine lv_iload_n hx hb dX6_tell_37 rfl (lv_at hl 3 rfl) ?_
    refine wrst_17 zc hK hM hS hw.1 dX6_tell_38 (fun sa_minutes_1 H locs esa_minutes_1 hM hS => ?_)
    have hw := hw.2 sa_minutes_1 esa_minutes_1
    refine lv_aload_n hx hb dX6_tell_39 rfl (lv_at hl 0 rfl) ?_
    refine lv_dup hx hb dX6_tell_40 rfl ?_
    refine wrg_6_21_14 zc hK hM dX6_tell_41 ?_
    refine lv_iconst (v := (1 : Int32)) hx hb dX6_tell_44 (by decide) ?_
    refine lv_iadd hx hb dX6_tell_45 ?_
    refine lv_topi (fun v_1 ev_1 => ?_)
    have hw := hw v_1 ev_1
    refine wrp_6_21_14 zc hK hM hS dX6_tell_46 (fun H locs hM hS => ?_)
    exact zret_vw ⟨v_1, sa_heard_1, sa_huts_1, sa_minutes_1⟩ zc hS hw hM dX6_tell_49
set_option maxRecDepth 20000 in
theorem c_wr_X6_tell (l : Launch) {E : zE} {qr qt : Nat} {lf_huts : Int32} {lf_singers : Int32} {lf_villages : Int32} {lf_dams : Int32} {lf_echoes : Int32} {lf_deep : Int32} {lf_slide : Int32} {la_heights : Nat → Int32} {la_ladders : Nat → Int32} {la_minutes : Nat → Int32} {la_echoFrom : Nat → Int32} {la_echoTo : Nat → Int32} {la_homes : Nat → Int32} {la_talls : Nat → Int32} {la_known : Nat → Int32} {vf_deeds : Int32} {va_kinds : Nat → Int32} {va_firsts : Nat → Int32} {va_seconds : Nat → Int32} {sf_facts : Int32} {sa_heard : Nat → Int32} {sa_huts : Nat → Int32} {sa_minutes : Nat → Int32} {cf_voices : Int32} {cf_step : Int32} {ca_parts : Nat → Int32} {ca_heights : Nat → Int32} {f_fault : Int32} {f_faultPlace : Int32} {a_numbers : Nat → Int32} {a_tape : Nat → Int32} {f_length : Int32} {f_behind : Int32} {f_kind : Int32} {f_first : Int32} {f_value : Int32} {f_hutsToldOf : Int32} {f_singersToldOf : Int32} {z_from : Nat → Int32} {x1 : Int32} {x2 : Int32} {x3 : Int32} {post : (Int32) → (Nat → Int32) → (Nat → Int32) → (Nat → Int32) → Prop} (hw : q_wr_X6_tell_0 sf_facts sa_heard sa_huts sa_minutes x1 x2 x3 post) : Met l yX6_tell (Cond.code yX6_tell cX6_tell 4 none :: zb) rm_wr_X6_tell (va_Pc [.ref (qr + 14), .int x1, .int x2, .int x3] (fun U => wrW E qr qt lf_huts lf_singers lf_villages lf_dams lf_echoes lf_deep lf_slide la_heights la_ladders la_minutes la_echoFrom la_echoTo la_homes la_talls la_known vf_deeds va_kinds va_firsts va_seconds sf_facts sa_heard sa_huts sa_minutes cf_voices cf_step ca_parts ca_heights f_fault f_faultPlace a_numbers a_tape f_length f_behind f_kind f_first f_value f_hutsToldOf f_singersToldOf z_from U.heap ∧ zK E U)) (zQv (S := (Int32) × (Nat → Int32) × (Nat → Int32) × (Nat → Int32)) (fun u => post u.1 u.2.1 u.2.2.1 u.2.2.2) (fun u H => wrW E qr qt lf_huts lf_singers lf_villages lf_dams lf_echoes lf_deep lf_slide la_heights la_ladders la_minutes la_echoFrom la_echoTo la_homes la_talls la_known vf_deeds va_kinds va_firsts va_seconds u.1 u.2.1 u.2.2.1 u.2.2.2 cf_voices cf_step ca_parts ca_heights f_fault f_faultPlace a_numbers a_tape f_length f_behind f_kind f_first f_value f_hutsToldOf f_singersToldOf z_from H) (wrA qr qt)) 0 0 (wrA qr qt) := by
  refine Met.ofW (cc := cX6_tell) (maxL := 4) (ret := none) (by decide) rfl ?_
  intro p e s m args below meth c s₁ B hml hv
  obtain ⟨rfl, hM, hK⟩ := hv
  have zc := zc_of B hml
  have hl := lv_entry ([.ref (qr + 14), .int x1, .int x2, .int x3]) (n := 4) (Nat.le_of_ble_eq_true rfl)
  rw [lg_entry_eq]
  generalize (lg_sl ([.ref (qr + 14), .int x1, .int x2, .int x3]) ++ List.replicate (4 - (lg_sl ([.ref (qr + 14), .int x1, .int x2, .int x3])).length) Slot.unset).toArray = ls at hl ⊢
  have hl : lv_has ls 4 [(0, .ref (qr + 14)), (1, .int x1), (2, .int x2), (3, .int x3)] := hl
  exact t_wr_X6_tell_0 zc hK hM va_S.rf (lv_sub hl [0, 1, 2, 3] rfl) hw
-- wr_X1_tell
abbrev rm_wr_X1_tell : Room := { frames := 0, cells := 0, slots := 0, locals := 0 }
def q_wr_X1_tell_0 (vf_deeds : Int32) (va_kinds : Nat → Int32) (va_firsts : Nat → Int32) (va_seconds : Nat → Int32) (x1 : Int32) (x2 : Int32) (x3 : Int32) (post : (Int32) → (Nat → Int32) → (Nat → Int32) → (Nat → Int32) → Prop) : Prop :=
  ((40 : Int32) ≤ vf_deeds → (post vf_deeds va_kinds va_firsts va_seconds)) ∧ (¬ (40 : Int32) ≤ vf_deeds → (vp_in vf_deeds 40 ∧ (∀ va_kinds_1 : Nat → Int32, va_kinds_1 = upd va_kinds (Int32.toNatClampNeg vf_deeds) x1 → (vp_in vf_deeds 40 ∧ (∀ va_firsts_1 : Nat → Int32, va_firsts_1 = upd va_firsts (Int32.toNatClampNeg vf_deeds) x2 → (vp_in vf_deeds 40 ∧ (∀ va_seconds_1 : Nat → Int32, va_seconds_1 = upd va_seconds (Int32.toNatClampNeg vf_deeds) x3 → (∀ v_1 : Int32, v_1 = (vf_deeds + (1 : Int32)) → (post v_1 va_kinds_1 va_firsts_1 va_seconds_1)))))))))
set_option maxRecDepth 20000 in
theorem t_wr_X1_tell_0 {p : Program} {l : Launch} {e : Env} {s : State} {m : MethodId} {args : Array Value} {below : List Frame} {meth : Method} {c : Code} {E : zE} {qr qt : Nat} {lf_huts : Int32} {lf_singers : Int32} {lf_villages : Int32} {lf_dams : Int32} {lf_echoes : Int32} {lf_deep : Int32} {lf_slide : Int32} {la_heights : Nat → Int32} {la_ladders : Nat → Int32} {la_minutes : Nat → Int32} {la_echoFrom : Nat → Int32} {la_echoTo : Nat → Int32} {la_homes : Nat → Int32} {la_talls : Nat → Int32} {la_known : Nat → Int32} {vf_deeds : Int32} {va_kinds : Nat → Int32} {va_firsts : Nat → Int32} {va_seconds : Nat → Int32} {sf_facts : Int32} {sa_heard : Nat → Int32} {sa_huts : Nat → Int32} {sa_minutes : Nat → Int32} {cf_voices : Int32} {cf_step : Int32} {ca_parts : Nat → Int32} {ca_heights : Nat → Int32} {f_fault : Int32} {f_faultPlace : Int32} {a_numbers : Nat → Int32} {a_tape : Nat → Int32} {f_length : Int32} {f_behind : Int32} {f_kind : Int32} {f_first : Int32} {f_value : Int32} {f_hutsToldOf : Int32} {f_singersToldOf : Int32} {z_from : Nat → Int32} {post : (Int32) → (Nat → Int32) → (Nat → Int32) → (Nat → Int32) → Prop} {x1 : Int32} {x2 : Int32} {x3 : Int32} {ls : Array Slot} {H : Heap} {locs : List Loc}
    (zc : zC p s m args meth c cX1_tell 4 RX1 none)
    (hK : zK E s)
    (hM : wrW E qr qt lf_huts lf_singers lf_villages lf_dams lf_echoes lf_deep lf_slide la_heights la_ladders la_minutes la_echoFrom la_echoTo la_homes la_talls la_known vf_deeds va_kinds va_firsts va_seconds sf_facts sa_heard sa_huts sa_minutes cf_voices cf_step ca_parts ca_heights f_fault f_faultPlace a_numbers a_tape f_length f_behind f_kind f_first f_value f_hutsToldOf f_singersToldOf z_from H)
    (hS : va_S (wrA qr qt) s.heap H locs)
    (hl : lv_has ls 4 [(0, .ref (qr + 10)), (1, .int x1), (2, .int x2), (3, .int x3)])
    (hw : q_wr_X1_tell_0 vf_deeds va_kinds va_firsts va_seconds x1 x2 x3 post) :
    W p l e rm_wr_X1_tell s m args below meth c H locs 0 0 (MQ below (zQv (S := (Int32) × (Nat → Int32) × (Nat → Int32) × (Nat → Int32)) (fun u => post u.1 u.2.1 u.2.2.1 u.2.2.2) (fun u H => wrW E qr qt lf_huts lf_singers lf_villages lf_dams lf_echoes lf_deep lf_slide la_heights la_ladders la_minutes la_echoFrom la_echoTo la_homes la_talls la_known u.1 u.2.1 u.2.2.1 u.2.2.2 sf_facts sa_heard sa_huts sa_minutes cf_voices cf_step ca_parts ca_heights f_fault f_faultPlace a_numbers a_tape f_length f_behind f_kind f_first f_value f_hutsToldOf f_singersToldOf z_from H) (wrA qr qt)) args s 0 0 (wrA qr qt)) (F0 m 0 ls []) := by
  have hx := zc.1
  have hb := zc.2.1
  refine lv_aload_n hx hb dX1_tell_0 rfl (lv_at hl 0 rfl) ?_
  refine wrg_1_21_10 zc hK hM dX1_tell_1 ?_
  refine lv_bipush (v := (40 : Int32)) hx hb dX1_tell_4 (by decide) ?_
  refine lv_icmp_ge (tgt := 49) hx hb dX1_tell_6 (by decide) (fun hc => ?_) (fun hc => ?_)
  · have hw := hw.1 hc
    exact zret_vw ⟨vf_deeds, va_kinds, va_firsts, va_seconds⟩ zc hS hw hM dX1_tell_49
  · have hw := hw.2 hc
    refine lv_aload_n hx hb dX1_tell_9 rfl (lv_at hl 0 rfl) ?_
    refine wrg_1_9_10 zc hK hM dX1_tell_10 ?_
    refine lv_aload_n hx hb dX1_tell_13 rfl (lv_at hl 0 rfl) ?_
    refine wrg_1_21_10 zc hK hM dX1_tell_14 ?_
    refine lv_iload_n hx hb dX1_tell_17 rfl (lv_at hl 1 rfl) ?_
    refine wrst_11 zc hK hM hS hw.1 dX1_tell_18 (fun va_kinds_1 H locs eva_kinds_1 hM hS => ?_)
    have hw := hw.2 va_kinds_1 eva_kinds_1
    refine lv_aload_n hx hb dX1_tell_19 rfl (lv_at hl 0 rfl) ?_
    refine wrg_1_15_10 zc hK hM dX1_tell_20 ?_
    refine lv_aload_n hx hb dX1_tell_23 rfl (lv_at hl 0 rfl) ?_
    refine wrg_1_21_10 zc hK hM dX1_tell_24 ?_
    refine lv_iload_n hx hb dX1_tell_27 rfl (lv_at hl 2 rfl) ?_
    refine wrst_12 zc hK hM hS hw.1 dX1_tell_28 (fun va_firsts_1 H locs eva_firsts_1 hM hS => ?_)
    have hw := hw.2 va_firsts_1 eva_firsts_1
    refine lv_aload_n hx hb dX1_tell_29 rfl (lv_at hl 0 rfl) ?_
    refine wrg_1_18_10 zc hK hM dX1_tell_30 ?_
    refine lv_aload_n hx hb dX1_tell_33 rfl (lv_at hl 0 rfl) ?_
    refine wrg_1_21_10 zc hK hM dX1_tell_34 ?_
    refine lv_iload_n hx hb dX1_tell_37 rfl (lv_at hl 3 rfl) ?_
    refine wrst_13 zc hK hM hS hw.1 dX1_tell_38 (fun va_seconds_1 H locs eva_seconds_1 hM hS => ?_)
    have hw := hw.2 va_seconds_1 eva_seconds_1
    refine lv_aload_n hx hb dX1_tell_39 rfl (lv_at hl 0 rfl) ?_
    refine lv_dup hx hb dX1_tell_40 rfl ?_
    refine wrg_1_21_10 zc hK hM dX1_tell_41 ?_
    refine lv_iconst (v := (1 : Int32)) hx hb dX1_tell_44 (by decide) ?_
    refine lv_iadd hx hb dX1_tell_45 ?_
    refine lv_topi (fun v_1 ev_1 => ?_)
    have hw := hw v_1 ev_1
    refine wrp_1_21_10 zc hK hM hS dX1_tell_46 (fun H locs hM hS => ?_)
    exact zret_vw ⟨v_1, va_kinds_1, va_firsts_1, va_seconds_1⟩ zc hS hw hM dX1_tell_49
set_option maxRecDepth 20000 in
theorem c_wr_X1_tell (l : Launch) {E : zE} {qr qt : Nat} {lf_huts : Int32} {lf_singers : Int32} {lf_villages : Int32} {lf_dams : Int32} {lf_echoes : Int32} {lf_deep : Int32} {lf_slide : Int32} {la_heights : Nat → Int32} {la_ladders : Nat → Int32} {la_minutes : Nat → Int32} {la_echoFrom : Nat → Int32} {la_echoTo : Nat → Int32} {la_homes : Nat → Int32} {la_talls : Nat → Int32} {la_known : Nat → Int32} {vf_deeds : Int32} {va_kinds : Nat → Int32} {va_firsts : Nat → Int32} {va_seconds : Nat → Int32} {sf_facts : Int32} {sa_heard : Nat → Int32} {sa_huts : Nat → Int32} {sa_minutes : Nat → Int32} {cf_voices : Int32} {cf_step : Int32} {ca_parts : Nat → Int32} {ca_heights : Nat → Int32} {f_fault : Int32} {f_faultPlace : Int32} {a_numbers : Nat → Int32} {a_tape : Nat → Int32} {f_length : Int32} {f_behind : Int32} {f_kind : Int32} {f_first : Int32} {f_value : Int32} {f_hutsToldOf : Int32} {f_singersToldOf : Int32} {z_from : Nat → Int32} {x1 : Int32} {x2 : Int32} {x3 : Int32} {post : (Int32) → (Nat → Int32) → (Nat → Int32) → (Nat → Int32) → Prop} (hw : q_wr_X1_tell_0 vf_deeds va_kinds va_firsts va_seconds x1 x2 x3 post) : Met l yX1_tell (Cond.code yX1_tell cX1_tell 4 none :: zb) rm_wr_X1_tell (va_Pc [.ref (qr + 10), .int x1, .int x2, .int x3] (fun U => wrW E qr qt lf_huts lf_singers lf_villages lf_dams lf_echoes lf_deep lf_slide la_heights la_ladders la_minutes la_echoFrom la_echoTo la_homes la_talls la_known vf_deeds va_kinds va_firsts va_seconds sf_facts sa_heard sa_huts sa_minutes cf_voices cf_step ca_parts ca_heights f_fault f_faultPlace a_numbers a_tape f_length f_behind f_kind f_first f_value f_hutsToldOf f_singersToldOf z_from U.heap ∧ zK E U)) (zQv (S := (Int32) × (Nat → Int32) × (Nat → Int32) × (Nat → Int32)) (fun u => post u.1 u.2.1 u.2.2.1 u.2.2.2) (fun u H => wrW E qr qt lf_huts lf_singers lf_villages lf_dams lf_echoes lf_deep lf_slide la_heights la_ladders la_minutes la_echoFrom la_echoTo la_homes la_talls la_known u.1 u.2.1 u.2.2.1 u.2.2.2 sf_facts sa_heard sa_huts sa_minutes cf_voices cf_step ca_parts ca_heights f_fault f_faultPlace a_numbers a_tape f_length f_behind f_kind f_first f_value f_hutsToldOf f_singersToldOf z_from H) (wrA qr qt)) 0 0 (wrA qr qt) := by
  refine Met.ofW (cc := cX1_tell) (maxL := 4) (ret := none) (by decide) rfl ?_
  intro p e s m args below meth c s₁ B hml hv
  obtain ⟨rfl, hM, hK⟩ := hv
  have zc := zc_of B hml
  have hl := lv_entry ([.ref (qr + 10), .int x1, .int x2, .int x3]) (n := 4) (Nat.le_of_ble_eq_true rfl)
  rw [lg_entry_eq]
  generalize (lg_sl ([.ref (qr + 10), .int x1, .int x2, .int x3]) ++ List.replicate (4 - (lg_sl ([.ref (qr + 10), .int x1, .int x2, .int x3])).length) Slot.unset).toArray = ls at hl ⊢
  have hl : lv_has ls 4 [(0, .ref (qr + 10)), (1, .int x1), (2, .int x2), (3, .int x3)] := hl
  exact t_wr_X1_tell_0 zc hK hM va_S.rf (lv_sub hl [0, 1, 2, 3] rfl) hw
-- wr_X4_tellOfLand
abbrev rm_wr_X4_tellOfLand : Room := { frames := 0, cells := 0, slots := 0, locals := 0 }
def q_wr_X4_tellOfLand_0 (lf_huts : Int32) (lf_singers : Int32) (lf_villages : Int32) (lf_dams : Int32) (lf_echoes : Int32) (lf_deep : Int32) (lf_slide : Int32) (la_heights : Nat → Int32) (la_ladders : Nat → Int32) (la_minutes : Nat → Int32) (la_echoFrom : Nat → Int32) (la_echoTo : Nat → Int32) (la_homes : Nat → Int32) (la_talls : Nat → Int32) (la_known : Nat → Int32) (f_hutsToldOf : Int32) (f_singersToldOf : Int32) (x1 : Int32) (x2 : Int32) (x3 : Int32) (x4 : Int32) (post : (Int32) → (Int32) → (Int32) → (Int32) → (Int32) → (Int32) → (Int32) → (Nat → Int32) → (Nat → Int32) → (Nat → Int32) → (Nat → Int32) → (Nat → Int32) → (Nat → Int32) → (Nat → Int32) → (Nat → Int32) → (Int32) → (Int32) → Prop) : Prop :=
  (x1.toInt < 0 ∨ 8 < x1.toInt → (vp_in x2 6 ∧ (∀ v_1 : Int32, v_1 = ((la_known (Int32.toNatClampNeg x2)) ||| ((1 : Int32) <<< (x3 &&& 31))) → (vp_in x2 6 ∧ (∀ la_known_1 : Nat → Int32, la_known_1 = upd la_known (Int32.toNatClampNeg x2) v_1 → (∀ v_2 : Int32, v_2 = (f_singersToldOf ||| ((1 : Int32) <<< (x2 &&& 31))) → (post lf_huts lf_singers lf_villages lf_dams lf_echoes lf_deep lf_slide la_heights la_ladders la_minutes la_echoFrom la_echoTo la_homes la_talls la_known_1 f_hutsToldOf v_2))))))) ∧ (x1 = (0 : Int32) → (vp_in lf_huts 9 ∧ (∀ la_heights_1 : Nat → Int32, la_heights_1 = upd la_heights (Int32.toNatClampNeg lf_huts) x2 → (∀ v_3 : Int32, v_3 = (lf_huts + (1 : Int32)) → (post v_3 lf_singers lf_villages lf_dams lf_echoes lf_deep lf_slide la_heights_1 la_ladders la_minutes la_echoFrom la_echoTo la_homes la_talls la_known f_hutsToldOf f_singersToldOf))))) ∧ (x1 = (1 : Int32) → (∀ v_4 : Int32, v_4 = (lf_villages ||| ((1 : Int32) <<< (x2 &&& 31))) → (∀ v_5 : Int32, v_5 = (f_hutsToldOf ||| ((1 : Int32) <<< (x2 &&& 31))) → (post lf_huts lf_singers v_4 lf_dams lf_echoes lf_deep lf_slide la_heights la_ladders la_minutes la_echoFrom la_echoTo la_homes la_talls la_known v_5 f_singersToldOf)))) ∧ (x1 = (2 : Int32) → (∀ v_6 : Int32, v_6 = (lf_dams ||| ((1 : Int32) <<< (x2 &&& 31))) → (∀ v_7 : Int32, v_7 = (f_hutsToldOf ||| ((1 : Int32) <<< (x2 &&& 31))) → (post lf_huts lf_singers lf_villages v_6 lf_echoes lf_deep lf_slide la_heights la_ladders la_minutes la_echoFrom la_echoTo la_homes la_talls la_known v_7 f_singersToldOf)))) ∧ (x1 = (3 : Int32) → (post lf_huts lf_singers lf_villages lf_dams lf_echoes x2 lf_slide la_heights la_ladders la_minutes la_echoFrom la_echoTo la_homes la_talls la_known f_hutsToldOf f_singersToldOf)) ∧ (x1 = (4 : Int32) → (post lf_huts lf_singers lf_villages lf_dams lf_echoes lf_deep x2 la_heights la_ladders la_minutes la_echoFrom la_echoTo la_homes la_talls la_known f_hutsToldOf f_singersToldOf)) ∧ (x1 = (5 : Int32) → (vp_in ((x2 * (9 : Int32)) + x3) 81 ∧ (∀ la_minutes_1 : Nat → Int32, la_minutes_1 = upd la_minutes (Int32.toNatClampNeg ((x2 * (9 : Int32)) + x3)) x4 → (vp_in ((x3 * (9 : Int32)) + x2) 81 ∧ (∀ la_minutes_2 : Nat → Int32, la_minutes_2 = upd la_minutes_1 (Int32.toNatClampNeg ((x3 * (9 : Int32)) + x2)) x4 → (∀ v_8 : Int32, v_8 = (f_hutsToldOf ||| (((1 : Int32) <<< (x2 &&& 31)) ||| ((1 : Int32) <<< (x3 &&& 31)))) → (post lf_huts lf_singers lf_villages lf_dams lf_echoes lf_deep lf_slide la_heights la_ladders la_minutes_2 la_echoFrom la_echoTo la_homes la_talls la_known v_8 f_singersToldOf))))))) ∧ (x1 = (6 : Int32) → (vp_in lf_echoes 4 ∧ (∀ la_echoFrom_1 : Nat → Int32, la_echoFrom_1 = upd la_echoFrom (Int32.toNatClampNeg lf_echoes) x2 → (vp_in lf_echoes 4 ∧ (∀ la_echoTo_1 : Nat → Int32, la_echoTo_1 = upd la_echoTo (Int32.toNatClampNeg lf_echoes) x3 → (∀ v_9 : Int32, v_9 = (lf_echoes + (1 : Int32)) → (∀ v_10 : Int32, v_10 = (f_hutsToldOf ||| (((1 : Int32) <<< (x2 &&& 31)) ||| ((1 : Int32) <<< (x3 &&& 31)))) → (post lf_huts lf_singers lf_villages lf_dams v_9 lf_deep lf_slide la_heights la_ladders la_minutes la_echoFrom_1 la_echoTo_1 la_homes la_talls la_known v_10 f_singersToldOf)))))))) ∧ (x1 = (7 : Int32) → (vp_in x2 9 ∧ (∀ la_ladders_1 : Nat → Int32, la_ladders_1 = upd la_ladders (Int32.toNatClampNeg x2) x3 → (∀ v_11 : Int32, v_11 = (f_hutsToldOf ||| ((1 : Int32) <<< (x2 &&& 31))) → (post lf_huts lf_singers lf_villages lf_dams lf_echoes lf_deep lf_slide la_heights la_ladders_1 la_minutes la_echoFrom la_echoTo la_homes la_talls la_known v_11 f_singersToldOf))))) ∧ (x1 = (8 : Int32) → (vp_in lf_singers 6 ∧ (∀ la_homes_1 : Nat → Int32, la_homes_1 = upd la_homes (Int32.toNatClampNeg lf_singers) x2 → (vp_in lf_singers 6 ∧ (∀ la_talls_1 : Nat → Int32, la_talls_1 = upd la_talls (Int32.toNatClampNeg lf_singers) x3 → (∀ v_12 : Int32, v_12 = (lf_singers + (1 : Int32)) → (∀ v_13 : Int32, v_13 = (f_hutsToldOf ||| ((1 : Int32) <<< (x2 &&& 31))) → (post lf_huts v_12 lf_villages lf_dams lf_echoes lf_deep lf_slide la_heights la_ladders la_minutes la_echoFrom la_echoTo la_homes_1 la_talls_1 la_known v_13 f_singersToldOf))))))))
set_option maxRecDepth 20000 in
theorem t_wr_X4_tellOfLand_0 {p : Program} {l : Launch} {e : Env} {s : State} {m : MethodId} {args : Array Value} {below : List Frame} {meth : Method} {c : Code} {E : zE} {qr qt : Nat} {lf_huts : Int32} {lf_singers : Int32} {lf_villages : Int32} {lf_dams : Int32} {lf_echoes : Int32} {lf_deep : Int32} {lf_slide : Int32} {la_heights : Nat → Int32} {la_ladders : Nat → Int32} {la_minutes : Nat → Int32} {la_echoFrom : Nat → Int32} {la_echoTo : Nat → Int32} {la_homes : Nat → Int32} {la_talls : Nat → Int32} {la_known : Nat → Int32} {vf_deeds : Int32} {va_kinds : Nat → Int32} {va_firsts : Nat → Int32} {va_seconds : Nat → Int32} {sf_facts : Int32} {sa_heard : Nat → Int32} {sa_huts : Nat → Int32} {sa_minutes : Nat → Int32} {cf_voices : Int32} {cf_step : Int32} {ca_parts : Nat → Int32} {ca_heights : Nat → Int32} {f_fault : Int32} {f_faultPlace : Int32} {a_numbers : Nat → Int32} {a_tape : Nat → Int32} {f_length : Int32} {f_behind : Int32} {f_kind : Int32} {f_first : Int32} {f_value : Int32} {f_hutsToldOf : Int32} {f_singersToldOf : Int32} {z_from : Nat → Int32} {post : (Int32) → (Int32) → (Int32) → (Int32) → (Int32) → (Int32) → (Int32) → (Nat → Int32) → (Nat → Int32) → (Nat → Int32) → (Nat → Int32) → (Nat → Int32) → (Nat → Int32) → (Nat → Int32) → (Nat → Int32) → (Int32) → (Int32) → Prop} {x1 : Int32} {x2 : Int32} {x3 : Int32} {x4 : Int32} {ls : Array Slot} {H : Heap} {locs : List Loc}
    (zc : zC p s m args meth c cX4_tellOfLand 5 RX4 none)
    (hK : zK E s)
    (hM : wrW E qr qt lf_huts lf_singers lf_villages lf_dams lf_echoes lf_deep lf_slide la_heights la_ladders la_minutes la_echoFrom la_echoTo la_homes la_talls la_known vf_deeds va_kinds va_firsts va_seconds sf_facts sa_heard sa_huts sa_minutes cf_voices cf_step ca_parts ca_heights f_fault f_faultPlace a_numbers a_tape f_length f_behind f_kind f_first f_value f_hutsToldOf f_singersToldOf z_from H)
    (hS : va_S (wrA qr qt) s.heap H locs)
    (hl : lv_has ls 5 [(0, .ref qr), (1, .int x1), (2, .int x2), (3, .int x3), (4, .int x4)])
    (hw : q_wr_X4_tellOfLand_0 lf_huts lf_singers lf_villages lf_dams lf_echoes lf_deep lf_slide la_heights la_ladders la_minutes la_echoFrom la_echoTo la_homes la_talls la_known f_hutsToldOf f_singersToldOf x1 x2 x3 x4 post) :
    W p l e rm_wr_X4_tellOfLand s m args below meth c H locs 0 0 (MQ below (zQv (S := (Int32) × (Int32) × (Int32) × (Int32) × (Int32) × (Int32) × (Int32) × (Nat → Int32) × (Nat → Int32) × (Nat → Int32) × (Nat → Int32) × (Nat → Int32) × (Nat → Int32) × (Nat → Int32) × (Nat → Int32) × (Int32) × (Int32)) (fun u => post u.1 u.2.1 u.2.2.1 u.2.2.2.1 u.2.2.2.2.1 u.2.2.2.2.2.1 u.2.2.2.2.2.2.1 u.2.2.2.2.2.2.2.1 u.2.2.2.2.2.2.2.2.1 u.2.2.2.2.2.2.2.2.2.1 u.2.2.2.2.2.2.2.2.2.2.1 u.2.2.2.2.2.2.2.2.2.2.2.1 u.2.2.2.2.2.2.2.2.2.2.2.2.1 u.2.2.2.2.2.2.2.2.2.2.2.2.2.1 u.2.2.2.2.2.2.2.2.2.2.2.2.2.2.1 u.2.2.2.2.2.2.2.2.2.2.2.2.2.2.2.1 u.2.2.2.2.2.2.2.2.2.2.2.2.2.2.2.2) (fun u H => wrW E qr qt u.1 u.2.1 u.2.2.1 u.2.2.2.1 u.2.2.2.2.1 u.2.2.2.2.2.1 u.2.2.2.2.2.2.1 u.2.2.2.2.2.2.2.1 u.2.2.2.2.2.2.2.2.1 u.2.2.2.2.2.2.2.2.2.1 u.2.2.2.2.2.2.2.2.2.2.1 u.2.2.2.2.2.2.2.2.2.2.2.1 u.2.2.2.2.2.2.2.2.2.2.2.2.1 u.2.2.2.2.2.2.2.2.2.2.2.2.2.1 u.2.2.2.2.2.2.2.2.2.2.2.2.2.2.1 vf_deeds va_kinds va_firsts va_seconds sf_facts sa_heard sa_huts sa_minutes cf_voices cf_step ca_parts ca_heights f_fault f_faultPlace a_numbers a_tape f_length f_behind f_kind f_first f_value u.2.2.2.2.2.2.2.2.2.2.2.2.2.2.2.1 u.2.2.2.2.2.2.2.2.2.2.2.2.2.2.2.2 z_from H) (wrA qr qt)) args s 0 0 (wrA qr qt)) (F0 m 0 ls []) := by
  have hx := zc.1
  have hb := zc.2.1
  refine lv_iload_n hx hb dX4_tellOfLand_0 rfl (lv_at hl 1 rfl) ?_
  by_cases hc : x1.toInt < 0 ∨ 8 < x1.toInt
  · have hw := hw.1 hc
    refine lv_tableOut (tgt := 366) hx hb dX4_tellOfLand_1 hc (by decide) ?_
    refine lv_aload_n hx hb dX4_tellOfLand_366 rfl (lv_at hl 0 rfl) ?_
    refine wrg_4_12_0 zc hK hM dX4_tellOfLand_367 ?_
    refine wrg_4_193_1 zc hK hM dX4_tellOfLand_370 ?_
    refine lv_iload_n hx hb dX4_tellOfLand_373 rfl (lv_at hl 2 rfl) ?_
    refine lv_dup2_11 hx hb dX4_tellOfLand_374 rfl rfl ?_
    refine wrld_9 zc hK hM hw.1 dX4_tellOfLand_375 ?_
    have hw := hw.2
    refine lv_iconst (v := (1 : Int32)) hx hb dX4_tellOfLand_376 (by decide) ?_
    refine lv_iload_n hx hb dX4_tellOfLand_377 rfl (lv_at hl 3 rfl) ?_
    refine lv_ishl hx hb dX4_tellOfLand_378 ?_
    refine lv_ior hx hb dX4_tellOfLand_379 ?_
    refine lv_topi (fun v_1 ev_1 => ?_)
    have hw := hw v_1 ev_1
    refine wrst_9 zc hK hM hS hw.1 dX4_tellOfLand_380 (fun la_known_1 H locs ela_known_1 hM hS => ?_)
    have hw := hw.2 la_known_1 ela_known_1
    refine lv_aload_n hx hb dX4_tellOfLand_381 rfl (lv_at hl 0 rfl) ?_
    refine lv_dup hx hb dX4_tellOfLand_382 rfl ?_
    refine wrg_4_93_0 zc hK hM dX4_tellOfLand_383 ?_
    refine lv_iconst (v := (1 : Int32)) hx hb dX4_tellOfLand_386 (by decide) ?_
    refine lv_iload_n hx hb dX4_tellOfLand_387 rfl (lv_at hl 2 rfl) ?_
    refine lv_ishl hx hb dX4_tellOfLand_388 ?_
    refine lv_ior hx hb dX4_tellOfLand_389 ?_
    refine lv_topi (fun v_2 ev_2 => ?_)
    have hw := hw v_2 ev_2
    refine wrp_4_93_0 zc hK hM hS dX4_tellOfLand_390 (fun H locs hM hS => ?_)
    exact zret_vw ⟨lf_huts, lf_singers, lf_villages, lf_dams, lf_echoes, lf_deep, lf_slide, la_heights, la_ladders, la_minutes, la_echoFrom, la_echoTo, la_homes, la_talls, la_known_1, f_hutsToldOf, v_2⟩ zc hS hw hM dX4_tellOfLand_393
  have hin := zsw hc
  by_cases hc0 : x1 = (0 : Int32)
  · have hw := hw.2.1 hc0
    refine lv_tableIn (tgt := 52) hx hb dX4_tellOfLand_1 (by rw [hc0]; decide) (by rw [hc0]; decide) (by rw [hc0]; rfl) (by decide) ?_
    refine lv_aload_n hx hb dX4_tellOfLand_52 rfl (lv_at hl 0 rfl) ?_
    refine wrg_4_12_0 zc hK hM dX4_tellOfLand_53 ?_
    refine wrg_4_160_1 zc hK hM dX4_tellOfLand_56 ?_
    refine lv_aload_n hx hb dX4_tellOfLand_59 rfl (lv_at hl 0 rfl) ?_
    refine wrg_4_12_0 zc hK hM dX4_tellOfLand_60 ?_
    refine wrg_4_108_1 zc hK hM dX4_tellOfLand_63 ?_
    refine lv_iload_n hx hb dX4_tellOfLand_66 rfl (lv_at hl 2 rfl) ?_
    refine wrst_2 zc hK hM hS hw.1 dX4_tellOfLand_67 (fun la_heights_1 H locs ela_heights_1 hM hS => ?_)
    have hw := hw.2 la_heights_1 ela_heights_1
    refine lv_aload_n hx hb dX4_tellOfLand_68 rfl (lv_at hl 0 rfl) ?_
    refine wrg_4_12_0 zc hK hM dX4_tellOfLand_69 ?_
    refine lv_dup hx hb dX4_tellOfLand_72 rfl ?_
    refine wrg_4_108_1 zc hK hM dX4_tellOfLand_73 ?_
    refine lv_iconst (v := (1 : Int32)) hx hb dX4_tellOfLand_76 (by decide) ?_
    refine lv_iadd hx hb dX4_tellOfLand_77 ?_
    refine lv_topi (fun v_3 ev_3 => ?_)
    have hw := hw v_3 ev_3
    refine wrp_4_108_1 zc hK hM hS dX4_tellOfLand_78 (fun H locs hM hS => ?_)
    refine lv_goto (tgt := 393) hx hb dX4_tellOfLand_81 (by decide) ?_
    exact zret_vw ⟨v_3, lf_singers, lf_villages, lf_dams, lf_echoes, lf_deep, lf_slide, la_heights_1, la_ladders, la_minutes, la_echoFrom, la_echoTo, la_homes, la_talls, la_known, f_hutsToldOf, f_singersToldOf⟩ zc hS hw hM dX4_tellOfLand_393
  by_cases hc1 : x1 = (1 : Int32)
  · have hw := hw.2.2.1 hc1
    refine lv_tableIn (tgt := 84) hx hb dX4_tellOfLand_1 (by rw [hc1]; decide) (by rw [hc1]; decide) (by rw [hc1]; rfl) (by decide) ?_
    refine lv_aload_n hx hb dX4_tellOfLand_84 rfl (lv_at hl 0 rfl) ?_
    refine wrg_4_12_0 zc hK hM dX4_tellOfLand_85 ?_
    refine lv_dup hx hb dX4_tellOfLand_88 rfl ?_
    refine wrg_4_163_1 zc hK hM dX4_tellOfLand_89 ?_
    refine lv_iconst (v := (1 : Int32)) hx hb dX4_tellOfLand_92 (by decide) ?_
    refine lv_iload_n hx hb dX4_tellOfLand_93 rfl (lv_at hl 2 rfl) ?_
    refine lv_ishl hx hb dX4_tellOfLand_94 ?_
    refine lv_ior hx hb dX4_tellOfLand_95 ?_
    refine lv_topi (fun v_4 ev_4 => ?_)
    have hw := hw v_4 ev_4
    refine wrp_4_163_1 zc hK hM hS dX4_tellOfLand_96 (fun H locs hM hS => ?_)
    refine lv_aload_n hx hb dX4_tellOfLand_99 rfl (lv_at hl 0 rfl) ?_
    refine lv_dup hx hb dX4_tellOfLand_100 rfl ?_
    refine wrg_4_90_0 zc hK hM dX4_tellOfLand_101 ?_
    refine lv_iconst (v := (1 : Int32)) hx hb dX4_tellOfLand_104 (by decide) ?_
    refine lv_iload_n hx hb dX4_tellOfLand_105 rfl (lv_at hl 2 rfl) ?_
    refine lv_ishl hx hb dX4_tellOfLand_106 ?_
    refine lv_ior hx hb dX4_tellOfLand_107 ?_
    refine lv_topi (fun v_5 ev_5 => ?_)
    have hw := hw v_5 ev_5
    refine wrp_4_90_0 zc hK hM hS dX4_tellOfLand_108 (fun H locs hM hS => ?_)
    refine lv_goto (tgt := 393) hx hb dX4_tellOfLand_111 (by decide) ?_
    exact zret_vw ⟨lf_huts, lf_singers, v_4, lf_dams, lf_echoes, lf_deep, lf_slide, la_heights, la_ladders, la_minutes, la_echoFrom, la_echoTo, la_homes, la_talls, la_known, v_5, f_singersToldOf⟩ zc hS hw hM dX4_tellOfLand_393
  by_cases hc2 : x1 = (2 : Int32)
  · have hw := hw.2.2.2.1 hc2
    refine lv_tableIn (tgt := 114) hx hb dX4_tellOfLand_1 (by rw [hc2]; decide) (by rw [hc2]; decide) (by rw [hc2]; rfl) (by decide) ?_
    refine lv_aload_n hx hb dX4_tellOfLand_114 rfl (lv_at hl 0 rfl) ?_
    refine wrg_4_12_0 zc hK hM dX4_tellOfLand_115 ?_
    refine lv_dup hx hb dX4_tellOfLand_118 rfl ?_
    refine wrg_4_166_1 zc hK hM dX4_tellOfLand_119 ?_
    refine lv_iconst (v := (1 : Int32)) hx hb dX4_tellOfLand_122 (by decide) ?_
    refine lv_iload_n hx hb dX4_tellOfLand_123 rfl (lv_at hl 2 rfl) ?_
    refine lv_ishl hx hb dX4_tellOfLand_124 ?_
    refine lv_ior hx hb dX4_tellOfLand_125 ?_
    refine lv_topi (fun v_6 ev_6 => ?_)
    have hw := hw v_6 ev_6
    refine wrp_4_166_1 zc hK hM hS dX4_tellOfLand_126 (fun H locs hM hS => ?_)
    refine lv_aload_n hx hb dX4_tellOfLand_129 rfl (lv_at hl 0 rfl) ?_
    refine lv_dup hx hb dX4_tellOfLand_130 rfl ?_
    refine wrg_4_90_0 zc hK hM dX4_tellOfLand_131 ?_
    refine lv_iconst (v := (1 : Int32)) hx hb dX4_tellOfLand_134 (by decide) ?_
    refine lv_iload_n hx hb dX4_tellOfLand_135 rfl (lv_at hl 2 rfl) ?_
    refine lv_ishl hx hb dX4_tellOfLand_136 ?_
    refine lv_ior hx hb dX4_tellOfLand_137 ?_
    refine lv_topi (fun v_7 ev_7 => ?_)
    have hw := hw v_7 ev_7
    refine wrp_4_90_0 zc hK hM hS dX4_tellOfLand_138 (fun H locs hM hS => ?_)
    refine lv_goto (tgt := 393) hx hb dX4_tellOfLand_141 (by decide) ?_
    exact zret_vw ⟨lf_huts, lf_singers, lf_villages, v_6, lf_echoes, lf_deep, lf_slide, la_heights, la_ladders, la_minutes, la_echoFrom, la_echoTo, la_homes, la_talls, la_known, v_7, f_singersToldOf⟩ zc hS hw hM dX4_tellOfLand_393
  by_cases hc3 : x1 = (3 : Int32)
  · have hw := hw.2.2.2.2.1 hc3
    refine lv_tableIn (tgt := 144) hx hb dX4_tellOfLand_1 (by rw [hc3]; decide) (by rw [hc3]; decide) (by rw [hc3]; rfl) (by decide) ?_
    refine lv_aload_n hx hb dX4_tellOfLand_144 rfl (lv_at hl 0 rfl) ?_
    refine wrg_4_12_0 zc hK hM dX4_tellOfLand_145 ?_
    refine lv_iload_n hx hb dX4_tellOfLand_148 rfl (lv_at hl 2 rfl) ?_
    refine wrp_4_169_1 zc hK hM hS dX4_tellOfLand_149 (fun H locs hM hS => ?_)
    refine lv_goto (tgt := 393) hx hb dX4_tellOfLand_152 (by decide) ?_
    exact zret_vw ⟨lf_huts, lf_singers, lf_villages, lf_dams, lf_echoes, x2, lf_slide, la_heights, la_ladders, la_minutes, la_echoFrom, la_echoTo, la_homes, la_talls, la_known, f_hutsToldOf, f_singersToldOf⟩ zc hS hw hM dX4_tellOfLand_393
  by_cases hc4 : x1 = (4 : Int32)
  · have hw := hw.2.2.2.2.2.1 hc4
    refine lv_tableIn (tgt := 155) hx hb dX4_tellOfLand_1 (by rw [hc4]; decide) (by rw [hc4]; decide) (by rw [hc4]; rfl) (by decide) ?_
    refine lv_aload_n hx hb dX4_tellOfLand_155 rfl (lv_at hl 0 rfl) ?_
    refine wrg_4_12_0 zc hK hM dX4_tellOfLand_156 ?_
    refine lv_iload_n hx hb dX4_tellOfLand_159 rfl (lv_at hl 2 rfl) ?_
    refine wrp_4_172_1 zc hK hM hS dX4_tellOfLand_160 (fun H locs hM hS => ?_)
    refine lv_goto (tgt := 393) hx hb dX4_tellOfLand_163 (by decide) ?_
    exact zret_vw ⟨lf_huts, lf_singers, lf_villages, lf_dams, lf_echoes, lf_deep, x2, la_heights, la_ladders, la_minutes, la_echoFrom, la_echoTo, la_homes, la_talls, la_known, f_hutsToldOf, f_singersToldOf⟩ zc hS hw hM dX4_tellOfLand_393
  by_cases hc5 : x1 = (5 : Int32)
  · have hw := hw.2.2.2.2.2.2.1 hc5
    refine lv_tableIn (tgt := 166) hx hb dX4_tellOfLand_1 (by rw [hc5]; decide) (by rw [hc5]; decide) (by rw [hc5]; rfl) (by decide) ?_
    refine lv_aload_n hx hb dX4_tellOfLand_166 rfl (lv_at hl 0 rfl) ?_
    refine wrg_4_12_0 zc hK hM dX4_tellOfLand_167 ?_
    refine wrg_4_175_1 zc hK hM dX4_tellOfLand_170 ?_
    refine lv_iload_n hx hb dX4_tellOfLand_173 rfl (lv_at hl 2 rfl) ?_
    refine lv_bipush (v := (9 : Int32)) hx hb dX4_tellOfLand_174 (by decide) ?_
    refine lv_imul hx hb dX4_tellOfLand_176 ?_
    refine lv_iload_n hx hb dX4_tellOfLand_177 rfl (lv_at hl 3 rfl) ?_
    refine lv_iadd hx hb dX4_tellOfLand_178 ?_
    refine lv_iload hx hb dX4_tellOfLand_179 (lv_at hl 4 rfl) ?_
    refine wrst_4 zc hK hM hS hw.1 dX4_tellOfLand_181 (fun la_minutes_1 H locs ela_minutes_1 hM hS => ?_)
    have hw := hw.2 la_minutes_1 ela_minutes_1
    refine lv_aload_n hx hb dX4_tellOfLand_182 rfl (lv_at hl 0 rfl) ?_
    refine wrg_4_12_0 zc hK hM dX4_tellOfLand_183 ?_
    refine wrg_4_175_1 zc hK hM dX4_tellOfLand_186 ?_
    refine lv_iload_n hx hb dX4_tellOfLand_189 rfl (lv_at hl 3 rfl) ?_
    refine lv_bipush (v := (9 : Int32)) hx hb dX4_tellOfLand_190 (by decide) ?_
    refine lv_imul hx hb dX4_tellOfLand_192 ?_
    refine lv_iload_n hx hb dX4_tellOfLand_193 rfl (lv_at hl 2 rfl) ?_
    refine lv_iadd hx hb dX4_tellOfLand_194 ?_
    refine lv_iload hx hb dX4_tellOfLand_195 (lv_at hl 4 rfl) ?_
    refine wrst_4 zc hK hM hS hw.1 dX4_tellOfLand_197 (fun la_minutes_2 H locs ela_minutes_2 hM hS => ?_)
    have hw := hw.2 la_minutes_2 ela_minutes_2
    refine lv_aload_n hx hb dX4_tellOfLand_198 rfl (lv_at hl 0 rfl) ?_
    refine lv_dup hx hb dX4_tellOfLand_199 rfl ?_
    refine wrg_4_90_0 zc hK hM dX4_tellOfLand_200 ?_
    refine lv_iconst (v := (1 : Int32)) hx hb dX4_tellOfLand_203 (by decide) ?_
    refine lv_iload_n hx hb dX4_tellOfLand_204 rfl (lv_at hl 2 rfl) ?_
    refine lv_ishl hx hb dX4_tellOfLand_205 ?_
    refine lv_iconst (v := (1 : Int32)) hx hb dX4_tellOfLand_206 (by decide) ?_
    refine lv_iload_n hx hb dX4_tellOfLand_207 rfl (lv_at hl 3 rfl) ?_
    refine lv_ishl hx hb dX4_tellOfLand_208 ?_
    refine lv_ior hx hb dX4_tellOfLand_209 ?_
    refine lv_ior hx hb dX4_tellOfLand_210 ?_
    refine lv_topi (fun v_8 ev_8 => ?_)
    have hw := hw v_8 ev_8
    refine wrp_4_90_0 zc hK hM hS dX4_tellOfLand_211 (fun H locs hM hS => ?_)
    refine lv_goto (tgt := 393) hx hb dX4_tellOfLand_214 (by decide) ?_
    exact zret_vw ⟨lf_huts, lf_singers, lf_villages, lf_dams, lf_echoes, lf_deep, lf_slide, la_heights, la_ladders, la_minutes_2, la_echoFrom, la_echoTo, la_homes, la_talls, la_known, v_8, f_singersToldOf⟩ zc hS hw hM dX4_tellOfLand_393
  by_cases hc6 : x1 = (6 : Int32)
  · have hw := hw.2.2.2.2.2.2.2.1 hc6
    refine lv_tableIn (tgt := 217) hx hb dX4_tellOfLand_1 (by rw [hc6]; decide) (by rw [hc6]; decide) (by rw [hc6]; rfl) (by decide) ?_
    refine lv_aload_n hx hb dX4_tellOfLand_217 rfl (lv_at hl 0 rfl) ?_
    refine wrg_4_12_0 zc hK hM dX4_tellOfLand_218 ?_
    refine wrg_4_178_1 zc hK hM dX4_tellOfLand_221 ?_
    refine lv_aload_n hx hb dX4_tellOfLand_224 rfl (lv_at hl 0 rfl) ?_
    refine wrg_4_12_0 zc hK hM dX4_tellOfLand_225 ?_
    refine wrg_4_141_1 zc hK hM dX4_tellOfLand_228 ?_
    refine lv_iload_n hx hb dX4_tellOfLand_231 rfl (lv_at hl 2 rfl) ?_
    refine wrst_5 zc hK hM hS hw.1 dX4_tellOfLand_232 (fun la_echoFrom_1 H locs ela_echoFrom_1 hM hS => ?_)
    have hw := hw.2 la_echoFrom_1 ela_echoFrom_1
    refine lv_aload_n hx hb dX4_tellOfLand_233 rfl (lv_at hl 0 rfl) ?_
    refine wrg_4_12_0 zc hK hM dX4_tellOfLand_234 ?_
    refine wrg_4_181_1 zc hK hM dX4_tellOfLand_237 ?_
    refine lv_aload_n hx hb dX4_tellOfLand_240 rfl (lv_at hl 0 rfl) ?_
    refine wrg_4_12_0 zc hK hM dX4_tellOfLand_241 ?_
    refine wrg_4_141_1 zc hK hM dX4_tellOfLand_244 ?_
    refine lv_iload_n hx hb dX4_tellOfLand_247 rfl (lv_at hl 3 rfl) ?_
    refine wrst_6 zc hK hM hS hw.1 dX4_tellOfLand_248 (fun la_echoTo_1 H locs ela_echoTo_1 hM hS => ?_)
    have hw := hw.2 la_echoTo_1 ela_echoTo_1
    refine lv_aload_n hx hb dX4_tellOfLand_249 rfl (lv_at hl 0 rfl) ?_
    refine wrg_4_12_0 zc hK hM dX4_tellOfLand_250 ?_
    refine lv_dup hx hb dX4_tellOfLand_253 rfl ?_
    refine wrg_4_141_1 zc hK hM dX4_tellOfLand_254 ?_
    refine lv_iconst (v := (1 : Int32)) hx hb dX4_tellOfLand_257 (by decide) ?_
    refine lv_iadd hx hb dX4_tellOfLand_258 ?_
    refine lv_topi (fun v_9 ev_9 => ?_)
    have hw := hw v_9 ev_9
    refine wrp_4_141_1 zc hK hM hS dX4_tellOfLand_259 (fun H locs hM hS => ?_)
    refine lv_aload_n hx hb dX4_tellOfLand_262 rfl (lv_at hl 0 rfl) ?_
    refine lv_dup hx hb dX4_tellOfLand_263 rfl ?_
    refine wrg_4_90_0 zc hK hM dX4_tellOfLand_264 ?_
    refine lv_iconst (v := (1 : Int32)) hx hb dX4_tellOfLand_267 (by decide) ?_
    refine lv_iload_n hx hb dX4_tellOfLand_268 rfl (lv_at hl 2 rfl) ?_
    refine lv_ishl hx hb dX4_tellOfLand_269 ?_
    refine lv_iconst (v := (1 : Int32)) hx hb dX4_tellOfLand_270 (by decide) ?_
    refine lv_iload_n hx hb dX4_tellOfLand_271 rfl (lv_at hl 3 rfl) ?_
    refine lv_ishl hx hb dX4_tellOfLand_272 ?_
    refine lv_ior hx hb dX4_tellOfLand_273 ?_
    refine lv_ior hx hb dX4_tellOfLand_274 ?_
    refine lv_topi (fun v_10 ev_10 => ?_)
    have hw := hw v_10 ev_10
    refine wrp_4_90_0 zc hK hM hS dX4_tellOfLand_275 (fun H locs hM hS => ?_)
    refine lv_goto (tgt := 393) hx hb dX4_tellOfLand_278 (by decide) ?_
    exact zret_vw ⟨lf_huts, lf_singers, lf_villages, lf_dams, v_9, lf_deep, lf_slide, la_heights, la_ladders, la_minutes, la_echoFrom_1, la_echoTo_1, la_homes, la_talls, la_known, v_10, f_singersToldOf⟩ zc hS hw hM dX4_tellOfLand_393
  by_cases hc7 : x1 = (7 : Int32)
  · have hw := hw.2.2.2.2.2.2.2.2.1 hc7
    refine lv_tableIn (tgt := 281) hx hb dX4_tellOfLand_1 (by rw [hc7]; decide) (by rw [hc7]; decide) (by rw [hc7]; rfl) (by decide) ?_
    refine lv_aload_n hx hb dX4_tellOfLand_281 rfl (lv_at hl 0 rfl) ?_
    refine wrg_4_12_0 zc hK hM dX4_tellOfLand_282 ?_
    refine wrg_4_184_1 zc hK hM dX4_tellOfLand_285 ?_
    refine lv_iload_n hx hb dX4_tellOfLand_288 rfl (lv_at hl 2 rfl) ?_
    refine lv_iload_n hx hb dX4_tellOfLand_289 rfl (lv_at hl 3 rfl) ?_
    refine wrst_3 zc hK hM hS hw.1 dX4_tellOfLand_290 (fun la_ladders_1 H locs ela_ladders_1 hM hS => ?_)
    have hw := hw.2 la_ladders_1 ela_ladders_1
    refine lv_aload_n hx hb dX4_tellOfLand_291 rfl (lv_at hl 0 rfl) ?_
    refine lv_dup hx hb dX4_tellOfLand_292 rfl ?_
    refine wrg_4_90_0 zc hK hM dX4_tellOfLand_293 ?_
    refine lv_iconst (v := (1 : Int32)) hx hb dX4_tellOfLand_296 (by decide) ?_
    refine lv_iload_n hx hb dX4_tellOfLand_297 rfl (lv_at hl 2 rfl) ?_
    refine lv_ishl hx hb dX4_tellOfLand_298 ?_
    refine lv_ior hx hb dX4_tellOfLand_299 ?_
    refine lv_topi (fun v_11 ev_11 => ?_)
    have hw := hw v_11 ev_11
    refine wrp_4_90_0 zc hK hM hS dX4_tellOfLand_300 (fun H locs hM hS => ?_)
    refine lv_goto (tgt := 393) hx hb dX4_tellOfLand_303 (by decide) ?_
    exact zret_vw ⟨lf_huts, lf_singers, lf_villages, lf_dams, lf_echoes, lf_deep, lf_slide, la_heights, la_ladders_1, la_minutes, la_echoFrom, la_echoTo, la_homes, la_talls, la_known, v_11, f_singersToldOf⟩ zc hS hw hM dX4_tellOfLand_393
  by_cases hc8 : x1 = (8 : Int32)
  · have hw := hw.2.2.2.2.2.2.2.2.2 hc8
    refine lv_tableIn (tgt := 306) hx hb dX4_tellOfLand_1 (by rw [hc8]; decide) (by rw [hc8]; decide) (by rw [hc8]; rfl) (by decide) ?_
    refine lv_aload_n hx hb dX4_tellOfLand_306 rfl (lv_at hl 0 rfl) ?_
    refine wrg_4_12_0 zc hK hM dX4_tellOfLand_307 ?_
    refine wrg_4_187_1 zc hK hM dX4_tellOfLand_310 ?_
    refine lv_aload_n hx hb dX4_tellOfLand_313 rfl (lv_at hl 0 rfl) ?_
    refine wrg_4_12_0 zc hK hM dX4_tellOfLand_314 ?_
    refine wrg_4_111_1 zc hK hM dX4_tellOfLand_317 ?_
    refine lv_iload_n hx hb dX4_tellOfLand_320 rfl (lv_at hl 2 rfl) ?_
    refine wrst_7 zc hK hM hS hw.1 dX4_tellOfLand_321 (fun la_homes_1 H locs ela_homes_1 hM hS => ?_)
    have hw := hw.2 la_homes_1 ela_homes_1
    refine lv_aload_n hx hb dX4_tellOfLand_322 rfl (lv_at hl 0 rfl) ?_
    refine wrg_4_12_0 zc hK hM dX4_tellOfLand_323 ?_
    refine wrg_4_190_1 zc hK hM dX4_tellOfLand_326 ?_
    refine lv_aload_n hx hb dX4_tellOfLand_329 rfl (lv_at hl 0 rfl) ?_
    refine wrg_4_12_0 zc hK hM dX4_tellOfLand_330 ?_
    refine wrg_4_111_1 zc hK hM dX4_tellOfLand_333 ?_
    refine lv_iload_n hx hb dX4_tellOfLand_336 rfl (lv_at hl 3 rfl) ?_
    refine wrst_8 zc hK hM hS hw.1 dX4_tellOfLand_337 (fun la_talls_1 H locs ela_talls_1 hM hS => ?_)
    have hw := hw.2 la_talls_1 ela_talls_1
    refine lv_aload_n hx hb dX4_tellOfLand_338 rfl (lv_at hl 0 rfl) ?_
    refine wrg_4_12_0 zc hK hM dX4_tellOfLand_339 ?_
    refine lv_dup hx hb dX4_tellOfLand_342 rfl ?_
    refine wrg_4_111_1 zc hK hM dX4_tellOfLand_343 ?_
    refine lv_iconst (v := (1 : Int32)) hx hb dX4_tellOfLand_346 (by decide) ?_
    refine lv_iadd hx hb dX4_tellOfLand_347 ?_
    refine lv_topi (fun v_12 ev_12 => ?_)
    have hw := hw v_12 ev_12
    refine wrp_4_111_1 zc hK hM hS dX4_tellOfLand_348 (fun H locs hM hS => ?_)
    refine lv_aload_n hx hb dX4_tellOfLand_351 rfl (lv_at hl 0 rfl) ?_
    refine lv_dup hx hb dX4_tellOfLand_352 rfl ?_
    refine wrg_4_90_0 zc hK hM dX4_tellOfLand_353 ?_
    refine lv_iconst (v := (1 : Int32)) hx hb dX4_tellOfLand_356 (by decide) ?_
    refine lv_iload_n hx hb dX4_tellOfLand_357 rfl (lv_at hl 2 rfl) ?_
    refine lv_ishl hx hb dX4_tellOfLand_358 ?_
    refine lv_ior hx hb dX4_tellOfLand_359 ?_
    refine lv_topi (fun v_13 ev_13 => ?_)
    have hw := hw v_13 ev_13
    refine wrp_4_90_0 zc hK hM hS dX4_tellOfLand_360 (fun H locs hM hS => ?_)
    refine lv_goto (tgt := 393) hx hb dX4_tellOfLand_363 (by decide) ?_
    exact zret_vw ⟨lf_huts, v_12, lf_villages, lf_dams, lf_echoes, lf_deep, lf_slide, la_heights, la_ladders, la_minutes, la_echoFrom, la_echoTo, la_homes_1, la_talls_1, la_known, v_13, f_singersToldOf⟩ zc hS hw hM dX4_tellOfLand_393
  exact absurd hin (by have h0 := zne hc0; have h1 := zne hc1; have h2 := zne hc2; have h3 := zne hc3; have h4 := zne hc4; have h5 := zne hc5; have h6 := zne hc6; have h7 := zne hc7; have h8 := zne hc8; simp at *; omega)
set_option maxRecDepth 20000 in
theorem c_wr_X4_tellOfLand (l : Launch) {E : zE} {qr qt : Nat} {lf_huts : Int32} {lf_singers : Int32} {lf_villages : Int32} {lf_dams : Int32} {lf_echoes : Int32} {lf_deep : Int32} {lf_slide : Int32} {la_heights : Nat → Int32} {la_ladders : Nat → Int32} {la_minutes : Nat → Int32} {la_echoFrom : Nat → Int32} {la_echoTo : Nat → Int32} {la_homes : Nat → Int32} {la_talls : Nat → Int32} {la_known : Nat → Int32} {vf_deeds : Int32} {va_kinds : Nat → Int32} {va_firsts : Nat → Int32} {va_seconds : Nat → Int32} {sf_facts : Int32} {sa_heard : Nat → Int32} {sa_huts : Nat → Int32} {sa_minutes : Nat → Int32} {cf_voices : Int32} {cf_step : Int32} {ca_parts : Nat → Int32} {ca_heights : Nat → Int32} {f_fault : Int32} {f_faultPlace : Int32} {a_numbers : Nat → Int32} {a_tape : Nat → Int32} {f_length : Int32} {f_behind : Int32} {f_kind : Int32} {f_first : Int32} {f_value : Int32} {f_hutsToldOf : Int32} {f_singersToldOf : Int32} {z_from : Nat → Int32} {x1 : Int32} {x2 : Int32} {x3 : Int32} {x4 : Int32} {post : (Int32) → (Int32) → (Int32) → (Int32) → (Int32) → (Int32) → (Int32) → (Nat → Int32) → (Nat → Int32) → (Nat → Int32) → (Nat → Int32) → (Nat → Int32) → (Nat → Int32) → (Nat → Int32) → (Nat → Int32) → (Int32) → (Int32) → Prop} (hw : q_wr_X4_tellOfLand_0 lf_huts lf_singers lf_villages lf_dams lf_echoes lf_deep lf_slide la_heights la_ladders la_minutes la_echoFrom la_echoTo la_homes la_talls la_known f_hutsToldOf f_singersToldOf x1 x2 x3 x4 post) : Met l yX4_tellOfLand (Cond.code yX4_tellOfLand cX4_tellOfLand 5 none :: zb) rm_wr_X4_tellOfLand (va_Pc [.ref qr, .int x1, .int x2, .int x3, .int x4] (fun U => wrW E qr qt lf_huts lf_singers lf_villages lf_dams lf_echoes lf_deep lf_slide la_heights la_ladders la_minutes la_echoFrom la_echoTo la_homes la_talls la_known vf_deeds va_kinds va_firsts va_seconds sf_facts sa_heard sa_huts sa_minutes cf_voices cf_step ca_parts ca_heights f_fault f_faultPlace a_numbers a_tape f_length f_behind f_kind f_first f_value f_hutsToldOf f_singersToldOf z_from U.heap ∧ zK E U)) (zQv (S := (Int32) × (Int32) × (Int32) × (Int32) × (Int32) × (Int32) × (Int32) × (Nat → Int32) × (Nat → Int32) × (Nat → Int32) × (Nat → Int32) × (Nat → Int32) × (Nat → Int32) × (Nat → Int32) × (Nat → Int32) × (Int32) × (Int32)) (fun u => post u.1 u.2.1 u.2.2.1 u.2.2.2.1 u.2.2.2.2.1 u.2.2.2.2.2.1 u.2.2.2.2.2.2.1 u.2.2.2.2.2.2.2.1 u.2.2.2.2.2.2.2.2.1 u.2.2.2.2.2.2.2.2.2.1 u.2.2.2.2.2.2.2.2.2.2.1 u.2.2.2.2.2.2.2.2.2.2.2.1 u.2.2.2.2.2.2.2.2.2.2.2.2.1 u.2.2.2.2.2.2.2.2.2.2.2.2.2.1 u.2.2.2.2.2.2.2.2.2.2.2.2.2.2.1 u.2.2.2.2.2.2.2.2.2.2.2.2.2.2.2.1 u.2.2.2.2.2.2.2.2.2.2.2.2.2.2.2.2) (fun u H => wrW E qr qt u.1 u.2.1 u.2.2.1 u.2.2.2.1 u.2.2.2.2.1 u.2.2.2.2.2.1 u.2.2.2.2.2.2.1 u.2.2.2.2.2.2.2.1 u.2.2.2.2.2.2.2.2.1 u.2.2.2.2.2.2.2.2.2.1 u.2.2.2.2.2.2.2.2.2.2.1 u.2.2.2.2.2.2.2.2.2.2.2.1 u.2.2.2.2.2.2.2.2.2.2.2.2.1 u.2.2.2.2.2.2.2.2.2.2.2.2.2.1 u.2.2.2.2.2.2.2.2.2.2.2.2.2.2.1 vf_deeds va_kinds va_firsts va_seconds sf_facts sa_heard sa_huts sa_minutes cf_voices cf_step ca_parts ca_heights f_fault f_faultPlace a_numbers a_tape f_length f_behind f_kind f_first f_value u.2.2.2.2.2.2.2.2.2.2.2.2.2.2.2.1 u.2.2.2.2.2.2.2.2.2.2.2.2.2.2.2.2 z_from H) (wrA qr qt)) 0 0 (wrA qr qt) := by
  refine Met.ofW (cc := cX4_tellOfLand) (maxL := 5) (ret := none) (by decide) rfl ?_
  intro p e s m args below meth c s₁ B hml hv
  obtain ⟨rfl, hM, hK⟩ := hv
  have zc := zc_of B hml
  have hl := lv_entry ([.ref qr, .int x1, .int x2, .int x3, .int x4]) (n := 5) (Nat.le_of_ble_eq_true rfl)
  rw [lg_entry_eq]
  generalize (lg_sl ([.ref qr, .int x1, .int x2, .int x3, .int x4]) ++ List.replicate (5 - (lg_sl ([.ref qr, .int x1, .int x2, .int x3, .int x4])).length) Slot.unset).toArray = ls at hl ⊢
  have hl : lv_has ls 5 [(0, .ref qr), (1, .int x1), (2, .int x2), (3, .int x3), (4, .int x4)] := hl
  exact t_wr_X4_tellOfLand_0 zc hK hM va_S.rf (lv_sub hl [0, 1, 2, 3, 4] rfl) hw
-- wr_X4_tell
abbrev rm_wr_X4_tell : Room := { frames := 1, cells := 0, slots := 0, locals := 24 }
def q_wr_X4_tell_71 (lf_huts : Int32) (lf_singers : Int32) (lf_villages : Int32) (lf_dams : Int32) (lf_echoes : Int32) (lf_deep : Int32) (lf_slide : Int32) (la_heights : Nat → Int32) (la_ladders : Nat → Int32) (la_minutes : Nat → Int32) (la_echoFrom : Nat → Int32) (la_echoTo : Nat → Int32) (la_homes : Nat → Int32) (la_talls : Nat → Int32) (la_known : Nat → Int32) (vf_deeds : Int32) (va_kinds : Nat → Int32) (va_firsts : Nat → Int32) (va_seconds : Nat → Int32) (sf_facts : Int32) (sa_heard : Nat → Int32) (sa_huts : Nat → Int32) (sa_minutes : Nat → Int32) (cf_voices : Int32) (cf_step : Int32) (ca_parts : Nat → Int32) (ca_heights : Nat → Int32) (a_numbers : Nat → Int32) (f_hutsToldOf : Int32) (f_singersToldOf : Int32) (y0 : Int32) (y1 : Int32) (y2 : Int32) (post : (Int32) → (Int32) → (Int32) → (Int32) → (Int32) → (Int32) → (Int32) → (Nat → Int32) → (Nat → Int32) → (Nat → Int32) → (Nat → Int32) → (Nat → Int32) → (Nat → Int32) → (Nat → Int32) → (Nat → Int32) → (Int32) → (Nat → Int32) → (Nat → Int32) → (Nat → Int32) → (Int32) → (Nat → Int32) → (Nat → Int32) → (Nat → Int32) → (Int32) → (Int32) → (Nat → Int32) → (Nat → Int32) → (Int32) → (Int32) → Prop) : Prop :=
  q_wr_X1_tell_0 vf_deeds va_kinds va_firsts va_seconds y0 y1 y2 (fun vf_deeds_1 va_kinds_1 va_firsts_1 va_seconds_1 => post lf_huts lf_singers lf_villages lf_dams lf_echoes lf_deep lf_slide la_heights la_ladders la_minutes la_echoFrom la_echoTo la_homes la_talls la_known vf_deeds_1 va_kinds_1 va_firsts_1 va_seconds_1 sf_facts sa_heard sa_huts sa_minutes cf_voices cf_step ca_parts ca_heights f_hutsToldOf f_singersToldOf)
def q_wr_X4_tell_98 (lf_huts : Int32) (lf_singers : Int32) (lf_villages : Int32) (lf_dams : Int32) (lf_echoes : Int32) (lf_deep : Int32) (lf_slide : Int32) (la_heights : Nat → Int32) (la_ladders : Nat → Int32) (la_minutes : Nat → Int32) (la_echoFrom : Nat → Int32) (la_echoTo : Nat → Int32) (la_homes : Nat → Int32) (la_talls : Nat → Int32) (la_known : Nat → Int32) (vf_deeds : Int32) (va_kinds : Nat → Int32) (va_firsts : Nat → Int32) (va_seconds : Nat → Int32) (sf_facts : Int32) (sa_heard : Nat → Int32) (sa_huts : Nat → Int32) (sa_minutes : Nat → Int32) (cf_voices : Int32) (cf_step : Int32) (ca_parts : Nat → Int32) (ca_heights : Nat → Int32) (a_numbers : Nat → Int32) (f_hutsToldOf : Int32) (f_singersToldOf : Int32) (y0 : Int32) (post : (Int32) → (Int32) → (Int32) → (Int32) → (Int32) → (Int32) → (Int32) → (Nat → Int32) → (Nat → Int32) → (Nat → Int32) → (Nat → Int32) → (Nat → Int32) → (Nat → Int32) → (Nat → Int32) → (Nat → Int32) → (Int32) → (Nat → Int32) → (Nat → Int32) → (Nat → Int32) → (Int32) → (Nat → Int32) → (Nat → Int32) → (Nat → Int32) → (Int32) → (Int32) → (Nat → Int32) → (Nat → Int32) → (Int32) → (Int32) → Prop) : Prop :=
  q_wr_X6_tell_0 sf_facts sa_heard sa_huts sa_minutes y0 (a_numbers (Int32.toNatClampNeg (0 : Int32))) (a_numbers (Int32.toNatClampNeg (1 : Int32))) (fun sf_facts_1 sa_heard_1 sa_huts_1 sa_minutes_1 => post lf_huts lf_singers lf_villages lf_dams lf_echoes lf_deep lf_slide la_heights la_ladders la_minutes la_echoFrom la_echoTo la_homes la_talls la_known vf_deeds va_kinds va_firsts va_seconds sf_facts_1 sa_heard_1 sa_huts_1 sa_minutes_1 cf_voices cf_step ca_parts ca_heights f_hutsToldOf f_singersToldOf)
def q_wr_X4_tell_0 (lf_huts : Int32) (lf_singers : Int32) (lf_villages : Int32) (lf_dams : Int32) (lf_echoes : Int32) (lf_deep : Int32) (lf_slide : Int32) (la_heights : Nat → Int32) (la_ladders : Nat → Int32) (la_minutes : Nat → Int32) (la_echoFrom : Nat → Int32) (la_echoTo : Nat → Int32) (la_homes : Nat → Int32) (la_talls : Nat → Int32) (la_known : Nat → Int32) (vf_deeds : Int32) (va_kinds : Nat → Int32) (va_firsts : Nat → Int32) (va_seconds : Nat → Int32) (sf_facts : Int32) (sa_heard : Nat → Int32) (sa_huts : Nat → Int32) (sa_minutes : Nat → Int32) (cf_voices : Int32) (cf_step : Int32) (ca_parts : Nat → Int32) (ca_heights : Nat → Int32) (a_numbers : Nat → Int32) (f_hutsToldOf : Int32) (f_singersToldOf : Int32) (x1 : Int32) (post : (Int32) → (Int32) → (Int32) → (Int32) → (Int32) → (Int32) → (Int32) → (Nat → Int32) → (Nat → Int32) → (Nat → Int32) → (Nat → Int32) → (Nat → Int32) → (Nat → Int32) → (Nat → Int32) → (Nat → Int32) → (Int32) → (Nat → Int32) → (Nat → Int32) → (Nat → Int32) → (Int32) → (Nat → Int32) → (Nat → Int32) → (Nat → Int32) → (Int32) → (Int32) → (Nat → Int32) → (Nat → Int32) → (Int32) → (Int32) → Prop) : Prop :=
  ((10 : Int32) ≤ x1 → (((16 : Int32) ≤ x1 → (((18 : Int32) ≤ x1 → ((¬ x1 = (18 : Int32) → (∀ v_1 : Int32, v_1 = (a_numbers (Int32.toNatClampNeg (0 : Int32))) → (post lf_huts lf_singers lf_villages lf_dams lf_echoes lf_deep lf_slide la_heights la_ladders la_minutes la_echoFrom la_echoTo la_homes la_talls la_known vf_deeds va_kinds va_firsts va_seconds sf_facts sa_heard sa_huts sa_minutes cf_voices v_1 ca_parts ca_heights f_hutsToldOf f_singersToldOf))) ∧ (x1 = (18 : Int32) → (q_wr_X0_tell_0 cf_voices ca_parts ca_heights (a_numbers (Int32.toNatClampNeg (0 : Int32))) (a_numbers (Int32.toNatClampNeg (1 : Int32))) (fun cf_voices_1 ca_parts_1 ca_heights_1 => post lf_huts lf_singers lf_villages lf_dams lf_echoes lf_deep lf_slide la_heights la_ladders la_minutes la_echoFrom la_echoTo la_homes la_talls la_known vf_deeds va_kinds va_firsts va_seconds sf_facts sa_heard sa_huts sa_minutes cf_voices_1 cf_step ca_parts_1 ca_heights_1 f_hutsToldOf f_singersToldOf))))) ∧ (¬ (18 : Int32) ≤ x1 → ((¬ x1 = (16 : Int32) → (q_wr_X4_tell_98 lf_huts lf_singers lf_villages lf_dams lf_echoes lf_deep lf_slide la_heights la_ladders la_minutes la_echoFrom la_echoTo la_homes la_talls la_known vf_deeds va_kinds va_firsts va_seconds sf_facts sa_heard sa_huts sa_minutes cf_voices cf_step ca_parts ca_heights a_numbers f_hutsToldOf f_singersToldOf (0 : Int32) post)) ∧ (x1 = (16 : Int32) → (q_wr_X4_tell_98 lf_huts lf_singers lf_villages lf_dams lf_echoes lf_deep lf_slide la_heights la_ladders la_minutes la_echoFrom la_echoTo la_homes la_talls la_known vf_deeds va_kinds va_firsts va_seconds sf_facts sa_heard sa_huts sa_minutes cf_voices cf_step ca_parts ca_heights a_numbers f_hutsToldOf f_singersToldOf (1 : Int32) post)))))) ∧ (¬ (16 : Int32) ≤ x1 → (vp_in x1 20 ∧ (((tbf_1 (Int32.toNatClampNeg x1)) ≤ (1 : Int32) → (q_wr_X4_tell_71 lf_huts lf_singers lf_villages lf_dams lf_echoes lf_deep lf_slide la_heights la_ladders la_minutes la_echoFrom la_echoTo la_homes la_talls la_known vf_deeds va_kinds va_firsts va_seconds sf_facts sa_heard sa_huts sa_minutes cf_voices cf_step ca_parts ca_heights a_numbers f_hutsToldOf f_singersToldOf (x1 - (10 : Int32)) (a_numbers (Int32.toNatClampNeg (0 : Int32))) (-1 : Int32) post)) ∧ (¬ (tbf_1 (Int32.toNatClampNeg x1)) ≤ (1 : Int32) → (q_wr_X4_tell_71 lf_huts lf_singers lf_villages lf_dams lf_echoes lf_deep lf_slide la_heights la_ladders la_minutes la_echoFrom la_echoTo la_homes la_talls la_known vf_deeds va_kinds va_firsts va_seconds sf_facts sa_heard sa_huts sa_minutes cf_voices cf_step ca_parts ca_heights a_numbers f_hutsToldOf f_singersToldOf (x1 - (10 : Int32)) (a_numbers (Int32.toNatClampNeg (0 : Int32))) (a_numbers (Int32.toNatClampNeg (1 : Int32))) post))))))) ∧ (¬ (10 : Int32) ≤ x1 → (q_wr_X4_tellOfLand_0 lf_huts lf_singers lf_villages lf_dams lf_echoes lf_deep lf_slide la_heights la_ladders la_minutes la_echoFrom la_echoTo la_homes la_talls la_known f_hutsToldOf f_singersToldOf x1 (a_numbers (Int32.toNatClampNeg (0 : Int32))) (a_numbers (Int32.toNatClampNeg (1 : Int32))) (a_numbers (Int32.toNatClampNeg (2 : Int32))) (fun lf_huts_1 lf_singers_1 lf_villages_1 lf_dams_1 lf_echoes_1 lf_deep_1 lf_slide_1 la_heights_1 la_ladders_1 la_minutes_1 la_echoFrom_1 la_echoTo_1 la_homes_1 la_talls_1 la_known_1 f_hutsToldOf_1 f_singersToldOf_1 => post lf_huts_1 lf_singers_1 lf_villages_1 lf_dams_1 lf_echoes_1 lf_deep_1 lf_slide_1 la_heights_1 la_ladders_1 la_minutes_1 la_echoFrom_1 la_echoTo_1 la_homes_1 la_talls_1 la_known_1 vf_deeds va_kinds va_firsts va_seconds sf_facts sa_heard sa_huts sa_minutes cf_voices cf_step ca_parts ca_heights f_hutsToldOf_1 f_singersToldOf_1)))
set_option maxRecDepth 20000 in
theorem t_wr_X4_tell_71 {p : Program} {l : Launch} {e : Env} {s : State} {m : MethodId} {args : Array Value} {below : List Frame} {meth : Method} {c : Code} {G : zG} {E : zE} {qr qt : Nat} {lf_huts : Int32} {lf_singers : Int32} {lf_villages : Int32} {lf_dams : Int32} {lf_echoes : Int32} {lf_deep : Int32} {lf_slide : Int32} {la_heights : Nat → Int32} {la_ladders : Nat → Int32} {la_minutes : Nat → Int32} {la_echoFrom : Nat → Int32} {la_echoTo : Nat → Int32} {la_homes : Nat → Int32} {la_talls : Nat → Int32} {la_known : Nat → Int32} {vf_deeds : Int32} {va_kinds : Nat → Int32} {va_firsts : Nat → Int32} {va_seconds : Nat → Int32} {sf_facts : Int32} {sa_heard : Nat → Int32} {sa_huts : Nat → Int32} {sa_minutes : Nat → Int32} {cf_voices : Int32} {cf_step : Int32} {ca_parts : Nat → Int32} {ca_heights : Nat → Int32} {f_fault : Int32} {f_faultPlace : Int32} {a_numbers : Nat → Int32} {a_tape : Nat → Int32} {f_length : Int32} {f_behind : Int32} {f_kind : Int32} {f_first : Int32} {f_value : Int32} {f_hutsToldOf : Int32} {f_singersToldOf : Int32} {z_from : Nat → Int32} {post : (Int32) → (Int32) → (Int32) → (Int32) → (Int32) → (Int32) → (Int32) → (Nat → Int32) → (Nat → Int32) → (Nat → Int32) → (Nat → Int32) → (Nat → Int32) → (Nat → Int32) → (Nat → Int32) → (Nat → Int32) → (Int32) → (Nat → Int32) → (Nat → Int32) → (Nat → Int32) → (Int32) → (Nat → Int32) → (Nat → Int32) → (Nat → Int32) → (Int32) → (Int32) → (Nat → Int32) → (Nat → Int32) → (Int32) → (Int32) → Prop} {y0 : Int32} {y1 : Int32} {y2 : Int32} {ls : Array Slot} {H : Heap} {locs : List Loc}
    (zc : zC p s m args meth c cX4_tell 2 RX4 none)
    (hK : zK E s)
    (hM : wrW E qr qt lf_huts lf_singers lf_villages lf_dams lf_echoes lf_deep lf_slide la_heights la_ladders la_minutes la_echoFrom la_echoTo la_homes la_talls la_known vf_deeds va_kinds va_firsts va_seconds sf_facts sa_heard sa_huts sa_minutes cf_voices cf_step ca_parts ca_heights f_fault f_faultPlace a_numbers a_tape f_length f_behind f_kind f_first f_value f_hutsToldOf f_singersToldOf z_from H)
    (hZ : zZ G (wrA qr qt) s s.heap)
    (hS : va_S (wrA qr qt) s.heap H locs)
    (hl : lv_has ls 2 [])
    (hw : q_wr_X4_tell_71 lf_huts lf_singers lf_villages lf_dams lf_echoes lf_deep lf_slide la_heights la_ladders la_minutes la_echoFrom la_echoTo la_homes la_talls la_known vf_deeds va_kinds va_firsts va_seconds sf_facts sa_heard sa_huts sa_minutes cf_voices cf_step ca_parts ca_heights a_numbers f_hutsToldOf f_singersToldOf y0 y1 y2 post) :
    W p l e rm_wr_X4_tell s m args below meth c H locs 0 0 (MQ below (zQv (S := (Int32) × (Int32) × (Int32) × (Int32) × (Int32) × (Int32) × (Int32) × (Nat → Int32) × (Nat → Int32) × (Nat → Int32) × (Nat → Int32) × (Nat → Int32) × (Nat → Int32) × (Nat → Int32) × (Nat → Int32) × (Int32) × (Nat → Int32) × (Nat → Int32) × (Nat → Int32) × (Int32) × (Nat → Int32) × (Nat → Int32) × (Nat → Int32) × (Int32) × (Int32) × (Nat → Int32) × (Nat → Int32) × (Int32) × (Int32)) (fun u => post u.1 u.2.1 u.2.2.1 u.2.2.2.1 u.2.2.2.2.1 u.2.2.2.2.2.1 u.2.2.2.2.2.2.1 u.2.2.2.2.2.2.2.1 u.2.2.2.2.2.2.2.2.1 u.2.2.2.2.2.2.2.2.2.1 u.2.2.2.2.2.2.2.2.2.2.1 u.2.2.2.2.2.2.2.2.2.2.2.1 u.2.2.2.2.2.2.2.2.2.2.2.2.1 u.2.2.2.2.2.2.2.2.2.2.2.2.2.1 u.2.2.2.2.2.2.2.2.2.2.2.2.2.2.1 u.2.2.2.2.2.2.2.2.2.2.2.2.2.2.2.1 u.2.2.2.2.2.2.2.2.2.2.2.2.2.2.2.2.1 u.2.2.2.2.2.2.2.2.2.2.2.2.2.2.2.2.2.1 u.2.2.2.2.2.2.2.2.2.2.2.2.2.2.2.2.2.2.1 u.2.2.2.2.2.2.2.2.2.2.2.2.2.2.2.2.2.2.2.1 u.2.2.2.2.2.2.2.2.2.2.2.2.2.2.2.2.2.2.2.2.1 u.2.2.2.2.2.2.2.2.2.2.2.2.2.2.2.2.2.2.2.2.2.1 u.2.2.2.2.2.2.2.2.2.2.2.2.2.2.2.2.2.2.2.2.2.2.1 u.2.2.2.2.2.2.2.2.2.2.2.2.2.2.2.2.2.2.2.2.2.2.2.1 u.2.2.2.2.2.2.2.2.2.2.2.2.2.2.2.2.2.2.2.2.2.2.2.2.1 u.2.2.2.2.2.2.2.2.2.2.2.2.2.2.2.2.2.2.2.2.2.2.2.2.2.1 u.2.2.2.2.2.2.2.2.2.2.2.2.2.2.2.2.2.2.2.2.2.2.2.2.2.2.1 u.2.2.2.2.2.2.2.2.2.2.2.2.2.2.2.2.2.2.2.2.2.2.2.2.2.2.2.1 u.2.2.2.2.2.2.2.2.2.2.2.2.2.2.2.2.2.2.2.2.2.2.2.2.2.2.2.2) (fun u H => wrW E qr qt u.1 u.2.1 u.2.2.1 u.2.2.2.1 u.2.2.2.2.1 u.2.2.2.2.2.1 u.2.2.2.2.2.2.1 u.2.2.2.2.2.2.2.1 u.2.2.2.2.2.2.2.2.1 u.2.2.2.2.2.2.2.2.2.1 u.2.2.2.2.2.2.2.2.2.2.1 u.2.2.2.2.2.2.2.2.2.2.2.1 u.2.2.2.2.2.2.2.2.2.2.2.2.1 u.2.2.2.2.2.2.2.2.2.2.2.2.2.1 u.2.2.2.2.2.2.2.2.2.2.2.2.2.2.1 u.2.2.2.2.2.2.2.2.2.2.2.2.2.2.2.1 u.2.2.2.2.2.2.2.2.2.2.2.2.2.2.2.2.1 u.2.2.2.2.2.2.2.2.2.2.2.2.2.2.2.2.2.1 u.2.2.2.2.2.2.2.2.2.2.2.2.2.2.2.2.2.2.1 u.2.2.2.2.2.2.2.2.2.2.2.2.2.2.2.2.2.2.2.1 u.2.2.2.2.2.2.2.2.2.2.2.2.2.2.2.2.2.2.2.2.1 u.2.2.2.2.2.2.2.2.2.2.2.2.2.2.2.2.2.2.2.2.2.1 u.2.2.2.2.2.2.2.2.2.2.2.2.2.2.2.2.2.2.2.2.2.2.1 u.2.2.2.2.2.2.2.2.2.2.2.2.2.2.2.2.2.2.2.2.2.2.2.1 u.2.2.2.2.2.2.2.2.2.2.2.2.2.2.2.2.2.2.2.2.2.2.2.2.1 u.2.2.2.2.2.2.2.2.2.2.2.2.2.2.2.2.2.2.2.2.2.2.2.2.2.1 u.2.2.2.2.2.2.2.2.2.2.2.2.2.2.2.2.2.2.2.2.2.2.2.2.2.2.1 f_fault f_faultPlace a_numbers a_tape f_length f_behind f_kind f_first f_value u.2.2.2.2.2.2.2.2.2.2.2.2.2.2.2.2.2.2.2.2.2.2.2.2.2.2.2.1 u.2.2.2.2.2.2.2.2.2.2.2.2.2.2.2.2.2.2.2.2.2.2.2.2.2.2.2.2 z_from H) (wrA qr qt)) args s 0 0 (wrA qr qt)) (F0 m 71 ls [.int y2, .int y1, .int y0, .ref (qr + 10)]) := by
  have hx := zc.1
  have hb := zc.2.1
  refine zVw_v [.int y0, .int y1, .int y2] [] zc ky_X1_tell kz_X1_tell km_4_154 (c_wr_X1_tell l hw) (wrPreV10 hK hM) hS rfl rfl hl.1 (Nat.le_of_ble_eq_true rfl) ⟨rfl, rfl⟩ ⟨Nat.le_of_ble_eq_true rfl, Nat.le_of_ble_eq_true rfl⟩ ⟨(Nat.zero_le _), (Nat.zero_le _)⟩ dX4_tell_71 (fun u H locs hw hM hS => ?_)
  obtain ⟨vf_deeds_1, va_kinds_1, va_firsts_1, va_seconds_1⟩ := u
  refine lv_goto (tgt := 157) hx hb dX4_tell_74 (by decide) ?_
  exact zret_vw ⟨lf_huts, lf_singers, lf_villages, lf_dams, lf_echoes, lf_deep, lf_slide, la_heights, la_ladders, la_minutes, la_echoFrom, la_echoTo, la_homes, la_talls, la_known, vf_deeds_1, va_kinds_1, va_firsts_1, va_seconds_1, sf_facts, sa_heard, sa_huts, sa_minutes, cf_voices, cf_step, ca_parts, ca_heights, f_hutsToldOf, f_singersToldOf⟩ zc hS hw hM dX4_tell_157
set_option maxRecDepth 20000 in
theorem t_wr_X4_tell_98 {p : Program} {l : Launch} {e : Env} {s : State} {m : MethodId} {args : Array Value} {below : List Frame} {meth : Method} {c : Code} {G : zG} {E : zE} {qr qt : Nat} {lf_huts : Int32} {lf_singers : Int32} {lf_villages : Int32} {lf_dams : Int32} {lf_echoes : Int32} {lf_deep : Int32} {lf_slide : Int32} {la_heights : Nat → Int32} {la_ladders : Nat → Int32} {la_minutes : Nat → Int32} {la_echoFrom : Nat → Int32} {la_echoTo : Nat → Int32} {la_homes : Nat → Int32} {la_talls : Nat → Int32} {la_known : Nat → Int32} {vf_deeds : Int32} {va_kinds : Nat → Int32} {va_firsts : Nat → Int32} {va_seconds : Nat → Int32} {sf_facts : Int32} {sa_heard : Nat → Int32} {sa_huts : Nat → Int32} {sa_minutes : Nat → Int32} {cf_voices : Int32} {cf_step : Int32} {ca_parts : Nat → Int32} {ca_heights : Nat → Int32} {f_fault : Int32} {f_faultPlace : Int32} {a_numbers : Nat → Int32} {a_tape : Nat → Int32} {f_length : Int32} {f_behind : Int32} {f_kind : Int32} {f_first : Int32} {f_value : Int32} {f_hutsToldOf : Int32} {f_singersToldOf : Int32} {z_from : Nat → Int32} {post : (Int32) → (Int32) → (Int32) → (Int32) → (Int32) → (Int32) → (Int32) → (Nat → Int32) → (Nat → Int32) → (Nat → Int32) → (Nat → Int32) → (Nat → Int32) → (Nat → Int32) → (Nat → Int32) → (Nat → Int32) → (Int32) → (Nat → Int32) → (Nat → Int32) → (Nat → Int32) → (Int32) → (Nat → Int32) → (Nat → Int32) → (Nat → Int32) → (Int32) → (Int32) → (Nat → Int32) → (Nat → Int32) → (Int32) → (Int32) → Prop} {y0 : Int32} {ls : Array Slot} {H : Heap} {locs : List Loc}
    (zc : zC p s m args meth c cX4_tell 2 RX4 none)
    (hK : zK E s)
    (hM : wrW E qr qt lf_huts lf_singers lf_villages lf_dams lf_echoes lf_deep lf_slide la_heights la_ladders la_minutes la_echoFrom la_echoTo la_homes la_talls la_known vf_deeds va_kinds va_firsts va_seconds sf_facts sa_heard sa_huts sa_minutes cf_voices cf_step ca_parts ca_heights f_fault f_faultPlace a_numbers a_tape f_length f_behind f_kind f_first f_value f_hutsToldOf f_singersToldOf z_from H)
    (hZ : zZ G (wrA qr qt) s s.heap)
    (hS : va_S (wrA qr qt) s.heap H locs)
    (hl : lv_has ls 2 [(0, .ref qr)])
    (hw : q_wr_X4_tell_98 lf_huts lf_singers lf_villages lf_dams lf_echoes lf_deep lf_slide la_heights la_ladders la_minutes la_echoFrom la_echoTo la_homes la_talls la_known vf_deeds va_kinds va_firsts va_seconds sf_facts sa_heard sa_huts sa_minutes cf_voices cf_step ca_parts ca_heights a_numbers f_hutsToldOf f_singersToldOf y0 post) :
    W p l e rm_wr_X4_tell s m args below meth c H locs 0 0 (MQ below (zQv (S := (Int32) × (Int32) × (Int32) × (Int32) × (Int32) × (Int32) × (Int32) × (Nat → Int32) × (Nat → Int32) × (Nat → Int32) × (Nat → Int32) × (Nat → Int32) × (Nat → Int32) × (Nat → Int32) × (Nat → Int32) × (Int32) × (Nat → Int32) × (Nat → Int32) × (Nat → Int32) × (Int32) × (Nat → Int32) × (Nat → Int32) × (Nat → Int32) × (Int32) × (Int32) × (Nat → Int32) × (Nat → Int32) × (Int32) × (Int32)) (fun u => post u.1 u.2.1 u.2.2.1 u.2.2.2.1 u.2.2.2.2.1 u.2.2.2.2.2.1 u.2.2.2.2.2.2.1 u.2.2.2.2.2.2.2.1 u.2.2.2.2.2.2.2.2.1 u.2.2.2.2.2.2.2.2.2.1 u.2.2.2.2.2.2.2.2.2.2.1 u.2.2.2.2.2.2.2.2.2.2.2.1 u.2.2.2.2.2.2.2.2.2.2.2.2.1 u.2.2.2.2.2.2.2.2.2.2.2.2.2.1 u.2.2.2.2.2.2.2.2.2.2.2.2.2.2.1 u.2.2.2.2.2.2.2.2.2.2.2.2.2.2.2.1 u.2.2.2.2.2.2.2.2.2.2.2.2.2.2.2.2.1 u.2.2.2.2.2.2.2.2.2.2.2.2.2.2.2.2.2.1 u.2.2.2.2.2.2.2.2.2.2.2.2.2.2.2.2.2.2.1 u.2.2.2.2.2.2.2.2.2.2.2.2.2.2.2.2.2.2.2.1 u.2.2.2.2.2.2.2.2.2.2.2.2.2.2.2.2.2.2.2.2.1 u.2.2.2.2.2.2.2.2.2.2.2.2.2.2.2.2.2.2.2.2.2.1 u.2.2.2.2.2.2.2.2.2.2.2.2.2.2.2.2.2.2.2.2.2.2.1 u.2.2.2.2.2.2.2.2.2.2.2.2.2.2.2.2.2.2.2.2.2.2.2.1 u.2.2.2.2.2.2.2.2.2.2.2.2.2.2.2.2.2.2.2.2.2.2.2.2.1 u.2.2.2.2.2.2.2.2.2.2.2.2.2.2.2.2.2.2.2.2.2.2.2.2.2.1 u.2.2.2.2.2.2.2.2.2.2.2.2.2.2.2.2.2.2.2.2.2.2.2.2.2.2.1 u.2.2.2.2.2.2.2.2.2.2.2.2.2.2.2.2.2.2.2.2.2.2.2.2.2.2.2.1 u.2.2.2.2.2.2.2.2.2.2.2.2.2.2.2.2.2.2.2.2.2.2.2.2.2.2.2.2) (fun u H => wrW E qr qt u.1 u.2.1 u.2.2.1 u.2.2.2.1 u.2.2.2.2.1 u.2.2.2.2.2.1 u.2.2.2.2.2.2.1 u.2.2.2.2.2.2.2.1 u.2.2.2.2.2.2.2.2.1 u.2.2.2.2.2.2.2.2.2.1 u.2.2.2.2.2.2.2.2.2.2.1 u.2.2.2.2.2.2.2.2.2.2.2.1 u.2.2.2.2.2.2.2.2.2.2.2.2.1 u.2.2.2.2.2.2.2.2.2.2.2.2.2.1 u.2.2.2.2.2.2.2.2.2.2.2.2.2.2.1 u.2.2.2.2.2.2.2.2.2.2.2.2.2.2.2.1 u.2.2.2.2.2.2.2.2.2.2.2.2.2.2.2.2.1 u.2.2.2.2.2.2.2.2.2.2.2.2.2.2.2.2.2.1 u.2.2.2.2.2.2.2.2.2.2.2.2.2.2.2.2.2.2.1 u.2.2.2.2.2.2.2.2.2.2.2.2.2.2.2.2.2.2.2.1 u.2.2.2.2.2.2.2.2.2.2.2.2.2.2.2.2.2.2.2.2.1 u.2.2.2.2.2.2.2.2.2.2.2.2.2.2.2.2.2.2.2.2.2.1 u.2.2.2.2.2.2.2.2.2.2.2.2.2.2.2.2.2.2.2.2.2.2.1 u.2.2.2.2.2.2.2.2.2.2.2.2.2.2.2.2.2.2.2.2.2.2.2.1 u.2.2.2.2.2.2.2.2.2.2.2.2.2.2.2.2.2.2.2.2.2.2.2.2.1 u.2.2.2.2.2.2.2.2.2.2.2.2.2.2.2.2.2.2.2.2.2.2.2.2.2.1 u.2.2.2.2.2.2.2.2.2.2.2.2.2.2.2.2.2.2.2.2.2.2.2.2.2.2.1 f_fault f_faultPlace a_numbers a_tape f_length f_behind f_kind f_first f_value u.2.2.2.2.2.2.2.2.2.2.2.2.2.2.2.2.2.2.2.2.2.2.2.2.2.2.2.1 u.2.2.2.2.2.2.2.2.2.2.2.2.2.2.2.2.2.2.2.2.2.2.2.2.2.2.2.2 z_from H) (wrA qr qt)) args s 0 0 (wrA qr qt)) (F0 m 98 ls [.int y0, .ref (qr + 14)]) := by
  have hx := zc.1
  have hb := zc.2.1
  refine lv_aload_n hx hb dX4_tell_98 rfl (lv_at hl 0 rfl) ?_
  refine wrg_4_43_0 zc hK hM dX4_tell_99 ?_
  refine lv_iconst (v := (0 : Int32)) hx hb dX4_tell_102 (by decide) ?_
  refine wrld_21 zc hK hM (by unfold vp_in; decide) dX4_tell_103 ?_
  refine lv_aload_n hx hb dX4_tell_104 rfl (lv_at hl 0 rfl) ?_
  refine wrg_4_43_0 zc hK hM dX4_tell_105 ?_
  refine lv_iconst (v := (1 : Int32)) hx hb dX4_tell_108 (by decide) ?_
  refine wrld_21 zc hK hM (by unfold vp_in; decide) dX4_tell_109 ?_
  refine zVw_v [.int y0, .int (a_numbers (Int32.toNatClampNeg (0 : Int32))), .int (a_numbers (Int32.toNatClampNeg (1 : Int32)))] [] zc ky_X6_tell kz_X6_tell km_4_157 (c_wr_X6_tell l hw) (wrPreV14 hK hM) hS rfl rfl hl.1 (Nat.le_of_ble_eq_true rfl) ⟨rfl, rfl⟩ ⟨Nat.le_of_ble_eq_true rfl, Nat.le_of_ble_eq_true rfl⟩ ⟨(Nat.zero_le _), (Nat.zero_le _)⟩ dX4_tell_110 (fun u H locs hw hM hS => ?_)
  obtain ⟨sf_facts_1, sa_heard_1, sa_huts_1, sa_minutes_1⟩ := u
  refine lv_goto (tgt := 157) hx hb dX4_tell_113 (by decide) ?_
  exact zret_vw ⟨lf_huts, lf_singers, lf_villages, lf_dams, lf_echoes, lf_deep, lf_slide, la_heights, la_ladders, la_minutes, la_echoFrom, la_echoTo, la_homes, la_talls, la_known, vf_deeds, va_kinds, va_firsts, va_seconds, sf_facts_1, sa_heard_1, sa_huts_1, sa_minutes_1, cf_voices, cf_step, ca_parts, ca_heights, f_hutsToldOf, f_singersToldOf⟩ zc hS hw hM dX4_tell_157
set_option maxRecDepth 20000 in
theorem t_wr_X4_tell_0 {p : Program} {l : Launch} {e : Env} {s : State} {m : MethodId} {args : Array Value} {below : List Frame} {meth : Method} {c : Code} {G : zG} {E : zE} {qr qt : Nat} {lf_huts : Int32} {lf_singers : Int32} {lf_villages : Int32} {lf_dams : Int32} {lf_echoes : Int32} {lf_deep : Int32} {lf_slide : Int32} {la_heights : Nat → Int32} {la_ladders : Nat → Int32} {la_minutes : Nat → Int32} {la_echoFrom : Nat → Int32} {la_echoTo : Nat → Int32} {la_homes : Nat → Int32} {la_talls : Nat → Int32} {la_known : Nat → Int32} {vf_deeds : Int32} {va_kinds : Nat → Int32} {va_firsts : Nat → Int32} {va_seconds : Nat → Int32} {sf_facts : Int32} {sa_heard : Nat → Int32} {sa_huts : Nat → Int32} {sa_minutes : Nat → Int32} {cf_voices : Int32} {cf_step : Int32} {ca_parts : Nat → Int32} {ca_heights : Nat → Int32} {f_fault : Int32} {f_faultPlace : Int32} {a_numbers : Nat → Int32} {a_tape : Nat → Int32} {f_length : Int32} {f_behind : Int32} {f_kind : Int32} {f_first : Int32} {f_value : Int32} {f_hutsToldOf : Int32} {f_singersToldOf : Int32} {z_from : Nat → Int32} {post : (Int32) → (Int32) → (Int32) → (Int32) → (Int32) → (Int32) → (Int32) → (Nat → Int32) → (Nat → Int32) → (Nat → Int32) → (Nat → Int32) → (Nat → Int32) → (Nat → Int32) → (Nat → Int32) → (Nat → Int32) → (Int32) → (Nat → Int32) → (Nat → Int32) → (Nat → Int32) → (Int32) → (Nat → Int32) → (Nat → Int32) → (Nat → Int32) → (Int32) → (Int32) → (Nat → Int32) → (Nat → Int32) → (Int32) → (Int32) → Prop} {x1 : Int32} {ls : Array Slot} {H : Heap} {locs : List Loc}
    (zc : zC p s m args meth c cX4_tell 2 RX4 none)
    (hK : zK E s)
    (hM : wrW E qr qt lf_huts lf_singers lf_villages lf_dams lf_echoes lf_deep lf_slide la_heights la_ladders la_minutes la_echoFrom la_echoTo la_homes la_talls la_known vf_deeds va_kinds va_firsts va_seconds sf_facts sa_heard sa_huts sa_minutes cf_voices cf_step ca_parts ca_heights f_fault f_faultPlace a_numbers a_tape f_length f_behind f_kind f_first f_value f_hutsToldOf f_singersToldOf z_from H)
    (hZ : zZ G (wrA qr qt) s s.heap)
    (hS : va_S (wrA qr qt) s.heap H locs)
    (hl : lv_has ls 2 [(0, .ref qr), (1, .int x1)])
    (hw : q_wr_X4_tell_0 lf_huts lf_singers lf_villages lf_dams lf_echoes lf_deep lf_slide la_heights la_ladders la_minutes la_echoFrom la_echoTo la_homes la_talls la_known vf_deeds va_kinds va_firsts va_seconds sf_facts sa_heard sa_huts sa_minutes cf_voices cf_step ca_parts ca_heights a_numbers f_hutsToldOf f_singersToldOf x1 post) :
    W p l e rm_wr_X4_tell s m args below meth c H locs 0 0 (MQ below (zQv (S := (Int32) × (Int32) × (Int32) × (Int32) × (Int32) × (Int32) × (Int32) × (Nat → Int32) × (Nat → Int32) × (Nat → Int32) × (Nat → Int32) × (Nat → Int32) × (Nat → Int32) × (Nat → Int32) × (Nat → Int32) × (Int32) × (Nat → Int32) × (Nat → Int32) × (Nat → Int32) × (Int32) × (Nat → Int32) × (Nat → Int32) × (Nat → Int32) × (Int32) × (Int32) × (Nat → Int32) × (Nat → Int32) × (Int32) × (Int32)) (fun u => post u.1 u.2.1 u.2.2.1 u.2.2.2.1 u.2.2.2.2.1 u.2.2.2.2.2.1 u.2.2.2.2.2.2.1 u.2.2.2.2.2.2.2.1 u.2.2.2.2.2.2.2.2.1 u.2.2.2.2.2.2.2.2.2.1 u.2.2.2.2.2.2.2.2.2.2.1 u.2.2.2.2.2.2.2.2.2.2.2.1 u.2.2.2.2.2.2.2.2.2.2.2.2.1 u.2.2.2.2.2.2.2.2.2.2.2.2.2.1 u.2.2.2.2.2.2.2.2.2.2.2.2.2.2.1 u.2.2.2.2.2.2.2.2.2.2.2.2.2.2.2.1 u.2.2.2.2.2.2.2.2.2.2.2.2.2.2.2.2.1 u.2.2.2.2.2.2.2.2.2.2.2.2.2.2.2.2.2.1 u.2.2.2.2.2.2.2.2.2.2.2.2.2.2.2.2.2.2.1 u.2.2.2.2.2.2.2.2.2.2.2.2.2.2.2.2.2.2.2.1 u.2.2.2.2.2.2.2.2.2.2.2.2.2.2.2.2.2.2.2.2.1 u.2.2.2.2.2.2.2.2.2.2.2.2.2.2.2.2.2.2.2.2.2.1 u.2.2.2.2.2.2.2.2.2.2.2.2.2.2.2.2.2.2.2.2.2.2.1 u.2.2.2.2.2.2.2.2.2.2.2.2.2.2.2.2.2.2.2.2.2.2.2.1 u.2.2.2.2.2.2.2.2.2.2.2.2.2.2.2.2.2.2.2.2.2.2.2.2.1 u.2.2.2.2.2.2.2.2.2.2.2.2.2.2.2.2.2.2.2.2.2.2.2.2.2.1 u.2.2.2.2.2.2.2.2.2.2.2.2.2.2.2.2.2.2.2.2.2.2.2.2.2.2.1 u.2.2.2.2.2.2.2.2.2.2.2.2.2.2.2.2.2.2.2.2.2.2.2.2.2.2.2.1 u.2.2.2.2.2.2.2.2.2.2.2.2.2.2.2.2.2.2.2.2.2.2.2.2.2.2.2.2) (fun u H => wrW E qr qt u.1 u.2.1 u.2.2.1 u.2.2.2.1 u.2.2.2.2.1 u.2.2.2.2.2.1 u.2.2.2.2.2.2.1 u.2.2.2.2.2.2.2.1 u.2.2.2.2.2.2.2.2.1 u.2.2.2.2.2.2.2.2.2.1 u.2.2.2.2.2.2.2.2.2.2.1 u.2.2.2.2.2.2.2.2.2.2.2.1 u.2.2.2.2.2.2.2.2.2.2.2.2.1 u.2.2.2.2.2.2.2.2.2.2.2.2.2.1 u.2.2.2.2.2.2.2.2.2.2.2.2.2.2.1 u.2.2.2.2.2.2.2.2.2.2.2.2.2.2.2.1 u.2.2.2.2.2.2.2.2.2.2.2.2.2.2.2.2.1 u.2.2.2.2.2.2.2.2.2.2.2.2.2.2.2.2.2.1 u.2.2.2.2.2.2.2.2.2.2.2.2.2.2.2.2.2.2.1 u.2.2.2.2.2.2.2.2.2.2.2.2.2.2.2.2.2.2.2.1 u.2.2.2.2.2.2.2.2.2.2.2.2.2.2.2.2.2.2.2.2.1 u.2.2.2.2.2.2.2.2.2.2.2.2.2.2.2.2.2.2.2.2.2.1 u.2.2.2.2.2.2.2.2.2.2.2.2.2.2.2.2.2.2.2.2.2.2.1 u.2.2.2.2.2.2.2.2.2.2.2.2.2.2.2.2.2.2.2.2.2.2.2.1 u.2.2.2.2.2.2.2.2.2.2.2.2.2.2.2.2.2.2.2.2.2.2.2.2.1 u.2.2.2.2.2.2.2.2.2.2.2.2.2.2.2.2.2.2.2.2.2.2.2.2.2.1 u.2.2.2.2.2.2.2.2.2.2.2.2.2.2.2.2.2.2.2.2.2.2.2.2.2.2.1 f_fault f_faultPlace a_numbers a_tape f_length f_behind f_kind f_first f_value u.2.2.2.2.2.2.2.2.2.2.2.2.2.2.2.2.2.2.2.2.2.2.2.2.2.2.2.1 u.2.2.2.2.2.2.2.2.2.2.2.2.2.2.2.2.2.2.2.2.2.2.2.2.2.2.2.2 z_from H) (wrA qr qt)) args s 0 0 (wrA qr qt)) (F0 m 0 ls []) := by
  have hx := zc.1
  have hb := zc.2.1
  refine lv_iload_n hx hb dX4_tell_0 rfl (lv_at hl 1 rfl) ?_
  refine lv_bipush (v := (10 : Int32)) hx hb dX4_tell_1 (by decide) ?_
  refine lv_icmp_ge (tgt := 32) hx hb dX4_tell_3 (by decide) (fun hc => ?_) (fun hc => ?_)
  · have hw := hw.1 hc
    refine lv_iload_n hx hb dX4_tell_32 rfl (lv_at hl 1 rfl) ?_
    refine lv_bipush (v := (16 : Int32)) hx hb dX4_tell_33 (by decide) ?_
    refine lv_icmp_ge (tgt := 77) hx hb dX4_tell_35 (by decide) (fun hc => ?_) (fun hc => ?_)
    · have hw := hw.1 hc
      refine lv_iload_n hx hb dX4_tell_77 rfl (lv_at hl 1 rfl) ?_
      refine lv_bipush (v := (18 : Int32)) hx hb dX4_tell_78 (by decide) ?_
      refine lv_icmp_ge (tgt := 116) hx hb dX4_tell_80 (by decide) (fun hc => ?_) (fun hc => ?_)
      · have hw := hw.1 hc
        refine lv_iload_n hx hb dX4_tell_116 rfl (lv_at hl 1 rfl) ?_
        refine lv_bipush (v := (18 : Int32)) hx hb dX4_tell_117 (by decide) ?_
        refine lv_icmp_ne (tgt := 144) hx hb dX4_tell_119 (by decide) (fun hc => ?_) (fun hc => ?_)
        · have hw := hw.1 hc
          refine lv_aload_n hx hb dX4_tell_144 rfl (lv_at hl 0 rfl) ?_
          refine wrg_4_35_0 zc hK hM dX4_tell_145 ?_
          refine lv_aload_n hx hb dX4_tell_148 rfl (lv_at hl 0 rfl) ?_
          refine wrg_4_43_0 zc hK hM dX4_tell_149 ?_
          refine lv_iconst (v := (0 : Int32)) hx hb dX4_tell_152 (by decide) ?_
          refine wrld_21 zc hK hM (by unfold vp_in; decide) dX4_tell_153 ?_
          refine lv_topi (fun v_1 ev_1 => ?_)
          have hw := hw v_1 ev_1
          refine wrp_4_105_18 zc hK hM hS dX4_tell_154 (fun H locs hM hS => ?_)
          exact zret_vw ⟨lf_huts, lf_singers, lf_villages, lf_dams, lf_echoes, lf_deep, lf_slide, la_heights, la_ladders, la_minutes, la_echoFrom, la_echoTo, la_homes, la_talls, la_known, vf_deeds, va_kinds, va_firsts, va_seconds, sf_facts, sa_heard, sa_huts, sa_minutes, cf_voices, v_1, ca_parts, ca_heights, f_hutsToldOf, f_singersToldOf⟩ zc hS hw hM dX4_tell_157
        · have hw := hw.2 hc
          refine lv_aload_n hx hb dX4_tell_122 rfl (lv_at hl 0 rfl) ?_
          refine wrg_4_35_0 zc hK hM dX4_tell_123 ?_
          refine lv_aload_n hx hb dX4_tell_126 rfl (lv_at hl 0 rfl) ?_
          refine wrg_4_43_0 zc hK hM dX4_tell_127 ?_
          refine lv_iconst (v := (0 : Int32)) hx hb dX4_tell_130 (by decide) ?_
          refine wrld_21 zc hK hM (by unfold vp_in; decide) dX4_tell_131 ?_
          refine lv_aload_n hx hb dX4_tell_132 rfl (lv_at hl 0 rfl) ?_
          refine wrg_4_43_0 zc hK hM dX4_tell_133 ?_
          refine lv_iconst (v := (1 : Int32)) hx hb dX4_tell_136 (by decide) ?_
          refine wrld_21 zc hK hM (by unfold vp_in; decide) dX4_tell_137 ?_
          refine zVw_v [.int (a_numbers (Int32.toNatClampNeg (0 : Int32))), .int (a_numbers (Int32.toNatClampNeg (1 : Int32)))] [] zc ky_X0_tell kz_X0_tell km_4_158 (c_wr_X0_tell l hw) (wrPreV18 hK hM) hS rfl rfl hl.1 (Nat.le_of_ble_eq_true rfl) ⟨rfl, rfl⟩ ⟨Nat.le_of_ble_eq_true rfl, Nat.le_of_ble_eq_true rfl⟩ ⟨(Nat.zero_le _), (Nat.zero_le _)⟩ dX4_tell_138 (fun u H locs hw hM hS => ?_)
          obtain ⟨cf_voices_1, ca_parts_1, ca_heights_1⟩ := u
          refine lv_goto (tgt := 157) hx hb dX4_tell_141 (by decide) ?_
          exact zret_vw ⟨lf_huts, lf_singers, lf_villages, lf_dams, lf_echoes, lf_deep, lf_slide, la_heights, la_ladders, la_minutes, la_echoFrom, la_echoTo, la_homes, la_talls, la_known, vf_deeds, va_kinds, va_firsts, va_seconds, sf_facts, sa_heard, sa_huts, sa_minutes, cf_voices_1, cf_step, ca_parts_1, ca_heights_1, f_hutsToldOf, f_singersToldOf⟩ zc hS hw hM dX4_tell_157
      · have hw := hw.2 hc
        refine lv_aload_n hx hb dX4_tell_83 rfl (lv_at hl 0 rfl) ?_
        refine wrg_4_28_0 zc hK hM dX4_tell_84 ?_
        refine lv_iload_n hx hb dX4_tell_87 rfl (lv_at hl 1 rfl) ?_
        refine lv_bipush (v := (16 : Int32)) hx hb dX4_tell_88 (by decide) ?_
        refine lv_icmp_ne (tgt := 97) hx hb dX4_tell_90 (by decide) (fun hc => ?_) (fun hc => ?_)
        · have hw := hw.1 hc
          refine lv_iconst (v := (0 : Int32)) hx hb dX4_tell_97 (by decide) ?_
          exact t_wr_X4_tell_98 zc hK hM hZ hS  (lv_sub hl [0] rfl) hw
        · have hw := hw.2 hc
          refine lv_iconst (v := (1 : Int32)) hx hb dX4_tell_93 (by decide) ?_
          refine lv_goto (tgt := 98) hx hb dX4_tell_94 (by decide) ?_
          exact t_wr_X4_tell_98 zc hK hM hZ hS  (lv_sub hl [0] rfl) hw
    · have hw := hw.2 hc
      refine lv_aload_n hx hb dX4_tell_38 rfl (lv_at hl 0 rfl) ?_
      refine wrg_4_21_0 zc hK hM dX4_tell_39 ?_
      refine lv_iload_n hx hb dX4_tell_42 rfl (lv_at hl 1 rfl) ?_
      refine lv_bipush (v := (10 : Int32)) hx hb dX4_tell_43 (by decide) ?_
      refine lv_isub hx hb dX4_tell_45 ?_
      refine lv_aload_n hx hb dX4_tell_46 rfl (lv_at hl 0 rfl) ?_
      refine wrg_4_43_0 zc hK hM dX4_tell_47 ?_
      refine lv_iconst (v := (0 : Int32)) hx hb dX4_tell_50 (by decide) ?_
      refine wrld_21 zc hK hM (by unfold vp_in; decide) dX4_tell_51 ?_
      refine va_gets hx hb hZ.1.2.1 hS zc.2.2.2.1 (zc.2.2.2.2.1 _ kf_4_128) (fun _ h => h) dX4_tell_52 ?_
      refine lv_iload_n hx hb dX4_tell_55 rfl (lv_at hl 1 rfl) ?_
      refine va_ti hx hb hZ.2.1.2.1 hS hw.1 rfl dX4_tell_56 ?_
      have hw := hw.2
      refine lv_iconst (v := (1 : Int32)) hx hb dX4_tell_57 (by decide) ?_
      refine lv_icmp_le (tgt := 70) hx hb dX4_tell_58 (by decide) (fun hc => ?_) (fun hc => ?_)
      · have hw := hw.1 hc
        refine lv_iconst (v := (-1 : Int32)) hx hb dX4_tell_70 (by decide) ?_
        exact t_wr_X4_tell_71 zc hK hM hZ hS  (lv_sub hl [] rfl) hw
      · have hw := hw.2 hc
        refine lv_aload_n hx hb dX4_tell_61 rfl (lv_at hl 0 rfl) ?_
        refine wrg_4_43_0 zc hK hM dX4_tell_62 ?_
        refine lv_iconst (v := (1 : Int32)) hx hb dX4_tell_65 (by decide) ?_
        refine wrld_21 zc hK hM (by unfold vp_in; decide) dX4_tell_66 ?_
        refine lv_goto (tgt := 71) hx hb dX4_tell_67 (by decide) ?_
        exact t_wr_X4_tell_71 zc hK hM hZ hS  (lv_sub hl [] rfl) hw
  · have hw := hw.2 hc
    refine lv_aload_n hx hb dX4_tell_6 rfl (lv_at hl 0 rfl) ?_
    refine lv_iload_n hx hb dX4_tell_7 rfl (lv_at hl 1 rfl) ?_
    refine lv_aload_n hx hb dX4_tell_8 rfl (lv_at hl 0 rfl) ?_
    refine wrg_4_43_0 zc hK hM dX4_tell_9 ?_
    refine lv_iconst (v := (0 : Int32)) hx hb dX4_tell_12 (by decide) ?_
    refine wrld_21 zc hK hM (by unfold vp_in; decide) dX4_tell_13 ?_
    refine lv_aload_n hx hb dX4_tell_14 rfl (lv_at hl 0 rfl) ?_
    refine wrg_4_43_0 zc hK hM dX4_tell_15 ?_
    refine lv_iconst (v := (1 : Int32)) hx hb dX4_tell_18 (by decide) ?_
    refine wrld_21 zc hK hM (by unfold vp_in; decide) dX4_tell_19 ?_
    refine lv_aload_n hx hb dX4_tell_20 rfl (lv_at hl 0 rfl) ?_
    refine wrg_4_43_0 zc hK hM dX4_tell_21 ?_
    refine lv_iconst (v := (2 : Int32)) hx hb dX4_tell_24 (by decide) ?_
    refine wrld_21 zc hK hM (by unfold vp_in; decide) dX4_tell_25 ?_
    refine zVw_v [.int x1, .int (a_numbers (Int32.toNatClampNeg (0 : Int32))), .int (a_numbers (Int32.toNatClampNeg (1 : Int32))), .int (a_numbers (Int32.toNatClampNeg (2 : Int32)))] [] zc ky_X4_tellOfLand kz_X4_tellOfLand km_4_150 (c_wr_X4_tellOfLand l hw) (wrPreV0 hK hM) hS rfl rfl hl.1 (Nat.le_of_ble_eq_true rfl) ⟨rfl, rfl⟩ ⟨Nat.le_of_ble_eq_true rfl, Nat.le_of_ble_eq_true rfl⟩ ⟨(Nat.zero_le _), (Nat.zero_le _)⟩ dX4_tell_26 (fun u H locs hw hM hS => ?_)
    obtain ⟨lf_huts_1, lf_singers_1, lf_villages_1, lf_dams_1, lf_echoes_1, lf_deep_1, lf_slide_1, la_heights_1, la_ladders_1, la_minutes_1, la_echoFrom_1, la_echoTo_1, la_homes_1, la_talls_1, la_known_1, f_hutsToldOf_1, f_singersToldOf_1⟩ := u
    refine lv_goto (tgt := 157) hx hb dX4_tell_29 (by decide) ?_
    exact zret_vw ⟨lf_huts_1, lf_singers_1, lf_villages_1, lf_dams_1, lf_echoes_1, lf_deep_1, lf_slide_1, la_heights_1, la_ladders_1, la_minutes_1, la_echoFrom_1, la_echoTo_1, la_homes_1, la_talls_1, la_known_1, vf_deeds, va_kinds, va_firsts, va_seconds, sf_facts, sa_heard, sa_huts, sa_minutes, cf_voices, cf_step, ca_parts, ca_heights, f_hutsToldOf_1, f_singersToldOf_1⟩ zc hS hw hM dX4_tell_157
set_option maxRecDepth 20000 in
theorem c_wr_X4_tell (l : Launch) {G : zG} {E : zE} {qr qt : Nat} {lf_huts : Int32} {lf_singers : Int32} {lf_villages : Int32} {lf_dams : Int32} {lf_echoes : Int32} {lf_deep : Int32} {lf_slide : Int32} {la_heights : Nat → Int32} {la_ladders : Nat → Int32} {la_minutes : Nat → Int32} {la_echoFrom : Nat → Int32} {la_echoTo : Nat → Int32} {la_homes : Nat → Int32} {la_talls : Nat → Int32} {la_known : Nat → Int32} {vf_deeds : Int32} {va_kinds : Nat → Int32} {va_firsts : Nat → Int32} {va_seconds : Nat → Int32} {sf_facts : Int32} {sa_heard : Nat → Int32} {sa_huts : Nat → Int32} {sa_minutes : Nat → Int32} {cf_voices : Int32} {cf_step : Int32} {ca_parts : Nat → Int32} {ca_heights : Nat → Int32} {f_fault : Int32} {f_faultPlace : Int32} {a_numbers : Nat → Int32} {a_tape : Nat → Int32} {f_length : Int32} {f_behind : Int32} {f_kind : Int32} {f_first : Int32} {f_value : Int32} {f_hutsToldOf : Int32} {f_singersToldOf : Int32} {z_from : Nat → Int32} {x1 : Int32} {post : (Int32) → (Int32) → (Int32) → (Int32) → (Int32) → (Int32) → (Int32) → (Nat → Int32) → (Nat → Int32) → (Nat → Int32) → (Nat → Int32) → (Nat → Int32) → (Nat → Int32) → (Nat → Int32) → (Nat → Int32) → (Int32) → (Nat → Int32) → (Nat → Int32) → (Nat → Int32) → (Int32) → (Nat → Int32) → (Nat → Int32) → (Nat → Int32) → (Int32) → (Int32) → (Nat → Int32) → (Nat → Int32) → (Int32) → (Int32) → Prop} (hw : q_wr_X4_tell_0 lf_huts lf_singers lf_villages lf_dams lf_echoes lf_deep lf_slide la_heights la_ladders la_minutes la_echoFrom la_echoTo la_homes la_talls la_known vf_deeds va_kinds va_firsts va_seconds sf_facts sa_heard sa_huts sa_minutes cf_voices cf_step ca_parts ca_heights a_numbers f_hutsToldOf f_singersToldOf x1 post) : Met l yX4_tell (Cond.code yX4_tell cX4_tell 2 none :: zb) rm_wr_X4_tell (va_Pc [.ref qr, .int x1] (fun U => (wrW E qr qt lf_huts lf_singers lf_villages lf_dams lf_echoes lf_deep lf_slide la_heights la_ladders la_minutes la_echoFrom la_echoTo la_homes la_talls la_known vf_deeds va_kinds va_firsts va_seconds sf_facts sa_heard sa_huts sa_minutes cf_voices cf_step ca_parts ca_heights f_fault f_faultPlace a_numbers a_tape f_length f_behind f_kind f_first f_value f_hutsToldOf f_singersToldOf z_from U.heap ∧ zK E U) ∧ zZ G (wrA qr qt) U U.heap)) (zQv (S := (Int32) × (Int32) × (Int32) × (Int32) × (Int32) × (Int32) × (Int32) × (Nat → Int32) × (Nat → Int32) × (Nat → Int32) × (Nat → Int32) × (Nat → Int32) × (Nat → Int32) × (Nat → Int32) × (Nat → Int32) × (Int32) × (Nat → Int32) × (Nat → Int32) × (Nat → Int32) × (Int32) × (Nat → Int32) × (Nat → Int32) × (Nat → Int32) × (Int32) × (Int32) × (Nat → Int32) × (Nat → Int32) × (Int32) × (Int32)) (fun u => post u.1 u.2.1 u.2.2.1 u.2.2.2.1 u.2.2.2.2.1 u.2.2.2.2.2.1 u.2.2.2.2.2.2.1 u.2.2.2.2.2.2.2.1 u.2.2.2.2.2.2.2.2.1 u.2.2.2.2.2.2.2.2.2.1 u.2.2.2.2.2.2.2.2.2.2.1 u.2.2.2.2.2.2.2.2.2.2.2.1 u.2.2.2.2.2.2.2.2.2.2.2.2.1 u.2.2.2.2.2.2.2.2.2.2.2.2.2.1 u.2.2.2.2.2.2.2.2.2.2.2.2.2.2.1 u.2.2.2.2.2.2.2.2.2.2.2.2.2.2.2.1 u.2.2.2.2.2.2.2.2.2.2.2.2.2.2.2.2.1 u.2.2.2.2.2.2.2.2.2.2.2.2.2.2.2.2.2.1 u.2.2.2.2.2.2.2.2.2.2.2.2.2.2.2.2.2.2.1 u.2.2.2.2.2.2.2.2.2.2.2.2.2.2.2.2.2.2.2.1 u.2.2.2.2.2.2.2.2.2.2.2.2.2.2.2.2.2.2.2.2.1 u.2.2.2.2.2.2.2.2.2.2.2.2.2.2.2.2.2.2.2.2.2.1 u.2.2.2.2.2.2.2.2.2.2.2.2.2.2.2.2.2.2.2.2.2.2.1 u.2.2.2.2.2.2.2.2.2.2.2.2.2.2.2.2.2.2.2.2.2.2.2.1 u.2.2.2.2.2.2.2.2.2.2.2.2.2.2.2.2.2.2.2.2.2.2.2.2.1 u.2.2.2.2.2.2.2.2.2.2.2.2.2.2.2.2.2.2.2.2.2.2.2.2.2.1 u.2.2.2.2.2.2.2.2.2.2.2.2.2.2.2.2.2.2.2.2.2.2.2.2.2.2.1 u.2.2.2.2.2.2.2.2.2.2.2.2.2.2.2.2.2.2.2.2.2.2.2.2.2.2.2.1 u.2.2.2.2.2.2.2.2.2.2.2.2.2.2.2.2.2.2.2.2.2.2.2.2.2.2.2.2) (fun u H => wrW E qr qt u.1 u.2.1 u.2.2.1 u.2.2.2.1 u.2.2.2.2.1 u.2.2.2.2.2.1 u.2.2.2.2.2.2.1 u.2.2.2.2.2.2.2.1 u.2.2.2.2.2.2.2.2.1 u.2.2.2.2.2.2.2.2.2.1 u.2.2.2.2.2.2.2.2.2.2.1 u.2.2.2.2.2.2.2.2.2.2.2.1 u.2.2.2.2.2.2.2.2.2.2.2.2.1 u.2.2.2.2.2.2.2.2.2.2.2.2.2.1 u.2.2.2.2.2.2.2.2.2.2.2.2.2.2.1 u.2.2.2.2.2.2.2.2.2.2.2.2.2.2.2.1 u.2.2.2.2.2.2.2.2.2.2.2.2.2.2.2.2.1 u.2.2.2.2.2.2.2.2.2.2.2.2.2.2.2.2.2.1 u.2.2.2.2.2.2.2.2.2.2.2.2.2.2.2.2.2.2.1 u.2.2.2.2.2.2.2.2.2.2.2.2.2.2.2.2.2.2.2.1 u.2.2.2.2.2.2.2.2.2.2.2.2.2.2.2.2.2.2.2.2.1 u.2.2.2.2.2.2.2.2.2.2.2.2.2.2.2.2.2.2.2.2.2.1 u.2.2.2.2.2.2.2.2.2.2.2.2.2.2.2.2.2.2.2.2.2.2.1 u.2.2.2.2.2.2.2.2.2.2.2.2.2.2.2.2.2.2.2.2.2.2.2.1 u.2.2.2.2.2.2.2.2.2.2.2.2.2.2.2.2.2.2.2.2.2.2.2.2.1 u.2.2.2.2.2.2.2.2.2.2.2.2.2.2.2.2.2.2.2.2.2.2.2.2.2.1 u.2.2.2.2.2.2.2.2.2.2.2.2.2.2.2.2.2.2.2.2.2.2.2.2.2.2.1 f_fault f_faultPlace a_numbers a_tape f_length f_behind f_kind f_first f_value u.2.2.2.2.2.2.2.2.2.2.2.2.2.2.2.2.2.2.2.2.2.2.2.2.2.2.2.1 u.2.2.2.2.2.2.2.2.2.2.2.2.2.2.2.2.2.2.2.2.2.2.2.2.2.2.2.2 z_from H) (wrA qr qt)) 0 0 (wrA qr qt) := by
  refine Met.ofW (cc := cX4_tell) (maxL := 2) (ret := none) (by decide) rfl ?_
  intro p e s m args below meth c s₁ B hml hv
  obtain ⟨rfl, ⟨hM, hK⟩, hZ⟩ := hv
  have zc := zc_of B hml
  have hl := lv_entry ([.ref qr, .int x1]) (n := 2) (Nat.le_of_ble_eq_true rfl)
  rw [lg_entry_eq]
  generalize (lg_sl ([.ref qr, .int x1]) ++ List.replicate (2 - (lg_sl ([.ref qr, .int x1])).length) Slot.unset).toArray = ls at hl ⊢
  have hl : lv_has ls 2 [(0, .ref qr), (1, .int x1)] := hl
  exact t_wr_X4_tell_0 zc hK hM hZ va_S.rf (lv_sub hl [0, 1] rfl) hw
end
section
-- wr_X4_refuse
abbrev rm_wr_X4_refuse : Room := { frames := 0, cells := 0, slots := 0, locals := 0 }
def q_wr_X4_refuse_0 (f_fault : Int32) (f_faultPlace : Int32) (f_first : Int32) (post : (Int32) → (Int32) → Prop) : Prop :=
  post (1 : Int32) f_first
set_option maxRecDepth 20000 in
theorem t_wr_X4_refuse_0 {p : Program} {l : Launch} {e : Env} {s : State} {m : MethodId} {args : Array Value} {below : List Frame} {meth : Method} {c : Code} {E : zE} {qr qt : Nat} {lf_huts : Int32} {lf_singers : Int32} {lf_villages : Int32} {lf_dams : Int32} {lf_echoes : Int32} {lf_deep : Int32} {lf_slide : Int32} {la_heights : Nat → Int32} {la_ladders : Nat → Int32} {la_minutes : Nat → Int32} {la_echoFrom : Nat → Int32} {la_echoTo : Nat → Int32} {la_homes : Nat → Int32} {la_talls : Nat → Int32} {la_known : Nat → Int32} {vf_deeds : Int32} {va_kinds : Nat → Int32} {va_firsts : Nat → Int32} {va_seconds : Nat → Int32} {sf_facts : Int32} {sa_heard : Nat → Int32} {sa_huts : Nat → Int32} {sa_minutes : Nat → Int32} {cf_voices : Int32} {cf_step : Int32} {ca_parts : Nat → Int32} {ca_heights : Nat → Int32} {f_fault : Int32} {f_faultPlace : Int32} {a_numbers : Nat → Int32} {a_tape : Nat → Int32} {f_length : Int32} {f_behind : Int32} {f_kind : Int32} {f_first : Int32} {f_value : Int32} {f_hutsToldOf : Int32} {f_singersToldOf : Int32} {z_from : Nat → Int32} {post : (Int32) → (Int32) → Prop} {ls : Array Slot} {H : Heap} {locs : List Loc}
    (zc : zC p s m args meth c cX4_refuse 1 RX4 none)
    (hK : zK E s)
    (hM : wrW E qr qt lf_huts lf_singers lf_villages lf_dams lf_echoes lf_deep lf_slide la_heights la_ladders la_minutes la_echoFrom la_echoTo la_homes la_talls la_known vf_deeds va_kinds va_firsts va_seconds sf_facts sa_heard sa_huts sa_minutes cf_voices cf_step ca_parts ca_heights f_fault f_faultPlace a_numbers a_tape f_length f_behind f_kind f_first f_value f_hutsToldOf f_singersToldOf z_from H)
    (hS : va_S (wrA qr qt) s.heap H locs)
    (hl : lv_has ls 1 [(0, .ref qr)])
    (hw : q_wr_X4_refuse_0 f_fault f_faultPlace f_first post) :
    W p l e rm_wr_X4_refuse s m args below meth c H locs 0 0 (MQ below (zQv (S := (Int32) × (Int32)) (fun u => post u.1 u.2) (fun u H => wrW E qr qt lf_huts lf_singers lf_villages lf_dams lf_echoes lf_deep lf_slide la_heights la_ladders la_minutes la_echoFrom la_echoTo la_homes la_talls la_known vf_deeds va_kinds va_firsts va_seconds sf_facts sa_heard sa_huts sa_minutes cf_voices cf_step ca_parts ca_heights u.1 u.2 a_numbers a_tape f_length f_behind f_kind f_first f_value f_hutsToldOf f_singersToldOf z_from H) (wrA qr qt)) args s 0 0 (wrA qr qt)) (F0 m 0 ls []) := by
  have hx := zc.1
  have hb := zc.2.1
  refine lv_aload_n hx hb dX4_refuse_0 rfl (lv_at hl 0 rfl) ?_
  refine lv_iconst (v := (1 : Int32)) hx hb dX4_refuse_1 (by decide) ?_
  refine wrp_4_63_0 zc hK hM hS dX4_refuse_2 (fun H locs hM hS => ?_)
  refine lv_aload_n hx hb dX4_refuse_5 rfl (lv_at hl 0 rfl) ?_
  refine lv_aload_n hx hb dX4_refuse_6 rfl (lv_at hl 0 rfl) ?_
  refine wrg_4_125_0 zc hK hM dX4_refuse_7 ?_
  refine wrp_4_39_0 zc hK hM hS dX4_refuse_10 (fun H locs hM hS => ?_)
  exact zret_vw ⟨(1 : Int32), f_first⟩ zc hS hw hM dX4_refuse_13
set_option maxRecDepth 20000 in
theorem c_wr_X4_refuse (l : Launch) {E : zE} {qr qt : Nat} {lf_huts : Int32} {lf_singers : Int32} {lf_villages : Int32} {lf_dams : Int32} {lf_echoes : Int32} {lf_deep : Int32} {lf_slide : Int32} {la_heights : Nat → Int32} {la_ladders : Nat → Int32} {la_minutes : Nat → Int32} {la_echoFrom : Nat → Int32} {la_echoTo : Nat → Int32} {la_homes : Nat → Int32} {la_talls : Nat → Int32} {la_known : Nat → Int32} {vf_deeds : Int32} {va_kinds : Nat → Int32} {va_firsts : Nat → Int32} {va_seconds : Nat → Int32} {sf_facts : Int32} {sa_heard : Nat → Int32} {sa_huts : Nat → Int32} {sa_minutes : Nat → Int32} {cf_voices : Int32} {cf_step : Int32} {ca_parts : Nat → Int32} {ca_heights : Nat → Int32} {f_fault : Int32} {f_faultPlace : Int32} {a_numbers : Nat → Int32} {a_tape : Nat → Int32} {f_length : Int32} {f_behind : Int32} {f_kind : Int32} {f_first : Int32} {f_value : Int32} {f_hutsToldOf : Int32} {f_singersToldOf : Int32} {z_from : Nat → Int32} {post : (Int32) → (Int32) → Prop} (hw : q_wr_X4_refuse_0 f_fault f_faultPlace f_first post) : Met l yX4_refuse (Cond.code yX4_refuse cX4_refuse 1 none :: zb) rm_wr_X4_refuse (va_Pc [.ref qr] (fun U => wrW E qr qt lf_huts lf_singers lf_villages lf_dams lf_echoes lf_deep lf_slide la_heights la_ladders la_minutes la_echoFrom la_echoTo la_homes la_talls la_known vf_deeds va_kinds va_firsts va_seconds sf_facts sa_heard sa_huts sa_minutes cf_voices cf_step ca_parts ca_heights f_fault f_faultPlace a_numbers a_tape f_length f_behind f_kind f_first f_value f_hutsToldOf f_singersToldOf z_from U.heap ∧ zK E U)) (zQv (S := (Int32) × (Int32)) (fun u => post u.1 u.2) (fun u H => wrW E qr qt lf_huts lf_singers lf_villages lf_dams lf_echoes lf_deep lf_slide la_heights la_ladders la_minutes la_echoFrom la_echoTo la_homes la_talls la_known vf_deeds va_kinds va_firsts va_seconds sf_facts sa_heard sa_huts sa_minutes cf_voices cf_step ca_parts ca_heights u.1 u.2 a_numbers a_tape f_length f_behind f_kind f_first f_value f_hutsToldOf f_singersToldOf z_from H) (wrA qr qt)) 0 0 (wrA qr qt) := by
  refine Met.ofW (cc := cX4_refuse) (maxL := 1) (ret := none) (by decide) rfl ?_
  intro p e s m args below meth c s₁ B hml hv
  obtain ⟨rfl, hM, hK⟩ := hv
  have zc := zc_of B hml
  have hl := lv_entry ([.ref qr]) (n := 1) (Nat.le_of_ble_eq_true rfl)
  rw [lg_entry_eq]
  generalize (lg_sl ([.ref qr]) ++ List.replicate (1 - (lg_sl ([.ref qr])).length) Slot.unset).toArray = ls at hl ⊢
  have hl : lv_has ls 1 [(0, .ref qr)] := hl
  exact t_wr_X4_refuse_0 zc hK hM va_S.rf (lv_sub hl [0] rfl) hw
-- wr_X4_canBe
abbrev rm_wr_X4_canBe : Room := { frames := 0, cells := 0, slots := 0, locals := 0 }
def q_wr_X4_canBe_67 (a_numbers : Nat → Int32) (post : Int32 → Prop) : Prop :=
  post (1 : Int32)
def q_wr_X4_canBe_52 (a_numbers : Nat → Int32) (post : Int32 → Prop) : Prop :=
  ((a_numbers (Int32.toNatClampNeg (1 : Int32))) = (a_numbers (Int32.toNatClampNeg (0 : Int32))) → (post (0 : Int32))) ∧ (¬ (a_numbers (Int32.toNatClampNeg (1 : Int32))) = (a_numbers (Int32.toNatClampNeg (0 : Int32))) → (q_wr_X4_canBe_67 a_numbers post))
def q_wr_X4_canBe_0 (a_numbers : Nat → Int32) (x1 : Int32) (x2 : Int32) (post : Int32 → Prop) : Prop :=
  ∀ v_1 : Int32, v_1 = ((x1 * (3 : Int32)) + x2) → (vp_in x2 3 ∧ (vp_in v_1 60 ∧ (((a_numbers (Int32.toNatClampNeg x2)) < (tbf_2 (Int32.toNatClampNeg v_1)) → (post (0 : Int32))) ∧ (¬ (a_numbers (Int32.toNatClampNeg x2)) < (tbf_2 (Int32.toNatClampNeg v_1)) → (vp_in x2 3 ∧ (vp_in v_1 60 ∧ (((a_numbers (Int32.toNatClampNeg x2)) ≤ (tbf_3 (Int32.toNatClampNeg v_1)) → ((¬ x2 = (1 : Int32) → (q_wr_X4_canBe_67 a_numbers post)) ∧ (x2 = (1 : Int32) → ((x1 = (5 : Int32) → (q_wr_X4_canBe_52 a_numbers post)) ∧ (¬ x1 = (5 : Int32) → ((¬ x1 = (6 : Int32) → (q_wr_X4_canBe_67 a_numbers post)) ∧ (x1 = (6 : Int32) → (q_wr_X4_canBe_52 a_numbers post)))))))) ∧ (¬ (a_numbers (Int32.toNatClampNeg x2)) ≤ (tbf_3 (Int32.toNatClampNeg v_1)) → (post (0 : Int32))))))))))
set_option maxRecDepth 20000 in
theorem t_wr_X4_canBe_67 {p : Program} {l : Launch} {e : Env} {s : State} {m : MethodId} {args : Array Value} {below : List Frame} {meth : Method} {c : Code} {G : zG} {E : zE} {qr qt : Nat} {lf_huts : Int32} {lf_singers : Int32} {lf_villages : Int32} {lf_dams : Int32} {lf_echoes : Int32} {lf_deep : Int32} {lf_slide : Int32} {la_heights : Nat → Int32} {la_ladders : Nat → Int32} {la_minutes : Nat → Int32} {la_echoFrom : Nat → Int32} {la_echoTo : Nat → Int32} {la_homes : Nat → Int32} {la_talls : Nat → Int32} {la_known : Nat → Int32} {vf_deeds : Int32} {va_kinds : Nat → Int32} {va_firsts : Nat → Int32} {va_seconds : Nat → Int32} {sf_facts : Int32} {sa_heard : Nat → Int32} {sa_huts : Nat → Int32} {sa_minutes : Nat → Int32} {cf_voices : Int32} {cf_step : Int32} {ca_parts : Nat → Int32} {ca_heights : Nat → Int32} {f_fault : Int32} {f_faultPlace : Int32} {a_numbers : Nat → Int32} {a_tape : Nat → Int32} {f_length : Int32} {f_behind : Int32} {f_kind : Int32} {f_first : Int32} {f_value : Int32} {f_hutsToldOf : Int32} {f_singersToldOf : Int32} {z_from : Nat → Int32} {post : Int32 → Prop} {ls : Array Slot}
    (zc : zC p s m args meth c cX4_canBe 4 RX4 (some .boolean))
    (hK : zK E s)
    (hM : wrW E qr qt lf_huts lf_singers lf_villages lf_dams lf_echoes lf_deep lf_slide la_heights la_ladders la_minutes la_echoFrom la_echoTo la_homes la_talls la_known vf_deeds va_kinds va_firsts va_seconds sf_facts sa_heard sa_huts sa_minutes cf_voices cf_step ca_parts ca_heights f_fault f_faultPlace a_numbers a_tape f_length f_behind f_kind f_first f_value f_hutsToldOf f_singersToldOf z_from s.heap)
    (hZ : zZ G (wrA qr qt) s s.heap)
    (hl : lv_has ls 4 [])
    (hw : q_wr_X4_canBe_67 a_numbers post) :
    W p l e rm_wr_X4_canBe s m args below meth c s.heap [] 0 0 (MQ below (vp_Si post) args s 0 0 (fun _ => False)) (F0 m 67 ls []) := by
  have hx := zc.1
  have hb := zc.2.1
  refine lv_iconst (v := (1 : Int32)) hx hb dX4_canBe_67 (by decide) ?_
  refine lv_goto (tgt := 72) hx hb dX4_canBe_68 (by decide) ?_
  exact zret_z zc rfl hw dX4_canBe_72
set_option maxRecDepth 20000 in
theorem t_wr_X4_canBe_52 {p : Program} {l : Launch} {e : Env} {s : State} {m : MethodId} {args : Array Value} {below : List Frame} {meth : Method} {c : Code} {G : zG} {E : zE} {qr qt : Nat} {lf_huts : Int32} {lf_singers : Int32} {lf_villages : Int32} {lf_dams : Int32} {lf_echoes : Int32} {lf_deep : Int32} {lf_slide : Int32} {la_heights : Nat → Int32} {la_ladders : Nat → Int32} {la_minutes : Nat → Int32} {la_echoFrom : Nat → Int32} {la_echoTo : Nat → Int32} {la_homes : Nat → Int32} {la_talls : Nat → Int32} {la_known : Nat → Int32} {vf_deeds : Int32} {va_kinds : Nat → Int32} {va_firsts : Nat → Int32} {va_seconds : Nat → Int32} {sf_facts : Int32} {sa_heard : Nat → Int32} {sa_huts : Nat → Int32} {sa_minutes : Nat → Int32} {cf_voices : Int32} {cf_step : Int32} {ca_parts : Nat → Int32} {ca_heights : Nat → Int32} {f_fault : Int32} {f_faultPlace : Int32} {a_numbers : Nat → Int32} {a_tape : Nat → Int32} {f_length : Int32} {f_behind : Int32} {f_kind : Int32} {f_first : Int32} {f_value : Int32} {f_hutsToldOf : Int32} {f_singersToldOf : Int32} {z_from : Nat → Int32} {post : Int32 → Prop} {ls : Array Slot}
    (zc : zC p s m args meth c cX4_canBe 4 RX4 (some .boolean))
    (hK : zK E s)
    (hM : wrW E qr qt lf_huts lf_singers lf_villages lf_dams lf_echoes lf_deep lf_slide la_heights la_ladders la_minutes la_echoFrom la_echoTo la_homes la_talls la_known vf_deeds va_kinds va_firsts va_seconds sf_facts sa_heard sa_huts sa_minutes cf_voices cf_step ca_parts ca_heights f_fault f_faultPlace a_numbers a_tape f_length f_behind f_kind f_first f_value f_hutsToldOf f_singersToldOf z_from s.heap)
    (hZ : zZ G (wrA qr qt) s s.heap)
    (hl : lv_has ls 4 [(0, .ref qr)])
    (hw : q_wr_X4_canBe_52 a_numbers post) :
    W p l e rm_wr_X4_canBe s m args below meth c s.heap [] 0 0 (MQ below (vp_Si post) args s 0 0 (fun _ => False)) (F0 m 52 ls []) := by
  have hx := zc.1
  have hb := zc.2.1
  refine lv_aload_n hx hb dX4_canBe_52 rfl (lv_at hl 0 rfl) ?_
  refine wrg_4_43_0 zc hK hM dX4_canBe_53 ?_
  refine lv_iconst (v := (1 : Int32)) hx hb dX4_canBe_56 (by decide) ?_
  refine wrld_21 zc hK hM (by unfold vp_in; decide) dX4_canBe_57 ?_
  refine lv_aload_n hx hb dX4_canBe_58 rfl (lv_at hl 0 rfl) ?_
  refine wrg_4_43_0 zc hK hM dX4_canBe_59 ?_
  refine lv_iconst (v := (0 : Int32)) hx hb dX4_canBe_62 (by decide) ?_
  refine wrld_21 zc hK hM (by unfold vp_in; decide) dX4_canBe_63 ?_
  refine lv_icmp_eq (tgt := 71) hx hb dX4_canBe_64 (by decide) (fun hc => ?_) (fun hc => ?_)
  · have hw := hw.1 hc
    refine lv_iconst (v := (0 : Int32)) hx hb dX4_canBe_71 (by decide) ?_
    exact zret_z zc rfl hw dX4_canBe_72
  · have hw := hw.2 hc
    exact t_wr_X4_canBe_67 zc hK hM hZ  (lv_sub hl [] rfl) hw
set_option maxRecDepth 20000 in
theorem t_wr_X4_canBe_0 {p : Program} {l : Launch} {e : Env} {s : State} {m : MethodId} {args : Array Value} {below : List Frame} {meth : Method} {c : Code} {G : zG} {E : zE} {qr qt : Nat} {lf_huts : Int32} {lf_singers : Int32} {lf_villages : Int32} {lf_dams : Int32} {lf_echoes : Int32} {lf_deep : Int32} {lf_slide : Int32} {la_heights : Nat → Int32} {la_ladders : Nat → Int32} {la_minutes : Nat → Int32} {la_echoFrom : Nat → Int32} {la_echoTo : Nat → Int32} {la_homes : Nat → Int32} {la_talls : Nat → Int32} {la_known : Nat → Int32} {vf_deeds : Int32} {va_kinds : Nat → Int32} {va_firsts : Nat → Int32} {va_seconds : Nat → Int32} {sf_facts : Int32} {sa_heard : Nat → Int32} {sa_huts : Nat → Int32} {sa_minutes : Nat → Int32} {cf_voices : Int32} {cf_step : Int32} {ca_parts : Nat → Int32} {ca_heights : Nat → Int32} {f_fault : Int32} {f_faultPlace : Int32} {a_numbers : Nat → Int32} {a_tape : Nat → Int32} {f_length : Int32} {f_behind : Int32} {f_kind : Int32} {f_first : Int32} {f_value : Int32} {f_hutsToldOf : Int32} {f_singersToldOf : Int32} {z_from : Nat → Int32} {post : Int32 → Prop} {x1 : Int32} {x2 : Int32} {ls : Array Slot}
    (zc : zC p s m args meth c cX4_canBe 4 RX4 (some .boolean))
    (hK : zK E s)
    (hM : wrW E qr qt lf_huts lf_singers lf_villages lf_dams lf_echoes lf_deep lf_slide la_heights la_ladders la_minutes la_echoFrom la_echoTo la_homes la_talls la_known vf_deeds va_kinds va_firsts va_seconds sf_facts sa_heard sa_huts sa_minutes cf_voices cf_step ca_parts ca_heights f_fault f_faultPlace a_numbers a_tape f_length f_behind f_kind f_first f_value f_hutsToldOf f_singersToldOf z_from s.heap)
    (hZ : zZ G (wrA qr qt) s s.heap)
    (hl : lv_has ls 4 [(0, .ref qr), (1, .int x1), (2, .int x2)])
    (hw : q_wr_X4_canBe_0 a_numbers x1 x2 post) :
    W p l e rm_wr_X4_canBe s m args below meth c s.heap [] 0 0 (MQ below (vp_Si post) args s 0 0 (fun _ => False)) (F0 m 0 ls []) := by
  have hx := zc.1
  have hb := zc.2.1
  refine lv_iload_n hx hb dX4_canBe_0 rfl (lv_at hl 1 rfl) ?_
  refine lv_iconst (v := (3 : Int32)) hx hb dX4_canBe_1 (by decide) ?_
  refine lv_imul hx hb dX4_canBe_2 ?_
  refine lv_iload_n hx hb dX4_canBe_3 rfl (lv_at hl 2 rfl) ?_
  refine lv_iadd hx hb dX4_canBe_4 ?_
  refine lv_topi (fun v_1 ev_1 => ?_)
  have hw := hw v_1 ev_1
  refine lv_istore_n (lv' := [(3, .int v_1), (0, .ref qr), (1, .int x1), (2, .int x2)]) hx hb dX4_canBe_5 rfl hl (by decide) rfl (fun ls hl => ?_)
  refine lv_aload_n hx hb dX4_canBe_6 rfl (lv_at hl 1 rfl) ?_
  refine wrg_4_43_0 zc hK hM dX4_canBe_7 ?_
  refine lv_iload_n hx hb dX4_canBe_10 rfl (lv_at hl 3 rfl) ?_
  refine wrld_21 zc hK hM hw.1 dX4_canBe_11 ?_
  have hw := hw.2
  refine va_gets hx hb hZ.1.2.2.1 va_S.rf zc.2.2.2.1 (zc.2.2.2.2.1 _ kf_4_144) (fun _ h => h) dX4_canBe_12 ?_
  refine lv_iload_n hx hb dX4_canBe_15 rfl (lv_at hl 0 rfl) ?_
  refine va_ti hx hb hZ.2.1.2.2.1 va_S.rf hw.1 rfl dX4_canBe_16 ?_
  have hw := hw.2
  refine lv_icmp_lt (tgt := 34) hx hb dX4_canBe_17 (by decide) (fun hc => ?_) (fun hc => ?_)
  · have hw := hw.1 hc
    refine lv_iconst (v := (0 : Int32)) hx hb dX4_canBe_34 (by decide) ?_
    exact zret_z zc rfl hw dX4_canBe_35
  · have hw := hw.2 hc
    refine lv_aload_n hx hb dX4_canBe_20 rfl (lv_at hl 1 rfl) ?_
    refine wrg_4_43_0 zc hK hM dX4_canBe_21 ?_
    refine lv_iload_n hx hb dX4_canBe_24 rfl (lv_at hl 3 rfl) ?_
    refine wrld_21 zc hK hM hw.1 dX4_canBe_25 ?_
    have hw := hw.2
    refine va_gets hx hb hZ.1.2.2.2 va_S.rf zc.2.2.2.1 (zc.2.2.2.2.1 _ kf_4_147) (fun _ h => h) dX4_canBe_26 ?_
    refine lv_iload_n hx hb dX4_canBe_29 rfl (lv_at hl 0 rfl) ?_
    refine va_ti hx hb hZ.2.1.2.2.2 va_S.rf hw.1 rfl dX4_canBe_30 ?_
    have hw := hw.2
    refine lv_icmp_le (tgt := 36) hx hb dX4_canBe_31 (by decide) (fun hc => ?_) (fun hc => ?_)
    · have hw := hw.1 hc
      refine lv_iload_n hx hb dX4_canBe_36 rfl (lv_at hl 3 rfl) ?_
      refine lv_iconst (v := (1 : Int32)) hx hb dX4_canBe_37 (by decide) ?_
      refine lv_icmp_ne (tgt := 67) hx hb dX4_canBe_38 (by decide) (fun hc => ?_) (fun hc => ?_)
      · have hw := hw.1 hc
        exact t_wr_X4_canBe_67 zc hK hM hZ  (lv_sub hl [] rfl) hw
      · have hw := hw.2 hc
        refine lv_iload_n hx hb dX4_canBe_41 rfl (lv_at hl 2 rfl) ?_
        refine lv_iconst (v := (5 : Int32)) hx hb dX4_canBe_42 (by decide) ?_
        refine lv_icmp_eq (tgt := 52) hx hb dX4_canBe_43 (by decide) (fun hc => ?_) (fun hc => ?_)
        · have hw := hw.1 hc
          exact t_wr_X4_canBe_52 zc hK hM hZ  (lv_sub hl [1] rfl) hw
        · have hw := hw.2 hc
          refine lv_iload_n hx hb dX4_canBe_46 rfl (lv_at hl 2 rfl) ?_
          refine lv_bipush (v := (6 : Int32)) hx hb dX4_canBe_47 (by decide) ?_
          refine lv_icmp_ne (tgt := 67) hx hb dX4_canBe_49 (by decide) (fun hc => ?_) (fun hc => ?_)
          · have hw := hw.1 hc
            exact t_wr_X4_canBe_67 zc hK hM hZ  (lv_sub hl [] rfl) hw
          · have hw := hw.2 hc
            exact t_wr_X4_canBe_52 zc hK hM hZ  (lv_sub hl [1] rfl) hw
    · have hw := hw.2 hc
      refine lv_iconst (v := (0 : Int32)) hx hb dX4_canBe_34 (by decide) ?_
      exact zret_z zc rfl hw dX4_canBe_35
set_option maxRecDepth 20000 in
theorem c_wr_X4_canBe (l : Launch) {G : zG} {E : zE} {qr qt : Nat} {lf_huts : Int32} {lf_singers : Int32} {lf_villages : Int32} {lf_dams : Int32} {lf_echoes : Int32} {lf_deep : Int32} {lf_slide : Int32} {la_heights : Nat → Int32} {la_ladders : Nat → Int32} {la_minutes : Nat → Int32} {la_echoFrom : Nat → Int32} {la_echoTo : Nat → Int32} {la_homes : Nat → Int32} {la_talls : Nat → Int32} {la_known : Nat → Int32} {vf_deeds : Int32} {va_kinds : Nat → Int32} {va_firsts : Nat → Int32} {va_seconds : Nat → Int32} {sf_facts : Int32} {sa_heard : Nat → Int32} {sa_huts : Nat → Int32} {sa_minutes : Nat → Int32} {cf_voices : Int32} {cf_step : Int32} {ca_parts : Nat → Int32} {ca_heights : Nat → Int32} {f_fault : Int32} {f_faultPlace : Int32} {a_numbers : Nat → Int32} {a_tape : Nat → Int32} {f_length : Int32} {f_behind : Int32} {f_kind : Int32} {f_first : Int32} {f_value : Int32} {f_hutsToldOf : Int32} {f_singersToldOf : Int32} {z_from : Nat → Int32} {x1 : Int32} {x2 : Int32} {post : Int32 → Prop} (hw : q_wr_X4_canBe_0 a_numbers x1 x2 post) : Met l yX4_canBe (Cond.code yX4_canBe cX4_canBe 4 (some .boolean) :: zb) rm_wr_X4_canBe (va_Pc [.ref qr, .int x1, .int x2] (fun U => (wrW E qr qt lf_huts lf_singers lf_villages lf_dams lf_echoes lf_deep lf_slide la_heights la_ladders la_minutes la_echoFrom la_echoTo la_homes la_talls la_known vf_deeds va_kinds va_firsts va_seconds sf_facts sa_heard sa_huts sa_minutes cf_voices cf_step ca_parts ca_heights f_fault f_faultPlace a_numbers a_tape f_length f_behind f_kind f_first f_value f_hutsToldOf f_singersToldOf z_from U.heap ∧ zK E U) ∧ zZ G (wrA qr qt) U U.heap)) (vp_Si post) 0 0 (fun _ => False) := by
  refine Met.ofW (cc := cX4_canBe) (maxL := 4) (ret := (some .boolean)) (by decide) rfl ?_
  intro p e s m args below meth c s₁ B hml hv
  obtain ⟨rfl, ⟨hM, hK⟩, hZ⟩ := hv
  have zc := zc_of B hml
  have hl := lv_entry ([.ref qr, .int x1, .int x2]) (n := 4) (Nat.le_of_ble_eq_true rfl)
  rw [lg_entry_eq]
  generalize (lg_sl ([.ref qr, .int x1, .int x2]) ++ List.replicate (4 - (lg_sl ([.ref qr, .int x1, .int x2])).length) Slot.unset).toArray = ls at hl ⊢
  have hl : lv_has ls 4 [(0, .ref qr), (1, .int x1), (2, .int x2)] := hl
  exact t_wr_X4_canBe_0 zc hK hM hZ (lv_sub hl [0, 1, 2] rfl) hw
-- wr_X4_readLine
abbrev rm_wr_X4_readLine : Room := { frames := 6, cells := 0, slots := 0, locals := 173 }
def q_wr_X4_readLine_124 (lf_huts : Int32) (lf_singers : Int32) (lf_villages : Int32) (lf_dams : Int32) (lf_echoes : Int32) (lf_deep : Int32) (lf_slide : Int32) (la_heights : Nat → Int32) (la_ladders : Nat → Int32) (la_minutes : Nat → Int32) (la_echoFrom : Nat → Int32) (la_echoTo : Nat → Int32) (la_homes : Nat → Int32) (la_talls : Nat → Int32) (la_known : Nat → Int32) (vf_deeds : Int32) (va_kinds : Nat → Int32) (va_firsts : Nat → Int32) (va_seconds : Nat → Int32) (sf_facts : Int32) (sa_heard : Nat → Int32) (sa_huts : Nat → Int32) (sa_minutes : Nat → Int32) (cf_voices : Int32) (cf_step : Int32) (ca_parts : Nat → Int32) (ca_heights : Nat → Int32) (f_fault : Int32) (f_faultPlace : Int32) (a_numbers : Nat → Int32) (a_tape : Nat → Int32) (f_length : Int32) (f_behind : Int32) (f_kind : Int32) (f_first : Int32) (f_value : Int32) (f_hutsToldOf : Int32) (f_singersToldOf : Int32) (post : (Int32) → (Int32) → (Int32) → (Int32) → (Int32) → (Int32) → (Int32) → (Nat → Int32) → (Nat → Int32) → (Nat → Int32) → (Nat → Int32) → (Nat → Int32) → (Nat → Int32) → (Nat → Int32) → (Nat → Int32) → (Int32) → (Nat → Int32) → (Nat → Int32) → (Nat → Int32) → (Int32) → (Nat → Int32) → (Nat → Int32) → (Nat → Int32) → (Int32) → (Int32) → (Nat → Int32) → (Nat → Int32) → (Int32) → (Int32) → (Nat → Int32) → (Int32) → (Int32) → (Int32) → (Int32) → (Int32) → (Int32) → Prop) : Prop :=
  q_wr_X4_advance_0 a_tape f_length f_behind f_kind f_first f_value (fun f_behind_1 f_kind_1 f_first_1 f_value_1 => post lf_huts lf_singers lf_villages lf_dams lf_echoes lf_deep lf_slide la_heights la_ladders la_minutes la_echoFrom la_echoTo la_homes la_talls la_known vf_deeds va_kinds va_firsts va_seconds sf_facts sa_heard sa_huts sa_minutes cf_voices cf_step ca_parts ca_heights f_fault f_faultPlace a_numbers f_behind_1 f_kind_1 f_first_1 f_value_1 f_hutsToldOf f_singersToldOf)
def q_wr_X4_readLine_89 (P39 : Int32 → (Int32) → (Int32) → (Nat → Int32) → (Int32) → (Int32) → (Int32) → (Int32) → Prop) (lf_huts : Int32) (lf_singers : Int32) (lf_villages : Int32) (lf_dams : Int32) (lf_echoes : Int32) (lf_deep : Int32) (lf_slide : Int32) (la_heights : Nat → Int32) (la_ladders : Nat → Int32) (la_minutes : Nat → Int32) (la_echoFrom : Nat → Int32) (la_echoTo : Nat → Int32) (la_homes : Nat → Int32) (la_talls : Nat → Int32) (la_known : Nat → Int32) (vf_deeds : Int32) (va_kinds : Nat → Int32) (va_firsts : Nat → Int32) (va_seconds : Nat → Int32) (sf_facts : Int32) (sa_heard : Nat → Int32) (sa_huts : Nat → Int32) (sa_minutes : Nat → Int32) (cf_voices : Int32) (cf_step : Int32) (ca_parts : Nat → Int32) (ca_heights : Nat → Int32) (f_fault : Int32) (f_faultPlace : Int32) (a_numbers : Nat → Int32) (a_tape : Nat → Int32) (f_length : Int32) (f_behind : Int32) (f_kind : Int32) (f_first : Int32) (f_value : Int32) (f_hutsToldOf : Int32) (f_singersToldOf : Int32) (x2 : Int32) (x3 : Int32) (post : (Int32) → (Int32) → (Int32) → (Int32) → (Int32) → (Int32) → (Int32) → (Nat → Int32) → (Nat → Int32) → (Nat → Int32) → (Nat → Int32) → (Nat → Int32) → (Nat → Int32) → (Nat → Int32) → (Nat → Int32) → (Int32) → (Nat → Int32) → (Nat → Int32) → (Nat → Int32) → (Int32) → (Nat → Int32) → (Nat → Int32) → (Nat → Int32) → (Int32) → (Int32) → (Nat → Int32) → (Nat → Int32) → (Int32) → (Int32) → (Nat → Int32) → (Int32) → (Int32) → (Int32) → (Int32) → (Int32) → (Int32) → Prop) : Prop :=
  q_wr_X4_advance_0 a_tape f_length f_behind f_kind f_first f_value (fun f_behind_1 f_kind_1 f_first_1 f_value_1 => ∀ v_1 : Int32, v_1 = x3 + (1 : Int32) → (P39 v_1 f_fault f_faultPlace a_numbers f_behind_1 f_kind_1 f_first_1 f_value_1))
def q_wr_X4_readLine_39 (lf_huts : Int32) (lf_singers : Int32) (lf_villages : Int32) (lf_dams : Int32) (lf_echoes : Int32) (lf_deep : Int32) (lf_slide : Int32) (la_heights : Nat → Int32) (la_ladders : Nat → Int32) (la_minutes : Nat → Int32) (la_echoFrom : Nat → Int32) (la_echoTo : Nat → Int32) (la_homes : Nat → Int32) (la_talls : Nat → Int32) (la_known : Nat → Int32) (vf_deeds : Int32) (va_kinds : Nat → Int32) (va_firsts : Nat → Int32) (va_seconds : Nat → Int32) (sf_facts : Int32) (sa_heard : Nat → Int32) (sa_huts : Nat → Int32) (sa_minutes : Nat → Int32) (cf_voices : Int32) (cf_step : Int32) (ca_parts : Nat → Int32) (ca_heights : Nat → Int32) (f_fault : Int32) (f_faultPlace : Int32) (a_numbers : Nat → Int32) (a_tape : Nat → Int32) (f_length : Int32) (f_behind : Int32) (f_kind : Int32) (f_first : Int32) (f_value : Int32) (f_hutsToldOf : Int32) (f_singersToldOf : Int32) (x2 : Int32) (x3 : Int32) (post : (Int32) → (Int32) → (Int32) → (Int32) → (Int32) → (Int32) → (Int32) → (Nat → Int32) → (Nat → Int32) → (Nat → Int32) → (Nat → Int32) → (Nat → Int32) → (Nat → Int32) → (Nat → Int32) → (Nat → Int32) → (Int32) → (Nat → Int32) → (Nat → Int32) → (Nat → Int32) → (Int32) → (Nat → Int32) → (Nat → Int32) → (Nat → Int32) → (Int32) → (Int32) → (Nat → Int32) → (Nat → Int32) → (Int32) → (Int32) → (Nat → Int32) → (Int32) → (Int32) → (Int32) → (Int32) → (Int32) → (Int32) → Prop) : Prop :=
  ∀ P39 : Int32 → (Int32) → (Int32) → (Nat → Int32) → (Int32) → (Int32) → (Int32) → (Int32) → Prop, (∀ (x3 : Int32) (f_fault : Int32) (f_faultPlace : Int32) (a_numbers : Nat → Int32) (f_behind : Int32) (f_kind : Int32) (f_first : Int32) (f_value : Int32), (vp_in x2 20 ∧ (((tbf_1 (Int32.toNatClampNeg x2)) ≤ x3 → ((f_kind = (3 : Int32) → ((¬ f_fault = 0 → (q_wr_X4_readLine_124 lf_huts lf_singers lf_villages lf_dams lf_echoes lf_deep lf_slide la_heights la_ladders la_minutes la_echoFrom la_echoTo la_homes la_talls la_known vf_deeds va_kinds va_firsts va_seconds sf_facts sa_heard sa_huts sa_minutes cf_voices cf_step ca_parts ca_heights f_fault f_faultPlace a_numbers a_tape f_length f_behind f_kind f_first f_value f_hutsToldOf f_singersToldOf post)) ∧ (f_fault = 0 → (q_wr_X4_tell_0 lf_huts lf_singers lf_villages lf_dams lf_echoes lf_deep lf_slide la_heights la_ladders la_minutes la_echoFrom la_echoTo la_homes la_talls la_known vf_deeds va_kinds va_firsts va_seconds sf_facts sa_heard sa_huts sa_minutes cf_voices cf_step ca_parts ca_heights a_numbers f_hutsToldOf f_singersToldOf x2 (fun lf_huts_1 lf_singers_1 lf_villages_1 lf_dams_1 lf_echoes_1 lf_deep_1 lf_slide_1 la_heights_1 la_ladders_1 la_minutes_1 la_echoFrom_1 la_echoTo_1 la_homes_1 la_talls_1 la_known_1 vf_deeds_1 va_kinds_1 va_firsts_1 va_seconds_1 sf_facts_1 sa_heard_1 sa_huts_1 sa_minutes_1 cf_voices_1 cf_step_1 ca_parts_1 ca_heights_1 f_hutsToldOf_1 f_singersToldOf_1 => q_wr_X4_readLine_124 lf_huts_1 lf_singers_1 lf_villages_1 lf_dams_1 lf_echoes_1 lf_deep_1 lf_slide_1 la_heights_1 la_ladders_1 la_minutes_1 la_echoFrom_1 la_echoTo_1 la_homes_1 la_talls_1 la_known_1 vf_deeds_1 va_kinds_1 va_firsts_1 va_seconds_1 sf_facts_1 sa_heard_1 sa_huts_1 sa_minutes_1 cf_voices_1 cf_step_1 ca_parts_1 ca_heights_1 f_fault f_faultPlace a_numbers a_tape f_length f_behind f_kind f_first f_value f_hutsToldOf_1 f_singersToldOf_1 post))))) ∧ (¬ f_kind = (3 : Int32) → (q_wr_X4_refuse_0 f_fault f_faultPlace f_first (fun f_fault_1 f_faultPlace_1 => post lf_huts lf_singers lf_villages lf_dams lf_echoes lf_deep lf_slide la_heights la_ladders la_minutes la_echoFrom la_echoTo la_homes la_talls la_known vf_deeds va_kinds va_firsts va_seconds sf_facts sa_heard sa_huts sa_minutes cf_voices cf_step ca_parts ca_heights f_fault_1 f_faultPlace_1 a_numbers f_behind f_kind f_first f_value f_hutsToldOf f_singersToldOf))))) ∧ (¬ (tbf_1 (Int32.toNatClampNeg x2)) ≤ x3 → ((f_kind = (2 : Int32) → (vp_in x3 3 ∧ (∀ a_numbers_1 : Nat → Int32, a_numbers_1 = upd a_numbers (Int32.toNatClampNeg x3) f_value → (q_wr_X4_canBe_0 a_numbers_1 x2 x3 (fun r_1 => (¬ r_1 = 0 → (q_wr_X4_readLine_89 P39 lf_huts lf_singers lf_villages lf_dams lf_echoes lf_deep lf_slide la_heights la_ladders la_minutes la_echoFrom la_echoTo la_homes la_talls la_known vf_deeds va_kinds va_firsts va_seconds sf_facts sa_heard sa_huts sa_minutes cf_voices cf_step ca_parts ca_heights f_fault f_faultPlace a_numbers_1 a_tape f_length f_behind f_kind f_first f_value f_hutsToldOf f_singersToldOf x2 x3 post)) ∧ (r_1 = 0 → (q_wr_X4_mark_0 f_fault f_faultPlace (2 : Int32) f_first (fun f_fault_2 f_faultPlace_2 => q_wr_X4_readLine_89 P39 lf_huts lf_singers lf_villages lf_dams lf_echoes lf_deep lf_slide la_heights la_ladders la_minutes la_echoFrom la_echoTo la_homes la_talls la_known vf_deeds va_kinds va_firsts va_seconds sf_facts sa_heard sa_huts sa_minutes cf_voices cf_step ca_parts ca_heights f_fault_2 f_faultPlace_2 a_numbers_1 a_tape f_length f_behind f_kind f_first f_value f_hutsToldOf f_singersToldOf x2 x3 post)))))))) ∧ (¬ f_kind = (2 : Int32) → (q_wr_X4_refuse_0 f_fault f_faultPlace f_first (fun f_fault_3 f_faultPlace_3 => post lf_huts lf_singers lf_villages lf_dams lf_echoes lf_deep lf_slide la_heights la_ladders la_minutes la_echoFrom la_echoTo la_homes la_talls la_known vf_deeds va_kinds va_firsts va_seconds sf_facts sa_heard sa_huts sa_minutes cf_voices cf_step ca_parts ca_heights f_fault_3 f_faultPlace_3 a_numbers f_behind f_kind f_first f_value f_hutsToldOf f_singersToldOf))))))) → P39 x3 f_fault f_faultPlace a_numbers f_behind f_kind f_first f_value) → P39 x3 f_fault f_faultPlace a_numbers f_behind f_kind f_first f_value
def q_wr_X4_readLine_33 (lf_huts : Int32) (lf_singers : Int32) (lf_villages : Int32) (lf_dams : Int32) (lf_echoes : Int32) (lf_deep : Int32) (lf_slide : Int32) (la_heights : Nat → Int32) (la_ladders : Nat → Int32) (la_minutes : Nat → Int32) (la_echoFrom : Nat → Int32) (la_echoTo : Nat → Int32) (la_homes : Nat → Int32) (la_talls : Nat → Int32) (la_known : Nat → Int32) (vf_deeds : Int32) (va_kinds : Nat → Int32) (va_firsts : Nat → Int32) (va_seconds : Nat → Int32) (sf_facts : Int32) (sa_heard : Nat → Int32) (sa_huts : Nat → Int32) (sa_minutes : Nat → Int32) (cf_voices : Int32) (cf_step : Int32) (ca_parts : Nat → Int32) (ca_heights : Nat → Int32) (f_fault : Int32) (f_faultPlace : Int32) (a_numbers : Nat → Int32) (a_tape : Nat → Int32) (f_length : Int32) (f_behind : Int32) (f_kind : Int32) (f_first : Int32) (f_value : Int32) (f_hutsToldOf : Int32) (f_singersToldOf : Int32) (x2 : Int32) (post : (Int32) → (Int32) → (Int32) → (Int32) → (Int32) → (Int32) → (Int32) → (Nat → Int32) → (Nat → Int32) → (Nat → Int32) → (Nat → Int32) → (Nat → Int32) → (Nat → Int32) → (Nat → Int32) → (Nat → Int32) → (Int32) → (Nat → Int32) → (Nat → Int32) → (Nat → Int32) → (Int32) → (Nat → Int32) → (Nat → Int32) → (Nat → Int32) → (Int32) → (Int32) → (Nat → Int32) → (Nat → Int32) → (Int32) → (Int32) → (Nat → Int32) → (Int32) → (Int32) → (Int32) → (Int32) → (Int32) → (Int32) → Prop) : Prop :=
  q_wr_X4_advance_0 a_tape f_length f_behind f_kind f_first f_value (fun f_behind_1 f_kind_1 f_first_1 f_value_1 => q_wr_X4_readLine_39 lf_huts lf_singers lf_villages lf_dams lf_echoes lf_deep lf_slide la_heights la_ladders la_minutes la_echoFrom la_echoTo la_homes la_talls la_known vf_deeds va_kinds va_firsts va_seconds sf_facts sa_heard sa_huts sa_minutes cf_voices cf_step ca_parts ca_heights f_fault f_faultPlace a_numbers a_tape f_length f_behind_1 f_kind_1 f_first_1 f_value_1 f_hutsToldOf f_singersToldOf x2 (0 : Int32) post)
def q_wr_X4_readLine_0 (lf_huts : Int32) (lf_singers : Int32) (lf_villages : Int32) (lf_dams : Int32) (lf_echoes : Int32) (lf_deep : Int32) (lf_slide : Int32) (la_heights : Nat → Int32) (la_ladders : Nat → Int32) (la_minutes : Nat → Int32) (la_echoFrom : Nat → Int32) (la_echoTo : Nat → Int32) (la_homes : Nat → Int32) (la_talls : Nat → Int32) (la_known : Nat → Int32) (vf_deeds : Int32) (va_kinds : Nat → Int32) (va_firsts : Nat → Int32) (va_seconds : Nat → Int32) (sf_facts : Int32) (sa_heard : Nat → Int32) (sa_huts : Nat → Int32) (sa_minutes : Nat → Int32) (cf_voices : Int32) (cf_step : Int32) (ca_parts : Nat → Int32) (ca_heights : Nat → Int32) (f_fault : Int32) (f_faultPlace : Int32) (a_numbers : Nat → Int32) (a_tape : Nat → Int32) (f_length : Int32) (f_behind : Int32) (f_kind : Int32) (f_first : Int32) (f_value : Int32) (f_hutsToldOf : Int32) (f_singersToldOf : Int32) (x1 : Int32) (post : (Int32) → (Int32) → (Int32) → (Int32) → (Int32) → (Int32) → (Int32) → (Nat → Int32) → (Nat → Int32) → (Nat → Int32) → (Nat → Int32) → (Nat → Int32) → (Nat → Int32) → (Nat → Int32) → (Nat → Int32) → (Int32) → (Nat → Int32) → (Nat → Int32) → (Nat → Int32) → (Int32) → (Nat → Int32) → (Nat → Int32) → (Nat → Int32) → (Int32) → (Int32) → (Nat → Int32) → (Nat → Int32) → (Int32) → (Int32) → (Nat → Int32) → (Int32) → (Int32) → (Int32) → (Int32) → (Int32) → (Int32) → Prop) : Prop :=
  q_wr_X4_wordOf_0 a_tape f_behind f_kind f_first x1 (fun r_1 => (¬ r_1 = (-1 : Int32) → (q_wr_X4_isFull_0 lf_huts lf_singers lf_echoes vf_deeds sf_facts cf_voices r_1 (fun r_2 => (r_2 = 0 → (q_wr_X4_readLine_33 lf_huts lf_singers lf_villages lf_dams lf_echoes lf_deep lf_slide la_heights la_ladders la_minutes la_echoFrom la_echoTo la_homes la_talls la_known vf_deeds va_kinds va_firsts va_seconds sf_facts sa_heard sa_huts sa_minutes cf_voices cf_step ca_parts ca_heights f_fault f_faultPlace a_numbers a_tape f_length f_behind f_kind f_first f_value f_hutsToldOf f_singersToldOf r_1 post)) ∧ (¬ r_2 = 0 → (q_wr_X4_mark_0 f_fault f_faultPlace (3 : Int32) f_first (fun f_fault_1 f_faultPlace_1 => q_wr_X4_readLine_33 lf_huts lf_singers lf_villages lf_dams lf_echoes lf_deep lf_slide la_heights la_ladders la_minutes la_echoFrom la_echoTo la_homes la_talls la_known vf_deeds va_kinds va_firsts va_seconds sf_facts sa_heard sa_huts sa_minutes cf_voices cf_step ca_parts ca_heights f_fault_1 f_faultPlace_1 a_numbers a_tape f_length f_behind f_kind f_first f_value f_hutsToldOf f_singersToldOf r_1 post)))))) ∧ (r_1 = (-1 : Int32) → (q_wr_X4_refuse_0 f_fault f_faultPlace f_first (fun f_fault_2 f_faultPlace_2 => post lf_huts lf_singers lf_villages lf_dams lf_echoes lf_deep lf_slide la_heights la_ladders la_minutes la_echoFrom la_echoTo la_homes la_talls la_known vf_deeds va_kinds va_firsts va_seconds sf_facts sa_heard sa_huts sa_minutes cf_voices cf_step ca_parts ca_heights f_fault_2 f_faultPlace_2 a_numbers f_behind f_kind f_first f_value f_hutsToldOf f_singersToldOf))))
set_option maxRecDepth 20000 in
theorem t_wr_X4_readLine_124 {p : Program} {l : Launch} {e : Env} {s : State} {m : MethodId} {args : Array Value} {below : List Frame} {meth : Method} {c : Code} {G : zG} {E : zE} {qr qt : Nat} {lf_huts : Int32} {lf_singers : Int32} {lf_villages : Int32} {lf_dams : Int32} {lf_echoes : Int32} {lf_deep : Int32} {lf_slide : Int32} {la_heights : Nat → Int32} {la_ladders : Nat → Int32} {la_minutes : Nat → Int32} {la_echoFrom : Nat → Int32} {la_echoTo : Nat → Int32} {la_homes : Nat → Int32} {la_talls : Nat → Int32} {la_known : Nat → Int32} {vf_deeds : Int32} {va_kinds : Nat → Int32} {va_firsts : Nat → Int32} {va_seconds : Nat → Int32} {sf_facts : Int32} {sa_heard : Nat → Int32} {sa_huts : Nat → Int32} {sa_minutes : Nat → Int32} {cf_voices : Int32} {cf_step : Int32} {ca_parts : Nat → Int32} {ca_heights : Nat → Int32} {f_fault : Int32} {f_faultPlace : Int32} {a_numbers : Nat → Int32} {a_tape : Nat → Int32} {f_length : Int32} {f_behind : Int32} {f_kind : Int32} {f_first : Int32} {f_value : Int32} {f_hutsToldOf : Int32} {f_singersToldOf : Int32} {z_from : Nat → Int32} {post : (Int32) → (Int32) → (Int32) → (Int32) → (Int32) → (Int32) → (Int32) → (Nat → Int32) → (Nat → Int32) → (Nat → Int32) → (Nat → Int32) → (Nat → Int32) → (Nat → Int32) → (Nat → Int32) → (Nat → Int32) → (Int32) → (Nat → Int32) → (Nat → Int32) → (Nat → Int32) → (Int32) → (Nat → Int32) → (Nat → Int32) → (Nat → Int32) → (Int32) → (Int32) → (Nat → Int32) → (Nat → Int32) → (Int32) → (Int32) → (Nat → Int32) → (Int32) → (Int32) → (Int32) → (Int32) → (Int32) → (Int32) → Prop} {ls : Array Slot} {H : Heap} {locs : List Loc}
    (zc : zC p s m args meth c cX4_readLine 4 RX4 none)
    (hK : zK E s)
    (hM : wrW E qr qt lf_huts lf_singers lf_villages lf_dams lf_echoes lf_deep lf_slide la_heights la_ladders la_minutes la_echoFrom la_echoTo la_homes la_talls la_known vf_deeds va_kinds va_firsts va_seconds sf_facts sa_heard sa_huts sa_minutes cf_voices cf_step ca_parts ca_heights f_fault f_faultPlace a_numbers a_tape f_length f_behind f_kind f_first f_value f_hutsToldOf f_singersToldOf z_from H)
    (hZ : zZ G (wrA qr qt) s s.heap)
    (hS : va_S (wrA qr qt) s.heap H locs)
    (hl : lv_has ls 4 [(0, .ref qr)])
    (hw : q_wr_X4_readLine_124 lf_huts lf_singers lf_villages lf_dams lf_echoes lf_deep lf_slide la_heights la_ladders la_minutes la_echoFrom la_echoTo la_homes la_talls la_known vf_deeds va_kinds va_firsts va_seconds sf_facts sa_heard sa_huts sa_minutes cf_voices cf_step ca_parts ca_heights f_fault f_faultPlace a_numbers a_tape f_length f_behind f_kind f_first f_value f_hutsToldOf f_singersToldOf post) :
    W p l e rm_wr_X4_readLine s m args below meth c H locs 0 0 (MQ below (zQv (S := (Int32) × (Int32) × (Int32) × (Int32) × (Int32) × (Int32) × (Int32) × (Nat → Int32) × (Nat → Int32) × (Nat → Int32) × (Nat → Int32) × (Nat → Int32) × (Nat → Int32) × (Nat → Int32) × (Nat → Int32) × (Int32) × (Nat → Int32) × (Nat → Int32) × (Nat → Int32) × (Int32) × (Nat → Int32) × (Nat → Int32) × (Nat → Int32) × (Int32) × (Int32) × (Nat → Int32) × (Nat → Int32) × (Int32) × (Int32) × (Nat → Int32) × (Int32) × (Int32) × (Int32) × (Int32) × (Int32) × (Int32)) (fun u => post u.1 u.2.1 u.2.2.1 u.2.2.2.1 u.2.2.2.2.1 u.2.2.2.2.2.1 u.2.2.2.2.2.2.1 u.2.2.2.2.2.2.2.1 u.2.2.2.2.2.2.2.2.1 u.2.2.2.2.2.2.2.2.2.1 u.2.2.2.2.2.2.2.2.2.2.1 u.2.2.2.2.2.2.2.2.2.2.2.1 u.2.2.2.2.2.2.2.2.2.2.2.2.1 u.2.2.2.2.2.2.2.2.2.2.2.2.2.1 u.2.2.2.2.2.2.2.2.2.2.2.2.2.2.1 u.2.2.2.2.2.2.2.2.2.2.2.2.2.2.2.1 u.2.2.2.2.2.2.2.2.2.2.2.2.2.2.2.2.1 u.2.2.2.2.2.2.2.2.2.2.2.2.2.2.2.2.2.1 u.2.2.2.2.2.2.2.2.2.2.2.2.2.2.2.2.2.2.1 u.2.2.2.2.2.2.2.2.2.2.2.2.2.2.2.2.2.2.2.1 u.2.2.2.2.2.2.2.2.2.2.2.2.2.2.2.2.2.2.2.2.1 u.2.2.2.2.2.2.2.2.2.2.2.2.2.2.2.2.2.2.2.2.2.1 u.2.2.2.2.2.2.2.2.2.2.2.2.2.2.2.2.2.2.2.2.2.2.1 u.2.2.2.2.2.2.2.2.2.2.2.2.2.2.2.2.2.2.2.2.2.2.2.1 u.2.2.2.2.2.2.2.2.2.2.2.2.2.2.2.2.2.2.2.2.2.2.2.2.1 u.2.2.2.2.2.2.2.2.2.2.2.2.2.2.2.2.2.2.2.2.2.2.2.2.2.1 u.2.2.2.2.2.2.2.2.2.2.2.2.2.2.2.2.2.2.2.2.2.2.2.2.2.2.1 u.2.2.2.2.2.2.2.2.2.2.2.2.2.2.2.2.2.2.2.2.2.2.2.2.2.2.2.1 u.2.2.2.2.2.2.2.2.2.2.2.2.2.2.2.2.2.2.2.2.2.2.2.2.2.2.2.2.1 u.2.2.2.2.2.2.2.2.2.2.2.2.2.2.2.2.2.2.2.2.2.2.2.2.2.2.2.2.2.1 u.2.2.2.2.2.2.2.2.2.2.2.2.2.2.2.2.2.2.2.2.2.2.2.2.2.2.2.2.2.2.1 u.2.2.2.2.2.2.2.2.2.2.2.2.2.2.2.2.2.2.2.2.2.2.2.2.2.2.2.2.2.2.2.1 u.2.2.2.2.2.2.2.2.2.2.2.2.2.2.2.2.2.2.2.2.2.2.2.2.2.2.2.2.2.2.2.2.1 u.2.2.2.2.2.2.2.2.2.2.2.2.2.2.2.2.2.2.2.2.2.2.2.2.2.2.2.2.2.2.2.2.2.1 u.2.2.2.2.2.2.2.2.2.2.2.2.2.2.2.2.2.2.2.2.2.2.2.2.2.2.2.2.2.2.2.2.2.2.1 u.2.2.2.2.2.2.2.2.2.2.2.2.2.2.2.2.2.2.2.2.2.2.2.2.2.2.2.2.2.2.2.2.2.2.2) (fun u H => wrW E qr qt u.1 u.2.1 u.2.2.1 u.2.2.2.1 u.2.2.2.2.1 u.2.2.2.2.2.1 u.2.2.2.2.2.2.1 u.2.2.2.2.2.2.2.1 u.2.2.2.2.2.2.2.2.1 u.2.2.2.2.2.2.2.2.2.1 u.2.2.2.2.2.2.2.2.2.2.1 u.2.2.2.2.2.2.2.2.2.2.2.1 u.2.2.2.2.2.2.2.2.2.2.2.2.1 u.2.2.2.2.2.2.2.2.2.2.2.2.2.1 u.2.2.2.2.2.2.2.2.2.2.2.2.2.2.1 u.2.2.2.2.2.2.2.2.2.2.2.2.2.2.2.1 u.2.2.2.2.2.2.2.2.2.2.2.2.2.2.2.2.1 u.2.2.2.2.2.2.2.2.2.2.2.2.2.2.2.2.2.1 u.2.2.2.2.2.2.2.2.2.2.2.2.2.2.2.2.2.2.1 u.2.2.2.2.2.2.2.2.2.2.2.2.2.2.2.2.2.2.2.1 u.2.2.2.2.2.2.2.2.2.2.2.2.2.2.2.2.2.2.2.2.1 u.2.2.2.2.2.2.2.2.2.2.2.2.2.2.2.2.2.2.2.2.2.1 u.2.2.2.2.2.2.2.2.2.2.2.2.2.2.2.2.2.2.2.2.2.2.1 u.2.2.2.2.2.2.2.2.2.2.2.2.2.2.2.2.2.2.2.2.2.2.2.1 u.2.2.2.2.2.2.2.2.2.2.2.2.2.2.2.2.2.2.2.2.2.2.2.2.1 u.2.2.2.2.2.2.2.2.2.2.2.2.2.2.2.2.2.2.2.2.2.2.2.2.2.1 u.2.2.2.2.2.2.2.2.2.2.2.2.2.2.2.2.2.2.2.2.2.2.2.2.2.2.1 u.2.2.2.2.2.2.2.2.2.2.2.2.2.2.2.2.2.2.2.2.2.2.2.2.2.2.2.1 u.2.2.2.2.2.2.2.2.2.2.2.2.2.2.2.2.2.2.2.2.2.2.2.2.2.2.2.2.1 u.2.2.2.2.2.2.2.2.2.2.2.2.2.2.2.2.2.2.2.2.2.2.2.2.2.2.2.2.2.1 a_tape f_length u.2.2.2.2.2.2.2.2.2.2.2.2.2.2.2.2.2.2.2.2.2.2.2.2.2.2.2.2.2.2.1 u.2.2.2.2.2.2.2.2.2.2.2.2.2.2.2.2.2.2.2.2.2.2.2.2.2.2.2.2.2.2.2.1 u.2.2.2.2.2.2.2.2.2.2.2.2.2.2.2.2.2.2.2.2.2.2.2.2.2.2.2.2.2.2.2.2.1 u.2.2.2.2.2.2.2.2.2.2.2.2.2.2.2.2.2.2.2.2.2.2.2.2.2.2.2.2.2.2.2.2.2.1 u.2.2.2.2.2.2.2.2.2.2.2.2.2.2.2.2.2.2.2.2.2.2.2.2.2.2.2.2.2.2.2.2.2.2.1 u.2.2.2.2.2.2.2.2.2.2.2.2.2.2.2.2.2.2.2.2.2.2.2.2.2.2.2.2.2.2.2.2.2.2.2 z_from H) (wrA qr qt)) args s 0 0 (wrA qr qt)) (F0 m 124 ls []) := by
  have hx := zc.1
  have hb := zc.2.1
  refine lv_aload_n hx hb dX4_readLine_124 rfl (lv_at hl 0 rfl) ?_
  refine zVw_v [] [] zc ky_X4_advance kz_X4_advance km_4_70 (c_wr_X4_advance l hw) (wrPreV0 hK hM) hS rfl rfl hl.1 (Nat.le_of_ble_eq_true rfl) ⟨rfl, rfl⟩ ⟨Nat.le_of_ble_eq_true rfl, Nat.le_of_ble_eq_true rfl⟩ ⟨(Nat.zero_le _), (Nat.zero_le _)⟩ dX4_readLine_125 (fun u H locs hw hM hS => ?_)
  obtain ⟨f_behind_1, f_kind_1, f_first_1, f_value_1⟩ := u
  exact zret_vw ⟨lf_huts, lf_singers, lf_villages, lf_dams, lf_echoes, lf_deep, lf_slide, la_heights, la_ladders, la_minutes, la_echoFrom, la_echoTo, la_homes, la_talls, la_known, vf_deeds, va_kinds, va_firsts, va_seconds, sf_facts, sa_heard, sa_huts, sa_minutes, cf_voices, cf_step, ca_parts, ca_heights, f_fault, f_faultPlace, a_numbers, f_behind_1, f_kind_1, f_first_1, f_value_1, f_hutsToldOf, f_singersToldOf⟩ zc hS hw hM dX4_readLine_128
set_option maxRecDepth 20000 in
theorem t_wr_X4_readLine_89 {p : Program} {l : Launch} {e : Env} {s : State} {m : MethodId} {args : Array Value} {below : List Frame} {meth : Method} {c : Code} {G : zG} {E : zE} {qr qt : Nat} {lf_huts : Int32} {lf_singers : Int32} {lf_villages : Int32} {lf_dams : Int32} {lf_echoes : Int32} {lf_deep : Int32} {lf_slide : Int32} {la_heights : Nat → Int32} {la_ladders : Nat → Int32} {la_minutes : Nat → Int32} {la_echoFrom : Nat → Int32} {la_echoTo : Nat → Int32} {la_homes : Nat → Int32} {la_talls : Nat → Int32} {la_known : Nat → Int32} {vf_deeds : Int32} {va_kinds : Nat → Int32} {va_firsts : Nat → Int32} {va_seconds : Nat → Int32} {sf_facts : Int32} {sa_heard : Nat → Int32} {sa_huts : Nat → Int32} {sa_minutes : Nat → Int32} {cf_voices : Int32} {cf_step : Int32} {ca_parts : Nat → Int32} {ca_heights : Nat → Int32} {f_fault : Int32} {f_faultPlace : Int32} {a_numbers : Nat → Int32} {a_tape : Nat → Int32} {f_length : Int32} {f_behind : Int32} {f_kind : Int32} {f_first : Int32} {f_value : Int32} {f_hutsToldOf : Int32} {f_singersToldOf : Int32} {z_from : Nat → Int32} {P39 : Int32 → (Int32) → (Int32) → (Nat → Int32) → (Int32) → (Int32) → (Int32) → (Int32) → Prop} {post : (Int32) → (Int32) → (Int32) → (Int32) → (Int32) → (Int32) → (Int32) → (Nat → Int32) → (Nat → Int32) → (Nat → Int32) → (Nat → Int32) → (Nat → Int32) → (Nat → Int32) → (Nat → Int32) → (Nat → Int32) → (Int32) → (Nat → Int32) → (Nat → Int32) → (Nat → Int32) → (Int32) → (Nat → Int32) → (Nat → Int32) → (Nat → Int32) → (Int32) → (Int32) → (Nat → Int32) → (Nat → Int32) → (Int32) → (Int32) → (Nat → Int32) → (Int32) → (Int32) → (Int32) → (Int32) → (Int32) → (Int32) → Prop} {x2 : Int32} {x3 : Int32} {ls : Array Slot} {H : Heap} {locs : List Loc}
    (zc : zC p s m args meth c cX4_readLine 4 RX4 none)
    (hK : zK E s)
    (hM : wrW E qr qt lf_huts lf_singers lf_villages lf_dams lf_echoes lf_deep lf_slide la_heights la_ladders la_minutes la_echoFrom la_echoTo la_homes la_talls la_known vf_deeds va_kinds va_firsts va_seconds sf_facts sa_heard sa_huts sa_minutes cf_voices cf_step ca_parts ca_heights f_fault f_faultPlace a_numbers a_tape f_length f_behind f_kind f_first f_value f_hutsToldOf f_singersToldOf z_from H)
    (hZ : zZ G (wrA qr qt) s s.heap)
    (hS : va_S (wrA qr qt) s.heap H locs)
    (hP39 : ∀ (x3 : Int32) (f_fault : Int32) (f_faultPlace : Int32) (a_numbers : Nat → Int32) (f_behind : Int32) (f_kind : Int32) (f_first : Int32) (f_value : Int32) (H : Heap) (locs : List Loc) (ls : Array Slot), P39 x3 f_fault f_faultPlace a_numbers f_behind f_kind f_first f_value → lv_has ls 4 [(0, .ref qr), (2, .int x2), (3, .int x3)] → wrW E qr qt lf_huts lf_singers lf_villages lf_dams lf_echoes lf_deep lf_slide la_heights la_ladders la_minutes la_echoFrom la_echoTo la_homes la_talls la_known vf_deeds va_kinds va_firsts va_seconds sf_facts sa_heard sa_huts sa_minutes cf_voices cf_step ca_parts ca_heights f_fault f_faultPlace a_numbers a_tape f_length f_behind f_kind f_first f_value f_hutsToldOf f_singersToldOf z_from H → va_S (wrA qr qt) s.heap H locs → W p l e rm_wr_X4_readLine s m args below meth c H locs 0 0 (MQ below (zQv (S := (Int32) × (Int32) × (Int32) × (Int32) × (Int32) × (Int32) × (Int32) × (Nat → Int32) × (Nat → Int32) × (Nat → Int32) × (Nat → Int32) × (Nat → Int32) × (Nat → Int32) × (Nat → Int32) × (Nat → Int32) × (Int32) × (Nat → Int32) × (Nat → Int32) × (Nat → Int32) × (Int32) × (Nat → Int32) × (Nat → Int32) × (Nat → Int32) × (Int32) × (Int32) × (Nat → Int32) × (Nat → Int32) × (Int32) × (Int32) × (Nat → Int32) × (Int32) × (Int32) × (Int32) × (Int32) × (Int32) × (Int32)) (fun u => post u.1 u.2.1 u.2.2.1 u.2.2.2.1 u.2.2.2.2.1 u.2.2.2.2.2.1 u.2.2.2.2.2.2.1 u.2.2.2.2.2.2.2.1 u.2.2.2.2.2.2.2.2.1 u.2.2.2.2.2.2.2.2.2.1 u.2.2.2.2.2.2.2.2.2.2.1 u.2.2.2.2.2.2.2.2.2.2.2.1 u.2.2.2.2.2.2.2.2.2.2.2.2.1 u.2.2.2.2.2.2.2.2.2.2.2.2.2.1 u.2.2.2.2.2.2.2.2.2.2.2.2.2.2.1 u.2.2.2.2.2.2.2.2.2.2.2.2.2.2.2.1 u.2.2.2.2.2.2.2.2.2.2.2.2.2.2.2.2.1 u.2.2.2.2.2.2.2.2.2.2.2.2.2.2.2.2.2.1 u.2.2.2.2.2.2.2.2.2.2.2.2.2.2.2.2.2.2.1 u.2.2.2.2.2.2.2.2.2.2.2.2.2.2.2.2.2.2.2.1 u.2.2.2.2.2.2.2.2.2.2.2.2.2.2.2.2.2.2.2.2.1 u.2.2.2.2.2.2.2.2.2.2.2.2.2.2.2.2.2.2.2.2.2.1 u.2.2.2.2.2.2.2.2.2.2.2.2.2.2.2.2.2.2.2.2.2.2.1 u.2.2.2.2.2.2.2.2.2.2.2.2.2.2.2.2.2.2.2.2.2.2.2.1 u.2.2.2.2.2.2.2.2.2.2.2.2.2.2.2.2.2.2.2.2.2.2.2.2.1 u.2.2.2.2.2.2.2.2.2.2.2.2.2.2.2.2.2.2.2.2.2.2.2.2.2.1 u.2.2.2.2.2.2.2.2.2.2.2.2.2.2.2.2.2.2.2.2.2.2.2.2.2.2.1 u.2.2.2.2.2.2.2.2.2.2.2.2.2.2.2.2.2.2.2.2.2.2.2.2.2.2.2.1 u.2.2.2.2.2.2.2.2.2.2.2.2.2.2.2.2.2.2.2.2.2.2.2.2.2.2.2.2.1 u.2.2.2.2.2.2.2.2.2.2.2.2.2.2.2.2.2.2.2.2.2.2.2.2.2.2.2.2.2.1 u.2.2.2.2.2.2.2.2.2.2.2.2.2.2.2.2.2.2.2.2.2.2.2.2.2.2.2.2.2.2.1 u.2.2.2.2.2.2.2.2.2.2.2.2.2.2.2.2.2.2.2.2.2.2.2.2.2.2.2.2.2.2.2.1 u.2.2.2.2.2.2.2.2.2.2.2.2.2.2.2.2.2.2.2.2.2.2.2.2.2.2.2.2.2.2.2.2.1 u.2.2.2.2.2.2.2.2.2.2.2.2.2.2.2.2.2.2.2.2.2.2.2.2.2.2.2.2.2.2.2.2.2.1 u.2.2.2.2.2.2.2.2.2.2.2.2.2.2.2.2.2.2.2.2.2.2.2.2.2.2.2.2.2.2.2.2.2.2.1 u.2.2.2.2.2.2.2.2.2.2.2.2.2.2.2.2.2.2.2.2.2.2.2.2.2.2.2.2.2.2.2.2.2.2.2) (fun u H => wrW E qr qt u.1 u.2.1 u.2.2.1 u.2.2.2.1 u.2.2.2.2.1 u.2.2.2.2.2.1 u.2.2.2.2.2.2.1 u.2.2.2.2.2.2.2.1 u.2.2.2.2.2.2.2.2.1 u.2.2.2.2.2.2.2.2.2.1 u.2.2.2.2.2.2.2.2.2.2.1 u.2.2.2.2.2.2.2.2.2.2.2.1 u.2.2.2.2.2.2.2.2.2.2.2.2.1 u.2.2.2.2.2.2.2.2.2.2.2.2.2.1 u.2.2.2.2.2.2.2.2.2.2.2.2.2.2.1 u.2.2.2.2.2.2.2.2.2.2.2.2.2.2.2.1 u.2.2.2.2.2.2.2.2.2.2.2.2.2.2.2.2.1 u.2.2.2.2.2.2.2.2.2.2.2.2.2.2.2.2.2.1 u.2.2.2.2.2.2.2.2.2.2.2.2.2.2.2.2.2.2.1 u.2.2.2.2.2.2.2.2.2.2.2.2.2.2.2.2.2.2.2.1 u.2.2.2.2.2.2.2.2.2.2.2.2.2.2.2.2.2.2.2.2.1 u.2.2.2.2.2.2.2.2.2.2.2.2.2.2.2.2.2.2.2.2.2.1 u.2.2.2.2.2.2.2.2.2.2.2.2.2.2.2.2.2.2.2.2.2.2.1 u.2.2.2.2.2.2.2.2.2.2.2.2.2.2.2.2.2.2.2.2.2.2.2.1 u.2.2.2.2.2.2.2.2.2.2.2.2.2.2.2.2.2.2.2.2.2.2.2.2.1 u.2.2.2.2.2.2.2.2.2.2.2.2.2.2.2.2.2.2.2.2.2.2.2.2.2.1 u.2.2.2.2.2.2.2.2.2.2.2.2.2.2.2.2.2.2.2.2.2.2.2.2.2.2.1 u.2.2.2.2.2.2.2.2.2.2.2.2.2.2.2.2.2.2.2.2.2.2.2.2.2.2.2.1 u.2.2.2.2.2.2.2.2.2.2.2.2.2.2.2.2.2.2.2.2.2.2.2.2.2.2.2.2.1 u.2.2.2.2.2.2.2.2.2.2.2.2.2.2.2.2.2.2.2.2.2.2.2.2.2.2.2.2.2.1 a_tape f_length u.2.2.2.2.2.2.2.2.2.2.2.2.2.2.2.2.2.2.2.2.2.2.2.2.2.2.2.2.2.2.1 u.2.2.2.2.2.2.2.2.2.2.2.2.2.2.2.2.2.2.2.2.2.2.2.2.2.2.2.2.2.2.2.1 u.2.2.2.2.2.2.2.2.2.2.2.2.2.2.2.2.2.2.2.2.2.2.2.2.2.2.2.2.2.2.2.2.1 u.2.2.2.2.2.2.2.2.2.2.2.2.2.2.2.2.2.2.2.2.2.2.2.2.2.2.2.2.2.2.2.2.2.1 u.2.2.2.2.2.2.2.2.2.2.2.2.2.2.2.2.2.2.2.2.2.2.2.2.2.2.2.2.2.2.2.2.2.2.1 u.2.2.2.2.2.2.2.2.2.2.2.2.2.2.2.2.2.2.2.2.2.2.2.2.2.2.2.2.2.2.2.2.2.2.2 z_from H) (wrA qr qt)) args s 0 0 (wrA qr qt)) (F0 m 39 ls []))
    (hl : lv_has ls 4 [(0, .ref qr), (2, .int x2), (3, .int x3)])
    (hw : q_wr_X4_readLine_89 P39 lf_huts lf_singers lf_villages lf_dams lf_echoes lf_deep lf_slide la_heights la_ladders la_minutes la_echoFrom la_echoTo la_homes la_talls la_known vf_deeds va_kinds va_firsts va_seconds sf_facts sa_heard sa_huts sa_minutes cf_voices cf_step ca_parts ca_heights f_fault f_faultPlace a_numbers a_tape f_length f_behind f_kind f_first f_value f_hutsToldOf f_singersToldOf x2 x3 post) :
    W p l e rm_wr_X4_readLine s m args below meth c H locs 0 0 (MQ below (zQv (S := (Int32) × (Int32) × (Int32) × (Int32) × (Int32) × (Int32) × (Int32) × (Nat → Int32) × (Nat → Int32) × (Nat → Int32) × (Nat → Int32) × (Nat → Int32) × (Nat → Int32) × (Nat → Int32) × (Nat → Int32) × (Int32) × (Nat → Int32) × (Nat → Int32) × (Nat → Int32) × (Int32) × (Nat → Int32) × (Nat → Int32) × (Nat → Int32) × (Int32) × (Int32) × (Nat → Int32) × (Nat → Int32) × (Int32) × (Int32) × (Nat → Int32) × (Int32) × (Int32) × (Int32) × (Int32) × (Int32) × (Int32)) (fun u => post u.1 u.2.1 u.2.2.1 u.2.2.2.1 u.2.2.2.2.1 u.2.2.2.2.2.1 u.2.2.2.2.2.2.1 u.2.2.2.2.2.2.2.1 u.2.2.2.2.2.2.2.2.1 u.2.2.2.2.2.2.2.2.2.1 u.2.2.2.2.2.2.2.2.2.2.1 u.2.2.2.2.2.2.2.2.2.2.2.1 u.2.2.2.2.2.2.2.2.2.2.2.2.1 u.2.2.2.2.2.2.2.2.2.2.2.2.2.1 u.2.2.2.2.2.2.2.2.2.2.2.2.2.2.1 u.2.2.2.2.2.2.2.2.2.2.2.2.2.2.2.1 u.2.2.2.2.2.2.2.2.2.2.2.2.2.2.2.2.1 u.2.2.2.2.2.2.2.2.2.2.2.2.2.2.2.2.2.1 u.2.2.2.2.2.2.2.2.2.2.2.2.2.2.2.2.2.2.1 u.2.2.2.2.2.2.2.2.2.2.2.2.2.2.2.2.2.2.2.1 u.2.2.2.2.2.2.2.2.2.2.2.2.2.2.2.2.2.2.2.2.1 u.2.2.2.2.2.2.2.2.2.2.2.2.2.2.2.2.2.2.2.2.2.1 u.2.2.2.2.2.2.2.2.2.2.2.2.2.2.2.2.2.2.2.2.2.2.1 u.2.2.2.2.2.2.2.2.2.2.2.2.2.2.2.2.2.2.2.2.2.2.2.1 u.2.2.2.2.2.2.2.2.2.2.2.2.2.2.2.2.2.2.2.2.2.2.2.2.1 u.2.2.2.2.2.2.2.2.2.2.2.2.2.2.2.2.2.2.2.2.2.2.2.2.2.1 u.2.2.2.2.2.2.2.2.2.2.2.2.2.2.2.2.2.2.2.2.2.2.2.2.2.2.1 u.2.2.2.2.2.2.2.2.2.2.2.2.2.2.2.2.2.2.2.2.2.2.2.2.2.2.2.1 u.2.2.2.2.2.2.2.2.2.2.2.2.2.2.2.2.2.2.2.2.2.2.2.2.2.2.2.2.1 u.2.2.2.2.2.2.2.2.2.2.2.2.2.2.2.2.2.2.2.2.2.2.2.2.2.2.2.2.2.1 u.2.2.2.2.2.2.2.2.2.2.2.2.2.2.2.2.2.2.2.2.2.2.2.2.2.2.2.2.2.2.1 u.2.2.2.2.2.2.2.2.2.2.2.2.2.2.2.2.2.2.2.2.2.2.2.2.2.2.2.2.2.2.2.1 u.2.2.2.2.2.2.2.2.2.2.2.2.2.2.2.2.2.2.2.2.2.2.2.2.2.2.2.2.2.2.2.2.1 u.2.2.2.2.2.2.2.2.2.2.2.2.2.2.2.2.2.2.2.2.2.2.2.2.2.2.2.2.2.2.2.2.2.1 u.2.2.2.2.2.2.2.2.2.2.2.2.2.2.2.2.2.2.2.2.2.2.2.2.2.2.2.2.2.2.2.2.2.2.1 u.2.2.2.2.2.2.2.2.2.2.2.2.2.2.2.2.2.2.2.2.2.2.2.2.2.2.2.2.2.2.2.2.2.2.2) (fun u H => wrW E qr qt u.1 u.2.1 u.2.2.1 u.2.2.2.1 u.2.2.2.2.1 u.2.2.2.2.2.1 u.2.2.2.2.2.2.1 u.2.2.2.2.2.2.2.1 u.2.2.2.2.2.2.2.2.1 u.2.2.2.2.2.2.2.2.2.1 u.2.2.2.2.2.2.2.2.2.2.1 u.2.2.2.2.2.2.2.2.2.2.2.1 u.2.2.2.2.2.2.2.2.2.2.2.2.1 u.2.2.2.2.2.2.2.2.2.2.2.2.2.1 u.2.2.2.2.2.2.2.2.2.2.2.2.2.2.1 u.2.2.2.2.2.2.2.2.2.2.2.2.2.2.2.1 u.2.2.2.2.2.2.2.2.2.2.2.2.2.2.2.2.1 u.2.2.2.2.2.2.2.2.2.2.2.2.2.2.2.2.2.1 u.2.2.2.2.2.2.2.2.2.2.2.2.2.2.2.2.2.2.1 u.2.2.2.2.2.2.2.2.2.2.2.2.2.2.2.2.2.2.2.1 u.2.2.2.2.2.2.2.2.2.2.2.2.2.2.2.2.2.2.2.2.1 u.2.2.2.2.2.2.2.2.2.2.2.2.2.2.2.2.2.2.2.2.2.1 u.2.2.2.2.2.2.2.2.2.2.2.2.2.2.2.2.2.2.2.2.2.2.1 u.2.2.2.2.2.2.2.2.2.2.2.2.2.2.2.2.2.2.2.2.2.2.2.1 u.2.2.2.2.2.2.2.2.2.2.2.2.2.2.2.2.2.2.2.2.2.2.2.2.1 u.2.2.2.2.2.2.2.2.2.2.2.2.2.2.2.2.2.2.2.2.2.2.2.2.2.1 u.2.2.2.2.2.2.2.2.2.2.2.2.2.2.2.2.2.2.2.2.2.2.2.2.2.2.1 u.2.2.2.2.2.2.2.2.2.2.2.2.2.2.2.2.2.2.2.2.2.2.2.2.2.2.2.1 u.2.2.2.2.2.2.2.2.2.2.2.2.2.2.2.2.2.2.2.2.2.2.2.2.2.2.2.2.1 u.2.2.2.2.2.2.2.2.2.2.2.2.2.2.2.2.2.2.2.2.2.2.2.2.2.2.2.2.2.1 a_tape f_length u.2.2.2.2.2.2.2.2.2.2.2.2.2.2.2.2.2.2.2.2.2.2.2.2.2.2.2.2.2.2.1 u.2.2.2.2.2.2.2.2.2.2.2.2.2.2.2.2.2.2.2.2.2.2.2.2.2.2.2.2.2.2.2.1 u.2.2.2.2.2.2.2.2.2.2.2.2.2.2.2.2.2.2.2.2.2.2.2.2.2.2.2.2.2.2.2.2.1 u.2.2.2.2.2.2.2.2.2.2.2.2.2.2.2.2.2.2.2.2.2.2.2.2.2.2.2.2.2.2.2.2.2.1 u.2.2.2.2.2.2.2.2.2.2.2.2.2.2.2.2.2.2.2.2.2.2.2.2.2.2.2.2.2.2.2.2.2.2.1 u.2.2.2.2.2.2.2.2.2.2.2.2.2.2.2.2.2.2.2.2.2.2.2.2.2.2.2.2.2.2.2.2.2.2.2 z_from H) (wrA qr qt)) args s 0 0 (wrA qr qt)) (F0 m 89 ls []) := by
  have hx := zc.1
  have hb := zc.2.1
  refine lv_aload_n hx hb dX4_readLine_89 rfl (lv_at hl 0 rfl) ?_
  refine zVw_v [] [] zc ky_X4_advance kz_X4_advance km_4_70 (c_wr_X4_advance l hw) (wrPreV0 hK hM) hS rfl rfl hl.1 (Nat.le_of_ble_eq_true rfl) ⟨rfl, rfl⟩ ⟨Nat.le_of_ble_eq_true rfl, Nat.le_of_ble_eq_true rfl⟩ ⟨(Nat.zero_le _), (Nat.zero_le _)⟩ dX4_readLine_90 (fun u H locs hw hM hS => ?_)
  obtain ⟨f_behind_1, f_kind_1, f_first_1, f_value_1⟩ := u
  obtain ⟨v_1, ev_1⟩ : ∃ y : Int32, y = x3 + (1 : Int32) := ⟨_, rfl⟩
  have hw := hw v_1 ev_1
  refine lv_iinc (v := v_1) (k := 2) (lv' := [(3, .int v_1), (0, .ref qr), (2, .int x2)]) hx hb dX4_readLine_93 hl rfl (by rw [ev_1]; rfl) (by decide) rfl (fun ls hl => ?_)
  refine lv_goto (tgt := 39) hx hb dX4_readLine_96 (by decide) ?_
  exact hP39 _ _ _ _ _ _ _ _ _ _ _ hw (lv_sub hl [1, 2, 0] rfl) hM hS
set_option maxRecDepth 20000 in
theorem t_wr_X4_readLine_39 {p : Program} {l : Launch} {e : Env} {s : State} {m : MethodId} {args : Array Value} {below : List Frame} {meth : Method} {c : Code} {G : zG} {E : zE} {qr qt : Nat} {lf_huts : Int32} {lf_singers : Int32} {lf_villages : Int32} {lf_dams : Int32} {lf_echoes : Int32} {lf_deep : Int32} {lf_slide : Int32} {la_heights : Nat → Int32} {la_ladders : Nat → Int32} {la_minutes : Nat → Int32} {la_echoFrom : Nat → Int32} {la_echoTo : Nat → Int32} {la_homes : Nat → Int32} {la_talls : Nat → Int32} {la_known : Nat → Int32} {vf_deeds : Int32} {va_kinds : Nat → Int32} {va_firsts : Nat → Int32} {va_seconds : Nat → Int32} {sf_facts : Int32} {sa_heard : Nat → Int32} {sa_huts : Nat → Int32} {sa_minutes : Nat → Int32} {cf_voices : Int32} {cf_step : Int32} {ca_parts : Nat → Int32} {ca_heights : Nat → Int32} {f_fault : Int32} {f_faultPlace : Int32} {a_numbers : Nat → Int32} {a_tape : Nat → Int32} {f_length : Int32} {f_behind : Int32} {f_kind : Int32} {f_first : Int32} {f_value : Int32} {f_hutsToldOf : Int32} {f_singersToldOf : Int32} {z_from : Nat → Int32} {post : (Int32) → (Int32) → (Int32) → (Int32) → (Int32) → (Int32) → (Int32) → (Nat → Int32) → (Nat → Int32) → (Nat → Int32) → (Nat → Int32) → (Nat → Int32) → (Nat → Int32) → (Nat → Int32) → (Nat → Int32) → (Int32) → (Nat → Int32) → (Nat → Int32) → (Nat → Int32) → (Int32) → (Nat → Int32) → (Nat → Int32) → (Nat → Int32) → (Int32) → (Int32) → (Nat → Int32) → (Nat → Int32) → (Int32) → (Int32) → (Nat → Int32) → (Int32) → (Int32) → (Int32) → (Int32) → (Int32) → (Int32) → Prop} {x2 : Int32} {x3 : Int32} {ls : Array Slot} {H : Heap} {locs : List Loc}
    (zc : zC p s m args meth c cX4_readLine 4 RX4 none)
    (hK : zK E s)
    (hM : wrW E qr qt lf_huts lf_singers lf_villages lf_dams lf_echoes lf_deep lf_slide la_heights la_ladders la_minutes la_echoFrom la_echoTo la_homes la_talls la_known vf_deeds va_kinds va_firsts va_seconds sf_facts sa_heard sa_huts sa_minutes cf_voices cf_step ca_parts ca_heights f_fault f_faultPlace a_numbers a_tape f_length f_behind f_kind f_first f_value f_hutsToldOf f_singersToldOf z_from H)
    (hZ : zZ G (wrA qr qt) s s.heap)
    (hS : va_S (wrA qr qt) s.heap H locs)
    (hl : lv_has ls 4 [(0, .ref qr), (2, .int x2), (3, .int x3)])
    (hw : q_wr_X4_readLine_39 lf_huts lf_singers lf_villages lf_dams lf_echoes lf_deep lf_slide la_heights la_ladders la_minutes la_echoFrom la_echoTo la_homes la_talls la_known vf_deeds va_kinds va_firsts va_seconds sf_facts sa_heard sa_huts sa_minutes cf_voices cf_step ca_parts ca_heights f_fault f_faultPlace a_numbers a_tape f_length f_behind f_kind f_first f_value f_hutsToldOf f_singersToldOf x2 x3 post) :
    W p l e rm_wr_X4_readLine s m args below meth c H locs 0 0 (MQ below (zQv (S := (Int32) × (Int32) × (Int32) × (Int32) × (Int32) × (Int32) × (Int32) × (Nat → Int32) × (Nat → Int32) × (Nat → Int32) × (Nat → Int32) × (Nat → Int32) × (Nat → Int32) × (Nat → Int32) × (Nat → Int32) × (Int32) × (Nat → Int32) × (Nat → Int32) × (Nat → Int32) × (Int32) × (Nat → Int32) × (Nat → Int32) × (Nat → Int32) × (Int32) × (Int32) × (Nat → Int32) × (Nat → Int32) × (Int32) × (Int32) × (Nat → Int32) × (Int32) × (Int32) × (Int32) × (Int32) × (Int32) × (Int32)) (fun u => post u.1 u.2.1 u.2.2.1 u.2.2.2.1 u.2.2.2.2.1 u.2.2.2.2.2.1 u.2.2.2.2.2.2.1 u.2.2.2.2.2.2.2.1 u.2.2.2.2.2.2.2.2.1 u.2.2.2.2.2.2.2.2.2.1 u.2.2.2.2.2.2.2.2.2.2.1 u.2.2.2.2.2.2.2.2.2.2.2.1 u.2.2.2.2.2.2.2.2.2.2.2.2.1 u.2.2.2.2.2.2.2.2.2.2.2.2.2.1 u.2.2.2.2.2.2.2.2.2.2.2.2.2.2.1 u.2.2.2.2.2.2.2.2.2.2.2.2.2.2.2.1 u.2.2.2.2.2.2.2.2.2.2.2.2.2.2.2.2.1 u.2.2.2.2.2.2.2.2.2.2.2.2.2.2.2.2.2.1 u.2.2.2.2.2.2.2.2.2.2.2.2.2.2.2.2.2.2.1 u.2.2.2.2.2.2.2.2.2.2.2.2.2.2.2.2.2.2.2.1 u.2.2.2.2.2.2.2.2.2.2.2.2.2.2.2.2.2.2.2.2.1 u.2.2.2.2.2.2.2.2.2.2.2.2.2.2.2.2.2.2.2.2.2.1 u.2.2.2.2.2.2.2.2.2.2.2.2.2.2.2.2.2.2.2.2.2.2.1 u.2.2.2.2.2.2.2.2.2.2.2.2.2.2.2.2.2.2.2.2.2.2.2.1 u.2.2.2.2.2.2.2.2.2.2.2.2.2.2.2.2.2.2.2.2.2.2.2.2.1 u.2.2.2.2.2.2.2.2.2.2.2.2.2.2.2.2.2.2.2.2.2.2.2.2.2.1 u.2.2.2.2.2.2.2.2.2.2.2.2.2.2.2.2.2.2.2.2.2.2.2.2.2.2.1 u.2.2.2.2.2.2.2.2.2.2.2.2.2.2.2.2.2.2.2.2.2.2.2.2.2.2.2.1 u.2.2.2.2.2.2.2.2.2.2.2.2.2.2.2.2.2.2.2.2.2.2.2.2.2.2.2.2.1 u.2.2.2.2.2.2.2.2.2.2.2.2.2.2.2.2.2.2.2.2.2.2.2.2.2.2.2.2.2.1 u.2.2.2.2.2.2.2.2.2.2.2.2.2.2.2.2.2.2.2.2.2.2.2.2.2.2.2.2.2.2.1 u.2.2.2.2.2.2.2.2.2.2.2.2.2.2.2.2.2.2.2.2.2.2.2.2.2.2.2.2.2.2.2.1 u.2.2.2.2.2.2.2.2.2.2.2.2.2.2.2.2.2.2.2.2.2.2.2.2.2.2.2.2.2.2.2.2.1 u.2.2.2.2.2.2.2.2.2.2.2.2.2.2.2.2.2.2.2.2.2.2.2.2.2.2.2.2.2.2.2.2.2.1 u.2.2.2.2.2.2.2.2.2.2.2.2.2.2.2.2.2.2.2.2.2.2.2.2.2.2.2.2.2.2.2.2.2.2.1 u.2.2.2.2.2.2.2.2.2.2.2.2.2.2.2.2.2.2.2.2.2.2.2.2.2.2.2.2.2.2.2.2.2.2.2) (fun u H => wrW E qr qt u.1 u.2.1 u.2.2.1 u.2.2.2.1 u.2.2.2.2.1 u.2.2.2.2.2.1 u.2.2.2.2.2.2.1 u.2.2.2.2.2.2.2.1 u.2.2.2.2.2.2.2.2.1 u.2.2.2.2.2.2.2.2.2.1 u.2.2.2.2.2.2.2.2.2.2.1 u.2.2.2.2.2.2.2.2.2.2.2.1 u.2.2.2.2.2.2.2.2.2.2.2.2.1 u.2.2.2.2.2.2.2.2.2.2.2.2.2.1 u.2.2.2.2.2.2.2.2.2.2.2.2.2.2.1 u.2.2.2.2.2.2.2.2.2.2.2.2.2.2.2.1 u.2.2.2.2.2.2.2.2.2.2.2.2.2.2.2.2.1 u.2.2.2.2.2.2.2.2.2.2.2.2.2.2.2.2.2.1 u.2.2.2.2.2.2.2.2.2.2.2.2.2.2.2.2.2.2.1 u.2.2.2.2.2.2.2.2.2.2.2.2.2.2.2.2.2.2.2.1 u.2.2.2.2.2.2.2.2.2.2.2.2.2.2.2.2.2.2.2.2.1 u.2.2.2.2.2.2.2.2.2.2.2.2.2.2.2.2.2.2.2.2.2.1 u.2.2.2.2.2.2.2.2.2.2.2.2.2.2.2.2.2.2.2.2.2.2.1 u.2.2.2.2.2.2.2.2.2.2.2.2.2.2.2.2.2.2.2.2.2.2.2.1 u.2.2.2.2.2.2.2.2.2.2.2.2.2.2.2.2.2.2.2.2.2.2.2.2.1 u.2.2.2.2.2.2.2.2.2.2.2.2.2.2.2.2.2.2.2.2.2.2.2.2.2.1 u.2.2.2.2.2.2.2.2.2.2.2.2.2.2.2.2.2.2.2.2.2.2.2.2.2.2.1 u.2.2.2.2.2.2.2.2.2.2.2.2.2.2.2.2.2.2.2.2.2.2.2.2.2.2.2.1 u.2.2.2.2.2.2.2.2.2.2.2.2.2.2.2.2.2.2.2.2.2.2.2.2.2.2.2.2.1 u.2.2.2.2.2.2.2.2.2.2.2.2.2.2.2.2.2.2.2.2.2.2.2.2.2.2.2.2.2.1 a_tape f_length u.2.2.2.2.2.2.2.2.2.2.2.2.2.2.2.2.2.2.2.2.2.2.2.2.2.2.2.2.2.2.1 u.2.2.2.2.2.2.2.2.2.2.2.2.2.2.2.2.2.2.2.2.2.2.2.2.2.2.2.2.2.2.2.1 u.2.2.2.2.2.2.2.2.2.2.2.2.2.2.2.2.2.2.2.2.2.2.2.2.2.2.2.2.2.2.2.2.1 u.2.2.2.2.2.2.2.2.2.2.2.2.2.2.2.2.2.2.2.2.2.2.2.2.2.2.2.2.2.2.2.2.2.1 u.2.2.2.2.2.2.2.2.2.2.2.2.2.2.2.2.2.2.2.2.2.2.2.2.2.2.2.2.2.2.2.2.2.2.1 u.2.2.2.2.2.2.2.2.2.2.2.2.2.2.2.2.2.2.2.2.2.2.2.2.2.2.2.2.2.2.2.2.2.2.2 z_from H) (wrA qr qt)) args s 0 0 (wrA qr qt)) (F0 m 39 ls []) := by
  have hx := zc.1
  have hb := zc.2.1
  refine hw (fun x3 f_fault f_faultPlace a_numbers f_behind f_kind f_first f_value => ∀ (H : Heap) (locs : List Loc) (ls : Array Slot), lv_has ls 4 [(0, .ref qr), (2, .int x2), (3, .int x3)] → wrW E qr qt lf_huts lf_singers lf_villages lf_dams lf_echoes lf_deep lf_slide la_heights la_ladders la_minutes la_echoFrom la_echoTo la_homes la_talls la_known vf_deeds va_kinds va_firsts va_seconds sf_facts sa_heard sa_huts sa_minutes cf_voices cf_step ca_parts ca_heights f_fault f_faultPlace a_numbers a_tape f_length f_behind f_kind f_first f_value f_hutsToldOf f_singersToldOf z_from H → va_S (wrA qr qt) s.heap H locs → W p l e rm_wr_X4_readLine s m args below meth c H locs 0 0 (MQ below (zQv (S := (Int32) × (Int32) × (Int32) × (Int32) × (Int32) × (Int32) × (Int32) × (Nat → Int32) × (Nat → Int32) × (Nat → Int32) × (Nat → Int32) × (Nat → Int32) × (Nat → Int32) × (Nat → Int32) × (Nat → Int32) × (Int32) × (Nat → Int32) × (Nat → Int32) × (Nat → Int32) × (Int32) × (Nat → Int32) × (Nat → Int32) × (Nat → Int32) × (Int32) × (Int32) × (Nat → Int32) × (Nat → Int32) × (Int32) × (Int32) × (Nat → Int32) × (Int32) × (Int32) × (Int32) × (Int32) × (Int32) × (Int32)) (fun u => post u.1 u.2.1 u.2.2.1 u.2.2.2.1 u.2.2.2.2.1 u.2.2.2.2.2.1 u.2.2.2.2.2.2.1 u.2.2.2.2.2.2.2.1 u.2.2.2.2.2.2.2.2.1 u.2.2.2.2.2.2.2.2.2.1 u.2.2.2.2.2.2.2.2.2.2.1 u.2.2.2.2.2.2.2.2.2.2.2.1 u.2.2.2.2.2.2.2.2.2.2.2.2.1 u.2.2.2.2.2.2.2.2.2.2.2.2.2.1 u.2.2.2.2.2.2.2.2.2.2.2.2.2.2.1 u.2.2.2.2.2.2.2.2.2.2.2.2.2.2.2.1 u.2.2.2.2.2.2.2.2.2.2.2.2.2.2.2.2.1 u.2.2.2.2.2.2.2.2.2.2.2.2.2.2.2.2.2.1 u.2.2.2.2.2.2.2.2.2.2.2.2.2.2.2.2.2.2.1 u.2.2.2.2.2.2.2.2.2.2.2.2.2.2.2.2.2.2.2.1 u.2.2.2.2.2.2.2.2.2.2.2.2.2.2.2.2.2.2.2.2.1 u.2.2.2.2.2.2.2.2.2.2.2.2.2.2.2.2.2.2.2.2.2.1 u.2.2.2.2.2.2.2.2.2.2.2.2.2.2.2.2.2.2.2.2.2.2.1 u.2.2.2.2.2.2.2.2.2.2.2.2.2.2.2.2.2.2.2.2.2.2.2.1 u.2.2.2.2.2.2.2.2.2.2.2.2.2.2.2.2.2.2.2.2.2.2.2.2.1 u.2.2.2.2.2.2.2.2.2.2.2.2.2.2.2.2.2.2.2.2.2.2.2.2.2.1 u.2.2.2.2.2.2.2.2.2.2.2.2.2.2.2.2.2.2.2.2.2.2.2.2.2.2.1 u.2.2.2.2.2.2.2.2.2.2.2.2.2.2.2.2.2.2.2.2.2.2.2.2.2.2.2.1 u.2.2.2.2.2.2.2.2.2.2.2.2.2.2.2.2.2.2.2.2.2.2.2.2.2.2.2.2.1 u.2.2.2.2.2.2.2.2.2.2.2.2.2.2.2.2.2.2.2.2.2.2.2.2.2.2.2.2.2.1 u.2.2.2.2.2.2.2.2.2.2.2.2.2.2.2.2.2.2.2.2.2.2.2.2.2.2.2.2.2.2.1 u.2.2.2.2.2.2.2.2.2.2.2.2.2.2.2.2.2.2.2.2.2.2.2.2.2.2.2.2.2.2.2.1 u.2.2.2.2.2.2.2.2.2.2.2.2.2.2.2.2.2.2.2.2.2.2.2.2.2.2.2.2.2.2.2.2.1 u.2.2.2.2.2.2.2.2.2.2.2.2.2.2.2.2.2.2.2.2.2.2.2.2.2.2.2.2.2.2.2.2.2.1 u.2.2.2.2.2.2.2.2.2.2.2.2.2.2.2.2.2.2.2.2.2.2.2.2.2.2.2.2.2.2.2.2.2.2.1 u.2.2.2.2.2.2.2.2.2.2.2.2.2.2.2.2.2.2.2.2.2.2.2.2.2.2.2.2.2.2.2.2.2.2.2) (fun u H => wrW E qr qt u.1 u.2.1 u.2.2.1 u.2.2.2.1 u.2.2.2.2.1 u.2.2.2.2.2.1 u.2.2.2.2.2.2.1 u.2.2.2.2.2.2.2.1 u.2.2.2.2.2.2.2.2.1 u.2.2.2.2.2.2.2.2.2.1 u.2.2.2.2.2.2.2.2.2.2.1 u.2.2.2.2.2.2.2.2.2.2.2.1 u.2.2.2.2.2.2.2.2.2.2.2.2.1 u.2.2.2.2.2.2.2.2.2.2.2.2.2.1 u.2.2.2.2.2.2.2.2.2.2.2.2.2.2.1 u.2.2.2.2.2.2.2.2.2.2.2.2.2.2.2.1 u.2.2.2.2.2.2.2.2.2.2.2.2.2.2.2.2.1 u.2.2.2.2.2.2.2.2.2.2.2.2.2.2.2.2.2.1 u.2.2.2.2.2.2.2.2.2.2.2.2.2.2.2.2.2.2.1 u.2.2.2.2.2.2.2.2.2.2.2.2.2.2.2.2.2.2.2.1 u.2.2.2.2.2.2.2.2.2.2.2.2.2.2.2.2.2.2.2.2.1 u.2.2.2.2.2.2.2.2.2.2.2.2.2.2.2.2.2.2.2.2.2.1 u.2.2.2.2.2.2.2.2.2.2.2.2.2.2.2.2.2.2.2.2.2.2.1 u.2.2.2.2.2.2.2.2.2.2.2.2.2.2.2.2.2.2.2.2.2.2.2.1 u.2.2.2.2.2.2.2.2.2.2.2.2.2.2.2.2.2.2.2.2.2.2.2.2.1 u.2.2.2.2.2.2.2.2.2.2.2.2.2.2.2.2.2.2.2.2.2.2.2.2.2.1 u.2.2.2.2.2.2.2.2.2.2.2.2.2.2.2.2.2.2.2.2.2.2.2.2.2.2.1 u.2.2.2.2.2.2.2.2.2.2.2.2.2.2.2.2.2.2.2.2.2.2.2.2.2.2.2.1 u.2.2.2.2.2.2.2.2.2.2.2.2.2.2.2.2.2.2.2.2.2.2.2.2.2.2.2.2.1 u.2.2.2.2.2.2.2.2.2.2.2.2.2.2.2.2.2.2.2.2.2.2.2.2.2.2.2.2.2.1 a_tape f_length u.2.2.2.2.2.2.2.2.2.2.2.2.2.2.2.2.2.2.2.2.2.2.2.2.2.2.2.2.2.2.1 u.2.2.2.2.2.2.2.2.2.2.2.2.2.2.2.2.2.2.2.2.2.2.2.2.2.2.2.2.2.2.2.1 u.2.2.2.2.2.2.2.2.2.2.2.2.2.2.2.2.2.2.2.2.2.2.2.2.2.2.2.2.2.2.2.2.1 u.2.2.2.2.2.2.2.2.2.2.2.2.2.2.2.2.2.2.2.2.2.2.2.2.2.2.2.2.2.2.2.2.2.1 u.2.2.2.2.2.2.2.2.2.2.2.2.2.2.2.2.2.2.2.2.2.2.2.2.2.2.2.2.2.2.2.2.2.2.1 u.2.2.2.2.2.2.2.2.2.2.2.2.2.2.2.2.2.2.2.2.2.2.2.2.2.2.2.2.2.2.2.2.2.2.2 z_from H) (wrA qr qt)) args s 0 0 (wrA qr qt)) (F0 m 39 ls [])) ?_ _ _ _ hl hM hS
  intro x3 f_fault f_faultPlace a_numbers f_behind f_kind f_first f_value hw H locs ls hl hM hS
  refine lv_iload_n hx hb dX4_readLine_39 rfl (lv_at hl 2 rfl) ?_
  refine va_gets hx hb hZ.1.2.1 hS zc.2.2.2.1 (zc.2.2.2.2.1 _ kf_4_128) (fun _ h => h) dX4_readLine_40 ?_
  refine lv_iload_n hx hb dX4_readLine_43 rfl (lv_at hl 1 rfl) ?_
  refine va_ti hx hb hZ.2.1.2.1 hS hw.1 rfl dX4_readLine_44 ?_
  have hw := hw.2
  refine lv_icmp_ge (tgt := 99) hx hb dX4_readLine_45 (by decide) (fun hc => ?_) (fun hc => ?_)
  · have hw := hw.1 hc
    refine lv_aload_n hx hb dX4_readLine_99 rfl (lv_at hl 0 rfl) ?_
    refine wrg_4_73_0 zc hK hM dX4_readLine_100 ?_
    refine lv_iconst (v := (3 : Int32)) hx hb dX4_readLine_103 (by decide) ?_
    refine lv_icmp_eq (tgt := 112) hx hb dX4_readLine_104 (by decide) (fun hc => ?_) (fun hc => ?_)
    · have hw := hw.1 hc
      refine lv_aload_n hx hb dX4_readLine_112 rfl (lv_at hl 0 rfl) ?_
      refine wrg_4_63_0 zc hK hM dX4_readLine_113 ?_
      refine lv_if_ne (tgt := 124) hx hb dX4_readLine_116 (by decide) (fun hc => ?_) (fun hc => ?_)
      · have hw := hw.1 hc
        exact t_wr_X4_readLine_124 zc hK hM hZ hS  (lv_sub hl [0] rfl) hw
      · have hw := hw.2 hc
        refine lv_aload_n hx hb dX4_readLine_119 rfl (lv_at hl 0 rfl) ?_
        refine lv_iload_n hx hb dX4_readLine_120 rfl (lv_at hl 1 rfl) ?_
        refine zVw_v [.int x2] [] zc ky_X4_tell kz_X4_tell km_4_138 (c_wr_X4_tell l hw) (wrPreVZ0 hK hM hZ hS (fun _ h => h)) hS rfl rfl hl.1 (Nat.le_of_ble_eq_true rfl) ⟨rfl, rfl⟩ ⟨Nat.le_of_ble_eq_true rfl, Nat.le_of_ble_eq_true rfl⟩ ⟨(Nat.zero_le _), (Nat.zero_le _)⟩ dX4_readLine_121 (fun u H locs hw hM hS => ?_)
        obtain ⟨lf_huts_1, lf_singers_1, lf_villages_1, lf_dams_1, lf_echoes_1, lf_deep_1, lf_slide_1, la_heights_1, la_ladders_1, la_minutes_1, la_echoFrom_1, la_echoTo_1, la_homes_1, la_talls_1, la_known_1, vf_deeds_1, va_kinds_1, va_firsts_1, va_seconds_1, sf_facts_1, sa_heard_1, sa_huts_1, sa_minutes_1, cf_voices_1, cf_step_1, ca_parts_1, ca_heights_1, f_hutsToldOf_1, f_singersToldOf_1⟩ := u
        exact t_wr_X4_readLine_124 zc hK hM hZ hS  (lv_sub hl [0] rfl) hw
    · have hw := hw.2 hc
      refine lv_aload_n hx hb dX4_readLine_107 rfl (lv_at hl 0 rfl) ?_
      refine zVw_v [] [] zc ky_X4_refuse kz_X4_refuse km_4_118 (c_wr_X4_refuse l hw) (wrPreV0 hK hM) hS rfl rfl hl.1 (Nat.le_of_ble_eq_true rfl) ⟨rfl, rfl⟩ ⟨Nat.le_of_ble_eq_true rfl, Nat.le_of_ble_eq_true rfl⟩ ⟨(Nat.zero_le _), (Nat.zero_le _)⟩ dX4_readLine_108 (fun u H locs hw hM hS => ?_)
      obtain ⟨f_fault_1, f_faultPlace_1⟩ := u
      exact zret_vw ⟨lf_huts, lf_singers, lf_villages, lf_dams, lf_echoes, lf_deep, lf_slide, la_heights, la_ladders, la_minutes, la_echoFrom, la_echoTo, la_homes, la_talls, la_known, vf_deeds, va_kinds, va_firsts, va_seconds, sf_facts, sa_heard, sa_huts, sa_minutes, cf_voices, cf_step, ca_parts, ca_heights, f_fault_1, f_faultPlace_1, a_numbers, f_behind, f_kind, f_first, f_value, f_hutsToldOf, f_singersToldOf⟩ zc hS hw hM dX4_readLine_111
  · have hw := hw.2 hc
    refine lv_aload_n hx hb dX4_readLine_48 rfl (lv_at hl 0 rfl) ?_
    refine wrg_4_73_0 zc hK hM dX4_readLine_49 ?_
    refine lv_iconst (v := (2 : Int32)) hx hb dX4_readLine_52 (by decide) ?_
    refine lv_icmp_eq (tgt := 61) hx hb dX4_readLine_53 (by decide) (fun hc => ?_) (fun hc => ?_)
    · have hw := hw.1 hc
      refine lv_aload_n hx hb dX4_readLine_61 rfl (lv_at hl 0 rfl) ?_
      refine wrg_4_43_0 zc hK hM dX4_readLine_62 ?_
      refine lv_iload_n hx hb dX4_readLine_65 rfl (lv_at hl 2 rfl) ?_
      refine lv_aload_n hx hb dX4_readLine_66 rfl (lv_at hl 0 rfl) ?_
      refine wrg_4_131_0 zc hK hM dX4_readLine_67 ?_
      refine wrst_21 zc hK hM hS hw.1 dX4_readLine_70 (fun a_numbers_1 H locs ea_numbers_1 hM hS => ?_)
      have hw := hw.2 a_numbers_1 ea_numbers_1
      refine lv_aload_n hx hb dX4_readLine_71 rfl (lv_at hl 0 rfl) ?_
      refine lv_iload_n hx hb dX4_readLine_72 rfl (lv_at hl 1 rfl) ?_
      refine lv_iload_n hx hb dX4_readLine_73 rfl (lv_at hl 2 rfl) ?_
      refine zV_i [.int x2, .int x3] [] zc ky_X4_canBe kz_X4_canBe km_4_134 (c_wr_X4_canBe l hw) (wrPreVZ0 hK hM hZ hS (fun _ h => h)) rfl rfl hl.1 (Nat.le_of_ble_eq_true rfl) ⟨rfl, rfl⟩ ⟨Nat.le_of_ble_eq_true rfl, Nat.le_of_ble_eq_true rfl⟩ ⟨(Nat.zero_le _), (Nat.zero_le _)⟩ dX4_readLine_74 (fun r_1 hw => ?_)
      refine lv_if_ne (tgt := 89) hx hb dX4_readLine_77 (by decide) (fun hc => ?_) (fun hc => ?_)
      · have hw := hw.1 hc
        exact t_wr_X4_readLine_89 zc hK hM hZ hS (fun _ _ _ _ _ _ _ _ H locs ls h hl hM hS => h H locs ls hl hM hS) (lv_sub hl [0, 1, 2] rfl) hw
      · have hw := hw.2 hc
        refine lv_aload_n hx hb dX4_readLine_80 rfl (lv_at hl 0 rfl) ?_
        refine lv_iconst (v := (2 : Int32)) hx hb dX4_readLine_81 (by decide) ?_
        refine lv_aload_n hx hb dX4_readLine_82 rfl (lv_at hl 0 rfl) ?_
        refine wrg_4_125_0 zc hK hM dX4_readLine_83 ?_
        refine zVw_v [.int (2 : Int32), .int f_first] [] zc ky_X4_mark kz_X4_mark km_4_83 (c_wr_X4_mark l hw) (wrPreV0 hK hM) hS rfl rfl hl.1 (Nat.le_of_ble_eq_true rfl) ⟨rfl, rfl⟩ ⟨Nat.le_of_ble_eq_true rfl, Nat.le_of_ble_eq_true rfl⟩ ⟨(Nat.zero_le _), (Nat.zero_le _)⟩ dX4_readLine_86 (fun u H locs hw hM hS => ?_)
        obtain ⟨f_fault_2, f_faultPlace_2⟩ := u
        exact t_wr_X4_readLine_89 zc hK hM hZ hS (fun _ _ _ _ _ _ _ _ H locs ls h hl hM hS => h H locs ls hl hM hS) (lv_sub hl [0, 1, 2] rfl) hw
    · have hw := hw.2 hc
      refine lv_aload_n hx hb dX4_readLine_56 rfl (lv_at hl 0 rfl) ?_
      refine zVw_v [] [] zc ky_X4_refuse kz_X4_refuse km_4_118 (c_wr_X4_refuse l hw) (wrPreV0 hK hM) hS rfl rfl hl.1 (Nat.le_of_ble_eq_true rfl) ⟨rfl, rfl⟩ ⟨Nat.le_of_ble_eq_true rfl, Nat.le_of_ble_eq_true rfl⟩ ⟨(Nat.zero_le _), (Nat.zero_le _)⟩ dX4_readLine_57 (fun u H locs hw hM hS => ?_)
      obtain ⟨f_fault_3, f_faultPlace_3⟩ := u
      exact zret_vw ⟨lf_huts, lf_singers, lf_villages, lf_dams, lf_echoes, lf_deep, lf_slide, la_heights, la_ladders, la_minutes, la_echoFrom, la_echoTo, la_homes, la_talls, la_known, vf_deeds, va_kinds, va_firsts, va_seconds, sf_facts, sa_heard, sa_huts, sa_minutes, cf_voices, cf_step, ca_parts, ca_heights, f_fault_3, f_faultPlace_3, a_numbers, f_behind, f_kind, f_first, f_value, f_hutsToldOf, f_singersToldOf⟩ zc hS hw hM dX4_readLine_60
set_option maxRecDepth 20000 in
theorem t_wr_X4_readLine_33 {p : Program} {l : Launch} {e : Env} {s : State} {m : MethodId} {args : Array Value} {below : List Frame} {meth : Method} {c : Code} {G : zG} {E : zE} {qr qt : Nat} {lf_huts : Int32} {lf_singers : Int32} {lf_villages : Int32} {lf_dams : Int32} {lf_echoes : Int32} {lf_deep : Int32} {lf_slide : Int32} {la_heights : Nat → Int32} {la_ladders : Nat → Int32} {la_minutes : Nat → Int32} {la_echoFrom : Nat → Int32} {la_echoTo : Nat → Int32} {la_homes : Nat → Int32} {la_talls : Nat → Int32} {la_known : Nat → Int32} {vf_deeds : Int32} {va_kinds : Nat → Int32} {va_firsts : Nat → Int32} {va_seconds : Nat → Int32} {sf_facts : Int32} {sa_heard : Nat → Int32} {sa_huts : Nat → Int32} {sa_minutes : Nat → Int32} {cf_voices : Int32} {cf_step : Int32} {ca_parts : Nat → Int32} {ca_heights : Nat → Int32} {f_fault : Int32} {f_faultPlace : Int32} {a_numbers : Nat → Int32} {a_tape : Nat → Int32} {f_length : Int32} {f_behind : Int32} {f_kind : Int32} {f_first : Int32} {f_value : Int32} {f_hutsToldOf : Int32} {f_singersToldOf : Int32} {z_from : Nat → Int32} {post : (Int32) → (Int32) → (Int32) → (Int32) → (Int32) → (Int32) → (Int32) → (Nat → Int32) → (Nat → Int32) → (Nat → Int32) → (Nat → Int32) → (Nat → Int32) → (Nat → Int32) → (Nat → Int32) → (Nat → Int32) → (Int32) → (Nat → Int32) → (Nat → Int32) → (Nat → Int32) → (Int32) → (Nat → Int32) → (Nat → Int32) → (Nat → Int32) → (Int32) → (Int32) → (Nat → Int32) → (Nat → Int32) → (Int32) → (Int32) → (Nat → Int32) → (Int32) → (Int32) → (Int32) → (Int32) → (Int32) → (Int32) → Prop} {x2 : Int32} {ls : Array Slot} {H : Heap} {locs : List Loc}
    (zc : zC p s m args meth c cX4_readLine 4 RX4 none)
    (hK : zK E s)
    (hM : wrW E qr qt lf_huts lf_singers lf_villages lf_dams lf_echoes lf_deep lf_slide la_heights la_ladders la_minutes la_echoFrom la_echoTo la_homes la_talls la_known vf_deeds va_kinds va_firsts va_seconds sf_facts sa_heard sa_huts sa_minutes cf_voices cf_step ca_parts ca_heights f_fault f_faultPlace a_numbers a_tape f_length f_behind f_kind f_first f_value f_hutsToldOf f_singersToldOf z_from H)
    (hZ : zZ G (wrA qr qt) s s.heap)
    (hS : va_S (wrA qr qt) s.heap H locs)
    (hl : lv_has ls 4 [(0, .ref qr), (2, .int x2)])
    (hw : q_wr_X4_readLine_33 lf_huts lf_singers lf_villages lf_dams lf_echoes lf_deep lf_slide la_heights la_ladders la_minutes la_echoFrom la_echoTo la_homes la_talls la_known vf_deeds va_kinds va_firsts va_seconds sf_facts sa_heard sa_huts sa_minutes cf_voices cf_step ca_parts ca_heights f_fault f_faultPlace a_numbers a_tape f_length f_behind f_kind f_first f_value f_hutsToldOf f_singersToldOf x2 post) :
    W p l e rm_wr_X4_readLine s m args below meth c H locs 0 0 (MQ below (zQv (S := (Int32) × (Int32) × (Int32) × (Int32) × (Int32) × (Int32) × (Int32) × (Nat → Int32) × (Nat → Int32) × (Nat → Int32) × (Nat → Int32) × (Nat → Int32) × (Nat → Int32) × (Nat → Int32) × (Nat → Int32) × (Int32) × (Nat → Int32) × (Nat → Int32) × (Nat → Int32) × (Int32) × (Nat → Int32) × (Nat → Int32) × (Nat → Int32) × (Int32) × (Int32) × (Nat → Int32) × (Nat → Int32) × (Int32) × (Int32) × (Nat → Int32) × (Int32) × (Int32) × (Int32) × (Int32) × (Int32) × (Int32)) (fun u => post u.1 u.2.1 u.2.2.1 u.2.2.2.1 u.2.2.2.2.1 u.2.2.2.2.2.1 u.2.2.2.2.2.2.1 u.2.2.2.2.2.2.2.1 u.2.2.2.2.2.2.2.2.1 u.2.2.2.2.2.2.2.2.2.1 u.2.2.2.2.2.2.2.2.2.2.1 u.2.2.2.2.2.2.2.2.2.2.2.1 u.2.2.2.2.2.2.2.2.2.2.2.2.1 u.2.2.2.2.2.2.2.2.2.2.2.2.2.1 u.2.2.2.2.2.2.2.2.2.2.2.2.2.2.1 u.2.2.2.2.2.2.2.2.2.2.2.2.2.2.2.1 u.2.2.2.2.2.2.2.2.2.2.2.2.2.2.2.2.1 u.2.2.2.2.2.2.2.2.2.2.2.2.2.2.2.2.2.1 u.2.2.2.2.2.2.2.2.2.2.2.2.2.2.2.2.2.2.1 u.2.2.2.2.2.2.2.2.2.2.2.2.2.2.2.2.2.2.2.1 u.2.2.2.2.2.2.2.2.2.2.2.2.2.2.2.2.2.2.2.2.1 u.2.2.2.2.2.2.2.2.2.2.2.2.2.2.2.2.2.2.2.2.2.1 u.2.2.2.2.2.2.2.2.2.2.2.2.2.2.2.2.2.2.2.2.2.2.1 u.2.2.2.2.2.2.2.2.2.2.2.2.2.2.2.2.2.2.2.2.2.2.2.1 u.2.2.2.2.2.2.2.2.2.2.2.2.2.2.2.2.2.2.2.2.2.2.2.2.1 u.2.2.2.2.2.2.2.2.2.2.2.2.2.2.2.2.2.2.2.2.2.2.2.2.2.1 u.2.2.2.2.2.2.2.2.2.2.2.2.2.2.2.2.2.2.2.2.2.2.2.2.2.2.1 u.2.2.2.2.2.2.2.2.2.2.2.2.2.2.2.2.2.2.2.2.2.2.2.2.2.2.2.1 u.2.2.2.2.2.2.2.2.2.2.2.2.2.2.2.2.2.2.2.2.2.2.2.2.2.2.2.2.1 u.2.2.2.2.2.2.2.2.2.2.2.2.2.2.2.2.2.2.2.2.2.2.2.2.2.2.2.2.2.1 u.2.2.2.2.2.2.2.2.2.2.2.2.2.2.2.2.2.2.2.2.2.2.2.2.2.2.2.2.2.2.1 u.2.2.2.2.2.2.2.2.2.2.2.2.2.2.2.2.2.2.2.2.2.2.2.2.2.2.2.2.2.2.2.1 u.2.2.2.2.2.2.2.2.2.2.2.2.2.2.2.2.2.2.2.2.2.2.2.2.2.2.2.2.2.2.2.2.1 u.2.2.2.2.2.2.2.2.2.2.2.2.2.2.2.2.2.2.2.2.2.2.2.2.2.2.2.2.2.2.2.2.2.1 u.2.2.2.2.2.2.2.2.2.2.2.2.2.2.2.2.2.2.2.2.2.2.2.2.2.2.2.2.2.2.2.2.2.2.1 u.2.2.2.2.2.2.2.2.2.2.2.2.2.2.2.2.2.2.2.2.2.2.2.2.2.2.2.2.2.2.2.2.2.2.2) (fun u H => wrW E qr qt u.1 u.2.1 u.2.2.1 u.2.2.2.1 u.2.2.2.2.1 u.2.2.2.2.2.1 u.2.2.2.2.2.2.1 u.2.2.2.2.2.2.2.1 u.2.2.2.2.2.2.2.2.1 u.2.2.2.2.2.2.2.2.2.1 u.2.2.2.2.2.2.2.2.2.2.1 u.2.2.2.2.2.2.2.2.2.2.2.1 u.2.2.2.2.2.2.2.2.2.2.2.2.1 u.2.2.2.2.2.2.2.2.2.2.2.2.2.1 u.2.2.2.2.2.2.2.2.2.2.2.2.2.2.1 u.2.2.2.2.2.2.2.2.2.2.2.2.2.2.2.1 u.2.2.2.2.2.2.2.2.2.2.2.2.2.2.2.2.1 u.2.2.2.2.2.2.2.2.2.2.2.2.2.2.2.2.2.1 u.2.2.2.2.2.2.2.2.2.2.2.2.2.2.2.2.2.2.1 u.2.2.2.2.2.2.2.2.2.2.2.2.2.2.2.2.2.2.2.1 u.2.2.2.2.2.2.2.2.2.2.2.2.2.2.2.2.2.2.2.2.1 u.2.2.2.2.2.2.2.2.2.2.2.2.2.2.2.2.2.2.2.2.2.1 u.2.2.2.2.2.2.2.2.2.2.2.2.2.2.2.2.2.2.2.2.2.2.1 u.2.2.2.2.2.2.2.2.2.2.2.2.2.2.2.2.2.2.2.2.2.2.2.1 u.2.2.2.2.2.2.2.2.2.2.2.2.2.2.2.2.2.2.2.2.2.2.2.2.1 u.2.2.2.2.2.2.2.2.2.2.2.2.2.2.2.2.2.2.2.2.2.2.2.2.2.1 u.2.2.2.2.2.2.2.2.2.2.2.2.2.2.2.2.2.2.2.2.2.2.2.2.2.2.1 u.2.2.2.2.2.2.2.2.2.2.2.2.2.2.2.2.2.2.2.2.2.2.2.2.2.2.2.1 u.2.2.2.2.2.2.2.2.2.2.2.2.2.2.2.2.2.2.2.2.2.2.2.2.2.2.2.2.1 u.2.2.2.2.2.2.2.2.2.2.2.2.2.2.2.2.2.2.2.2.2.2.2.2.2.2.2.2.2.1 a_tape f_length u.2.2.2.2.2.2.2.2.2.2.2.2.2.2.2.2.2.2.2.2.2.2.2.2.2.2.2.2.2.2.1 u.2.2.2.2.2.2.2.2.2.2.2.2.2.2.2.2.2.2.2.2.2.2.2.2.2.2.2.2.2.2.2.1 u.2.2.2.2.2.2.2.2.2.2.2.2.2.2.2.2.2.2.2.2.2.2.2.2.2.2.2.2.2.2.2.2.1 u.2.2.2.2.2.2.2.2.2.2.2.2.2.2.2.2.2.2.2.2.2.2.2.2.2.2.2.2.2.2.2.2.2.1 u.2.2.2.2.2.2.2.2.2.2.2.2.2.2.2.2.2.2.2.2.2.2.2.2.2.2.2.2.2.2.2.2.2.2.1 u.2.2.2.2.2.2.2.2.2.2.2.2.2.2.2.2.2.2.2.2.2.2.2.2.2.2.2.2.2.2.2.2.2.2.2 z_from H) (wrA qr qt)) args s 0 0 (wrA qr qt)) (F0 m 33 ls []) := by
  have hx := zc.1
  have hb := zc.2.1
  refine lv_aload_n hx hb dX4_readLine_33 rfl (lv_at hl 0 rfl) ?_
  refine zVw_v [] [] zc ky_X4_advance kz_X4_advance km_4_70 (c_wr_X4_advance l hw) (wrPreV0 hK hM) hS rfl rfl hl.1 (Nat.le_of_ble_eq_true rfl) ⟨rfl, rfl⟩ ⟨Nat.le_of_ble_eq_true rfl, Nat.le_of_ble_eq_true rfl⟩ ⟨(Nat.zero_le _), (Nat.zero_le _)⟩ dX4_readLine_34 (fun u H locs hw hM hS => ?_)
  obtain ⟨f_behind_1, f_kind_1, f_first_1, f_value_1⟩ := u
  refine lv_iconst (v := (0 : Int32)) hx hb dX4_readLine_37 (by decide) ?_
  refine lv_istore_n (lv' := [(3, .int (0 : Int32)), (0, .ref qr), (2, .int x2)]) hx hb dX4_readLine_38 rfl hl (by decide) rfl (fun ls hl => ?_)
  exact t_wr_X4_readLine_39 zc hK hM hZ hS  (lv_sub hl [1, 2, 0] rfl) hw
set_option maxRecDepth 20000 in
theorem t_wr_X4_readLine_0 {p : Program} {l : Launch} {e : Env} {s : State} {m : MethodId} {args : Array Value} {below : List Frame} {meth : Method} {c : Code} {G : zG} {E : zE} {qr qt : Nat} {lf_huts : Int32} {lf_singers : Int32} {lf_villages : Int32} {lf_dams : Int32} {lf_echoes : Int32} {lf_deep : Int32} {lf_slide : Int32} {la_heights : Nat → Int32} {la_ladders : Nat → Int32} {la_minutes : Nat → Int32} {la_echoFrom : Nat → Int32} {la_echoTo : Nat → Int32} {la_homes : Nat → Int32} {la_talls : Nat → Int32} {la_known : Nat → Int32} {vf_deeds : Int32} {va_kinds : Nat → Int32} {va_firsts : Nat → Int32} {va_seconds : Nat → Int32} {sf_facts : Int32} {sa_heard : Nat → Int32} {sa_huts : Nat → Int32} {sa_minutes : Nat → Int32} {cf_voices : Int32} {cf_step : Int32} {ca_parts : Nat → Int32} {ca_heights : Nat → Int32} {f_fault : Int32} {f_faultPlace : Int32} {a_numbers : Nat → Int32} {a_tape : Nat → Int32} {f_length : Int32} {f_behind : Int32} {f_kind : Int32} {f_first : Int32} {f_value : Int32} {f_hutsToldOf : Int32} {f_singersToldOf : Int32} {z_from : Nat → Int32} {post : (Int32) → (Int32) → (Int32) → (Int32) → (Int32) → (Int32) → (Int32) → (Nat → Int32) → (Nat → Int32) → (Nat → Int32) → (Nat → Int32) → (Nat → Int32) → (Nat → Int32) → (Nat → Int32) → (Nat → Int32) → (Int32) → (Nat → Int32) → (Nat → Int32) → (Nat → Int32) → (Int32) → (Nat → Int32) → (Nat → Int32) → (Nat → Int32) → (Int32) → (Int32) → (Nat → Int32) → (Nat → Int32) → (Int32) → (Int32) → (Nat → Int32) → (Int32) → (Int32) → (Int32) → (Int32) → (Int32) → (Int32) → Prop} {x1 : Int32} {ls : Array Slot} {H : Heap} {locs : List Loc}
    (zc : zC p s m args meth c cX4_readLine 4 RX4 none)
    (hK : zK E s)
    (hM : wrW E qr qt lf_huts lf_singers lf_villages lf_dams lf_echoes lf_deep lf_slide la_heights la_ladders la_minutes la_echoFrom la_echoTo la_homes la_talls la_known vf_deeds va_kinds va_firsts va_seconds sf_facts sa_heard sa_huts sa_minutes cf_voices cf_step ca_parts ca_heights f_fault f_faultPlace a_numbers a_tape f_length f_behind f_kind f_first f_value f_hutsToldOf f_singersToldOf z_from H)
    (hZ : zZ G (wrA qr qt) s s.heap)
    (hS : va_S (wrA qr qt) s.heap H locs)
    (hl : lv_has ls 4 [(0, .ref qr), (1, .int x1)])
    (hw : q_wr_X4_readLine_0 lf_huts lf_singers lf_villages lf_dams lf_echoes lf_deep lf_slide la_heights la_ladders la_minutes la_echoFrom la_echoTo la_homes la_talls la_known vf_deeds va_kinds va_firsts va_seconds sf_facts sa_heard sa_huts sa_minutes cf_voices cf_step ca_parts ca_heights f_fault f_faultPlace a_numbers a_tape f_length f_behind f_kind f_first f_value f_hutsToldOf f_singersToldOf x1 post) :
    W p l e rm_wr_X4_readLine s m args below meth c H locs 0 0 (MQ below (zQv (S := (Int32) × (Int32) × (Int32) × (Int32) × (Int32) × (Int32) × (Int32) × (Nat → Int32) × (Nat → Int32) × (Nat → Int32) × (Nat → Int32) × (Nat → Int32) × (Nat → Int32) × (Nat → Int32) × (Nat → Int32) × (Int32) × (Nat → Int32) × (Nat → Int32) × (Nat → Int32) × (Int32) × (Nat → Int32) × (Nat → Int32) × (Nat → Int32) × (Int32) × (Int32) × (Nat → Int32) × (Nat → Int32) × (Int32) × (Int32) × (Nat → Int32) × (Int32) × (Int32) × (Int32) × (Int32) × (Int32) × (Int32)) (fun u => post u.1 u.2.1 u.2.2.1 u.2.2.2.1 u.2.2.2.2.1 u.2.2.2.2.2.1 u.2.2.2.2.2.2.1 u.2.2.2.2.2.2.2.1 u.2.2.2.2.2.2.2.2.1 u.2.2.2.2.2.2.2.2.2.1 u.2.2.2.2.2.2.2.2.2.2.1 u.2.2.2.2.2.2.2.2.2.2.2.1 u.2.2.2.2.2.2.2.2.2.2.2.2.1 u.2.2.2.2.2.2.2.2.2.2.2.2.2.1 u.2.2.2.2.2.2.2.2.2.2.2.2.2.2.1 u.2.2.2.2.2.2.2.2.2.2.2.2.2.2.2.1 u.2.2.2.2.2.2.2.2.2.2.2.2.2.2.2.2.1 u.2.2.2.2.2.2.2.2.2.2.2.2.2.2.2.2.2.1 u.2.2.2.2.2.2.2.2.2.2.2.2.2.2.2.2.2.2.1 u.2.2.2.2.2.2.2.2.2.2.2.2.2.2.2.2.2.2.2.1 u.2.2.2.2.2.2.2.2.2.2.2.2.2.2.2.2.2.2.2.2.1 u.2.2.2.2.2.2.2.2.2.2.2.2.2.2.2.2.2.2.2.2.2.1 u.2.2.2.2.2.2.2.2.2.2.2.2.2.2.2.2.2.2.2.2.2.2.1 u.2.2.2.2.2.2.2.2.2.2.2.2.2.2.2.2.2.2.2.2.2.2.2.1 u.2.2.2.2.2.2.2.2.2.2.2.2.2.2.2.2.2.2.2.2.2.2.2.2.1 u.2.2.2.2.2.2.2.2.2.2.2.2.2.2.2.2.2.2.2.2.2.2.2.2.2.1 u.2.2.2.2.2.2.2.2.2.2.2.2.2.2.2.2.2.2.2.2.2.2.2.2.2.2.1 u.2.2.2.2.2.2.2.2.2.2.2.2.2.2.2.2.2.2.2.2.2.2.2.2.2.2.2.1 u.2.2.2.2.2.2.2.2.2.2.2.2.2.2.2.2.2.2.2.2.2.2.2.2.2.2.2.2.1 u.2.2.2.2.2.2.2.2.2.2.2.2.2.2.2.2.2.2.2.2.2.2.2.2.2.2.2.2.2.1 u.2.2.2.2.2.2.2.2.2.2.2.2.2.2.2.2.2.2.2.2.2.2.2.2.2.2.2.2.2.2.1 u.2.2.2.2.2.2.2.2.2.2.2.2.2.2.2.2.2.2.2.2.2.2.2.2.2.2.2.2.2.2.2.1 u.2.2.2.2.2.2.2.2.2.2.2.2.2.2.2.2.2.2.2.2.2.2.2.2.2.2.2.2.2.2.2.2.1 u.2.2.2.2.2.2.2.2.2.2.2.2.2.2.2.2.2.2.2.2.2.2.2.2.2.2.2.2.2.2.2.2.2.1 u.2.2.2.2.2.2.2.2.2.2.2.2.2.2.2.2.2.2.2.2.2.2.2.2.2.2.2.2.2.2.2.2.2.2.1 u.2.2.2.2.2.2.2.2.2.2.2.2.2.2.2.2.2.2.2.2.2.2.2.2.2.2.2.2.2.2.2.2.2.2.2) (fun u H => wrW E qr qt u.1 u.2.1 u.2.2.1 u.2.2.2.1 u.2.2.2.2.1 u.2.2.2.2.2.1 u.2.2.2.2.2.2.1 u.2.2.2.2.2.2.2.1 u.2.2.2.2.2.2.2.2.1 u.2.2.2.2.2.2.2.2.2.1 u.2.2.2.2.2.2.2.2.2.2.1 u.2.2.2.2.2.2.2.2.2.2.2.1 u.2.2.2.2.2.2.2.2.2.2.2.2.1 u.2.2.2.2.2.2.2.2.2.2.2.2.2.1 u.2.2.2.2.2.2.2.2.2.2.2.2.2.2.1 u.2.2.2.2.2.2.2.2.2.2.2.2.2.2.2.1 u.2.2.2.2.2.2.2.2.2.2.2.2.2.2.2.2.1 u.2.2.2.2.2.2.2.2.2.2.2.2.2.2.2.2.2.1 u.2.2.2.2.2.2.2.2.2.2.2.2.2.2.2.2.2.2.1 u.2.2.2.2.2.2.2.2.2.2.2.2.2.2.2.2.2.2.2.1 u.2.2.2.2.2.2.2.2.2.2.2.2.2.2.2.2.2.2.2.2.1 u.2.2.2.2.2.2.2.2.2.2.2.2.2.2.2.2.2.2.2.2.2.1 u.2.2.2.2.2.2.2.2.2.2.2.2.2.2.2.2.2.2.2.2.2.2.1 u.2.2.2.2.2.2.2.2.2.2.2.2.2.2.2.2.2.2.2.2.2.2.2.1 u.2.2.2.2.2.2.2.2.2.2.2.2.2.2.2.2.2.2.2.2.2.2.2.2.1 u.2.2.2.2.2.2.2.2.2.2.2.2.2.2.2.2.2.2.2.2.2.2.2.2.2.1 u.2.2.2.2.2.2.2.2.2.2.2.2.2.2.2.2.2.2.2.2.2.2.2.2.2.2.1 u.2.2.2.2.2.2.2.2.2.2.2.2.2.2.2.2.2.2.2.2.2.2.2.2.2.2.2.1 u.2.2.2.2.2.2.2.2.2.2.2.2.2.2.2.2.2.2.2.2.2.2.2.2.2.2.2.2.1 u.2.2.2.2.2.2.2.2.2.2.2.2.2.2.2.2.2.2.2.2.2.2.2.2.2.2.2.2.2.1 a_tape f_length u.2.2.2.2.2.2.2.2.2.2.2.2.2.2.2.2.2.2.2.2.2.2.2.2.2.2.2.2.2.2.1 u.2.2.2.2.2.2.2.2.2.2.2.2.2.2.2.2.2.2.2.2.2.2.2.2.2.2.2.2.2.2.2.1 u.2.2.2.2.2.2.2.2.2.2.2.2.2.2.2.2.2.2.2.2.2.2.2.2.2.2.2.2.2.2.2.2.1 u.2.2.2.2.2.2.2.2.2.2.2.2.2.2.2.2.2.2.2.2.2.2.2.2.2.2.2.2.2.2.2.2.2.1 u.2.2.2.2.2.2.2.2.2.2.2.2.2.2.2.2.2.2.2.2.2.2.2.2.2.2.2.2.2.2.2.2.2.2.1 u.2.2.2.2.2.2.2.2.2.2.2.2.2.2.2.2.2.2.2.2.2.2.2.2.2.2.2.2.2.2.2.2.2.2.2 z_from H) (wrA qr qt)) args s 0 0 (wrA qr qt)) (F0 m 0 ls []) := by
  have hx := zc.1
  have hb := zc.2.1
  refine lv_aload_n hx hb dX4_readLine_0 rfl (lv_at hl 0 rfl) ?_
  refine lv_iload_n hx hb dX4_readLine_1 rfl (lv_at hl 1 rfl) ?_
  refine zV_i [.int x1] [] zc ky_X4_wordOf kz_X4_wordOf km_4_114 (c_wr_X4_wordOf l hw) (wrPreVZ0 hK hM hZ hS (fun _ h => h)) rfl rfl hl.1 (Nat.le_of_ble_eq_true rfl) ⟨rfl, rfl⟩ ⟨Nat.le_of_ble_eq_true rfl, Nat.le_of_ble_eq_true rfl⟩ ⟨(Nat.zero_le _), (Nat.zero_le _)⟩ dX4_readLine_2 (fun r_1 hw => ?_)
  refine lv_istore_n (lv' := [(2, .int r_1), (0, .ref qr), (1, .int x1)]) hx hb dX4_readLine_5 rfl hl (by decide) rfl (fun ls hl => ?_)
  refine lv_iload_n hx hb dX4_readLine_6 rfl (lv_at hl 0 rfl) ?_
  refine lv_iconst (v := (-1 : Int32)) hx hb dX4_readLine_7 (by decide) ?_
  refine lv_icmp_ne (tgt := 16) hx hb dX4_readLine_8 (by decide) (fun hc => ?_) (fun hc => ?_)
  · have hw := hw.1 hc
    refine lv_aload_n hx hb dX4_readLine_16 rfl (lv_at hl 1 rfl) ?_
    refine lv_iload_n hx hb dX4_readLine_17 rfl (lv_at hl 0 rfl) ?_
    refine zV_i [.int r_1] [] zc ky_X4_isFull kz_X4_isFull km_4_121 (c_wr_X4_isFull l hw) (wrPreV0 hK hM) rfl rfl hl.1 (Nat.le_of_ble_eq_true rfl) ⟨rfl, rfl⟩ ⟨Nat.le_of_ble_eq_true rfl, Nat.le_of_ble_eq_true rfl⟩ ⟨(Nat.zero_le _), (Nat.zero_le _)⟩ dX4_readLine_18 (fun r_2 hw => ?_)
    refine lv_if_eq (tgt := 33) hx hb dX4_readLine_21 (by decide) (fun hc => ?_) (fun hc => ?_)
    · have hw := hw.1 hc
      exact t_wr_X4_readLine_33 zc hK hM hZ hS  (lv_sub hl [1, 0] rfl) hw
    · have hw := hw.2 hc
      refine lv_aload_n hx hb dX4_readLine_24 rfl (lv_at hl 1 rfl) ?_
      refine lv_iconst (v := (3 : Int32)) hx hb dX4_readLine_25 (by decide) ?_
      refine lv_aload_n hx hb dX4_readLine_26 rfl (lv_at hl 1 rfl) ?_
      refine wrg_4_125_0 zc hK hM dX4_readLine_27 ?_
      refine zVw_v [.int (3 : Int32), .int f_first] [] zc ky_X4_mark kz_X4_mark km_4_83 (c_wr_X4_mark l hw) (wrPreV0 hK hM) hS rfl rfl hl.1 (Nat.le_of_ble_eq_true rfl) ⟨rfl, rfl⟩ ⟨Nat.le_of_ble_eq_true rfl, Nat.le_of_ble_eq_true rfl⟩ ⟨(Nat.zero_le _), (Nat.zero_le _)⟩ dX4_readLine_30 (fun u H locs hw hM hS => ?_)
      obtain ⟨f_fault_1, f_faultPlace_1⟩ := u
      exact t_wr_X4_readLine_33 zc hK hM hZ hS  (lv_sub hl [1, 0] rfl) hw
  · have hw := hw.2 hc
    refine lv_aload_n hx hb dX4_readLine_11 rfl (lv_at hl 1 rfl) ?_
    refine zVw_v [] [] zc ky_X4_refuse kz_X4_refuse km_4_118 (c_wr_X4_refuse l hw) (wrPreV0 hK hM) hS rfl rfl hl.1 (Nat.le_of_ble_eq_true rfl) ⟨rfl, rfl⟩ ⟨Nat.le_of_ble_eq_true rfl, Nat.le_of_ble_eq_true rfl⟩ ⟨(Nat.zero_le _), (Nat.zero_le _)⟩ dX4_readLine_12 (fun u H locs hw hM hS => ?_)
    obtain ⟨f_fault_2, f_faultPlace_2⟩ := u
    exact zret_vw ⟨lf_huts, lf_singers, lf_villages, lf_dams, lf_echoes, lf_deep, lf_slide, la_heights, la_ladders, la_minutes, la_echoFrom, la_echoTo, la_homes, la_talls, la_known, vf_deeds, va_kinds, va_firsts, va_seconds, sf_facts, sa_heard, sa_huts, sa_minutes, cf_voices, cf_step, ca_parts, ca_heights, f_fault_2, f_faultPlace_2, a_numbers, f_behind, f_kind, f_first, f_value, f_hutsToldOf, f_singersToldOf⟩ zc hS hw hM dX4_readLine_15
set_option maxRecDepth 20000 in
theorem c_wr_X4_readLine (l : Launch) {G : zG} {E : zE} {qr qt : Nat} {lf_huts : Int32} {lf_singers : Int32} {lf_villages : Int32} {lf_dams : Int32} {lf_echoes : Int32} {lf_deep : Int32} {lf_slide : Int32} {la_heights : Nat → Int32} {la_ladders : Nat → Int32} {la_minutes : Nat → Int32} {la_echoFrom : Nat → Int32} {la_echoTo : Nat → Int32} {la_homes : Nat → Int32} {la_talls : Nat → Int32} {la_known : Nat → Int32} {vf_deeds : Int32} {va_kinds : Nat → Int32} {va_firsts : Nat → Int32} {va_seconds : Nat → Int32} {sf_facts : Int32} {sa_heard : Nat → Int32} {sa_huts : Nat → Int32} {sa_minutes : Nat → Int32} {cf_voices : Int32} {cf_step : Int32} {ca_parts : Nat → Int32} {ca_heights : Nat → Int32} {f_fault : Int32} {f_faultPlace : Int32} {a_numbers : Nat → Int32} {a_tape : Nat → Int32} {f_length : Int32} {f_behind : Int32} {f_kind : Int32} {f_first : Int32} {f_value : Int32} {f_hutsToldOf : Int32} {f_singersToldOf : Int32} {z_from : Nat → Int32} {x1 : Int32} {post : (Int32) → (Int32) → (Int32) → (Int32) → (Int32) → (Int32) → (Int32) → (Nat → Int32) → (Nat → Int32) → (Nat → Int32) → (Nat → Int32) → (Nat → Int32) → (Nat → Int32) → (Nat → Int32) → (Nat → Int32) → (Int32) → (Nat → Int32) → (Nat → Int32) → (Nat → Int32) → (Int32) → (Nat → Int32) → (Nat → Int32) → (Nat → Int32) → (Int32) → (Int32) → (Nat → Int32) → (Nat → Int32) → (Int32) → (Int32) → (Nat → Int32) → (Int32) → (Int32) → (Int32) → (Int32) → (Int32) → (Int32) → Prop} (hw : q_wr_X4_readLine_0 lf_huts lf_singers lf_villages lf_dams lf_echoes lf_deep lf_slide la_heights la_ladders la_minutes la_echoFrom la_echoTo la_homes la_talls la_known vf_deeds va_kinds va_firsts va_seconds sf_facts sa_heard sa_huts sa_minutes cf_voices cf_step ca_parts ca_heights f_fault f_faultPlace a_numbers a_tape f_length f_behind f_kind f_first f_value f_hutsToldOf f_singersToldOf x1 post) : Met l yX4_readLine (Cond.code yX4_readLine cX4_readLine 4 none :: zb) rm_wr_X4_readLine (va_Pc [.ref qr, .int x1] (fun U => (wrW E qr qt lf_huts lf_singers lf_villages lf_dams lf_echoes lf_deep lf_slide la_heights la_ladders la_minutes la_echoFrom la_echoTo la_homes la_talls la_known vf_deeds va_kinds va_firsts va_seconds sf_facts sa_heard sa_huts sa_minutes cf_voices cf_step ca_parts ca_heights f_fault f_faultPlace a_numbers a_tape f_length f_behind f_kind f_first f_value f_hutsToldOf f_singersToldOf z_from U.heap ∧ zK E U) ∧ zZ G (wrA qr qt) U U.heap)) (zQv (S := (Int32) × (Int32) × (Int32) × (Int32) × (Int32) × (Int32) × (Int32) × (Nat → Int32) × (Nat → Int32) × (Nat → Int32) × (Nat → Int32) × (Nat → Int32) × (Nat → Int32) × (Nat → Int32) × (Nat → Int32) × (Int32) × (Nat → Int32) × (Nat → Int32) × (Nat → Int32) × (Int32) × (Nat → Int32) × (Nat → Int32) × (Nat → Int32) × (Int32) × (Int32) × (Nat → Int32) × (Nat → Int32) × (Int32) × (Int32) × (Nat → Int32) × (Int32) × (Int32) × (Int32) × (Int32) × (Int32) × (Int32)) (fun u => post u.1 u.2.1 u.2.2.1 u.2.2.2.1 u.2.2.2.2.1 u.2.2.2.2.2.1 u.2.2.2.2.2.2.1 u.2.2.2.2.2.2.2.1 u.2.2.2.2.2.2.2.2.1 u.2.2.2.2.2.2.2.2.2.1 u.2.2.2.2.2.2.2.2.2.2.1 u.2.2.2.2.2.2.2.2.2.2.2.1 u.2.2.2.2.2.2.2.2.2.2.2.2.1 u.2.2.2.2.2.2.2.2.2.2.2.2.2.1 u.2.2.2.2.2.2.2.2.2.2.2.2.2.2.1 u.2.2.2.2.2.2.2.2.2.2.2.2.2.2.2.1 u.2.2.2.2.2.2.2.2.2.2.2.2.2.2.2.2.1 u.2.2.2.2.2.2.2.2.2.2.2.2.2.2.2.2.2.1 u.2.2.2.2.2.2.2.2.2.2.2.2.2.2.2.2.2.2.1 u.2.2.2.2.2.2.2.2.2.2.2.2.2.2.2.2.2.2.2.1 u.2.2.2.2.2.2.2.2.2.2.2.2.2.2.2.2.2.2.2.2.1 u.2.2.2.2.2.2.2.2.2.2.2.2.2.2.2.2.2.2.2.2.2.1 u.2.2.2.2.2.2.2.2.2.2.2.2.2.2.2.2.2.2.2.2.2.2.1 u.2.2.2.2.2.2.2.2.2.2.2.2.2.2.2.2.2.2.2.2.2.2.2.1 u.2.2.2.2.2.2.2.2.2.2.2.2.2.2.2.2.2.2.2.2.2.2.2.2.1 u.2.2.2.2.2.2.2.2.2.2.2.2.2.2.2.2.2.2.2.2.2.2.2.2.2.1 u.2.2.2.2.2.2.2.2.2.2.2.2.2.2.2.2.2.2.2.2.2.2.2.2.2.2.1 u.2.2.2.2.2.2.2.2.2.2.2.2.2.2.2.2.2.2.2.2.2.2.2.2.2.2.2.1 u.2.2.2.2.2.2.2.2.2.2.2.2.2.2.2.2.2.2.2.2.2.2.2.2.2.2.2.2.1 u.2.2.2.2.2.2.2.2.2.2.2.2.2.2.2.2.2.2.2.2.2.2.2.2.2.2.2.2.2.1 u.2.2.2.2.2.2.2.2.2.2.2.2.2.2.2.2.2.2.2.2.2.2.2.2.2.2.2.2.2.2.1 u.2.2.2.2.2.2.2.2.2.2.2.2.2.2.2.2.2.2.2.2.2.2.2.2.2.2.2.2.2.2.2.1 u.2.2.2.2.2.2.2.2.2.2.2.2.2.2.2.2.2.2.2.2.2.2.2.2.2.2.2.2.2.2.2.2.1 u.2.2.2.2.2.2.2.2.2.2.2.2.2.2.2.2.2.2.2.2.2.2.2.2.2.2.2.2.2.2.2.2.2.1 u.2.2.2.2.2.2.2.2.2.2.2.2.2.2.2.2.2.2.2.2.2.2.2.2.2.2.2.2.2.2.2.2.2.2.1 u.2.2.2.2.2.2.2.2.2.2.2.2.2.2.2.2.2.2.2.2.2.2.2.2.2.2.2.2.2.2.2.2.2.2.2) (fun u H => wrW E qr qt u.1 u.2.1 u.2.2.1 u.2.2.2.1 u.2.2.2.2.1 u.2.2.2.2.2.1 u.2.2.2.2.2.2.1 u.2.2.2.2.2.2.2.1 u.2.2.2.2.2.2.2.2.1 u.2.2.2.2.2.2.2.2.2.1 u.2.2.2.2.2.2.2.2.2.2.1 u.2.2.2.2.2.2.2.2.2.2.2.1 u.2.2.2.2.2.2.2.2.2.2.2.2.1 u.2.2.2.2.2.2.2.2.2.2.2.2.2.1 u.2.2.2.2.2.2.2.2.2.2.2.2.2.2.1 u.2.2.2.2.2.2.2.2.2.2.2.2.2.2.2.1 u.2.2.2.2.2.2.2.2.2.2.2.2.2.2.2.2.1 u.2.2.2.2.2.2.2.2.2.2.2.2.2.2.2.2.2.1 u.2.2.2.2.2.2.2.2.2.2.2.2.2.2.2.2.2.2.1 u.2.2.2.2.2.2.2.2.2.2.2.2.2.2.2.2.2.2.2.1 u.2.2.2.2.2.2.2.2.2.2.2.2.2.2.2.2.2.2.2.2.1 u.2.2.2.2.2.2.2.2.2.2.2.2.2.2.2.2.2.2.2.2.2.1 u.2.2.2.2.2.2.2.2.2.2.2.2.2.2.2.2.2.2.2.2.2.2.1 u.2.2.2.2.2.2.2.2.2.2.2.2.2.2.2.2.2.2.2.2.2.2.2.1 u.2.2.2.2.2.2.2.2.2.2.2.2.2.2.2.2.2.2.2.2.2.2.2.2.1 u.2.2.2.2.2.2.2.2.2.2.2.2.2.2.2.2.2.2.2.2.2.2.2.2.2.1 u.2.2.2.2.2.2.2.2.2.2.2.2.2.2.2.2.2.2.2.2.2.2.2.2.2.2.1 u.2.2.2.2.2.2.2.2.2.2.2.2.2.2.2.2.2.2.2.2.2.2.2.2.2.2.2.1 u.2.2.2.2.2.2.2.2.2.2.2.2.2.2.2.2.2.2.2.2.2.2.2.2.2.2.2.2.1 u.2.2.2.2.2.2.2.2.2.2.2.2.2.2.2.2.2.2.2.2.2.2.2.2.2.2.2.2.2.1 a_tape f_length u.2.2.2.2.2.2.2.2.2.2.2.2.2.2.2.2.2.2.2.2.2.2.2.2.2.2.2.2.2.2.1 u.2.2.2.2.2.2.2.2.2.2.2.2.2.2.2.2.2.2.2.2.2.2.2.2.2.2.2.2.2.2.2.1 u.2.2.2.2.2.2.2.2.2.2.2.2.2.2.2.2.2.2.2.2.2.2.2.2.2.2.2.2.2.2.2.2.1 u.2.2.2.2.2.2.2.2.2.2.2.2.2.2.2.2.2.2.2.2.2.2.2.2.2.2.2.2.2.2.2.2.2.1 u.2.2.2.2.2.2.2.2.2.2.2.2.2.2.2.2.2.2.2.2.2.2.2.2.2.2.2.2.2.2.2.2.2.2.1 u.2.2.2.2.2.2.2.2.2.2.2.2.2.2.2.2.2.2.2.2.2.2.2.2.2.2.2.2.2.2.2.2.2.2.2 z_from H) (wrA qr qt)) 0 0 (wrA qr qt) := by
  refine Met.ofW (cc := cX4_readLine) (maxL := 4) (ret := none) (by decide) rfl ?_
  intro p e s m args below meth c s₁ B hml hv
  obtain ⟨rfl, ⟨hM, hK⟩, hZ⟩ := hv
  have zc := zc_of B hml
  have hl := lv_entry ([.ref qr, .int x1]) (n := 4) (Nat.le_of_ble_eq_true rfl)
  rw [lg_entry_eq]
  generalize (lg_sl ([.ref qr, .int x1]) ++ List.replicate (4 - (lg_sl ([.ref qr, .int x1])).length) Slot.unset).toArray = ls at hl ⊢
  have hl : lv_has ls 4 [(0, .ref qr), (1, .int x1)] := hl
  exact t_wr_X4_readLine_0 zc hK hM hZ va_S.rf (lv_sub hl [0, 1] rfl) hw
-- wr_X4_read_23
abbrev rm_wr_X4_read_23 : Room := { frames := 7, cells := 0, slots := 0, locals := 196 }
def q_wr_X4_read_23_78 (lf_huts : Int32) (lf_singers : Int32) (lf_villages : Int32) (lf_dams : Int32) (lf_echoes : Int32) (lf_deep : Int32) (lf_slide : Int32) (la_heights : Nat → Int32) (la_ladders : Nat → Int32) (la_minutes : Nat → Int32) (la_echoFrom : Nat → Int32) (la_echoTo : Nat → Int32) (la_homes : Nat → Int32) (la_talls : Nat → Int32) (la_known : Nat → Int32) (vf_deeds : Int32) (va_kinds : Nat → Int32) (va_firsts : Nat → Int32) (va_seconds : Nat → Int32) (sf_facts : Int32) (sa_heard : Nat → Int32) (sa_huts : Nat → Int32) (sa_minutes : Nat → Int32) (cf_voices : Int32) (cf_step : Int32) (ca_parts : Nat → Int32) (ca_heights : Nat → Int32) (f_fault : Int32) (f_faultPlace : Int32) (a_numbers : Nat → Int32) (a_tape : Nat → Int32) (f_length : Int32) (f_behind : Int32) (f_kind : Int32) (f_first : Int32) (f_value : Int32) (f_hutsToldOf : Int32) (f_singersToldOf : Int32) (z_from : Nat → Int32) (x3 : Int32) (post : (Int32) → (Int32) → (Int32) → (Int32) → (Int32) → (Int32) → (Int32) → (Nat → Int32) → (Nat → Int32) → (Nat → Int32) → (Nat → Int32) → (Nat → Int32) → (Nat → Int32) → (Nat → Int32) → (Nat → Int32) → (Int32) → (Nat → Int32) → (Nat → Int32) → (Nat → Int32) → (Int32) → (Nat → Int32) → (Nat → Int32) → (Nat → Int32) → (Int32) → (Int32) → (Nat → Int32) → (Nat → Int32) → (Int32) → (Int32) → (Nat → Int32) → (Nat → Int32) → (Int32) → (Int32) → (Int32) → (Int32) → (Int32) → (Int32) → (Int32) → Prop) : Prop :=
  (¬ f_fault = 0 → (post lf_huts lf_singers lf_villages lf_dams lf_echoes lf_deep lf_slide la_heights la_ladders la_minutes la_echoFrom la_echoTo la_homes la_talls la_known vf_deeds va_kinds va_firsts va_seconds sf_facts sa_heard sa_huts sa_minutes cf_voices cf_step ca_parts ca_heights f_fault f_faultPlace a_numbers a_tape f_length f_behind f_kind f_first f_value f_hutsToldOf f_singersToldOf)) ∧ (f_fault = 0 → ((¬ x3 = 0 → (post lf_huts lf_singers lf_villages lf_dams lf_echoes lf_deep lf_slide la_heights la_ladders la_minutes la_echoFrom la_echoTo la_homes la_talls la_known vf_deeds va_kinds va_firsts va_seconds sf_facts sa_heard sa_huts sa_minutes cf_voices cf_step ca_parts ca_heights f_fault f_faultPlace a_numbers a_tape f_length f_behind f_kind f_first f_value f_hutsToldOf f_singersToldOf)) ∧ (x3 = 0 → (q_wr_X4_tellsOfMissing_0 lf_huts lf_singers f_hutsToldOf f_singersToldOf (fun r_1 => (r_1 = 0 → (post lf_huts lf_singers lf_villages lf_dams lf_echoes lf_deep lf_slide la_heights la_ladders la_minutes la_echoFrom la_echoTo la_homes la_talls la_known vf_deeds va_kinds va_firsts va_seconds sf_facts sa_heard sa_huts sa_minutes cf_voices cf_step ca_parts ca_heights f_fault f_faultPlace a_numbers a_tape f_length f_behind f_kind f_first f_value f_hutsToldOf f_singersToldOf)) ∧ (¬ r_1 = 0 → (q_wr_X4_mark_0 f_fault f_faultPlace (4 : Int32) f_length (fun f_fault_1 f_faultPlace_1 => post lf_huts lf_singers lf_villages lf_dams lf_echoes lf_deep lf_slide la_heights la_ladders la_minutes la_echoFrom la_echoTo la_homes la_talls la_known vf_deeds va_kinds va_firsts va_seconds sf_facts sa_heard sa_huts sa_minutes cf_voices cf_step ca_parts ca_heights f_fault_1 f_faultPlace_1 a_numbers a_tape f_length f_behind f_kind f_first f_value f_hutsToldOf f_singersToldOf))))))))
def q_wr_X4_read_23_43 (lf_huts : Int32) (lf_singers : Int32) (lf_villages : Int32) (lf_dams : Int32) (lf_echoes : Int32) (lf_deep : Int32) (lf_slide : Int32) (la_heights : Nat → Int32) (la_ladders : Nat → Int32) (la_minutes : Nat → Int32) (la_echoFrom : Nat → Int32) (la_echoTo : Nat → Int32) (la_homes : Nat → Int32) (la_talls : Nat → Int32) (la_known : Nat → Int32) (vf_deeds : Int32) (va_kinds : Nat → Int32) (va_firsts : Nat → Int32) (va_seconds : Nat → Int32) (sf_facts : Int32) (sa_heard : Nat → Int32) (sa_huts : Nat → Int32) (sa_minutes : Nat → Int32) (cf_voices : Int32) (cf_step : Int32) (ca_parts : Nat → Int32) (ca_heights : Nat → Int32) (f_fault : Int32) (f_faultPlace : Int32) (a_numbers : Nat → Int32) (a_tape : Nat → Int32) (f_length : Int32) (f_behind : Int32) (f_kind : Int32) (f_first : Int32) (f_value : Int32) (f_hutsToldOf : Int32) (f_singersToldOf : Int32) (z_from : Nat → Int32) (x3 : Int32) (x4 : Int32) (post : (Int32) → (Int32) → (Int32) → (Int32) → (Int32) → (Int32) → (Int32) → (Nat → Int32) → (Nat → Int32) → (Nat → Int32) → (Nat → Int32) → (Nat → Int32) → (Nat → Int32) → (Nat → Int32) → (Nat → Int32) → (Int32) → (Nat → Int32) → (Nat → Int32) → (Nat → Int32) → (Int32) → (Nat → Int32) → (Nat → Int32) → (Nat → Int32) → (Int32) → (Int32) → (Nat → Int32) → (Nat → Int32) → (Int32) → (Int32) → (Nat → Int32) → (Nat → Int32) → (Int32) → (Int32) → (Int32) → (Int32) → (Int32) → (Int32) → (Int32) → Prop) : Prop :=
  ∀ P43 : Int32 → (Int32) → (Int32) → (Int32) → (Int32) → (Int32) → (Int32) → (Int32) → (Nat → Int32) → (Nat → Int32) → (Nat → Int32) → (Nat → Int32) → (Nat → Int32) → (Nat → Int32) → (Nat → Int32) → (Nat → Int32) → (Int32) → (Nat → Int32) → (Nat → Int32) → (Nat → Int32) → (Int32) → (Nat → Int32) → (Nat → Int32) → (Nat → Int32) → (Int32) → (Int32) → (Nat → Int32) → (Nat → Int32) → (Int32) → (Int32) → (Nat → Int32) → (Int32) → (Int32) → (Int32) → (Int32) → (Int32) → (Int32) → Prop, (∀ (x4 : Int32) (lf_huts : Int32) (lf_singers : Int32) (lf_villages : Int32) (lf_dams : Int32) (lf_echoes : Int32) (lf_deep : Int32) (lf_slide : Int32) (la_heights : Nat → Int32) (la_ladders : Nat → Int32) (la_minutes : Nat → Int32) (la_echoFrom : Nat → Int32) (la_echoTo : Nat → Int32) (la_homes : Nat → Int32) (la_talls : Nat → Int32) (la_known : Nat → Int32) (vf_deeds : Int32) (va_kinds : Nat → Int32) (va_firsts : Nat → Int32) (va_seconds : Nat → Int32) (sf_facts : Int32) (sa_heard : Nat → Int32) (sa_huts : Nat → Int32) (sa_minutes : Nat → Int32) (cf_voices : Int32) (cf_step : Int32) (ca_parts : Nat → Int32) (ca_heights : Nat → Int32) (f_fault : Int32) (f_faultPlace : Int32) (a_numbers : Nat → Int32) (f_behind : Int32) (f_kind : Int32) (f_first : Int32) (f_value : Int32) (f_hutsToldOf : Int32) (f_singersToldOf : Int32), ((f_length ≤ x4 → (q_wr_X4_read_23_78 lf_huts lf_singers lf_villages lf_dams lf_echoes lf_deep lf_slide la_heights la_ladders la_minutes la_echoFrom la_echoTo la_homes la_talls la_known vf_deeds va_kinds va_firsts va_seconds sf_facts sa_heard sa_huts sa_minutes cf_voices cf_step ca_parts ca_heights f_fault f_faultPlace a_numbers a_tape f_length f_behind f_kind f_first f_value f_hutsToldOf f_singersToldOf z_from x3 post)) ∧ (¬ f_length ≤ x4 → ((f_kind = 0 → (q_wr_X4_read_23_78 lf_huts lf_singers lf_villages lf_dams lf_echoes lf_deep lf_slide la_heights la_ladders la_minutes la_echoFrom la_echoTo la_homes la_talls la_known vf_deeds va_kinds va_firsts va_seconds sf_facts sa_heard sa_huts sa_minutes cf_voices cf_step ca_parts ca_heights f_fault f_faultPlace a_numbers a_tape f_length f_behind f_kind f_first f_value f_hutsToldOf f_singersToldOf z_from x3 post)) ∧ (¬ f_kind = 0 → ((f_fault = (1 : Int32) → (q_wr_X4_read_23_78 lf_huts lf_singers lf_villages lf_dams lf_echoes lf_deep lf_slide la_heights la_ladders la_minutes la_echoFrom la_echoTo la_homes la_talls la_known vf_deeds va_kinds va_firsts va_seconds sf_facts sa_heard sa_huts sa_minutes cf_voices cf_step ca_parts ca_heights f_fault f_faultPlace a_numbers a_tape f_length f_behind f_kind f_first f_value f_hutsToldOf f_singersToldOf z_from x3 post)) ∧ (¬ f_fault = (1 : Int32) → (q_wr_X4_readLine_0 lf_huts lf_singers lf_villages lf_dams lf_echoes lf_deep lf_slide la_heights la_ladders la_minutes la_echoFrom la_echoTo la_homes la_talls la_known vf_deeds va_kinds va_firsts va_seconds sf_facts sa_heard sa_huts sa_minutes cf_voices cf_step ca_parts ca_heights f_fault f_faultPlace a_numbers a_tape f_length f_behind f_kind f_first f_value f_hutsToldOf f_singersToldOf x3 (fun lf_huts_1 lf_singers_1 lf_villages_1 lf_dams_1 lf_echoes_1 lf_deep_1 lf_slide_1 la_heights_1 la_ladders_1 la_minutes_1 la_echoFrom_1 la_echoTo_1 la_homes_1 la_talls_1 la_known_1 vf_deeds_1 va_kinds_1 va_firsts_1 va_seconds_1 sf_facts_1 sa_heard_1 sa_huts_1 sa_minutes_1 cf_voices_1 cf_step_1 ca_parts_1 ca_heights_1 f_fault_1 f_faultPlace_1 a_numbers_1 f_behind_1 f_kind_1 f_first_1 f_value_1 f_hutsToldOf_1 f_singersToldOf_1 => ∀ v_1 : Int32, v_1 = x4 + (1 : Int32) → (P43 v_1 lf_huts_1 lf_singers_1 lf_villages_1 lf_dams_1 lf_echoes_1 lf_deep_1 lf_slide_1 la_heights_1 la_ladders_1 la_minutes_1 la_echoFrom_1 la_echoTo_1 la_homes_1 la_talls_1 la_known_1 vf_deeds_1 va_kinds_1 va_firsts_1 va_seconds_1 sf_facts_1 sa_heard_1 sa_huts_1 sa_minutes_1 cf_voices_1 cf_step_1 ca_parts_1 ca_heights_1 f_fault_1 f_faultPlace_1 a_numbers_1 f_behind_1 f_kind_1 f_first_1 f_value_1 f_hutsToldOf_1 f_singersToldOf_1))))))))) → P43 x4 lf_huts lf_singers lf_villages lf_dams lf_echoes lf_deep lf_slide la_heights la_ladders la_minutes la_echoFrom la_echoTo la_homes la_talls la_known vf_deeds va_kinds va_firsts va_seconds sf_facts sa_heard sa_huts sa_minutes cf_voices cf_step ca_parts ca_heights f_fault f_faultPlace a_numbers f_behind f_kind f_first f_value f_hutsToldOf f_singersToldOf) → P43 x4 lf_huts lf_singers lf_villages lf_dams lf_echoes lf_deep lf_slide la_heights la_ladders la_minutes la_echoFrom la_echoTo la_homes la_talls la_known vf_deeds va_kinds va_firsts va_seconds sf_facts sa_heard sa_huts sa_minutes cf_voices cf_step ca_parts ca_heights f_fault f_faultPlace a_numbers f_behind f_kind f_first f_value f_hutsToldOf f_singersToldOf
def q_wr_X4_read_23_0 (lf_huts : Int32) (lf_singers : Int32) (lf_villages : Int32) (lf_dams : Int32) (lf_echoes : Int32) (lf_deep : Int32) (lf_slide : Int32) (la_heights : Nat → Int32) (la_ladders : Nat → Int32) (la_minutes : Nat → Int32) (la_echoFrom : Nat → Int32) (la_echoTo : Nat → Int32) (la_homes : Nat → Int32) (la_talls : Nat → Int32) (la_known : Nat → Int32) (vf_deeds : Int32) (va_kinds : Nat → Int32) (va_firsts : Nat → Int32) (va_seconds : Nat → Int32) (sf_facts : Int32) (sa_heard : Nat → Int32) (sa_huts : Nat → Int32) (sa_minutes : Nat → Int32) (cf_voices : Int32) (cf_step : Int32) (ca_parts : Nat → Int32) (ca_heights : Nat → Int32) (f_fault : Int32) (f_faultPlace : Int32) (a_numbers : Nat → Int32) (a_tape : Nat → Int32) (f_length : Int32) (f_behind : Int32) (f_kind : Int32) (f_first : Int32) (f_value : Int32) (f_hutsToldOf : Int32) (f_singersToldOf : Int32) (z_from : Nat → Int32) (x2 : Int32) (x3 : Int32) (post : (Int32) → (Int32) → (Int32) → (Int32) → (Int32) → (Int32) → (Int32) → (Nat → Int32) → (Nat → Int32) → (Nat → Int32) → (Nat → Int32) → (Nat → Int32) → (Nat → Int32) → (Nat → Int32) → (Nat → Int32) → (Int32) → (Nat → Int32) → (Nat → Int32) → (Nat → Int32) → (Int32) → (Nat → Int32) → (Nat → Int32) → (Nat → Int32) → (Int32) → (Int32) → (Nat → Int32) → (Nat → Int32) → (Int32) → (Int32) → (Nat → Int32) → (Nat → Int32) → (Int32) → (Int32) → (Int32) → (Int32) → (Int32) → (Int32) → (Int32) → Prop) : Prop :=
  (¬ x2 < 0) ∧ ((Int32.toNatClampNeg (0 : Int32) + Int32.toNatClampNeg x2 ≤ 600) ∧ ((Int32.toNatClampNeg (0 : Int32) + Int32.toNatClampNeg x2 ≤ 600) ∧ ((∀ i, i < Int32.toNatClampNeg x2 → fits .byte (.int (z_from (Int32.toNatClampNeg (0 : Int32) + i))) = true) ∧ (∀ a_tape_1 : Nat → Int32, a_tape_1 = va_cpy z_from a_tape (Int32.toNatClampNeg (0 : Int32)) (Int32.toNatClampNeg (0 : Int32)) (Int32.toNatClampNeg x2) → (q_wr_X4_clearDraft_0 lf_huts lf_singers lf_villages lf_dams lf_echoes lf_deep lf_slide la_ladders la_minutes la_known vf_deeds sf_facts cf_voices cf_step f_hutsToldOf f_singersToldOf x3 (fun lf_huts_1 lf_singers_1 lf_villages_1 lf_dams_1 lf_echoes_1 lf_deep_1 lf_slide_1 la_ladders_1 la_minutes_1 la_known_1 vf_deeds_1 sf_facts_1 cf_voices_1 cf_step_1 f_hutsToldOf_1 f_singersToldOf_1 => q_wr_X4_advance_0 a_tape_1 x2 (0 : Int32) f_kind f_first f_value (fun f_behind_1 f_kind_1 f_first_1 f_value_1 => q_wr_X4_read_23_43 lf_huts_1 lf_singers_1 lf_villages_1 lf_dams_1 lf_echoes_1 lf_deep_1 lf_slide_1 la_heights la_ladders_1 la_minutes_1 la_echoFrom la_echoTo la_homes la_talls la_known_1 vf_deeds_1 va_kinds va_firsts va_seconds sf_facts_1 sa_heard sa_huts sa_minutes cf_voices_1 cf_step_1 ca_parts ca_heights (0 : Int32) (-1 : Int32) a_numbers a_tape_1 x2 f_behind_1 f_kind_1 f_first_1 f_value_1 f_hutsToldOf_1 f_singersToldOf_1 z_from x3 (0 : Int32) post)))))))
set_option maxRecDepth 20000 in
theorem t_wr_X4_read_23_78 {p : Program} {l : Launch} {e : Env} {s : State} {m : MethodId} {args : Array Value} {below : List Frame} {meth : Method} {c : Code} {G : zG} {E : zE} {qr qt : Nat} {lf_huts : Int32} {lf_singers : Int32} {lf_villages : Int32} {lf_dams : Int32} {lf_echoes : Int32} {lf_deep : Int32} {lf_slide : Int32} {la_heights : Nat → Int32} {la_ladders : Nat → Int32} {la_minutes : Nat → Int32} {la_echoFrom : Nat → Int32} {la_echoTo : Nat → Int32} {la_homes : Nat → Int32} {la_talls : Nat → Int32} {la_known : Nat → Int32} {vf_deeds : Int32} {va_kinds : Nat → Int32} {va_firsts : Nat → Int32} {va_seconds : Nat → Int32} {sf_facts : Int32} {sa_heard : Nat → Int32} {sa_huts : Nat → Int32} {sa_minutes : Nat → Int32} {cf_voices : Int32} {cf_step : Int32} {ca_parts : Nat → Int32} {ca_heights : Nat → Int32} {f_fault : Int32} {f_faultPlace : Int32} {a_numbers : Nat → Int32} {a_tape : Nat → Int32} {f_length : Int32} {f_behind : Int32} {f_kind : Int32} {f_first : Int32} {f_value : Int32} {f_hutsToldOf : Int32} {f_singersToldOf : Int32} {z_from : Nat → Int32} {post : (Int32) → (Int32) → (Int32) → (Int32) → (Int32) → (Int32) → (Int32) → (Nat → Int32) → (Nat → Int32) → (Nat → Int32) → (Nat → Int32) → (Nat → Int32) → (Nat → Int32) → (Nat → Int32) → (Nat → Int32) → (Int32) → (Nat → Int32) → (Nat → Int32) → (Nat → Int32) → (Int32) → (Nat → Int32) → (Nat → Int32) → (Nat → Int32) → (Int32) → (Int32) → (Nat → Int32) → (Nat → Int32) → (Int32) → (Int32) → (Nat → Int32) → (Nat → Int32) → (Int32) → (Int32) → (Int32) → (Int32) → (Int32) → (Int32) → (Int32) → Prop} {x3 : Int32} {ls : Array Slot} {H : Heap} {locs : List Loc}
    (zc : zC p s m args meth c cX4_read 5 RX4 none)
    (hK : zK E s)
    (hM : wrW E qr qt lf_huts lf_singers lf_villages lf_dams lf_echoes lf_deep lf_slide la_heights la_ladders la_minutes la_echoFrom la_echoTo la_homes la_talls la_known vf_deeds va_kinds va_firsts va_seconds sf_facts sa_heard sa_huts sa_minutes cf_voices cf_step ca_parts ca_heights f_fault f_faultPlace a_numbers a_tape f_length f_behind f_kind f_first f_value f_hutsToldOf f_singersToldOf z_from H)
    (hZ : zZ G (wrA qr qt) s s.heap)
    (hS : va_S (wrA qr qt) s.heap H locs)
    (hl : lv_has ls 5 [(0, .ref qr), (3, .int x3)])
    (hw : q_wr_X4_read_23_78 lf_huts lf_singers lf_villages lf_dams lf_echoes lf_deep lf_slide la_heights la_ladders la_minutes la_echoFrom la_echoTo la_homes la_talls la_known vf_deeds va_kinds va_firsts va_seconds sf_facts sa_heard sa_huts sa_minutes cf_voices cf_step ca_parts ca_heights f_fault f_faultPlace a_numbers a_tape f_length f_behind f_kind f_first f_value f_hutsToldOf f_singersToldOf z_from x3 post) :
    W p l e rm_wr_X4_read_23 s m args below meth c H locs 0 0 (MQ below (zQv (S := (Int32) × (Int32) × (Int32) × (Int32) × (Int32) × (Int32) × (Int32) × (Nat → Int32) × (Nat → Int32) × (Nat → Int32) × (Nat → Int32) × (Nat → Int32) × (Nat → Int32) × (Nat → Int32) × (Nat → Int32) × (Int32) × (Nat → Int32) × (Nat → Int32) × (Nat → Int32) × (Int32) × (Nat → Int32) × (Nat → Int32) × (Nat → Int32) × (Int32) × (Int32) × (Nat → Int32) × (Nat → Int32) × (Int32) × (Int32) × (Nat → Int32) × (Nat → Int32) × (Int32) × (Int32) × (Int32) × (Int32) × (Int32) × (Int32) × (Int32)) (fun u => post u.1 u.2.1 u.2.2.1 u.2.2.2.1 u.2.2.2.2.1 u.2.2.2.2.2.1 u.2.2.2.2.2.2.1 u.2.2.2.2.2.2.2.1 u.2.2.2.2.2.2.2.2.1 u.2.2.2.2.2.2.2.2.2.1 u.2.2.2.2.2.2.2.2.2.2.1 u.2.2.2.2.2.2.2.2.2.2.2.1 u.2.2.2.2.2.2.2.2.2.2.2.2.1 u.2.2.2.2.2.2.2.2.2.2.2.2.2.1 u.2.2.2.2.2.2.2.2.2.2.2.2.2.2.1 u.2.2.2.2.2.2.2.2.2.2.2.2.2.2.2.1 u.2.2.2.2.2.2.2.2.2.2.2.2.2.2.2.2.1 u.2.2.2.2.2.2.2.2.2.2.2.2.2.2.2.2.2.1 u.2.2.2.2.2.2.2.2.2.2.2.2.2.2.2.2.2.2.1 u.2.2.2.2.2.2.2.2.2.2.2.2.2.2.2.2.2.2.2.1 u.2.2.2.2.2.2.2.2.2.2.2.2.2.2.2.2.2.2.2.2.1 u.2.2.2.2.2.2.2.2.2.2.2.2.2.2.2.2.2.2.2.2.2.1 u.2.2.2.2.2.2.2.2.2.2.2.2.2.2.2.2.2.2.2.2.2.2.1 u.2.2.2.2.2.2.2.2.2.2.2.2.2.2.2.2.2.2.2.2.2.2.2.1 u.2.2.2.2.2.2.2.2.2.2.2.2.2.2.2.2.2.2.2.2.2.2.2.2.1 u.2.2.2.2.2.2.2.2.2.2.2.2.2.2.2.2.2.2.2.2.2.2.2.2.2.1 u.2.2.2.2.2.2.2.2.2.2.2.2.2.2.2.2.2.2.2.2.2.2.2.2.2.2.1 u.2.2.2.2.2.2.2.2.2.2.2.2.2.2.2.2.2.2.2.2.2.2.2.2.2.2.2.1 u.2.2.2.2.2.2.2.2.2.2.2.2.2.2.2.2.2.2.2.2.2.2.2.2.2.2.2.2.1 u.2.2.2.2.2.2.2.2.2.2.2.2.2.2.2.2.2.2.2.2.2.2.2.2.2.2.2.2.2.1 u.2.2.2.2.2.2.2.2.2.2.2.2.2.2.2.2.2.2.2.2.2.2.2.2.2.2.2.2.2.2.1 u.2.2.2.2.2.2.2.2.2.2.2.2.2.2.2.2.2.2.2.2.2.2.2.2.2.2.2.2.2.2.2.1 u.2.2.2.2.2.2.2.2.2.2.2.2.2.2.2.2.2.2.2.2.2.2.2.2.2.2.2.2.2.2.2.2.1 u.2.2.2.2.2.2.2.2.2.2.2.2.2.2.2.2.2.2.2.2.2.2.2.2.2.2.2.2.2.2.2.2.2.1 u.2.2.2.2.2.2.2.2.2.2.2.2.2.2.2.2.2.2.2.2.2.2.2.2.2.2.2.2.2.2.2.2.2.2.1 u.2.2.2.2.2.2.2.2.2.2.2.2.2.2.2.2.2.2.2.2.2.2.2.2.2.2.2.2.2.2.2.2.2.2.2.1 u.2.2.2.2.2.2.2.2.2.2.2.2.2.2.2.2.2.2.2.2.2.2.2.2.2.2.2.2.2.2.2.2.2.2.2.2.1 u.2.2.2.2.2.2.2.2.2.2.2.2.2.2.2.2.2.2.2.2.2.2.2.2.2.2.2.2.2.2.2.2.2.2.2.2.2) (fun u H => wrW E qr qt u.1 u.2.1 u.2.2.1 u.2.2.2.1 u.2.2.2.2.1 u.2.2.2.2.2.1 u.2.2.2.2.2.2.1 u.2.2.2.2.2.2.2.1 u.2.2.2.2.2.2.2.2.1 u.2.2.2.2.2.2.2.2.2.1 u.2.2.2.2.2.2.2.2.2.2.1 u.2.2.2.2.2.2.2.2.2.2.2.1 u.2.2.2.2.2.2.2.2.2.2.2.2.1 u.2.2.2.2.2.2.2.2.2.2.2.2.2.1 u.2.2.2.2.2.2.2.2.2.2.2.2.2.2.1 u.2.2.2.2.2.2.2.2.2.2.2.2.2.2.2.1 u.2.2.2.2.2.2.2.2.2.2.2.2.2.2.2.2.1 u.2.2.2.2.2.2.2.2.2.2.2.2.2.2.2.2.2.1 u.2.2.2.2.2.2.2.2.2.2.2.2.2.2.2.2.2.2.1 u.2.2.2.2.2.2.2.2.2.2.2.2.2.2.2.2.2.2.2.1 u.2.2.2.2.2.2.2.2.2.2.2.2.2.2.2.2.2.2.2.2.1 u.2.2.2.2.2.2.2.2.2.2.2.2.2.2.2.2.2.2.2.2.2.1 u.2.2.2.2.2.2.2.2.2.2.2.2.2.2.2.2.2.2.2.2.2.2.1 u.2.2.2.2.2.2.2.2.2.2.2.2.2.2.2.2.2.2.2.2.2.2.2.1 u.2.2.2.2.2.2.2.2.2.2.2.2.2.2.2.2.2.2.2.2.2.2.2.2.1 u.2.2.2.2.2.2.2.2.2.2.2.2.2.2.2.2.2.2.2.2.2.2.2.2.2.1 u.2.2.2.2.2.2.2.2.2.2.2.2.2.2.2.2.2.2.2.2.2.2.2.2.2.2.1 u.2.2.2.2.2.2.2.2.2.2.2.2.2.2.2.2.2.2.2.2.2.2.2.2.2.2.2.1 u.2.2.2.2.2.2.2.2.2.2.2.2.2.2.2.2.2.2.2.2.2.2.2.2.2.2.2.2.1 u.2.2.2.2.2.2.2.2.2.2.2.2.2.2.2.2.2.2.2.2.2.2.2.2.2.2.2.2.2.1 u.2.2.2.2.2.2.2.2.2.2.2.2.2.2.2.2.2.2.2.2.2.2.2.2.2.2.2.2.2.2.1 u.2.2.2.2.2.2.2.2.2.2.2.2.2.2.2.2.2.2.2.2.2.2.2.2.2.2.2.2.2.2.2.1 u.2.2.2.2.2.2.2.2.2.2.2.2.2.2.2.2.2.2.2.2.2.2.2.2.2.2.2.2.2.2.2.2.1 u.2.2.2.2.2.2.2.2.2.2.2.2.2.2.2.2.2.2.2.2.2.2.2.2.2.2.2.2.2.2.2.2.2.1 u.2.2.2.2.2.2.2.2.2.2.2.2.2.2.2.2.2.2.2.2.2.2.2.2.2.2.2.2.2.2.2.2.2.2.1 u.2.2.2.2.2.2.2.2.2.2.2.2.2.2.2.2.2.2.2.2.2.2.2.2.2.2.2.2.2.2.2.2.2.2.2.1 u.2.2.2.2.2.2.2.2.2.2.2.2.2.2.2.2.2.2.2.2.2.2.2.2.2.2.2.2.2.2.2.2.2.2.2.2.1 u.2.2.2.2.2.2.2.2.2.2.2.2.2.2.2.2.2.2.2.2.2.2.2.2.2.2.2.2.2.2.2.2.2.2.2.2.2 z_from H) (wrA qr qt)) args s 0 0 (wrA qr qt)) (F0 m 78 ls []) := by
  have hx := zc.1
  have hb := zc.2.1
  refine lv_aload_n hx hb dX4_read_78 rfl (lv_at hl 0 rfl) ?_
  refine wrg_4_63_0 zc hK hM dX4_read_79 ?_
  refine lv_if_ne (tgt := 105) hx hb dX4_read_82 (by decide) (fun hc => ?_) (fun hc => ?_)
  · have hw := hw.1 hc
    exact zret_vw ⟨lf_huts, lf_singers, lf_villages, lf_dams, lf_echoes, lf_deep, lf_slide, la_heights, la_ladders, la_minutes, la_echoFrom, la_echoTo, la_homes, la_talls, la_known, vf_deeds, va_kinds, va_firsts, va_seconds, sf_facts, sa_heard, sa_huts, sa_minutes, cf_voices, cf_step, ca_parts, ca_heights, f_fault, f_faultPlace, a_numbers, a_tape, f_length, f_behind, f_kind, f_first, f_value, f_hutsToldOf, f_singersToldOf⟩ zc hS hw hM dX4_read_105
  · have hw := hw.2 hc
    refine lv_iload_n hx hb dX4_read_85 rfl (lv_at hl 1 rfl) ?_
    refine lv_if_ne (tgt := 105) hx hb dX4_read_86 (by decide) (fun hc => ?_) (fun hc => ?_)
    · have hw := hw.1 hc
      exact zret_vw ⟨lf_huts, lf_singers, lf_villages, lf_dams, lf_echoes, lf_deep, lf_slide, la_heights, la_ladders, la_minutes, la_echoFrom, la_echoTo, la_homes, la_talls, la_known, vf_deeds, va_kinds, va_firsts, va_seconds, sf_facts, sa_heard, sa_huts, sa_minutes, cf_voices, cf_step, ca_parts, ca_heights, f_fault, f_faultPlace, a_numbers, a_tape, f_length, f_behind, f_kind, f_first, f_value, f_hutsToldOf, f_singersToldOf⟩ zc hS hw hM dX4_read_105
    · have hw := hw.2 hc
      refine lv_aload_n hx hb dX4_read_89 rfl (lv_at hl 0 rfl) ?_
      refine zV_i [] [] zc ky_X4_tellsOfMissing kz_X4_tellsOfMissing km_4_79 (c_wr_X4_tellsOfMissing l hw) (wrPreV0 hK hM) rfl rfl hl.1 (Nat.le_of_ble_eq_true rfl) ⟨rfl, rfl⟩ ⟨Nat.le_of_ble_eq_true rfl, Nat.le_of_ble_eq_true rfl⟩ ⟨(Nat.zero_le _), (Nat.zero_le _)⟩ dX4_read_90 (fun r_1 hw => ?_)
      refine lv_if_eq (tgt := 105) hx hb dX4_read_93 (by decide) (fun hc => ?_) (fun hc => ?_)
      · have hw := hw.1 hc
        exact zret_vw ⟨lf_huts, lf_singers, lf_villages, lf_dams, lf_echoes, lf_deep, lf_slide, la_heights, la_ladders, la_minutes, la_echoFrom, la_echoTo, la_homes, la_talls, la_known, vf_deeds, va_kinds, va_firsts, va_seconds, sf_facts, sa_heard, sa_huts, sa_minutes, cf_voices, cf_step, ca_parts, ca_heights, f_fault, f_faultPlace, a_numbers, a_tape, f_length, f_behind, f_kind, f_first, f_value, f_hutsToldOf, f_singersToldOf⟩ zc hS hw hM dX4_read_105
      · have hw := hw.2 hc
        refine lv_aload_n hx hb dX4_read_96 rfl (lv_at hl 0 rfl) ?_
        refine lv_iconst (v := (4 : Int32)) hx hb dX4_read_97 (by decide) ?_
        refine lv_aload_n hx hb dX4_read_98 rfl (lv_at hl 0 rfl) ?_
        refine wrg_4_57_0 zc hK hM dX4_read_99 ?_
        refine zVw_v [.int (4 : Int32), .int f_length] [] zc ky_X4_mark kz_X4_mark km_4_83 (c_wr_X4_mark l hw) (wrPreV0 hK hM) hS rfl rfl hl.1 (Nat.le_of_ble_eq_true rfl) ⟨rfl, rfl⟩ ⟨Nat.le_of_ble_eq_true rfl, Nat.le_of_ble_eq_true rfl⟩ ⟨(Nat.zero_le _), (Nat.zero_le _)⟩ dX4_read_102 (fun u H locs hw hM hS => ?_)
        obtain ⟨f_fault_1, f_faultPlace_1⟩ := u
        exact zret_vw ⟨lf_huts, lf_singers, lf_villages, lf_dams, lf_echoes, lf_deep, lf_slide, la_heights, la_ladders, la_minutes, la_echoFrom, la_echoTo, la_homes, la_talls, la_known, vf_deeds, va_kinds, va_firsts, va_seconds, sf_facts, sa_heard, sa_huts, sa_minutes, cf_voices, cf_step, ca_parts, ca_heights, f_fault_1, f_faultPlace_1, a_numbers, a_tape, f_length, f_behind, f_kind, f_first, f_value, f_hutsToldOf, f_singersToldOf⟩ zc hS hw hM dX4_read_105
set_option maxRecDepth 20000 in
theorem t_wr_X4_read_23_43 {p : Program} {l : Launch} {e : Env} {s : State} {m : MethodId} {args : Array Value} {below : List Frame} {meth : Method} {c : Code} {G : zG} {E : zE} {qr qt : Nat} {lf_huts : Int32} {lf_singers : Int32} {lf_villages : Int32} {lf_dams : Int32} {lf_echoes : Int32} {lf_deep : Int32} {lf_slide : Int32} {la_heights : Nat → Int32} {la_ladders : Nat → Int32} {la_minutes : Nat → Int32} {la_echoFrom : Nat → Int32} {la_echoTo : Nat → Int32} {la_homes : Nat → Int32} {la_talls : Nat → Int32} {la_known : Nat → Int32} {vf_deeds : Int32} {va_kinds : Nat → Int32} {va_firsts : Nat → Int32} {va_seconds : Nat → Int32} {sf_facts : Int32} {sa_heard : Nat → Int32} {sa_huts : Nat → Int32} {sa_minutes : Nat → Int32} {cf_voices : Int32} {cf_step : Int32} {ca_parts : Nat → Int32} {ca_heights : Nat → Int32} {f_fault : Int32} {f_faultPlace : Int32} {a_numbers : Nat → Int32} {a_tape : Nat → Int32} {f_length : Int32} {f_behind : Int32} {f_kind : Int32} {f_first : Int32} {f_value : Int32} {f_hutsToldOf : Int32} {f_singersToldOf : Int32} {z_from : Nat → Int32} {post : (Int32) → (Int32) → (Int32) → (Int32) → (Int32) → (Int32) → (Int32) → (Nat → Int32) → (Nat → Int32) → (Nat → Int32) → (Nat → Int32) → (Nat → Int32) → (Nat → Int32) → (Nat → Int32) → (Nat → Int32) → (Int32) → (Nat → Int32) → (Nat → Int32) → (Nat → Int32) → (Int32) → (Nat → Int32) → (Nat → Int32) → (Nat → Int32) → (Int32) → (Int32) → (Nat → Int32) → (Nat → Int32) → (Int32) → (Int32) → (Nat → Int32) → (Nat → Int32) → (Int32) → (Int32) → (Int32) → (Int32) → (Int32) → (Int32) → (Int32) → Prop} {x3 : Int32} {x4 : Int32} {ls : Array Slot} {H : Heap} {locs : List Loc}
    (zc : zC p s m args meth c cX4_read 5 RX4 none)
    (hK : zK E s)
    (hM : wrW E qr qt lf_huts lf_singers lf_villages lf_dams lf_echoes lf_deep lf_slide la_heights la_ladders la_minutes la_echoFrom la_echoTo la_homes la_talls la_known vf_deeds va_kinds va_firsts va_seconds sf_facts sa_heard sa_huts sa_minutes cf_voices cf_step ca_parts ca_heights f_fault f_faultPlace a_numbers a_tape f_length f_behind f_kind f_first f_value f_hutsToldOf f_singersToldOf z_from H)
    (hZ : zZ G (wrA qr qt) s s.heap)
    (hS : va_S (wrA qr qt) s.heap H locs)
    (hl : lv_has ls 5 [(0, .ref qr), (3, .int x3), (4, .int x4)])
    (hw : q_wr_X4_read_23_43 lf_huts lf_singers lf_villages lf_dams lf_echoes lf_deep lf_slide la_heights la_ladders la_minutes la_echoFrom la_echoTo la_homes la_talls la_known vf_deeds va_kinds va_firsts va_seconds sf_facts sa_heard sa_huts sa_minutes cf_voices cf_step ca_parts ca_heights f_fault f_faultPlace a_numbers a_tape f_length f_behind f_kind f_first f_value f_hutsToldOf f_singersToldOf z_from x3 x4 post) :
    W p l e rm_wr_X4_read_23 s m args below meth c H locs 0 0 (MQ below (zQv (S := (Int32) × (Int32) × (Int32) × (Int32) × (Int32) × (Int32) × (Int32) × (Nat → Int32) × (Nat → Int32) × (Nat → Int32) × (Nat → Int32) × (Nat → Int32) × (Nat → Int32) × (Nat → Int32) × (Nat → Int32) × (Int32) × (Nat → Int32) × (Nat → Int32) × (Nat → Int32) × (Int32) × (Nat → Int32) × (Nat → Int32) × (Nat → Int32) × (Int32) × (Int32) × (Nat → Int32) × (Nat → Int32) × (Int32) × (Int32) × (Nat → Int32) × (Nat → Int32) × (Int32) × (Int32) × (Int32) × (Int32) × (Int32) × (Int32) × (Int32)) (fun u => post u.1 u.2.1 u.2.2.1 u.2.2.2.1 u.2.2.2.2.1 u.2.2.2.2.2.1 u.2.2.2.2.2.2.1 u.2.2.2.2.2.2.2.1 u.2.2.2.2.2.2.2.2.1 u.2.2.2.2.2.2.2.2.2.1 u.2.2.2.2.2.2.2.2.2.2.1 u.2.2.2.2.2.2.2.2.2.2.2.1 u.2.2.2.2.2.2.2.2.2.2.2.2.1 u.2.2.2.2.2.2.2.2.2.2.2.2.2.1 u.2.2.2.2.2.2.2.2.2.2.2.2.2.2.1 u.2.2.2.2.2.2.2.2.2.2.2.2.2.2.2.1 u.2.2.2.2.2.2.2.2.2.2.2.2.2.2.2.2.1 u.2.2.2.2.2.2.2.2.2.2.2.2.2.2.2.2.2.1 u.2.2.2.2.2.2.2.2.2.2.2.2.2.2.2.2.2.2.1 u.2.2.2.2.2.2.2.2.2.2.2.2.2.2.2.2.2.2.2.1 u.2.2.2.2.2.2.2.2.2.2.2.2.2.2.2.2.2.2.2.2.1 u.2.2.2.2.2.2.2.2.2.2.2.2.2.2.2.2.2.2.2.2.2.1 u.2.2.2.2.2.2.2.2.2.2.2.2.2.2.2.2.2.2.2.2.2.2.1 u.2.2.2.2.2.2.2.2.2.2.2.2.2.2.2.2.2.2.2.2.2.2.2.1 u.2.2.2.2.2.2.2.2.2.2.2.2.2.2.2.2.2.2.2.2.2.2.2.2.1 u.2.2.2.2.2.2.2.2.2.2.2.2.2.2.2.2.2.2.2.2.2.2.2.2.2.1 u.2.2.2.2.2.2.2.2.2.2.2.2.2.2.2.2.2.2.2.2.2.2.2.2.2.2.1 u.2.2.2.2.2.2.2.2.2.2.2.2.2.2.2.2.2.2.2.2.2.2.2.2.2.2.2.1 u.2.2.2.2.2.2.2.2.2.2.2.2.2.2.2.2.2.2.2.2.2.2.2.2.2.2.2.2.1 u.2.2.2.2.2.2.2.2.2.2.2.2.2.2.2.2.2.2.2.2.2.2.2.2.2.2.2.2.2.1 u.2.2.2.2.2.2.2.2.2.2.2.2.2.2.2.2.2.2.2.2.2.2.2.2.2.2.2.2.2.2.1 u.2.2.2.2.2.2.2.2.2.2.2.2.2.2.2.2.2.2.2.2.2.2.2.2.2.2.2.2.2.2.2.1 u.2.2.2.2.2.2.2.2.2.2.2.2.2.2.2.2.2.2.2.2.2.2.2.2.2.2.2.2.2.2.2.2.1 u.2.2.2.2.2.2.2.2.2.2.2.2.2.2.2.2.2.2.2.2.2.2.2.2.2.2.2.2.2.2.2.2.2.1 u.2.2.2.2.2.2.2.2.2.2.2.2.2.2.2.2.2.2.2.2.2.2.2.2.2.2.2.2.2.2.2.2.2.2.1 u.2.2.2.2.2.2.2.2.2.2.2.2.2.2.2.2.2.2.2.2.2.2.2.2.2.2.2.2.2.2.2.2.2.2.2.1 u.2.2.2.2.2.2.2.2.2.2.2.2.2.2.2.2.2.2.2.2.2.2.2.2.2.2.2.2.2.2.2.2.2.2.2.2.1 u.2.2.2.2.2.2.2.2.2.2.2.2.2.2.2.2.2.2.2.2.2.2.2.2.2.2.2.2.2.2.2.2.2.2.2.2.2) (fun u H => wrW E qr qt u.1 u.2.1 u.2.2.1 u.2.2.2.1 u.2.2.2.2.1 u.2.2.2.2.2.1 u.2.2.2.2.2.2.1 u.2.2.2.2.2.2.2.1 u.2.2.2.2.2.2.2.2.1 u.2.2.2.2.2.2.2.2.2.1 u.2.2.2.2.2.2.2.2.2.2.1 u.2.2.2.2.2.2.2.2.2.2.2.1 u.2.2.2.2.2.2.2.2.2.2.2.2.1 u.2.2.2.2.2.2.2.2.2.2.2.2.2.1 u.2.2.2.2.2.2.2.2.2.2.2.2.2.2.1 u.2.2.2.2.2.2.2.2.2.2.2.2.2.2.2.1 u.2.2.2.2.2.2.2.2.2.2.2.2.2.2.2.2.1 u.2.2.2.2.2.2.2.2.2.2.2.2.2.2.2.2.2.1 u.2.2.2.2.2.2.2.2.2.2.2.2.2.2.2.2.2.2.1 u.2.2.2.2.2.2.2.2.2.2.2.2.2.2.2.2.2.2.2.1 u.2.2.2.2.2.2.2.2.2.2.2.2.2.2.2.2.2.2.2.2.1 u.2.2.2.2.2.2.2.2.2.2.2.2.2.2.2.2.2.2.2.2.2.1 u.2.2.2.2.2.2.2.2.2.2.2.2.2.2.2.2.2.2.2.2.2.2.1 u.2.2.2.2.2.2.2.2.2.2.2.2.2.2.2.2.2.2.2.2.2.2.2.1 u.2.2.2.2.2.2.2.2.2.2.2.2.2.2.2.2.2.2.2.2.2.2.2.2.1 u.2.2.2.2.2.2.2.2.2.2.2.2.2.2.2.2.2.2.2.2.2.2.2.2.2.1 u.2.2.2.2.2.2.2.2.2.2.2.2.2.2.2.2.2.2.2.2.2.2.2.2.2.2.1 u.2.2.2.2.2.2.2.2.2.2.2.2.2.2.2.2.2.2.2.2.2.2.2.2.2.2.2.1 u.2.2.2.2.2.2.2.2.2.2.2.2.2.2.2.2.2.2.2.2.2.2.2.2.2.2.2.2.1 u.2.2.2.2.2.2.2.2.2.2.2.2.2.2.2.2.2.2.2.2.2.2.2.2.2.2.2.2.2.1 u.2.2.2.2.2.2.2.2.2.2.2.2.2.2.2.2.2.2.2.2.2.2.2.2.2.2.2.2.2.2.1 u.2.2.2.2.2.2.2.2.2.2.2.2.2.2.2.2.2.2.2.2.2.2.2.2.2.2.2.2.2.2.2.1 u.2.2.2.2.2.2.2.2.2.2.2.2.2.2.2.2.2.2.2.2.2.2.2.2.2.2.2.2.2.2.2.2.1 u.2.2.2.2.2.2.2.2.2.2.2.2.2.2.2.2.2.2.2.2.2.2.2.2.2.2.2.2.2.2.2.2.2.1 u.2.2.2.2.2.2.2.2.2.2.2.2.2.2.2.2.2.2.2.2.2.2.2.2.2.2.2.2.2.2.2.2.2.2.1 u.2.2.2.2.2.2.2.2.2.2.2.2.2.2.2.2.2.2.2.2.2.2.2.2.2.2.2.2.2.2.2.2.2.2.2.1 u.2.2.2.2.2.2.2.2.2.2.2.2.2.2.2.2.2.2.2.2.2.2.2.2.2.2.2.2.2.2.2.2.2.2.2.2.1 u.2.2.2.2.2.2.2.2.2.2.2.2.2.2.2.2.2.2.2.2.2.2.2.2.2.2.2.2.2.2.2.2.2.2.2.2.2 z_from H) (wrA qr qt)) args s 0 0 (wrA qr qt)) (F0 m 43 ls []) := by
  have hx := zc.1
  have hb := zc.2.1
  refine hw (fun x4 lf_huts lf_singers lf_villages lf_dams lf_echoes lf_deep lf_slide la_heights la_ladders la_minutes la_echoFrom la_echoTo la_homes la_talls la_known vf_deeds va_kinds va_firsts va_seconds sf_facts sa_heard sa_huts sa_minutes cf_voices cf_step ca_parts ca_heights f_fault f_faultPlace a_numbers f_behind f_kind f_first f_value f_hutsToldOf f_singersToldOf => ∀ (H : Heap) (locs : List Loc) (ls : Array Slot), lv_has ls 5 [(0, .ref qr), (3, .int x3), (4, .int x4)] → wrW E qr qt lf_huts lf_singers lf_villages lf_dams lf_echoes lf_deep lf_slide la_heights la_ladders la_minutes la_echoFrom la_echoTo la_homes la_talls la_known vf_deeds va_kinds va_firsts va_seconds sf_facts sa_heard sa_huts sa_minutes cf_voices cf_step ca_parts ca_heights f_fault f_faultPlace a_numbers a_tape f_length f_behind f_kind f_first f_value f_hutsToldOf f_singersToldOf z_from H → va_S (wrA qr qt) s.heap H locs → W p l e rm_wr_X4_read_23 s m args below meth c H locs 0 0 (MQ below (zQv (S := (Int32) × (Int32) × (Int32) × (Int32) × (Int32) × (Int32) × (Int32) × (Nat → Int32) × (Nat → Int32) × (Nat → Int32) × (Nat → Int32) × (Nat → Int32) × (Nat → Int32) × (Nat → Int32) × (Nat → Int32) × (Int32) × (Nat → Int32) × (Nat → Int32) × (Nat → Int32) × (Int32) × (Nat → Int32) × (Nat → Int32) × (Nat → Int32) × (Int32) × (Int32) × (Nat → Int32) × (Nat → Int32) × (Int32) × (Int32) × (Nat → Int32) × (Nat → Int32) × (Int32) × (Int32) × (Int32) × (Int32) × (Int32) × (Int32) × (Int32)) (fun u => post u.1 u.2.1 u.2.2.1 u.2.2.2.1 u.2.2.2.2.1 u.2.2.2.2.2.1 u.2.2.2.2.2.2.1 u.2.2.2.2.2.2.2.1 u.2.2.2.2.2.2.2.2.1 u.2.2.2.2.2.2.2.2.2.1 u.2.2.2.2.2.2.2.2.2.2.1 u.2.2.2.2.2.2.2.2.2.2.2.1 u.2.2.2.2.2.2.2.2.2.2.2.2.1 u.2.2.2.2.2.2.2.2.2.2.2.2.2.1 u.2.2.2.2.2.2.2.2.2.2.2.2.2.2.1 u.2.2.2.2.2.2.2.2.2.2.2.2.2.2.2.1 u.2.2.2.2.2.2.2.2.2.2.2.2.2.2.2.2.1 u.2.2.2.2.2.2.2.2.2.2.2.2.2.2.2.2.2.1 u.2.2.2.2.2.2.2.2.2.2.2.2.2.2.2.2.2.2.1 u.2.2.2.2.2.2.2.2.2.2.2.2.2.2.2.2.2.2.2.1 u.2.2.2.2.2.2.2.2.2.2.2.2.2.2.2.2.2.2.2.2.1 u.2.2.2.2.2.2.2.2.2.2.2.2.2.2.2.2.2.2.2.2.2.1 u.2.2.2.2.2.2.2.2.2.2.2.2.2.2.2.2.2.2.2.2.2.2.1 u.2.2.2.2.2.2.2.2.2.2.2.2.2.2.2.2.2.2.2.2.2.2.2.1 u.2.2.2.2.2.2.2.2.2.2.2.2.2.2.2.2.2.2.2.2.2.2.2.2.1 u.2.2.2.2.2.2.2.2.2.2.2.2.2.2.2.2.2.2.2.2.2.2.2.2.2.1 u.2.2.2.2.2.2.2.2.2.2.2.2.2.2.2.2.2.2.2.2.2.2.2.2.2.2.1 u.2.2.2.2.2.2.2.2.2.2.2.2.2.2.2.2.2.2.2.2.2.2.2.2.2.2.2.1 u.2.2.2.2.2.2.2.2.2.2.2.2.2.2.2.2.2.2.2.2.2.2.2.2.2.2.2.2.1 u.2.2.2.2.2.2.2.2.2.2.2.2.2.2.2.2.2.2.2.2.2.2.2.2.2.2.2.2.2.1 u.2.2.2.2.2.2.2.2.2.2.2.2.2.2.2.2.2.2.2.2.2.2.2.2.2.2.2.2.2.2.1 u.2.2.2.2.2.2.2.2.2.2.2.2.2.2.2.2.2.2.2.2.2.2.2.2.2.2.2.2.2.2.2.1 u.2.2.2.2.2.2.2.2.2.2.2.2.2.2.2.2.2.2.2.2.2.2.2.2.2.2.2.2.2.2.2.2.1 u.2.2.2.2.2.2.2.2.2.2.2.2.2.2.2.2.2.2.2.2.2.2.2.2.2.2.2.2.2.2.2.2.2.1 u.2.2.2.2.2.2.2.2.2.2.2.2.2.2.2.2.2.2.2.2.2.2.2.2.2.2.2.2.2.2.2.2.2.2.1 u.2.2.2.2.2.2.2.2.2.2.2.2.2.2.2.2.2.2.2.2.2.2.2.2.2.2.2.2.2.2.2.2.2.2.2.1 u.2.2.2.2.2.2.2.2.2.2.2.2.2.2.2.2.2.2.2.2.2.2.2.2.2.2.2.2.2.2.2.2.2.2.2.2.1 u.2.2.2.2.2.2.2.2.2.2.2.2.2.2.2.2.2.2.2.2.2.2.2.2.2.2.2.2.2.2.2.2.2.2.2.2.2) (fun u H => wrW E qr qt u.1 u.2.1 u.2.2.1 u.2.2.2.1 u.2.2.2.2.1 u.2.2.2.2.2.1 u.2.2.2.2.2.2.1 u.2.2.2.2.2.2.2.1 u.2.2.2.2.2.2.2.2.1 u.2.2.2.2.2.2.2.2.2.1 u.2.2.2.2.2.2.2.2.2.2.1 u.2.2.2.2.2.2.2.2.2.2.2.1 u.2.2.2.2.2.2.2.2.2.2.2.2.1 u.2.2.2.2.2.2.2.2.2.2.2.2.2.1 u.2.2.2.2.2.2.2.2.2.2.2.2.2.2.1 u.2.2.2.2.2.2.2.2.2.2.2.2.2.2.2.1 u.2.2.2.2.2.2.2.2.2.2.2.2.2.2.2.2.1 u.2.2.2.2.2.2.2.2.2.2.2.2.2.2.2.2.2.1 u.2.2.2.2.2.2.2.2.2.2.2.2.2.2.2.2.2.2.1 u.2.2.2.2.2.2.2.2.2.2.2.2.2.2.2.2.2.2.2.1 u.2.2.2.2.2.2.2.2.2.2.2.2.2.2.2.2.2.2.2.2.1 u.2.2.2.2.2.2.2.2.2.2.2.2.2.2.2.2.2.2.2.2.2.1 u.2.2.2.2.2.2.2.2.2.2.2.2.2.2.2.2.2.2.2.2.2.2.1 u.2.2.2.2.2.2.2.2.2.2.2.2.2.2.2.2.2.2.2.2.2.2.2.1 u.2.2.2.2.2.2.2.2.2.2.2.2.2.2.2.2.2.2.2.2.2.2.2.2.1 u.2.2.2.2.2.2.2.2.2.2.2.2.2.2.2.2.2.2.2.2.2.2.2.2.2.1 u.2.2.2.2.2.2.2.2.2.2.2.2.2.2.2.2.2.2.2.2.2.2.2.2.2.2.1 u.2.2.2.2.2.2.2.2.2.2.2.2.2.2.2.2.2.2.2.2.2.2.2.2.2.2.2.1 u.2.2.2.2.2.2.2.2.2.2.2.2.2.2.2.2.2.2.2.2.2.2.2.2.2.2.2.2.1 u.2.2.2.2.2.2.2.2.2.2.2.2.2.2.2.2.2.2.2.2.2.2.2.2.2.2.2.2.2.1 u.2.2.2.2.2.2.2.2.2.2.2.2.2.2.2.2.2.2.2.2.2.2.2.2.2.2.2.2.2.2.1 u.2.2.2.2.2.2.2.2.2.2.2.2.2.2.2.2.2.2.2.2.2.2.2.2.2.2.2.2.2.2.2.1 u.2.2.2.2.2.2.2.2.2.2.2.2.2.2.2.2.2.2.2.2.2.2.2.2.2.2.2.2.2.2.2.2.1 u.2.2.2.2.2.2.2.2.2.2.2.2.2.2.2.2.2.2.2.2.2.2.2.2.2.2.2.2.2.2.2.2.2.1 u.2.2.2.2.2.2.2.2.2.2.2.2.2.2.2.2.2.2.2.2.2.2.2.2.2.2.2.2.2.2.2.2.2.2.1 u.2.2.2.2.2.2.2.2.2.2.2.2.2.2.2.2.2.2.2.2.2.2.2.2.2.2.2.2.2.2.2.2.2.2.2.1 u.2.2.2.2.2.2.2.2.2.2.2.2.2.2.2.2.2.2.2.2.2.2.2.2.2.2.2.2.2.2.2.2.2.2.2.2.1 u.2.2.2.2.2.2.2.2.2.2.2.2.2.2.2.2.2.2.2.2.2.2.2.2.2.2.2.2.2.2.2.2.2.2.2.2.2 z_from H) (wrA qr qt)) args s 0 0 (wrA qr qt)) (F0 m 43 ls [])) ?_ _ _ _ hl hM hS
  intro x4 lf_huts lf_singers lf_villages lf_dams lf_echoes lf_deep lf_slide la_heights la_ladders la_minutes la_echoFrom la_echoTo la_homes la_talls la_known vf_deeds va_kinds va_firsts va_seconds sf_facts sa_heard sa_huts sa_minutes cf_voices cf_step ca_parts ca_heights f_fault f_faultPlace a_numbers f_behind f_kind f_first f_value f_hutsToldOf f_singersToldOf hw H locs ls hl hM hS
  refine lv_iload hx hb dX4_read_43 (lv_at hl 2 rfl) ?_
  refine lv_aload_n hx hb dX4_read_45 rfl (lv_at hl 0 rfl) ?_
  refine wrg_4_57_0 zc hK hM dX4_read_46 ?_
  refine lv_icmp_ge (tgt := 78) hx hb dX4_read_49 (by decide) (fun hc => ?_) (fun hc => ?_)
  · have hw := hw.1 hc
    exact t_wr_X4_read_23_78 zc hK hM hZ hS  (lv_sub hl [0, 1] rfl) hw
  · have hw := hw.2 hc
    refine lv_aload_n hx hb dX4_read_52 rfl (lv_at hl 0 rfl) ?_
    refine wrg_4_73_0 zc hK hM dX4_read_53 ?_
    refine lv_if_eq (tgt := 78) hx hb dX4_read_56 (by decide) (fun hc => ?_) (fun hc => ?_)
    · have hw := hw.1 hc
      exact t_wr_X4_read_23_78 zc hK hM hZ hS  (lv_sub hl [0, 1] rfl) hw
    · have hw := hw.2 hc
      refine lv_aload_n hx hb dX4_read_59 rfl (lv_at hl 0 rfl) ?_
      refine wrg_4_63_0 zc hK hM dX4_read_60 ?_
      refine lv_iconst (v := (1 : Int32)) hx hb dX4_read_63 (by decide) ?_
      refine lv_icmp_eq (tgt := 78) hx hb dX4_read_64 (by decide) (fun hc => ?_) (fun hc => ?_)
      · have hw := hw.1 hc
        exact t_wr_X4_read_23_78 zc hK hM hZ hS  (lv_sub hl [0, 1] rfl) hw
      · have hw := hw.2 hc
        refine lv_aload_n hx hb dX4_read_67 rfl (lv_at hl 0 rfl) ?_
        refine lv_iload_n hx hb dX4_read_68 rfl (lv_at hl 1 rfl) ?_
        refine zVw_v [.int x3] [] zc ky_X4_readLine kz_X4_readLine km_4_76 (c_wr_X4_readLine l hw) (wrPreVZ0 hK hM hZ hS (fun _ h => h)) hS rfl rfl hl.1 (Nat.le_of_ble_eq_true rfl) ⟨rfl, rfl⟩ ⟨Nat.le_of_ble_eq_true rfl, Nat.le_of_ble_eq_true rfl⟩ ⟨(Nat.zero_le _), (Nat.zero_le _)⟩ dX4_read_69 (fun u H locs hw hM hS => ?_)
        obtain ⟨lf_huts_1, lf_singers_1, lf_villages_1, lf_dams_1, lf_echoes_1, lf_deep_1, lf_slide_1, la_heights_1, la_ladders_1, la_minutes_1, la_echoFrom_1, la_echoTo_1, la_homes_1, la_talls_1, la_known_1, vf_deeds_1, va_kinds_1, va_firsts_1, va_seconds_1, sf_facts_1, sa_heard_1, sa_huts_1, sa_minutes_1, cf_voices_1, cf_step_1, ca_parts_1, ca_heights_1, f_fault_1, f_faultPlace_1, a_numbers_1, f_behind_1, f_kind_1, f_first_1, f_value_1, f_hutsToldOf_1, f_singersToldOf_1⟩ := u
        obtain ⟨v_1, ev_1⟩ : ∃ y : Int32, y = x4 + (1 : Int32) := ⟨_, rfl⟩
        have hw := hw v_1 ev_1
        refine lv_iinc (v := v_1) (k := 2) (lv' := [(4, .int v_1), (0, .ref qr), (3, .int x3)]) hx hb dX4_read_72 hl rfl (by rw [ev_1]; rfl) (by decide) rfl (fun ls hl => ?_)
        refine lv_goto (tgt := 43) hx hb dX4_read_75 (by decide) ?_
        exact hw _ _ _ (lv_sub hl [1, 2, 0] rfl) hM hS
set_option maxRecDepth 20000 in
theorem t_wr_X4_read_23_0 {p : Program} {l : Launch} {e : Env} {s : State} {m : MethodId} {args : Array Value} {below : List Frame} {meth : Method} {c : Code} {G : zG} {E : zE} {qr qt : Nat} {lf_huts : Int32} {lf_singers : Int32} {lf_villages : Int32} {lf_dams : Int32} {lf_echoes : Int32} {lf_deep : Int32} {lf_slide : Int32} {la_heights : Nat → Int32} {la_ladders : Nat → Int32} {la_minutes : Nat → Int32} {la_echoFrom : Nat → Int32} {la_echoTo : Nat → Int32} {la_homes : Nat → Int32} {la_talls : Nat → Int32} {la_known : Nat → Int32} {vf_deeds : Int32} {va_kinds : Nat → Int32} {va_firsts : Nat → Int32} {va_seconds : Nat → Int32} {sf_facts : Int32} {sa_heard : Nat → Int32} {sa_huts : Nat → Int32} {sa_minutes : Nat → Int32} {cf_voices : Int32} {cf_step : Int32} {ca_parts : Nat → Int32} {ca_heights : Nat → Int32} {f_fault : Int32} {f_faultPlace : Int32} {a_numbers : Nat → Int32} {a_tape : Nat → Int32} {f_length : Int32} {f_behind : Int32} {f_kind : Int32} {f_first : Int32} {f_value : Int32} {f_hutsToldOf : Int32} {f_singersToldOf : Int32} {z_from : Nat → Int32} {post : (Int32) → (Int32) → (Int32) → (Int32) → (Int32) → (Int32) → (Int32) → (Nat → Int32) → (Nat → Int32) → (Nat → Int32) → (Nat → Int32) → (Nat → Int32) → (Nat → Int32) → (Nat → Int32) → (Nat → Int32) → (Int32) → (Nat → Int32) → (Nat → Int32) → (Nat → Int32) → (Int32) → (Nat → Int32) → (Nat → Int32) → (Nat → Int32) → (Int32) → (Int32) → (Nat → Int32) → (Nat → Int32) → (Int32) → (Int32) → (Nat → Int32) → (Nat → Int32) → (Int32) → (Int32) → (Int32) → (Int32) → (Int32) → (Int32) → (Int32) → Prop} {x2 : Int32} {x3 : Int32} {ls : Array Slot} {H : Heap} {locs : List Loc}
    (zc : zC p s m args meth c cX4_read 5 RX4 none)
    (hK : zK E s)
    (hM : wrW E qr qt lf_huts lf_singers lf_villages lf_dams lf_echoes lf_deep lf_slide la_heights la_ladders la_minutes la_echoFrom la_echoTo la_homes la_talls la_known vf_deeds va_kinds va_firsts va_seconds sf_facts sa_heard sa_huts sa_minutes cf_voices cf_step ca_parts ca_heights f_fault f_faultPlace a_numbers a_tape f_length f_behind f_kind f_first f_value f_hutsToldOf f_singersToldOf z_from H)
    (hZ : zZ G (wrA qr qt) s s.heap)
    (hS : va_S (wrA qr qt) s.heap H locs)
    (hl : lv_has ls 5 [(0, .ref qr), (1, .ref qt), (2, .int x2), (3, .int x3)])
    (hw : q_wr_X4_read_23_0 lf_huts lf_singers lf_villages lf_dams lf_echoes lf_deep lf_slide la_heights la_ladders la_minutes la_echoFrom la_echoTo la_homes la_talls la_known vf_deeds va_kinds va_firsts va_seconds sf_facts sa_heard sa_huts sa_minutes cf_voices cf_step ca_parts ca_heights f_fault f_faultPlace a_numbers a_tape f_length f_behind f_kind f_first f_value f_hutsToldOf f_singersToldOf z_from x2 x3 post) :
    W p l e rm_wr_X4_read_23 s m args below meth c H locs 0 0 (MQ below (zQv (S := (Int32) × (Int32) × (Int32) × (Int32) × (Int32) × (Int32) × (Int32) × (Nat → Int32) × (Nat → Int32) × (Nat → Int32) × (Nat → Int32) × (Nat → Int32) × (Nat → Int32) × (Nat → Int32) × (Nat → Int32) × (Int32) × (Nat → Int32) × (Nat → Int32) × (Nat → Int32) × (Int32) × (Nat → Int32) × (Nat → Int32) × (Nat → Int32) × (Int32) × (Int32) × (Nat → Int32) × (Nat → Int32) × (Int32) × (Int32) × (Nat → Int32) × (Nat → Int32) × (Int32) × (Int32) × (Int32) × (Int32) × (Int32) × (Int32) × (Int32)) (fun u => post u.1 u.2.1 u.2.2.1 u.2.2.2.1 u.2.2.2.2.1 u.2.2.2.2.2.1 u.2.2.2.2.2.2.1 u.2.2.2.2.2.2.2.1 u.2.2.2.2.2.2.2.2.1 u.2.2.2.2.2.2.2.2.2.1 u.2.2.2.2.2.2.2.2.2.2.1 u.2.2.2.2.2.2.2.2.2.2.2.1 u.2.2.2.2.2.2.2.2.2.2.2.2.1 u.2.2.2.2.2.2.2.2.2.2.2.2.2.1 u.2.2.2.2.2.2.2.2.2.2.2.2.2.2.1 u.2.2.2.2.2.2.2.2.2.2.2.2.2.2.2.1 u.2.2.2.2.2.2.2.2.2.2.2.2.2.2.2.2.1 u.2.2.2.2.2.2.2.2.2.2.2.2.2.2.2.2.2.1 u.2.2.2.2.2.2.2.2.2.2.2.2.2.2.2.2.2.2.1 u.2.2.2.2.2.2.2.2.2.2.2.2.2.2.2.2.2.2.2.1 u.2.2.2.2.2.2.2.2.2.2.2.2.2.2.2.2.2.2.2.2.1 u.2.2.2.2.2.2.2.2.2.2.2.2.2.2.2.2.2.2.2.2.2.1 u.2.2.2.2.2.2.2.2.2.2.2.2.2.2.2.2.2.2.2.2.2.2.1 u.2.2.2.2.2.2.2.2.2.2.2.2.2.2.2.2.2.2.2.2.2.2.2.1 u.2.2.2.2.2.2.2.2.2.2.2.2.2.2.2.2.2.2.2.2.2.2.2.2.1 u.2.2.2.2.2.2.2.2.2.2.2.2.2.2.2.2.2.2.2.2.2.2.2.2.2.1 u.2.2.2.2.2.2.2.2.2.2.2.2.2.2.2.2.2.2.2.2.2.2.2.2.2.2.1 u.2.2.2.2.2.2.2.2.2.2.2.2.2.2.2.2.2.2.2.2.2.2.2.2.2.2.2.1 u.2.2.2.2.2.2.2.2.2.2.2.2.2.2.2.2.2.2.2.2.2.2.2.2.2.2.2.2.1 u.2.2.2.2.2.2.2.2.2.2.2.2.2.2.2.2.2.2.2.2.2.2.2.2.2.2.2.2.2.1 u.2.2.2.2.2.2.2.2.2.2.2.2.2.2.2.2.2.2.2.2.2.2.2.2.2.2.2.2.2.2.1 u.2.2.2.2.2.2.2.2.2.2.2.2.2.2.2.2.2.2.2.2.2.2.2.2.2.2.2.2.2.2.2.1 u.2.2.2.2.2.2.2.2.2.2.2.2.2.2.2.2.2.2.2.2.2.2.2.2.2.2.2.2.2.2.2.2.1 u.2.2.2.2.2.2.2.2.2.2.2.2.2.2.2.2.2.2.2.2.2.2.2.2.2.2.2.2.2.2.2.2.2.1 u.2.2.2.2.2.2.2.2.2.2.2.2.2.2.2.2.2.2.2.2.2.2.2.2.2.2.2.2.2.2.2.2.2.2.1 u.2.2.2.2.2.2.2.2.2.2.2.2.2.2.2.2.2.2.2.2.2.2.2.2.2.2.2.2.2.2.2.2.2.2.2.1 u.2.2.2.2.2.2.2.2.2.2.2.2.2.2.2.2.2.2.2.2.2.2.2.2.2.2.2.2.2.2.2.2.2.2.2.2.1 u.2.2.2.2.2.2.2.2.2.2.2.2.2.2.2.2.2.2.2.2.2.2.2.2.2.2.2.2.2.2.2.2.2.2.2.2.2) (fun u H => wrW E qr qt u.1 u.2.1 u.2.2.1 u.2.2.2.1 u.2.2.2.2.1 u.2.2.2.2.2.1 u.2.2.2.2.2.2.1 u.2.2.2.2.2.2.2.1 u.2.2.2.2.2.2.2.2.1 u.2.2.2.2.2.2.2.2.2.1 u.2.2.2.2.2.2.2.2.2.2.1 u.2.2.2.2.2.2.2.2.2.2.2.1 u.2.2.2.2.2.2.2.2.2.2.2.2.1 u.2.2.2.2.2.2.2.2.2.2.2.2.2.1 u.2.2.2.2.2.2.2.2.2.2.2.2.2.2.1 u.2.2.2.2.2.2.2.2.2.2.2.2.2.2.2.1 u.2.2.2.2.2.2.2.2.2.2.2.2.2.2.2.2.1 u.2.2.2.2.2.2.2.2.2.2.2.2.2.2.2.2.2.1 u.2.2.2.2.2.2.2.2.2.2.2.2.2.2.2.2.2.2.1 u.2.2.2.2.2.2.2.2.2.2.2.2.2.2.2.2.2.2.2.1 u.2.2.2.2.2.2.2.2.2.2.2.2.2.2.2.2.2.2.2.2.1 u.2.2.2.2.2.2.2.2.2.2.2.2.2.2.2.2.2.2.2.2.2.1 u.2.2.2.2.2.2.2.2.2.2.2.2.2.2.2.2.2.2.2.2.2.2.1 u.2.2.2.2.2.2.2.2.2.2.2.2.2.2.2.2.2.2.2.2.2.2.2.1 u.2.2.2.2.2.2.2.2.2.2.2.2.2.2.2.2.2.2.2.2.2.2.2.2.1 u.2.2.2.2.2.2.2.2.2.2.2.2.2.2.2.2.2.2.2.2.2.2.2.2.2.1 u.2.2.2.2.2.2.2.2.2.2.2.2.2.2.2.2.2.2.2.2.2.2.2.2.2.2.1 u.2.2.2.2.2.2.2.2.2.2.2.2.2.2.2.2.2.2.2.2.2.2.2.2.2.2.2.1 u.2.2.2.2.2.2.2.2.2.2.2.2.2.2.2.2.2.2.2.2.2.2.2.2.2.2.2.2.1 u.2.2.2.2.2.2.2.2.2.2.2.2.2.2.2.2.2.2.2.2.2.2.2.2.2.2.2.2.2.1 u.2.2.2.2.2.2.2.2.2.2.2.2.2.2.2.2.2.2.2.2.2.2.2.2.2.2.2.2.2.2.1 u.2.2.2.2.2.2.2.2.2.2.2.2.2.2.2.2.2.2.2.2.2.2.2.2.2.2.2.2.2.2.2.1 u.2.2.2.2.2.2.2.2.2.2.2.2.2.2.2.2.2.2.2.2.2.2.2.2.2.2.2.2.2.2.2.2.1 u.2.2.2.2.2.2.2.2.2.2.2.2.2.2.2.2.2.2.2.2.2.2.2.2.2.2.2.2.2.2.2.2.2.1 u.2.2.2.2.2.2.2.2.2.2.2.2.2.2.2.2.2.2.2.2.2.2.2.2.2.2.2.2.2.2.2.2.2.2.1 u.2.2.2.2.2.2.2.2.2.2.2.2.2.2.2.2.2.2.2.2.2.2.2.2.2.2.2.2.2.2.2.2.2.2.2.1 u.2.2.2.2.2.2.2.2.2.2.2.2.2.2.2.2.2.2.2.2.2.2.2.2.2.2.2.2.2.2.2.2.2.2.2.2.1 u.2.2.2.2.2.2.2.2.2.2.2.2.2.2.2.2.2.2.2.2.2.2.2.2.2.2.2.2.2.2.2.2.2.2.2.2.2 z_from H) (wrA qr qt)) args s 0 0 (wrA qr qt)) (F0 m 0 ls []) := by
  have hx := zc.1
  have hb := zc.2.1
  refine lv_aload_n hx hb dX4_read_0 rfl (lv_at hl 1 rfl) ?_
  refine lv_iconst (v := (0 : Int32)) hx hb dX4_read_1 (by decide) ?_
  refine lv_aload_n hx hb dX4_read_2 rfl (lv_at hl 0 rfl) ?_
  refine wrg_4_47_0 zc hK hM dX4_read_3 ?_
  refine lv_iconst (v := (0 : Int32)) hx hb dX4_read_6 (by decide) ?_
  refine lv_iload_n hx hb dX4_read_7 rfl (lv_at hl 2 rfl) ?_
  have hs5 := hw.1
  have hw := hw.2
  have hs6 := hw.1
  have hw := hw.2
  have hs7 := hw.1
  have hw := hw.2
  have hs8 := hw.1
  have hw := hw.2
  refine wrcp_23_22 zc hK hM hS hl.1 (zc.2.2.2.2.1 _ km_4_51) (by decide) (by decide) hs5 hs6 hs7 hs8 (by decide) (by decide) dX4_read_8 (fun a_tape_1 H locs ea_tape_1 hM hS => ?_)
  have hw := hw a_tape_1 ea_tape_1
  refine lv_aload_n hx hb dX4_read_11 rfl (lv_at hl 0 rfl) ?_
  refine lv_iload_n hx hb dX4_read_12 rfl (lv_at hl 2 rfl) ?_
  refine wrp_4_57_0 zc hK hM hS dX4_read_13 (fun H locs hM hS => ?_)
  refine lv_aload_n hx hb dX4_read_16 rfl (lv_at hl 0 rfl) ?_
  refine lv_iconst (v := (0 : Int32)) hx hb dX4_read_17 (by decide) ?_
  refine wrp_4_60_0 zc hK hM hS dX4_read_18 (fun H locs hM hS => ?_)
  refine lv_aload_n hx hb dX4_read_21 rfl (lv_at hl 0 rfl) ?_
  refine lv_iconst (v := (0 : Int32)) hx hb dX4_read_22 (by decide) ?_
  refine wrp_4_63_0 zc hK hM hS dX4_read_23 (fun H locs hM hS => ?_)
  refine lv_aload_n hx hb dX4_read_26 rfl (lv_at hl 0 rfl) ?_
  refine lv_iconst (v := (-1 : Int32)) hx hb dX4_read_27 (by decide) ?_
  refine wrp_4_39_0 zc hK hM hS dX4_read_28 (fun H locs hM hS => ?_)
  refine lv_aload_n hx hb dX4_read_31 rfl (lv_at hl 0 rfl) ?_
  refine lv_iload_n hx hb dX4_read_32 rfl (lv_at hl 3 rfl) ?_
  refine zVw_v [.int x3] [] zc ky_X4_clearDraft kz_X4_clearDraft km_4_66 (c_wr_X4_clearDraft l hw) (wrPreV0 hK hM) hS rfl rfl hl.1 (Nat.le_of_ble_eq_true rfl) ⟨rfl, rfl⟩ ⟨Nat.le_of_ble_eq_true rfl, Nat.le_of_ble_eq_true rfl⟩ ⟨(Nat.zero_le _), (Nat.zero_le _)⟩ dX4_read_33 (fun u H locs hw hM hS => ?_)
  obtain ⟨lf_huts_1, lf_singers_1, lf_villages_1, lf_dams_1, lf_echoes_1, lf_deep_1, lf_slide_1, la_ladders_1, la_minutes_1, la_known_1, vf_deeds_1, sf_facts_1, cf_voices_1, cf_step_1, f_hutsToldOf_1, f_singersToldOf_1⟩ := u
  refine lv_aload_n hx hb dX4_read_36 rfl (lv_at hl 0 rfl) ?_
  refine zVw_v [] [] zc ky_X4_advance kz_X4_advance km_4_70 (c_wr_X4_advance l hw) (wrPreV0 hK hM) hS rfl rfl hl.1 (Nat.le_of_ble_eq_true rfl) ⟨rfl, rfl⟩ ⟨Nat.le_of_ble_eq_true rfl, Nat.le_of_ble_eq_true rfl⟩ ⟨(Nat.zero_le _), (Nat.zero_le _)⟩ dX4_read_37 (fun u H locs hw hM hS => ?_)
  obtain ⟨f_behind_1, f_kind_1, f_first_1, f_value_1⟩ := u
  refine lv_iconst (v := (0 : Int32)) hx hb dX4_read_40 (by decide) ?_
  refine lv_istore (lv' := [(4, .int (0 : Int32)), (0, .ref qr), (1, .ref qt), (2, .int x2), (3, .int x3)]) hx hb dX4_read_41 hl (by decide) rfl (fun ls hl => ?_)
  exact t_wr_X4_read_23_43 zc hK hM hZ hS  (lv_sub hl [1, 4, 0] rfl) hw
set_option maxRecDepth 20000 in
theorem c_wr_X4_read_23 (l : Launch) {G : zG} {E : zE} {qr qt : Nat} {lf_huts : Int32} {lf_singers : Int32} {lf_villages : Int32} {lf_dams : Int32} {lf_echoes : Int32} {lf_deep : Int32} {lf_slide : Int32} {la_heights : Nat → Int32} {la_ladders : Nat → Int32} {la_minutes : Nat → Int32} {la_echoFrom : Nat → Int32} {la_echoTo : Nat → Int32} {la_homes : Nat → Int32} {la_talls : Nat → Int32} {la_known : Nat → Int32} {vf_deeds : Int32} {va_kinds : Nat → Int32} {va_firsts : Nat → Int32} {va_seconds : Nat → Int32} {sf_facts : Int32} {sa_heard : Nat → Int32} {sa_huts : Nat → Int32} {sa_minutes : Nat → Int32} {cf_voices : Int32} {cf_step : Int32} {ca_parts : Nat → Int32} {ca_heights : Nat → Int32} {f_fault : Int32} {f_faultPlace : Int32} {a_numbers : Nat → Int32} {a_tape : Nat → Int32} {f_length : Int32} {f_behind : Int32} {f_kind : Int32} {f_first : Int32} {f_value : Int32} {f_hutsToldOf : Int32} {f_singersToldOf : Int32} {z_from : Nat → Int32} {x2 : Int32} {x3 : Int32} {post : (Int32) → (Int32) → (Int32) → (Int32) → (Int32) → (Int32) → (Int32) → (Nat → Int32) → (Nat → Int32) → (Nat → Int32) → (Nat → Int32) → (Nat → Int32) → (Nat → Int32) → (Nat → Int32) → (Nat → Int32) → (Int32) → (Nat → Int32) → (Nat → Int32) → (Nat → Int32) → (Int32) → (Nat → Int32) → (Nat → Int32) → (Nat → Int32) → (Int32) → (Int32) → (Nat → Int32) → (Nat → Int32) → (Int32) → (Int32) → (Nat → Int32) → (Nat → Int32) → (Int32) → (Int32) → (Int32) → (Int32) → (Int32) → (Int32) → (Int32) → Prop} (hw : q_wr_X4_read_23_0 lf_huts lf_singers lf_villages lf_dams lf_echoes lf_deep lf_slide la_heights la_ladders la_minutes la_echoFrom la_echoTo la_homes la_talls la_known vf_deeds va_kinds va_firsts va_seconds sf_facts sa_heard sa_huts sa_minutes cf_voices cf_step ca_parts ca_heights f_fault f_faultPlace a_numbers a_tape f_length f_behind f_kind f_first f_value f_hutsToldOf f_singersToldOf z_from x2 x3 post) : Met l yX4_read (Cond.code yX4_read cX4_read 5 none :: zb) rm_wr_X4_read_23 (va_Pc [.ref qr, .ref qt, .int x2, .int x3] (fun U => (wrW E qr qt lf_huts lf_singers lf_villages lf_dams lf_echoes lf_deep lf_slide la_heights la_ladders la_minutes la_echoFrom la_echoTo la_homes la_talls la_known vf_deeds va_kinds va_firsts va_seconds sf_facts sa_heard sa_huts sa_minutes cf_voices cf_step ca_parts ca_heights f_fault f_faultPlace a_numbers a_tape f_length f_behind f_kind f_first f_value f_hutsToldOf f_singersToldOf z_from U.heap ∧ zK E U) ∧ zZ G (wrA qr qt) U U.heap)) (zQv (S := (Int32) × (Int32) × (Int32) × (Int32) × (Int32) × (Int32) × (Int32) × (Nat → Int32) × (Nat → Int32) × (Nat → Int32) × (Nat → Int32) × (Nat → Int32) × (Nat → Int32) × (Nat → Int32) × (Nat → Int32) × (Int32) × (Nat → Int32) × (Nat → Int32) × (Nat → Int32) × (Int32) × (Nat → Int32) × (Nat → Int32) × (Nat → Int32) × (Int32) × (Int32) × (Nat → Int32) × (Nat → Int32) × (Int32) × (Int32) × (Nat → Int32) × (Nat → Int32) × (Int32) × (Int32) × (Int32) × (Int32) × (Int32) × (Int32) × (Int32)) (fun u => post u.1 u.2.1 u.2.2.1 u.2.2.2.1 u.2.2.2.2.1 u.2.2.2.2.2.1 u.2.2.2.2.2.2.1 u.2.2.2.2.2.2.2.1 u.2.2.2.2.2.2.2.2.1 u.2.2.2.2.2.2.2.2.2.1 u.2.2.2.2.2.2.2.2.2.2.1 u.2.2.2.2.2.2.2.2.2.2.2.1 u.2.2.2.2.2.2.2.2.2.2.2.2.1 u.2.2.2.2.2.2.2.2.2.2.2.2.2.1 u.2.2.2.2.2.2.2.2.2.2.2.2.2.2.1 u.2.2.2.2.2.2.2.2.2.2.2.2.2.2.2.1 u.2.2.2.2.2.2.2.2.2.2.2.2.2.2.2.2.1 u.2.2.2.2.2.2.2.2.2.2.2.2.2.2.2.2.2.1 u.2.2.2.2.2.2.2.2.2.2.2.2.2.2.2.2.2.2.1 u.2.2.2.2.2.2.2.2.2.2.2.2.2.2.2.2.2.2.2.1 u.2.2.2.2.2.2.2.2.2.2.2.2.2.2.2.2.2.2.2.2.1 u.2.2.2.2.2.2.2.2.2.2.2.2.2.2.2.2.2.2.2.2.2.1 u.2.2.2.2.2.2.2.2.2.2.2.2.2.2.2.2.2.2.2.2.2.2.1 u.2.2.2.2.2.2.2.2.2.2.2.2.2.2.2.2.2.2.2.2.2.2.2.1 u.2.2.2.2.2.2.2.2.2.2.2.2.2.2.2.2.2.2.2.2.2.2.2.2.1 u.2.2.2.2.2.2.2.2.2.2.2.2.2.2.2.2.2.2.2.2.2.2.2.2.2.1 u.2.2.2.2.2.2.2.2.2.2.2.2.2.2.2.2.2.2.2.2.2.2.2.2.2.2.1 u.2.2.2.2.2.2.2.2.2.2.2.2.2.2.2.2.2.2.2.2.2.2.2.2.2.2.2.1 u.2.2.2.2.2.2.2.2.2.2.2.2.2.2.2.2.2.2.2.2.2.2.2.2.2.2.2.2.1 u.2.2.2.2.2.2.2.2.2.2.2.2.2.2.2.2.2.2.2.2.2.2.2.2.2.2.2.2.2.1 u.2.2.2.2.2.2.2.2.2.2.2.2.2.2.2.2.2.2.2.2.2.2.2.2.2.2.2.2.2.2.1 u.2.2.2.2.2.2.2.2.2.2.2.2.2.2.2.2.2.2.2.2.2.2.2.2.2.2.2.2.2.2.2.1 u.2.2.2.2.2.2.2.2.2.2.2.2.2.2.2.2.2.2.2.2.2.2.2.2.2.2.2.2.2.2.2.2.1 u.2.2.2.2.2.2.2.2.2.2.2.2.2.2.2.2.2.2.2.2.2.2.2.2.2.2.2.2.2.2.2.2.2.1 u.2.2.2.2.2.2.2.2.2.2.2.2.2.2.2.2.2.2.2.2.2.2.2.2.2.2.2.2.2.2.2.2.2.2.1 u.2.2.2.2.2.2.2.2.2.2.2.2.2.2.2.2.2.2.2.2.2.2.2.2.2.2.2.2.2.2.2.2.2.2.2.1 u.2.2.2.2.2.2.2.2.2.2.2.2.2.2.2.2.2.2.2.2.2.2.2.2.2.2.2.2.2.2.2.2.2.2.2.2.1 u.2.2.2.2.2.2.2.2.2.2.2.2.2.2.2.2.2.2.2.2.2.2.2.2.2.2.2.2.2.2.2.2.2.2.2.2.2) (fun u H => wrW E qr qt u.1 u.2.1 u.2.2.1 u.2.2.2.1 u.2.2.2.2.1 u.2.2.2.2.2.1 u.2.2.2.2.2.2.1 u.2.2.2.2.2.2.2.1 u.2.2.2.2.2.2.2.2.1 u.2.2.2.2.2.2.2.2.2.1 u.2.2.2.2.2.2.2.2.2.2.1 u.2.2.2.2.2.2.2.2.2.2.2.1 u.2.2.2.2.2.2.2.2.2.2.2.2.1 u.2.2.2.2.2.2.2.2.2.2.2.2.2.1 u.2.2.2.2.2.2.2.2.2.2.2.2.2.2.1 u.2.2.2.2.2.2.2.2.2.2.2.2.2.2.2.1 u.2.2.2.2.2.2.2.2.2.2.2.2.2.2.2.2.1 u.2.2.2.2.2.2.2.2.2.2.2.2.2.2.2.2.2.1 u.2.2.2.2.2.2.2.2.2.2.2.2.2.2.2.2.2.2.1 u.2.2.2.2.2.2.2.2.2.2.2.2.2.2.2.2.2.2.2.1 u.2.2.2.2.2.2.2.2.2.2.2.2.2.2.2.2.2.2.2.2.1 u.2.2.2.2.2.2.2.2.2.2.2.2.2.2.2.2.2.2.2.2.2.1 u.2.2.2.2.2.2.2.2.2.2.2.2.2.2.2.2.2.2.2.2.2.2.1 u.2.2.2.2.2.2.2.2.2.2.2.2.2.2.2.2.2.2.2.2.2.2.2.1 u.2.2.2.2.2.2.2.2.2.2.2.2.2.2.2.2.2.2.2.2.2.2.2.2.1 u.2.2.2.2.2.2.2.2.2.2.2.2.2.2.2.2.2.2.2.2.2.2.2.2.2.1 u.2.2.2.2.2.2.2.2.2.2.2.2.2.2.2.2.2.2.2.2.2.2.2.2.2.2.1 u.2.2.2.2.2.2.2.2.2.2.2.2.2.2.2.2.2.2.2.2.2.2.2.2.2.2.2.1 u.2.2.2.2.2.2.2.2.2.2.2.2.2.2.2.2.2.2.2.2.2.2.2.2.2.2.2.2.1 u.2.2.2.2.2.2.2.2.2.2.2.2.2.2.2.2.2.2.2.2.2.2.2.2.2.2.2.2.2.1 u.2.2.2.2.2.2.2.2.2.2.2.2.2.2.2.2.2.2.2.2.2.2.2.2.2.2.2.2.2.2.1 u.2.2.2.2.2.2.2.2.2.2.2.2.2.2.2.2.2.2.2.2.2.2.2.2.2.2.2.2.2.2.2.1 u.2.2.2.2.2.2.2.2.2.2.2.2.2.2.2.2.2.2.2.2.2.2.2.2.2.2.2.2.2.2.2.2.1 u.2.2.2.2.2.2.2.2.2.2.2.2.2.2.2.2.2.2.2.2.2.2.2.2.2.2.2.2.2.2.2.2.2.1 u.2.2.2.2.2.2.2.2.2.2.2.2.2.2.2.2.2.2.2.2.2.2.2.2.2.2.2.2.2.2.2.2.2.2.1 u.2.2.2.2.2.2.2.2.2.2.2.2.2.2.2.2.2.2.2.2.2.2.2.2.2.2.2.2.2.2.2.2.2.2.2.1 u.2.2.2.2.2.2.2.2.2.2.2.2.2.2.2.2.2.2.2.2.2.2.2.2.2.2.2.2.2.2.2.2.2.2.2.2.1 u.2.2.2.2.2.2.2.2.2.2.2.2.2.2.2.2.2.2.2.2.2.2.2.2.2.2.2.2.2.2.2.2.2.2.2.2.2 z_from H) (wrA qr qt)) 0 0 (wrA qr qt) := by
  refine Met.ofW (cc := cX4_read) (maxL := 5) (ret := none) (by decide) rfl ?_
  intro p e s m args below meth c s₁ B hml hv
  obtain ⟨rfl, ⟨hM, hK⟩, hZ⟩ := hv
  have zc := zc_of B hml
  have hl := lv_entry ([.ref qr, .ref qt, .int x2, .int x3]) (n := 5) (Nat.le_of_ble_eq_true rfl)
  rw [lg_entry_eq]
  generalize (lg_sl ([.ref qr, .ref qt, .int x2, .int x3]) ++ List.replicate (5 - (lg_sl ([.ref qr, .ref qt, .int x2, .int x3])).length) Slot.unset).toArray = ls at hl ⊢
  have hl : lv_has ls 5 [(0, .ref qr), (1, .ref qt), (2, .int x2), (3, .int x3)] := hl
  exact t_wr_X4_read_23_0 zc hK hM hZ va_S.rf (lv_sub hl [0, 1, 2, 3] rfl) hw
end
section
-- wk0_X5_measure_3
abbrev rm_wk0_X5_measure_3 : Room := { frames := 2, cells := 0, slots := 0, locals := 62 }
def q_wk0_X5_measure_3_69 (P2 : Int32 → (Nat → Int32) → (Nat → Int32) → Prop) (P19 : Int32 → (Nat → Int32) → (Nat → Int32) → Prop) (a_gaps : Nat → Int32) (a_behind : Nat → Int32) (cf_voices : Int32) (cf_step : Int32) (ca_parts : Nat → Int32) (ca_heights : Nat → Int32) (x2 : Int32) (x3 : Int32) (post : (Nat → Int32) → (Nat → Int32) → Prop) : Prop :=
  ∀ v_1 : Int32, v_1 = x3 + (1 : Int32) → (P19 v_1 a_gaps a_behind)
def q_wk0_X5_measure_3_19 (P2 : Int32 → (Nat → Int32) → (Nat → Int32) → Prop) (a_gaps : Nat → Int32) (a_behind : Nat → Int32) (cf_voices : Int32) (cf_step : Int32) (ca_parts : Nat → Int32) (ca_heights : Nat → Int32) (x2 : Int32) (x3 : Int32) (post : (Nat → Int32) → (Nat → Int32) → Prop) : Prop :=
  ∀ P19 : Int32 → (Nat → Int32) → (Nat → Int32) → Prop, (∀ (x3 : Int32) (a_gaps : Nat → Int32) (a_behind : Nat → Int32), ((cf_voices ≤ x3 → (∀ v_1 : Int32, v_1 = x2 + (1 : Int32) → (P2 v_1 a_gaps a_behind))) ∧ (¬ cf_voices ≤ x3 → (q_wc_X0_stepBetween_0 ca_parts ca_heights x2 x3 (fun r_1 => vp_in ((x2 * (9 : Int32)) + x3) 81 ∧ (∀ a_gaps_1 : Nat → Int32, a_gaps_1 = upd a_gaps (Int32.toNatClampNeg ((x2 * (9 : Int32)) + x3)) r_1 → ((cf_step < r_1 → (q_wk0_X5_measure_3_69 P2 P19 a_gaps_1 a_behind cf_voices cf_step ca_parts ca_heights x2 x3 post)) ∧ (¬ cf_step < r_1 → (vp_in x2 9 ∧ (∀ v_2 : Int32, v_2 = ((a_behind (Int32.toNatClampNeg x2)) ||| ((1 : Int32) <<< (x3 &&& 31))) → (vp_in x2 9 ∧ (∀ a_behind_1 : Nat → Int32, a_behind_1 = upd a_behind (Int32.toNatClampNeg x2) v_2 → (q_wk0_X5_measure_3_69 P2 P19 a_gaps_1 a_behind_1 cf_voices cf_step ca_parts ca_heights x2 x3 post)))))))))))) → P19 x3 a_gaps a_behind) → P19 x3 a_gaps a_behind
def q_wk0_X5_measure_3_2 (a_gaps : Nat → Int32) (a_behind : Nat → Int32) (cf_voices : Int32) (cf_step : Int32) (ca_parts : Nat → Int32) (ca_heights : Nat → Int32) (x2 : Int32) (post : (Nat → Int32) → (Nat → Int32) → Prop) : Prop :=
  ∀ P2 : Int32 → (Nat → Int32) → (Nat → Int32) → Prop, (∀ (x2 : Int32) (a_gaps : Nat → Int32) (a_behind : Nat → Int32), ((cf_voices ≤ x2 → (post a_gaps a_behind)) ∧ (¬ cf_voices ≤ x2 → (vp_in x2 9 ∧ (∀ a_behind_1 : Nat → Int32, a_behind_1 = upd a_behind (Int32.toNatClampNeg x2) (0 : Int32) → (q_wk0_X5_measure_3_19 P2 a_gaps a_behind_1 cf_voices cf_step ca_parts ca_heights x2 (0 : Int32) post))))) → P2 x2 a_gaps a_behind) → P2 x2 a_gaps a_behind
def q_wk0_X5_measure_3_0 (a_gaps : Nat → Int32) (a_behind : Nat → Int32) (cf_voices : Int32) (cf_step : Int32) (ca_parts : Nat → Int32) (ca_heights : Nat → Int32) (post : (Nat → Int32) → (Nat → Int32) → Prop) : Prop :=
  q_wk0_X5_measure_3_2 a_gaps a_behind cf_voices cf_step ca_parts ca_heights (0 : Int32) post
set_option maxRecDepth 20000 in
theorem t_wk0_X5_measure_3_69 {p : Program} {l : Launch} {e : Env} {s : State} {m : MethodId} {args : Array Value} {below : List Frame} {meth : Method} {c : Code} {E : zE} {qk qc : Nat} {o_stands : Option Nat} {a_gaps : Nat → Int32} {a_behind : Nat → Int32} {cf_voices : Int32} {cf_step : Int32} {ca_parts : Nat → Int32} {ca_heights : Nat → Int32} {P2 : Int32 → (Nat → Int32) → (Nat → Int32) → Prop} {P19 : Int32 → (Nat → Int32) → (Nat → Int32) → Prop} {post : (Nat → Int32) → (Nat → Int32) → Prop} {x2 : Int32} {x3 : Int32} {ls : Array Slot} {H : Heap} {locs : List Loc}
    (zc : zC p s m args meth c cX5_measure 5 RX5 none)
    (hK : zK E s)
    (hM : wk0W E qk qc o_stands a_gaps a_behind cf_voices cf_step ca_parts ca_heights H)
    (hS : va_S (wk0A qk qc) s.heap H locs)
    (hP2 : ∀ (x2 : Int32) (a_gaps : Nat → Int32) (a_behind : Nat → Int32) (H : Heap) (locs : List Loc) (ls : Array Slot), P2 x2 a_gaps a_behind → lv_has ls 5 [(0, .ref qk), (1, .ref qc), (2, .int x2)] → wk0W E qk qc o_stands a_gaps a_behind cf_voices cf_step ca_parts ca_heights H → va_S (wk0A qk qc) s.heap H locs → W p l e rm_wk0_X5_measure_3 s m args below meth c H locs 0 0 (MQ below (zQv (S := (Nat → Int32) × (Nat → Int32)) (fun u => post u.1 u.2) (fun u H => wk0W E qk qc o_stands u.1 u.2 cf_voices cf_step ca_parts ca_heights H) (wk0A qk qc)) args s 0 0 (wk0A qk qc)) (F0 m 2 ls []))
    (hP19 : ∀ (x3 : Int32) (a_gaps : Nat → Int32) (a_behind : Nat → Int32) (H : Heap) (locs : List Loc) (ls : Array Slot), P19 x3 a_gaps a_behind → lv_has ls 5 [(0, .ref qk), (1, .ref qc), (2, .int x2), (3, .int x3)] → wk0W E qk qc o_stands a_gaps a_behind cf_voices cf_step ca_parts ca_heights H → va_S (wk0A qk qc) s.heap H locs → W p l e rm_wk0_X5_measure_3 s m args below meth c H locs 0 0 (MQ below (zQv (S := (Nat → Int32) × (Nat → Int32)) (fun u => post u.1 u.2) (fun u H => wk0W E qk qc o_stands u.1 u.2 cf_voices cf_step ca_parts ca_heights H) (wk0A qk qc)) args s 0 0 (wk0A qk qc)) (F0 m 19 ls []))
    (hl : lv_has ls 5 [(0, .ref qk), (1, .ref qc), (2, .int x2), (3, .int x3)])
    (hw : q_wk0_X5_measure_3_69 P2 P19 a_gaps a_behind cf_voices cf_step ca_parts ca_heights x2 x3 post) :
    W p l e rm_wk0_X5_measure_3 s m args below meth c H locs 0 0 (MQ below (zQv (S := (Nat → Int32) × (Nat → Int32)) (fun u => post u.1 u.2) (fun u H => wk0W E qk qc o_stands u.1 u.2 cf_voices cf_step ca_parts ca_heights H) (wk0A qk qc)) args s 0 0 (wk0A qk qc)) (F0 m 69 ls []) := by
  have hx := zc.1
  have hb := zc.2.1
  obtain ⟨v_1, ev_1⟩ : ∃ y : Int32, y = x3 + (1 : Int32) := ⟨_, rfl⟩
  have hw := hw v_1 ev_1
  refine lv_iinc (v := v_1) (k := 3) (lv' := [(3, .int v_1), (0, .ref qk), (1, .ref qc), (2, .int x2)]) hx hb dX5_measure_69 hl rfl (by rw [ev_1]; rfl) (by decide) rfl (fun ls hl => ?_)
  refine lv_goto (tgt := 19) hx hb dX5_measure_72 (by decide) ?_
  exact hP19 _ _ _ _ _ _ hw (lv_sub hl [1, 2, 3, 0] rfl) hM hS
set_option maxRecDepth 20000 in
theorem t_wk0_X5_measure_3_19 {p : Program} {l : Launch} {e : Env} {s : State} {m : MethodId} {args : Array Value} {below : List Frame} {meth : Method} {c : Code} {E : zE} {qk qc : Nat} {o_stands : Option Nat} {a_gaps : Nat → Int32} {a_behind : Nat → Int32} {cf_voices : Int32} {cf_step : Int32} {ca_parts : Nat → Int32} {ca_heights : Nat → Int32} {P2 : Int32 → (Nat → Int32) → (Nat → Int32) → Prop} {post : (Nat → Int32) → (Nat → Int32) → Prop} {x2 : Int32} {x3 : Int32} {ls : Array Slot} {H : Heap} {locs : List Loc}
    (zc : zC p s m args meth c cX5_measure 5 RX5 none)
    (hK : zK E s)
    (hM : wk0W E qk qc o_stands a_gaps a_behind cf_voices cf_step ca_parts ca_heights H)
    (hS : va_S (wk0A qk qc) s.heap H locs)
    (hP2 : ∀ (x2 : Int32) (a_gaps : Nat → Int32) (a_behind : Nat → Int32) (H : Heap) (locs : List Loc) (ls : Array Slot), P2 x2 a_gaps a_behind → lv_has ls 5 [(0, .ref qk), (1, .ref qc), (2, .int x2)] → wk0W E qk qc o_stands a_gaps a_behind cf_voices cf_step ca_parts ca_heights H → va_S (wk0A qk qc) s.heap H locs → W p l e rm_wk0_X5_measure_3 s m args below meth c H locs 0 0 (MQ below (zQv (S := (Nat → Int32) × (Nat → Int32)) (fun u => post u.1 u.2) (fun u H => wk0W E qk qc o_stands u.1 u.2 cf_voices cf_step ca_parts ca_heights H) (wk0A qk qc)) args s 0 0 (wk0A qk qc)) (F0 m 2 ls []))
    (hl : lv_has ls 5 [(0, .ref qk), (1, .ref qc), (2, .int x2), (3, .int x3)])
    (hw : q_wk0_X5_measure_3_19 P2 a_gaps a_behind cf_voices cf_step ca_parts ca_heights x2 x3 post) :
    W p l e rm_wk0_X5_measure_3 s m args below meth c H locs 0 0 (MQ below (zQv (S := (Nat → Int32) × (Nat → Int32)) (fun u => post u.1 u.2) (fun u H => wk0W E qk qc o_stands u.1 u.2 cf_voices cf_step ca_parts ca_heights H) (wk0A qk qc)) args s 0 0 (wk0A qk qc)) (F0 m 19 ls []) := by
  have hx := zc.1
  have hb := zc.2.1
  refine hw (fun x3 a_gaps a_behind => ∀ (H : Heap) (locs : List Loc) (ls : Array Slot), lv_has ls 5 [(0, .ref qk), (1, .ref qc), (2, .int x2), (3, .int x3)] → wk0W E qk qc o_stands a_gaps a_behind cf_voices cf_step ca_parts ca_heights H → va_S (wk0A qk qc) s.heap H locs → W p l e rm_wk0_X5_measure_3 s m args below meth c H locs 0 0 (MQ below (zQv (S := (Nat → Int32) × (Nat → Int32)) (fun u => post u.1 u.2) (fun u H => wk0W E qk qc o_stands u.1 u.2 cf_voices cf_step ca_parts ca_heights H) (wk0A qk qc)) args s 0 0 (wk0A qk qc)) (F0 m 19 ls [])) ?_ _ _ _ hl hM hS
  intro x3 a_gaps a_behind hw H locs ls hl hM hS
  refine lv_iload_n hx hb dX5_measure_19 rfl (lv_at hl 3 rfl) ?_
  refine lv_aload_n hx hb dX5_measure_20 rfl (lv_at hl 1 rfl) ?_
  refine wk0g_5_26_3 zc hK hM dX5_measure_21 ?_
  refine lv_icmp_ge (tgt := 75) hx hb dX5_measure_24 (by decide) (fun hc => ?_) (fun hc => ?_)
  · have hw := hw.1 hc
    obtain ⟨v_1, ev_1⟩ : ∃ y : Int32, y = x2 + (1 : Int32) := ⟨_, rfl⟩
    have hw := hw v_1 ev_1
    refine lv_iinc (v := v_1) (k := 2) (lv' := [(2, .int v_1), (0, .ref qk), (1, .ref qc), (3, .int x3)]) hx hb dX5_measure_75 hl rfl (by rw [ev_1]; rfl) (by decide) rfl (fun ls hl => ?_)
    refine lv_goto (tgt := 2) hx hb dX5_measure_78 (by decide) ?_
    exact hP2 _ _ _ _ _ _ hw (lv_sub hl [1, 2, 0] rfl) hM hS
  · have hw := hw.2 hc
    refine lv_aload_n hx hb dX5_measure_27 rfl (lv_at hl 1 rfl) ?_
    refine lv_iload_n hx hb dX5_measure_28 rfl (lv_at hl 2 rfl) ?_
    refine lv_iload_n hx hb dX5_measure_29 rfl (lv_at hl 3 rfl) ?_
    refine zV_i [.int x2, .int x3] [] zc ky_X0_stepBetween kz_X0_stepBetween km_5_40 (c_wc_X0_stepBetween l hw) (wcPreV0 hK (pj_wk0_wc_3 hM)) rfl rfl hl.1 (Nat.le_of_ble_eq_true rfl) ⟨rfl, rfl⟩ ⟨Nat.le_of_ble_eq_true rfl, Nat.le_of_ble_eq_true rfl⟩ ⟨(Nat.zero_le _), (Nat.zero_le _)⟩ dX5_measure_30 (fun r_1 hw => ?_)
    refine lv_istore (lv' := [(4, .int r_1), (0, .ref qk), (1, .ref qc), (2, .int x2), (3, .int x3)]) hx hb dX5_measure_33 hl (by decide) rfl (fun ls hl => ?_)
    refine lv_aload_n hx hb dX5_measure_35 rfl (lv_at hl 1 rfl) ?_
    refine wk0g_5_9_0 zc hK hM dX5_measure_36 ?_
    refine lv_iload_n hx hb dX5_measure_39 rfl (lv_at hl 3 rfl) ?_
    refine lv_bipush (v := (9 : Int32)) hx hb dX5_measure_40 (by decide) ?_
    refine lv_imul hx hb dX5_measure_42 ?_
    refine lv_iload_n hx hb dX5_measure_43 rfl (lv_at hl 4 rfl) ?_
    refine lv_iadd hx hb dX5_measure_44 ?_
    refine lv_iload hx hb dX5_measure_45 (lv_at hl 0 rfl) ?_
    refine wk0st_1 zc hK hM hS hw.1 dX5_measure_47 (fun a_gaps_1 H locs ea_gaps_1 hM hS => ?_)
    have hw := hw.2 a_gaps_1 ea_gaps_1
    refine lv_iload hx hb dX5_measure_48 (lv_at hl 0 rfl) ?_
    refine lv_aload_n hx hb dX5_measure_50 rfl (lv_at hl 2 rfl) ?_
    refine wk0g_5_44_3 zc hK hM dX5_measure_51 ?_
    refine lv_icmp_gt (tgt := 69) hx hb dX5_measure_54 (by decide) (fun hc => ?_) (fun hc => ?_)
    · have hw := hw.1 hc
      exact t_wk0_X5_measure_3_69 zc hK hM hS hP2 (fun _ _ _ H locs ls h hl hM hS => h H locs ls hl hM hS) (lv_sub hl [1, 2, 3, 4] rfl) hw
    · have hw := hw.2 hc
      refine lv_aload_n hx hb dX5_measure_57 rfl (lv_at hl 1 rfl) ?_
      refine wk0g_5_15_0 zc hK hM dX5_measure_58 ?_
      refine lv_iload_n hx hb dX5_measure_61 rfl (lv_at hl 3 rfl) ?_
      refine lv_dup2_11 hx hb dX5_measure_62 rfl rfl ?_
      refine wk0ld_2 zc hK hM hw.1 dX5_measure_63 ?_
      have hw := hw.2
      refine lv_iconst (v := (1 : Int32)) hx hb dX5_measure_64 (by decide) ?_
      refine lv_iload_n hx hb dX5_measure_65 rfl (lv_at hl 4 rfl) ?_
      refine lv_ishl hx hb dX5_measure_66 ?_
      refine lv_ior hx hb dX5_measure_67 ?_
      refine lv_topi (fun v_2 ev_2 => ?_)
      have hw := hw v_2 ev_2
      refine wk0st_2 zc hK hM hS hw.1 dX5_measure_68 (fun a_behind_1 H locs ea_behind_1 hM hS => ?_)
      have hw := hw.2 a_behind_1 ea_behind_1
      exact t_wk0_X5_measure_3_69 zc hK hM hS hP2 (fun _ _ _ H locs ls h hl hM hS => h H locs ls hl hM hS) (lv_sub hl [1, 2, 3, 4] rfl) hw
set_option maxRecDepth 20000 in
theorem t_wk0_X5_measure_3_2 {p : Program} {l : Launch} {e : Env} {s : State} {m : MethodId} {args : Array Value} {below : List Frame} {meth : Method} {c : Code} {E : zE} {qk qc : Nat} {o_stands : Option Nat} {a_gaps : Nat → Int32} {a_behind : Nat → Int32} {cf_voices : Int32} {cf_step : Int32} {ca_parts : Nat → Int32} {ca_heights : Nat → Int32} {post : (Nat → Int32) → (Nat → Int32) → Prop} {x2 : Int32} {ls : Array Slot} {H : Heap} {locs : List Loc}
    (zc : zC p s m args meth c cX5_measure 5 RX5 none)
    (hK : zK E s)
    (hM : wk0W E qk qc o_stands a_gaps a_behind cf_voices cf_step ca_parts ca_heights H)
    (hS : va_S (wk0A qk qc) s.heap H locs)
    (hl : lv_has ls 5 [(0, .ref qk), (1, .ref qc), (2, .int x2)])
    (hw : q_wk0_X5_measure_3_2 a_gaps a_behind cf_voices cf_step ca_parts ca_heights x2 post) :
    W p l e rm_wk0_X5_measure_3 s m args below meth c H locs 0 0 (MQ below (zQv (S := (Nat → Int32) × (Nat → Int32)) (fun u => post u.1 u.2) (fun u H => wk0W E qk qc o_stands u.1 u.2 cf_voices cf_step ca_parts ca_heights H) (wk0A qk qc)) args s 0 0 (wk0A qk qc)) (F0 m 2 ls []) := by
  have hx := zc.1
  have hb := zc.2.1
  refine hw (fun x2 a_gaps a_behind => ∀ (H : Heap) (locs : List Loc) (ls : Array Slot), lv_has ls 5 [(0, .ref qk), (1, .ref qc), (2, .int x2)] → wk0W E qk qc o_stands a_gaps a_behind cf_voices cf_step ca_parts ca_heights H → va_S (wk0A qk qc) s.heap H locs → W p l e rm_wk0_X5_measure_3 s m args below meth c H locs 0 0 (MQ below (zQv (S := (Nat → Int32) × (Nat → Int32)) (fun u => post u.1 u.2) (fun u H => wk0W E qk qc o_stands u.1 u.2 cf_voices cf_step ca_parts ca_heights H) (wk0A qk qc)) args s 0 0 (wk0A qk qc)) (F0 m 2 ls [])) ?_ _ _ _ hl hM hS
  intro x2 a_gaps a_behind hw H locs ls hl hM hS
  refine lv_iload_n hx hb dX5_measure_2 rfl (lv_at hl 2 rfl) ?_
  refine lv_aload_n hx hb dX5_measure_3 rfl (lv_at hl 1 rfl) ?_
  refine wk0g_5_26_3 zc hK hM dX5_measure_4 ?_
  refine lv_icmp_ge (tgt := 81) hx hb dX5_measure_7 (by decide) (fun hc => ?_) (fun hc => ?_)
  · have hw := hw.1 hc
    exact zret_vw ⟨a_gaps, a_behind⟩ zc hS hw hM dX5_measure_81
  · have hw := hw.2 hc
    refine lv_aload_n hx hb dX5_measure_10 rfl (lv_at hl 0 rfl) ?_
    refine wk0g_5_15_0 zc hK hM dX5_measure_11 ?_
    refine lv_iload_n hx hb dX5_measure_14 rfl (lv_at hl 2 rfl) ?_
    refine lv_iconst (v := (0 : Int32)) hx hb dX5_measure_15 (by decide) ?_
    refine wk0st_2 zc hK hM hS hw.1 dX5_measure_16 (fun a_behind_1 H locs ea_behind_1 hM hS => ?_)
    have hw := hw.2 a_behind_1 ea_behind_1
    refine lv_iconst (v := (0 : Int32)) hx hb dX5_measure_17 (by decide) ?_
    refine lv_istore_n (lv' := [(3, .int (0 : Int32)), (0, .ref qk), (1, .ref qc), (2, .int x2)]) hx hb dX5_measure_18 rfl hl (by decide) rfl (fun ls hl => ?_)
    exact t_wk0_X5_measure_3_19 zc hK hM hS (fun _ _ _ H locs ls h hl hM hS => h H locs ls hl hM hS) (lv_sub hl [1, 2, 3, 0] rfl) hw
set_option maxRecDepth 20000 in
theorem t_wk0_X5_measure_3_0 {p : Program} {l : Launch} {e : Env} {s : State} {m : MethodId} {args : Array Value} {below : List Frame} {meth : Method} {c : Code} {E : zE} {qk qc : Nat} {o_stands : Option Nat} {a_gaps : Nat → Int32} {a_behind : Nat → Int32} {cf_voices : Int32} {cf_step : Int32} {ca_parts : Nat → Int32} {ca_heights : Nat → Int32} {post : (Nat → Int32) → (Nat → Int32) → Prop} {ls : Array Slot} {H : Heap} {locs : List Loc}
    (zc : zC p s m args meth c cX5_measure 5 RX5 none)
    (hK : zK E s)
    (hM : wk0W E qk qc o_stands a_gaps a_behind cf_voices cf_step ca_parts ca_heights H)
    (hS : va_S (wk0A qk qc) s.heap H locs)
    (hl : lv_has ls 5 [(0, .ref qk), (1, .ref qc)])
    (hw : q_wk0_X5_measure_3_0 a_gaps a_behind cf_voices cf_step ca_parts ca_heights post) :
    W p l e rm_wk0_X5_measure_3 s m args below meth c H locs 0 0 (MQ below (zQv (S := (Nat → Int32) × (Nat → Int32)) (fun u => post u.1 u.2) (fun u H => wk0W E qk qc o_stands u.1 u.2 cf_voices cf_step ca_parts ca_heights H) (wk0A qk qc)) args s 0 0 (wk0A qk qc)) (F0 m 0 ls []) := by
  have hx := zc.1
  have hb := zc.2.1
  refine lv_iconst (v := (0 : Int32)) hx hb dX5_measure_0 (by decide) ?_
  refine lv_istore_n (lv' := [(2, .int (0 : Int32)), (0, .ref qk), (1, .ref qc)]) hx hb dX5_measure_1 rfl hl (by decide) rfl (fun ls hl => ?_)
  exact t_wk0_X5_measure_3_2 zc hK hM hS  (lv_sub hl [1, 2, 0] rfl) hw
set_option maxRecDepth 20000 in
theorem c_wk0_X5_measure_3 (l : Launch) {E : zE} {qk qc : Nat} {o_stands : Option Nat} {a_gaps : Nat → Int32} {a_behind : Nat → Int32} {cf_voices : Int32} {cf_step : Int32} {ca_parts : Nat → Int32} {ca_heights : Nat → Int32} {post : (Nat → Int32) → (Nat → Int32) → Prop} (hw : q_wk0_X5_measure_3_0 a_gaps a_behind cf_voices cf_step ca_parts ca_heights post) : Met l yX5_measure (Cond.code yX5_measure cX5_measure 5 none :: zb) rm_wk0_X5_measure_3 (va_Pc [.ref qk, .ref qc] (fun U => wk0W E qk qc o_stands a_gaps a_behind cf_voices cf_step ca_parts ca_heights U.heap ∧ zK E U)) (zQv (S := (Nat → Int32) × (Nat → Int32)) (fun u => post u.1 u.2) (fun u H => wk0W E qk qc o_stands u.1 u.2 cf_voices cf_step ca_parts ca_heights H) (wk0A qk qc)) 0 0 (wk0A qk qc) := by
  refine Met.ofW (cc := cX5_measure) (maxL := 5) (ret := none) (by decide) rfl ?_
  intro p e s m args below meth c s₁ B hml hv
  obtain ⟨rfl, hM, hK⟩ := hv
  have zc := zc_of B hml
  have hl := lv_entry ([.ref qk, .ref qc]) (n := 5) (Nat.le_of_ble_eq_true rfl)
  rw [lg_entry_eq]
  generalize (lg_sl ([.ref qk, .ref qc]) ++ List.replicate (5 - (lg_sl ([.ref qk, .ref qc])).length) Slot.unset).toArray = ls at hl ⊢
  have hl : lv_has ls 5 [(0, .ref qk), (1, .ref qc)] := hl
  exact t_wk0_X5_measure_3_0 zc hK hM va_S.rf (lv_sub hl [0, 1] rfl) hw
end
section
-- wk_X5_measure_3
abbrev rm_wk_X5_measure_3 (kc ks : Nat) : Room := { frames := 2, cells := kc, slots := ks, locals := 62 }
def q_wk_X5_measure_3_69 (P2 : Int32 → (Nat → Int32) → (Nat → Int32) → Prop) (P19 : Int32 → (Nat → Int32) → (Nat → Int32) → Prop) (a_gaps : Nat → Int32) (a_behind : Nat → Int32) (cf_voices : Int32) (cf_step : Int32) (ca_parts : Nat → Int32) (ca_heights : Nat → Int32) (x2 : Int32) (x3 : Int32) (post : (Nat → Int32) → (Nat → Int32) → Prop) : Prop :=
  ∀ v_1 : Int32, v_1 = x3 + (1 : Int32) → (P19 v_1 a_gaps a_behind)
def q_wk_X5_measure_3_19 (P2 : Int32 → (Nat → Int32) → (Nat → Int32) → Prop) (a_gaps : Nat → Int32) (a_behind : Nat → Int32) (cf_voices : Int32) (cf_step : Int32) (ca_parts : Nat → Int32) (ca_heights : Nat → Int32) (x2 : Int32) (x3 : Int32) (post : (Nat → Int32) → (Nat → Int32) → Prop) : Prop :=
  ∀ P19 : Int32 → (Nat → Int32) → (Nat → Int32) → Prop, (∀ (x3 : Int32) (a_gaps : Nat → Int32) (a_behind : Nat → Int32), ((cf_voices ≤ x3 → (∀ v_1 : Int32, v_1 = x2 + (1 : Int32) → (P2 v_1 a_gaps a_behind))) ∧ (¬ cf_voices ≤ x3 → (q_wc_X0_stepBetween_0 ca_parts ca_heights x2 x3 (fun r_1 => vp_in ((x2 * (9 : Int32)) + x3) 81 ∧ (∀ a_gaps_1 : Nat → Int32, a_gaps_1 = upd a_gaps (Int32.toNatClampNeg ((x2 * (9 : Int32)) + x3)) r_1 → ((cf_step < r_1 → (q_wk_X5_measure_3_69 P2 P19 a_gaps_1 a_behind cf_voices cf_step ca_parts ca_heights x2 x3 post)) ∧ (¬ cf_step < r_1 → (vp_in x2 9 ∧ (∀ v_2 : Int32, v_2 = ((a_behind (Int32.toNatClampNeg x2)) ||| ((1 : Int32) <<< (x3 &&& 31))) → (vp_in x2 9 ∧ (∀ a_behind_1 : Nat → Int32, a_behind_1 = upd a_behind (Int32.toNatClampNeg x2) v_2 → (q_wk_X5_measure_3_69 P2 P19 a_gaps_1 a_behind_1 cf_voices cf_step ca_parts ca_heights x2 x3 post)))))))))))) → P19 x3 a_gaps a_behind) → P19 x3 a_gaps a_behind
def q_wk_X5_measure_3_2 (a_gaps : Nat → Int32) (a_behind : Nat → Int32) (cf_voices : Int32) (cf_step : Int32) (ca_parts : Nat → Int32) (ca_heights : Nat → Int32) (x2 : Int32) (post : (Nat → Int32) → (Nat → Int32) → Prop) : Prop :=
  ∀ P2 : Int32 → (Nat → Int32) → (Nat → Int32) → Prop, (∀ (x2 : Int32) (a_gaps : Nat → Int32) (a_behind : Nat → Int32), ((cf_voices ≤ x2 → (post a_gaps a_behind)) ∧ (¬ cf_voices ≤ x2 → (vp_in x2 9 ∧ (∀ a_behind_1 : Nat → Int32, a_behind_1 = upd a_behind (Int32.toNatClampNeg x2) (0 : Int32) → (q_wk_X5_measure_3_19 P2 a_gaps a_behind_1 cf_voices cf_step ca_parts ca_heights x2 (0 : Int32) post))))) → P2 x2 a_gaps a_behind) → P2 x2 a_gaps a_behind
def q_wk_X5_measure_3_0 (a_gaps : Nat → Int32) (a_behind : Nat → Int32) (cf_voices : Int32) (cf_step : Int32) (ca_parts : Nat → Int32) (ca_heights : Nat → Int32) (post : (Nat → Int32) → (Nat → Int32) → Prop) : Prop :=
  q_wk_X5_measure_3_2 a_gaps a_behind cf_voices cf_step ca_parts ca_heights (0 : Int32) post
set_option maxRecDepth 20000 in
theorem t_wk_X5_measure_3_69 {p : Program} {l : Launch} {e : Env} {s : State} {m : MethodId} {args : Array Value} {below : List Frame} {meth : Method} {c : Code} {kc ks : Nat} {E : zE} {qk qc qz : Nat} {a_gaps : Nat → Int32} {a_behind : Nat → Int32} {cf_voices : Int32} {cf_step : Int32} {ca_parts : Nat → Int32} {ca_heights : Nat → Int32} {z_tab : Nat → Int32} {P2 : Int32 → (Nat → Int32) → (Nat → Int32) → Prop} {P19 : Int32 → (Nat → Int32) → (Nat → Int32) → Prop} {post : (Nat → Int32) → (Nat → Int32) → Prop} {x2 : Int32} {x3 : Int32} {ls : Array Slot} {H : Heap} {locs : List Loc}
    (zc : zC p s m args meth c cX5_measure 5 RX5 none)
    (hK : zK E s)
    (hM : wkW E qk qc qz a_gaps a_behind cf_voices cf_step ca_parts ca_heights z_tab H)
    (hS : va_S (wkA qk qc qz) s.heap H locs)
    (hP2 : ∀ (x2 : Int32) (a_gaps : Nat → Int32) (a_behind : Nat → Int32) (H : Heap) (locs : List Loc) (ls : Array Slot), P2 x2 a_gaps a_behind → lv_has ls 5 [(0, .ref qk), (1, .ref qc), (2, .int x2)] → wkW E qk qc qz a_gaps a_behind cf_voices cf_step ca_parts ca_heights z_tab H → va_S (wkA qk qc qz) s.heap H locs → W p l e (rm_wk_X5_measure_3 kc ks) s m args below meth c H locs kc ks (MQ below (zQv (S := (Nat → Int32) × (Nat → Int32)) (fun u => post u.1 u.2) (fun u H => wkW E qk qc qz u.1 u.2 cf_voices cf_step ca_parts ca_heights z_tab H) (wkA qk qc qz)) args s kc ks (wkA qk qc qz)) (F0 m 2 ls []))
    (hP19 : ∀ (x3 : Int32) (a_gaps : Nat → Int32) (a_behind : Nat → Int32) (H : Heap) (locs : List Loc) (ls : Array Slot), P19 x3 a_gaps a_behind → lv_has ls 5 [(0, .ref qk), (1, .ref qc), (2, .int x2), (3, .int x3)] → wkW E qk qc qz a_gaps a_behind cf_voices cf_step ca_parts ca_heights z_tab H → va_S (wkA qk qc qz) s.heap H locs → W p l e (rm_wk_X5_measure_3 kc ks) s m args below meth c H locs kc ks (MQ below (zQv (S := (Nat → Int32) × (Nat → Int32)) (fun u => post u.1 u.2) (fun u H => wkW E qk qc qz u.1 u.2 cf_voices cf_step ca_parts ca_heights z_tab H) (wkA qk qc qz)) args s kc ks (wkA qk qc qz)) (F0 m 19 ls []))
    (hl : lv_has ls 5 [(0, .ref qk), (1, .ref qc), (2, .int x2), (3, .int x3)])
    (hw : q_wk_X5_measure_3_69 P2 P19 a_gaps a_behind cf_voices cf_step ca_parts ca_heights x2 x3 post) :
    W p l e (rm_wk_X5_measure_3 kc ks) s m args below meth c H locs kc ks (MQ below (zQv (S := (Nat → Int32) × (Nat → Int32)) (fun u => post u.1 u.2) (fun u H => wkW E qk qc qz u.1 u.2 cf_voices cf_step ca_parts ca_heights z_tab H) (wkA qk qc qz)) args s kc ks (wkA qk qc qz)) (F0 m 69 ls []) := by
  have hx := zc.1
  have hb := zc.2.1
  obtain ⟨v_1, ev_1⟩ : ∃ y : Int32, y = x3 + (1 : Int32) := ⟨_, rfl⟩
  have hw := hw v_1 ev_1
  refine lv_iinc (v := v_1) (k := 3) (lv' := [(3, .int v_1), (0, .ref qk), (1, .ref qc), (2, .int x2)]) hx hb dX5_measure_69 hl rfl (by rw [ev_1]; rfl) (by decide) rfl (fun ls hl => ?_)
  refine lv_goto (tgt := 19) hx hb dX5_measure_72 (by decide) ?_
  exact hP19 _ _ _ _ _ _ hw (lv_sub hl [1, 2, 3, 0] rfl) hM hS
set_option maxRecDepth 20000 in
theorem t_wk_X5_measure_3_19 {p : Program} {l : Launch} {e : Env} {s : State} {m : MethodId} {args : Array Value} {below : List Frame} {meth : Method} {c : Code} {kc ks : Nat} {E : zE} {qk qc qz : Nat} {a_gaps : Nat → Int32} {a_behind : Nat → Int32} {cf_voices : Int32} {cf_step : Int32} {ca_parts : Nat → Int32} {ca_heights : Nat → Int32} {z_tab : Nat → Int32} {P2 : Int32 → (Nat → Int32) → (Nat → Int32) → Prop} {post : (Nat → Int32) → (Nat → Int32) → Prop} {x2 : Int32} {x3 : Int32} {ls : Array Slot} {H : Heap} {locs : List Loc}
    (zc : zC p s m args meth c cX5_measure 5 RX5 none)
    (hK : zK E s)
    (hM : wkW E qk qc qz a_gaps a_behind cf_voices cf_step ca_parts ca_heights z_tab H)
    (hS : va_S (wkA qk qc qz) s.heap H locs)
    (hP2 : ∀ (x2 : Int32) (a_gaps : Nat → Int32) (a_behind : Nat → Int32) (H : Heap) (locs : List Loc) (ls : Array Slot), P2 x2 a_gaps a_behind → lv_has ls 5 [(0, .ref qk), (1, .ref qc), (2, .int x2)] → wkW E qk qc qz a_gaps a_behind cf_voices cf_step ca_parts ca_heights z_tab H → va_S (wkA qk qc qz) s.heap H locs → W p l e (rm_wk_X5_measure_3 kc ks) s m args below meth c H locs kc ks (MQ below (zQv (S := (Nat → Int32) × (Nat → Int32)) (fun u => post u.1 u.2) (fun u H => wkW E qk qc qz u.1 u.2 cf_voices cf_step ca_parts ca_heights z_tab H) (wkA qk qc qz)) args s kc ks (wkA qk qc qz)) (F0 m 2 ls []))
    (hl : lv_has ls 5 [(0, .ref qk), (1, .ref qc), (2, .int x2), (3, .int x3)])
    (hw : q_wk_X5_measure_3_19 P2 a_gaps a_behind cf_voices cf_step ca_parts ca_heights x2 x3 post) :
    W p l e (rm_wk_X5_measure_3 kc ks) s m args below meth c H locs kc ks (MQ below (zQv (S := (Nat → Int32) × (Nat → Int32)) (fun u => post u.1 u.2) (fun u H => wkW E qk qc qz u.1 u.2 cf_voices cf_step ca_parts ca_heights z_tab H) (wkA qk qc qz)) args s kc ks (wkA qk qc qz)) (F0 m 19 ls []) := by
  have hx := zc.1
  have hb := zc.2.1
  refine hw (fun x3 a_gaps a_behind => ∀ (H : Heap) (locs : List Loc) (ls : Array Slot), lv_has ls 5 [(0, .ref qk), (1, .ref qc), (2, .int x2), (3, .int x3)] → wkW E qk qc qz a_gaps a_behind cf_voices cf_step ca_parts ca_heights z_tab H → va_S (wkA qk qc qz) s.heap H locs → W p l e (rm_wk_X5_measure_3 kc ks) s m args below meth c H locs kc ks (MQ below (zQv (S := (Nat → Int32) × (Nat → Int32)) (fun u => post u.1 u.2) (fun u H => wkW E qk qc qz u.1 u.2 cf_voices cf_step ca_parts ca_heights z_tab H) (wkA qk qc qz)) args s kc ks (wkA qk qc qz)) (F0 m 19 ls [])) ?_ _ _ _ hl hM hS
  intro x3 a_gaps a_behind hw H locs ls hl hM hS
  refine lv_iload_n hx hb dX5_measure_19 rfl (lv_at hl 3 rfl) ?_
  refine lv_aload_n hx hb dX5_measure_20 rfl (lv_at hl 1 rfl) ?_
  refine wkg_5_26_3 zc hK hM dX5_measure_21 ?_
  refine lv_icmp_ge (tgt := 75) hx hb dX5_measure_24 (by decide) (fun hc => ?_) (fun hc => ?_)
  · have hw := hw.1 hc
    obtain ⟨v_1, ev_1⟩ : ∃ y : Int32, y = x2 + (1 : Int32) := ⟨_, rfl⟩
    have hw := hw v_1 ev_1
    refine lv_iinc (v := v_1) (k := 2) (lv' := [(2, .int v_1), (0, .ref qk), (1, .ref qc), (3, .int x3)]) hx hb dX5_measure_75 hl rfl (by rw [ev_1]; rfl) (by decide) rfl (fun ls hl => ?_)
    refine lv_goto (tgt := 2) hx hb dX5_measure_78 (by decide) ?_
    exact hP2 _ _ _ _ _ _ hw (lv_sub hl [1, 2, 0] rfl) hM hS
  · have hw := hw.2 hc
    refine lv_aload_n hx hb dX5_measure_27 rfl (lv_at hl 1 rfl) ?_
    refine lv_iload_n hx hb dX5_measure_28 rfl (lv_at hl 2 rfl) ?_
    refine lv_iload_n hx hb dX5_measure_29 rfl (lv_at hl 3 rfl) ?_
    refine zV_i [.int x2, .int x3] [] zc ky_X0_stepBetween kz_X0_stepBetween km_5_40 (c_wc_X0_stepBetween l hw) (wcPreV0 hK (pj_wk_wc_3 hM)) rfl rfl hl.1 (Nat.le_of_ble_eq_true rfl) ⟨rfl, rfl⟩ ⟨Nat.le_of_ble_eq_true rfl, Nat.le_of_ble_eq_true rfl⟩ ⟨(Nat.le_refl _), (Nat.le_refl _)⟩ dX5_measure_30 (fun r_1 hw => ?_)
    refine lv_istore (lv' := [(4, .int r_1), (0, .ref qk), (1, .ref qc), (2, .int x2), (3, .int x3)]) hx hb dX5_measure_33 hl (by decide) rfl (fun ls hl => ?_)
    refine lv_aload_n hx hb dX5_measure_35 rfl (lv_at hl 1 rfl) ?_
    refine wkg_5_9_0 zc hK hM dX5_measure_36 ?_
    refine lv_iload_n hx hb dX5_measure_39 rfl (lv_at hl 3 rfl) ?_
    refine lv_bipush (v := (9 : Int32)) hx hb dX5_measure_40 (by decide) ?_
    refine lv_imul hx hb dX5_measure_42 ?_
    refine lv_iload_n hx hb dX5_measure_43 rfl (lv_at hl 4 rfl) ?_
    refine lv_iadd hx hb dX5_measure_44 ?_
    refine lv_iload hx hb dX5_measure_45 (lv_at hl 0 rfl) ?_
    refine wkst_1 zc hK hM hS hw.1 dX5_measure_47 (fun a_gaps_1 H locs ea_gaps_1 hM hS => ?_)
    have hw := hw.2 a_gaps_1 ea_gaps_1
    refine lv_iload hx hb dX5_measure_48 (lv_at hl 0 rfl) ?_
    refine lv_aload_n hx hb dX5_measure_50 rfl (lv_at hl 2 rfl) ?_
    refine wkg_5_44_3 zc hK hM dX5_measure_51 ?_
    refine lv_icmp_gt (tgt := 69) hx hb dX5_measure_54 (by decide) (fun hc => ?_) (fun hc => ?_)
    · have hw := hw.1 hc
      exact t_wk_X5_measure_3_69 zc hK hM hS hP2 (fun _ _ _ H locs ls h hl hM hS => h H locs ls hl hM hS) (lv_sub hl [1, 2, 3, 4] rfl) hw
    · have hw := hw.2 hc
      refine lv_aload_n hx hb dX5_measure_57 rfl (lv_at hl 1 rfl) ?_
      refine wkg_5_15_0 zc hK hM dX5_measure_58 ?_
      refine lv_iload_n hx hb dX5_measure_61 rfl (lv_at hl 3 rfl) ?_
      refine lv_dup2_11 hx hb dX5_measure_62 rfl rfl ?_
      refine wkld_2 zc hK hM hw.1 dX5_measure_63 ?_
      have hw := hw.2
      refine lv_iconst (v := (1 : Int32)) hx hb dX5_measure_64 (by decide) ?_
      refine lv_iload_n hx hb dX5_measure_65 rfl (lv_at hl 4 rfl) ?_
      refine lv_ishl hx hb dX5_measure_66 ?_
      refine lv_ior hx hb dX5_measure_67 ?_
      refine lv_topi (fun v_2 ev_2 => ?_)
      have hw := hw v_2 ev_2
      refine wkst_2 zc hK hM hS hw.1 dX5_measure_68 (fun a_behind_1 H locs ea_behind_1 hM hS => ?_)
      have hw := hw.2 a_behind_1 ea_behind_1
      exact t_wk_X5_measure_3_69 zc hK hM hS hP2 (fun _ _ _ H locs ls h hl hM hS => h H locs ls hl hM hS) (lv_sub hl [1, 2, 3, 4] rfl) hw
set_option maxRecDepth 20000 in
theorem t_wk_X5_measure_3_2 {p : Program} {l : Launch} {e : Env} {s : State} {m : MethodId} {args : Array Value} {below : List Frame} {meth : Method} {c : Code} {kc ks : Nat} {E : zE} {qk qc qz : Nat} {a_gaps : Nat → Int32} {a_behind : Nat → Int32} {cf_voices : Int32} {cf_step : Int32} {ca_parts : Nat → Int32} {ca_heights : Nat → Int32} {z_tab : Nat → Int32} {post : (Nat → Int32) → (Nat → Int32) → Prop} {x2 : Int32} {ls : Array Slot} {H : Heap} {locs : List Loc}
    (zc : zC p s m args meth c cX5_measure 5 RX5 none)
    (hK : zK E s)
    (hM : wkW E qk qc qz a_gaps a_behind cf_voices cf_step ca_parts ca_heights z_tab H)
    (hS : va_S (wkA qk qc qz) s.heap H locs)
    (hl : lv_has ls 5 [(0, .ref qk), (1, .ref qc), (2, .int x2)])
    (hw : q_wk_X5_measure_3_2 a_gaps a_behind cf_voices cf_step ca_parts ca_heights x2 post) :
    W p l e (rm_wk_X5_measure_3 kc ks) s m args below meth c H locs kc ks (MQ below (zQv (S := (Nat → Int32) × (Nat → Int32)) (fun u => post u.1 u.2) (fun u H => wkW E qk qc qz u.1 u.2 cf_voices cf_step ca_parts ca_heights z_tab H) (wkA qk qc qz)) args s kc ks (wkA qk qc qz)) (F0 m 2 ls []) := by
  have hx := zc.1
  have hb := zc.2.1
  refine hw (fun x2 a_gaps a_behind => ∀ (H : Heap) (locs : List Loc) (ls : Array Slot), lv_has ls 5 [(0, .ref qk), (1, .ref qc), (2, .int x2)] → wkW E qk qc qz a_gaps a_behind cf_voices cf_step ca_parts ca_heights z_tab H → va_S (wkA qk qc qz) s.heap H locs → W p l e (rm_wk_X5_measure_3 kc ks) s m args below meth c H locs kc ks (MQ below (zQv (S := (Nat → Int32) × (Nat → Int32)) (fun u => post u.1 u.2) (fun u H => wkW E qk qc qz u.1 u.2 cf_voices cf_step ca_parts ca_heights z_tab H) (wkA qk qc qz)) args s kc ks (wkA qk qc qz)) (F0 m 2 ls [])) ?_ _ _ _ hl hM hS
  intro x2 a_gaps a_behind hw H locs ls hl hM hS
  refine lv_iload_n hx hb dX5_measure_2 rfl (lv_at hl 2 rfl) ?_
  refine lv_aload_n hx hb dX5_measure_3 rfl (lv_at hl 1 rfl) ?_
  refine wkg_5_26_3 zc hK hM dX5_measure_4 ?_
  refine lv_icmp_ge (tgt := 81) hx hb dX5_measure_7 (by decide) (fun hc => ?_) (fun hc => ?_)
  · have hw := hw.1 hc
    exact zret_vw ⟨a_gaps, a_behind⟩ zc hS hw hM dX5_measure_81
  · have hw := hw.2 hc
    refine lv_aload_n hx hb dX5_measure_10 rfl (lv_at hl 0 rfl) ?_
    refine wkg_5_15_0 zc hK hM dX5_measure_11 ?_
    refine lv_iload_n hx hb dX5_measure_14 rfl (lv_at hl 2 rfl) ?_
    refine lv_iconst (v := (0 : Int32)) hx hb dX5_measure_15 (by decide) ?_
    refine wkst_2 zc hK hM hS hw.1 dX5_measure_16 (fun a_behind_1 H locs ea_behind_1 hM hS => ?_)
    have hw := hw.2 a_behind_1 ea_behind_1
    refine lv_iconst (v := (0 : Int32)) hx hb dX5_measure_17 (by decide) ?_
    refine lv_istore_n (lv' := [(3, .int (0 : Int32)), (0, .ref qk), (1, .ref qc), (2, .int x2)]) hx hb dX5_measure_18 rfl hl (by decide) rfl (fun ls hl => ?_)
    exact t_wk_X5_measure_3_19 zc hK hM hS (fun _ _ _ H locs ls h hl hM hS => h H locs ls hl hM hS) (lv_sub hl [1, 2, 3, 0] rfl) hw
set_option maxRecDepth 20000 in
theorem t_wk_X5_measure_3_0 {p : Program} {l : Launch} {e : Env} {s : State} {m : MethodId} {args : Array Value} {below : List Frame} {meth : Method} {c : Code} {kc ks : Nat} {E : zE} {qk qc qz : Nat} {a_gaps : Nat → Int32} {a_behind : Nat → Int32} {cf_voices : Int32} {cf_step : Int32} {ca_parts : Nat → Int32} {ca_heights : Nat → Int32} {z_tab : Nat → Int32} {post : (Nat → Int32) → (Nat → Int32) → Prop} {ls : Array Slot} {H : Heap} {locs : List Loc}
    (zc : zC p s m args meth c cX5_measure 5 RX5 none)
    (hK : zK E s)
    (hM : wkW E qk qc qz a_gaps a_behind cf_voices cf_step ca_parts ca_heights z_tab H)
    (hS : va_S (wkA qk qc qz) s.heap H locs)
    (hl : lv_has ls 5 [(0, .ref qk), (1, .ref qc)])
    (hw : q_wk_X5_measure_3_0 a_gaps a_behind cf_voices cf_step ca_parts ca_heights post) :
    W p l e (rm_wk_X5_measure_3 kc ks) s m args below meth c H locs kc ks (MQ below (zQv (S := (Nat → Int32) × (Nat → Int32)) (fun u => post u.1 u.2) (fun u H => wkW E qk qc qz u.1 u.2 cf_voices cf_step ca_parts ca_heights z_tab H) (wkA qk qc qz)) args s kc ks (wkA qk qc qz)) (F0 m 0 ls []) := by
  have hx := zc.1
  have hb := zc.2.1
  refine lv_iconst (v := (0 : Int32)) hx hb dX5_measure_0 (by decide) ?_
  refine lv_istore_n (lv' := [(2, .int (0 : Int32)), (0, .ref qk), (1, .ref qc)]) hx hb dX5_measure_1 rfl hl (by decide) rfl (fun ls hl => ?_)
  exact t_wk_X5_measure_3_2 zc hK hM hS  (lv_sub hl [1, 2, 0] rfl) hw
set_option maxRecDepth 20000 in
theorem c_wk_X5_measure_3 (l : Launch) {E : zE} {qk qc qz : Nat} {a_gaps : Nat → Int32} {a_behind : Nat → Int32} {cf_voices : Int32} {cf_step : Int32} {ca_parts : Nat → Int32} {ca_heights : Nat → Int32} {z_tab : Nat → Int32} {post : (Nat → Int32) → (Nat → Int32) → Prop} (hw : q_wk_X5_measure_3_0 a_gaps a_behind cf_voices cf_step ca_parts ca_heights post) : Met l yX5_measure (Cond.code yX5_measure cX5_measure 5 none :: zb) (rm_wk_X5_measure_3 0 0) (va_Pc [.ref qk, .ref qc] (fun U => wkW E qk qc qz a_gaps a_behind cf_voices cf_step ca_parts ca_heights z_tab U.heap ∧ zK E U)) (zQv (S := (Nat → Int32) × (Nat → Int32)) (fun u => post u.1 u.2) (fun u H => wkW E qk qc qz u.1 u.2 cf_voices cf_step ca_parts ca_heights z_tab H) (wkA qk qc qz)) 0 0 (wkA qk qc qz) := by
  refine Met.ofW (cc := cX5_measure) (maxL := 5) (ret := none) (by decide) rfl ?_
  intro p e s m args below meth c s₁ B hml hv
  obtain ⟨rfl, hM, hK⟩ := hv
  have zc := zc_of B hml
  have hl := lv_entry ([.ref qk, .ref qc]) (n := 5) (Nat.le_of_ble_eq_true rfl)
  rw [lg_entry_eq]
  generalize (lg_sl ([.ref qk, .ref qc]) ++ List.replicate (5 - (lg_sl ([.ref qk, .ref qc])).length) Slot.unset).toArray = ls at hl ⊢
  have hl : lv_has ls 5 [(0, .ref qk), (1, .ref qc)] := hl
  exact t_wk_X5_measure_3_0 zc hK hM va_S.rf (lv_sub hl [0, 1] rfl) hw
-- wk_X5_table
abbrev rm_wk_X5_table (kc ks : Nat) : Room := { frames := 0, cells := kc, slots := ks, locals := 0 }
def q_wk_X5_table_0 (post : Nat → Prop) : Prop :=
  post 1
set_option maxRecDepth 20000 in
theorem t_wk_X5_table_0 {p : Program} {l : Launch} {e : Env} {s : State} {m : MethodId} {args : Array Value} {below : List Frame} {meth : Method} {c : Code} {kc ks : Nat} {E : zE} {qk qc qz : Nat} {a_gaps : Nat → Int32} {a_behind : Nat → Int32} {cf_voices : Int32} {cf_step : Int32} {ca_parts : Nat → Int32} {ca_heights : Nat → Int32} {z_tab : Nat → Int32} {post : Nat → Prop} {ls : Array Slot}
    (zc : zC p s m args meth c cX5_table 1 RX5 (some (.array .int)))
    (hK : zK E s)
    (hM : wkW E qk qc qz a_gaps a_behind cf_voices cf_step ca_parts ca_heights z_tab s.heap)
    (hl : lv_has ls 1 [(0, .ref qk)])
    (hw : q_wk_X5_table_0 post) :
    W p l e (rm_wk_X5_table kc ks) s m args below meth c s.heap [] kc ks (MQ below (va_Sr post (fun k => if k = 0 then Value.null else Value.ref qz)) args s kc ks (fun _ => False)) (F0 m 0 ls []) := by
  have hx := zc.1
  have hb := zc.2.1
  refine lv_aload_n hx hb dX5_table_0 rfl (lv_at hl 0 rfl) ?_
  refine wkg_5_66_0 zc hK hM dX5_table_1 ?_
  refine lv_ifnonnull (tgt := 16) hx hb dX5_table_4 (by decide) ?_
  refine lv_aload_n hx hb dX5_table_16 rfl (lv_at hl 0 rfl) ?_
  refine wkg_5_66_0 zc hK hM dX5_table_17 ?_
  exact zret_r (k := 1) zc (Or.inr ⟨_, rfl⟩) hw dX5_table_20
set_option maxRecDepth 20000 in
theorem c_wk_X5_table (l : Launch) {E : zE} {qk qc qz : Nat} {a_gaps : Nat → Int32} {a_behind : Nat → Int32} {cf_voices : Int32} {cf_step : Int32} {ca_parts : Nat → Int32} {ca_heights : Nat → Int32} {z_tab : Nat → Int32} {post : Nat → Prop} (hw : q_wk_X5_table_0 post) : Met l yX5_table (Cond.code yX5_table cX5_table 1 (some (.array .int)) :: zb) (rm_wk_X5_table 0 0) (va_Pc [.ref qk] (fun U => wkW E qk qc qz a_gaps a_behind cf_voices cf_step ca_parts ca_heights z_tab U.heap ∧ zK E U)) (va_Sr post (fun k => if k = 0 then Value.null else Value.ref qz)) 0 0 (fun _ => False) := by
  refine Met.ofW (cc := cX5_table) (maxL := 1) (ret := (some (.array .int))) (by decide) rfl ?_
  intro p e s m args below meth c s₁ B hml hv
  obtain ⟨rfl, hM, hK⟩ := hv
  have zc := zc_of B hml
  have hl := lv_entry ([.ref qk]) (n := 1) (Nat.le_of_ble_eq_true rfl)
  rw [lg_entry_eq]
  generalize (lg_sl ([.ref qk]) ++ List.replicate (1 - (lg_sl ([.ref qk])).length) Slot.unset).toArray = ls at hl ⊢
  have hl : lv_has ls 1 [(0, .ref qk)] := hl
  exact t_wk_X5_table_0 zc hK hM (lv_sub hl [0] rfl) hw
-- wk_X5_waysOn_6
abbrev rm_wk_X5_waysOn_6 (kc ks : Nat) : Room := { frames := 1, cells := kc, slots := ks, locals := 21 }
def q_wk_X5_waysOn_6_45 (P5 : Int32 → Int32 → Prop) (z_tab : Nat → Int32) (x1 : Int32) (x2 : Int32) (x3 : Int32) (x4 : Int32) (post : Int32 → Prop) : Prop :=
  ∀ v_1 : Int32, v_1 = x4 + (1 : Int32) → (P5 x3 v_1)
def q_wk_X5_waysOn_6_5 (z_tab : Nat → Int32) (x1 : Int32) (x2 : Int32) (x3 : Int32) (x4 : Int32) (post : Int32 → Prop) : Prop :=
  ∀ P5 : Int32 → Int32 → Prop, (∀ (x3 : Int32) (x4 : Int32), (((9 : Int32) ≤ x4 → (post x3)) ∧ (¬ (9 : Int32) ≤ x4 → (((x2 >>> (x4 &&& 31)) = 0 → (post x3)) ∧ (¬ (x2 >>> (x4 &&& 31)) = 0 → (q_z_X10_has_0 x2 x4 (fun r_1 => (r_1 = 0 → (q_wk_X5_waysOn_6_45 P5 z_tab x1 x2 x3 x4 post)) ∧ (¬ r_1 = 0 → (vp_in (((x1 ||| ((1 : Int32) <<< (x4 &&& 31))) * (9 : Int32)) + x4) 4608 ∧ (∀ v_1 : Int32, v_1 = (x3 + (z_tab (Int32.toNatClampNeg (((x1 ||| ((1 : Int32) <<< (x4 &&& 31))) * (9 : Int32)) + x4)))) → (q_wk_X5_waysOn_6_45 P5 z_tab x1 x2 v_1 x4 post)))))))))) → P5 x3 x4) → P5 x3 x4
def q_wk_X5_waysOn_6_0 (z_tab : Nat → Int32) (x1 : Int32) (x2 : Int32) (post : Int32 → Prop) : Prop :=
  q_wk_X5_waysOn_6_5 z_tab x1 x2 (0 : Int32) (0 : Int32) post
set_option maxRecDepth 20000 in
theorem t_wk_X5_waysOn_6_45 {p : Program} {l : Launch} {e : Env} {s : State} {m : MethodId} {args : Array Value} {below : List Frame} {meth : Method} {c : Code} {kc ks : Nat} {E : zE} {qk qc qz : Nat} {a_gaps : Nat → Int32} {a_behind : Nat → Int32} {cf_voices : Int32} {cf_step : Int32} {ca_parts : Nat → Int32} {ca_heights : Nat → Int32} {z_tab : Nat → Int32} {P5 : Int32 → Int32 → Prop} {post : Int32 → Prop} {x1 : Int32} {x2 : Int32} {x3 : Int32} {x4 : Int32} {ls : Array Slot}
    (zc : zC p s m args meth c cX5_waysOn 5 RX5 (some .int))
    (hK : zK E s)
    (hM : wkW E qk qc qz a_gaps a_behind cf_voices cf_step ca_parts ca_heights z_tab s.heap)
    (hP5 : ∀ (x3 : Int32) (x4 : Int32) (ls : Array Slot), P5 x3 x4 → lv_has ls 5 [(0, .ref qz), (1, .int x1), (2, .int x2), (3, .int x3), (4, .int x4)] → W p l e (rm_wk_X5_waysOn_6 kc ks) s m args below meth c s.heap [] kc ks (MQ below (vp_Si post) args s kc ks (fun _ => False)) (F0 m 5 ls []))
    (hl : lv_has ls 5 [(0, .ref qz), (1, .int x1), (2, .int x2), (3, .int x3), (4, .int x4)])
    (hw : q_wk_X5_waysOn_6_45 P5 z_tab x1 x2 x3 x4 post) :
    W p l e (rm_wk_X5_waysOn_6 kc ks) s m args below meth c s.heap [] kc ks (MQ below (vp_Si post) args s kc ks (fun _ => False)) (F0 m 45 ls []) := by
  have hx := zc.1
  have hb := zc.2.1
  obtain ⟨v_1, ev_1⟩ : ∃ y : Int32, y = x4 + (1 : Int32) := ⟨_, rfl⟩
  have hw := hw v_1 ev_1
  refine lv_iinc (v := v_1) (k := 4) (lv' := [(4, .int v_1), (0, .ref qz), (1, .int x1), (2, .int x2), (3, .int x3)]) hx hb dX5_waysOn_45 hl rfl (by rw [ev_1]; rfl) (by decide) rfl (fun ls hl => ?_)
  refine lv_goto (tgt := 5) hx hb dX5_waysOn_48 (by decide) ?_
  exact hP5 _ _ _ hw (lv_sub hl [1, 2, 3, 4, 0] rfl)
set_option maxRecDepth 20000 in
theorem t_wk_X5_waysOn_6_5 {p : Program} {l : Launch} {e : Env} {s : State} {m : MethodId} {args : Array Value} {below : List Frame} {meth : Method} {c : Code} {kc ks : Nat} {E : zE} {qk qc qz : Nat} {a_gaps : Nat → Int32} {a_behind : Nat → Int32} {cf_voices : Int32} {cf_step : Int32} {ca_parts : Nat → Int32} {ca_heights : Nat → Int32} {z_tab : Nat → Int32} {post : Int32 → Prop} {x1 : Int32} {x2 : Int32} {x3 : Int32} {x4 : Int32} {ls : Array Slot}
    (zc : zC p s m args meth c cX5_waysOn 5 RX5 (some .int))
    (hK : zK E s)
    (hM : wkW E qk qc qz a_gaps a_behind cf_voices cf_step ca_parts ca_heights z_tab s.heap)
    (hl : lv_has ls 5 [(0, .ref qz), (1, .int x1), (2, .int x2), (3, .int x3), (4, .int x4)])
    (hw : q_wk_X5_waysOn_6_5 z_tab x1 x2 x3 x4 post) :
    W p l e (rm_wk_X5_waysOn_6 kc ks) s m args below meth c s.heap [] kc ks (MQ below (vp_Si post) args s kc ks (fun _ => False)) (F0 m 5 ls []) := by
  have hx := zc.1
  have hb := zc.2.1
  refine hw (fun x3 x4 => ∀ (ls : Array Slot), lv_has ls 5 [(0, .ref qz), (1, .int x1), (2, .int x2), (3, .int x3), (4, .int x4)] → W p l e (rm_wk_X5_waysOn_6 kc ks) s m args below meth c s.heap [] kc ks (MQ below (vp_Si post) args s kc ks (fun _ => False)) (F0 m 5 ls [])) ?_ _ hl
  intro x3 x4 hw ls hl
  refine lv_iload hx hb dX5_waysOn_5 (lv_at hl 4 rfl) ?_
  refine lv_bipush (v := (9 : Int32)) hx hb dX5_waysOn_7 (by decide) ?_
  refine lv_icmp_ge (tgt := 51) hx hb dX5_waysOn_9 (by decide) (fun hc => ?_) (fun hc => ?_)
  · have hw := hw.1 hc
    refine lv_iload_n hx hb dX5_waysOn_51 rfl (lv_at hl 3 rfl) ?_
    exact zret_i zc hw dX5_waysOn_52
  · have hw := hw.2 hc
    refine lv_iload_n hx hb dX5_waysOn_12 rfl (lv_at hl 2 rfl) ?_
    refine lv_iload hx hb dX5_waysOn_13 (lv_at hl 4 rfl) ?_
    refine lv_ishr hx hb dX5_waysOn_15 ?_
    refine lv_if_eq (tgt := 51) hx hb dX5_waysOn_16 (by decide) (fun hc => ?_) (fun hc => ?_)
    · have hw := hw.1 hc
      refine lv_iload_n hx hb dX5_waysOn_51 rfl (lv_at hl 3 rfl) ?_
      exact zret_i zc hw dX5_waysOn_52
    · have hw := hw.2 hc
      refine lv_iload_n hx hb dX5_waysOn_19 rfl (lv_at hl 2 rfl) ?_
      refine lv_iload hx hb dX5_waysOn_20 (lv_at hl 4 rfl) ?_
      refine zSN_i [.int x2, .int x4] [] zc ky_X10_has kz_X10_has (hK.2 _ kn_5_32) (c_z_X10_has l hw) (zPre0 _) rfl rfl hl.1 (Nat.le_of_ble_eq_true rfl) ⟨rfl, rfl⟩ ⟨Nat.le_of_ble_eq_true rfl, Nat.le_of_ble_eq_true rfl⟩ ⟨(Nat.le_refl _), (Nat.le_refl _)⟩ dX5_waysOn_22 (fun r_1 hw => ?_)
      refine lv_if_eq (tgt := 45) hx hb dX5_waysOn_25 (by decide) (fun hc => ?_) (fun hc => ?_)
      · have hw := hw.1 hc
        exact t_wk_X5_waysOn_6_45 zc hK hM (fun _ _ ls h hl => h ls hl) (lv_sub hl [0, 1, 2, 3, 4] rfl) hw
      · have hw := hw.2 hc
        refine lv_iload_n hx hb dX5_waysOn_28 rfl (lv_at hl 3 rfl) ?_
        refine lv_aload_n hx hb dX5_waysOn_29 rfl (lv_at hl 0 rfl) ?_
        refine lv_iload_n hx hb dX5_waysOn_30 rfl (lv_at hl 1 rfl) ?_
        refine lv_iconst (v := (1 : Int32)) hx hb dX5_waysOn_31 (by decide) ?_
        refine lv_iload hx hb dX5_waysOn_32 (lv_at hl 4 rfl) ?_
        refine lv_ishl hx hb dX5_waysOn_34 ?_
        refine lv_ior hx hb dX5_waysOn_35 ?_
        refine lv_bipush (v := (9 : Int32)) hx hb dX5_waysOn_36 (by decide) ?_
        refine lv_imul hx hb dX5_waysOn_38 ?_
        refine lv_iload hx hb dX5_waysOn_39 (lv_at hl 4 rfl) ?_
        refine lv_iadd hx hb dX5_waysOn_41 ?_
        refine wkld_6 zc hK hM hw.1 dX5_waysOn_42 ?_
        have hw := hw.2
        refine lv_iadd hx hb dX5_waysOn_43 ?_
        refine lv_topi (fun v_1 ev_1 => ?_)
        have hw := hw v_1 ev_1
        refine lv_istore_n (lv' := [(3, .int v_1), (0, .ref qz), (1, .int x1), (2, .int x2), (4, .int x4)]) hx hb dX5_waysOn_44 rfl hl (by decide) rfl (fun ls hl => ?_)
        exact t_wk_X5_waysOn_6_45 zc hK hM (fun _ _ ls h hl => h ls hl) (lv_sub hl [1, 2, 3, 0, 4] rfl) hw
set_option maxRecDepth 20000 in
theorem t_wk_X5_waysOn_6_0 {p : Program} {l : Launch} {e : Env} {s : State} {m : MethodId} {args : Array Value} {below : List Frame} {meth : Method} {c : Code} {kc ks : Nat} {E : zE} {qk qc qz : Nat} {a_gaps : Nat → Int32} {a_behind : Nat → Int32} {cf_voices : Int32} {cf_step : Int32} {ca_parts : Nat → Int32} {ca_heights : Nat → Int32} {z_tab : Nat → Int32} {post : Int32 → Prop} {x1 : Int32} {x2 : Int32} {ls : Array Slot}
    (zc : zC p s m args meth c cX5_waysOn 5 RX5 (some .int))
    (hK : zK E s)
    (hM : wkW E qk qc qz a_gaps a_behind cf_voices cf_step ca_parts ca_heights z_tab s.heap)
    (hl : lv_has ls 5 [(0, .ref qz), (1, .int x1), (2, .int x2)])
    (hw : q_wk_X5_waysOn_6_0 z_tab x1 x2 post) :
    W p l e (rm_wk_X5_waysOn_6 kc ks) s m args below meth c s.heap [] kc ks (MQ below (vp_Si post) args s kc ks (fun _ => False)) (F0 m 0 ls []) := by
  have hx := zc.1
  have hb := zc.2.1
  refine lv_iconst (v := (0 : Int32)) hx hb dX5_waysOn_0 (by decide) ?_
  refine lv_istore_n (lv' := [(3, .int (0 : Int32)), (0, .ref qz), (1, .int x1), (2, .int x2)]) hx hb dX5_waysOn_1 rfl hl (by decide) rfl (fun ls hl => ?_)
  refine lv_iconst (v := (0 : Int32)) hx hb dX5_waysOn_2 (by decide) ?_
  refine lv_istore (lv' := [(4, .int (0 : Int32)), (3, .int (0 : Int32)), (0, .ref qz), (1, .int x1), (2, .int x2)]) hx hb dX5_waysOn_3 hl (by decide) rfl (fun ls hl => ?_)
  exact t_wk_X5_waysOn_6_5 zc hK hM  (lv_sub hl [2, 3, 4, 1, 0] rfl) hw
set_option maxRecDepth 20000 in
theorem c_wk_X5_waysOn_6 (l : Launch) {E : zE} {qk qc qz : Nat} {a_gaps : Nat → Int32} {a_behind : Nat → Int32} {cf_voices : Int32} {cf_step : Int32} {ca_parts : Nat → Int32} {ca_heights : Nat → Int32} {z_tab : Nat → Int32} {x1 : Int32} {x2 : Int32} {post : Int32 → Prop} (hw : q_wk_X5_waysOn_6_0 z_tab x1 x2 post) : Met l yX5_waysOn (Cond.code yX5_waysOn cX5_waysOn 5 (some .int) :: zb) (rm_wk_X5_waysOn_6 0 0) (va_Pc [.ref qz, .int x1, .int x2] (fun U => wkW E qk qc qz a_gaps a_behind cf_voices cf_step ca_parts ca_heights z_tab U.heap ∧ zK E U)) (vp_Si post) 0 0 (fun _ => False) := by
  refine Met.ofW (cc := cX5_waysOn) (maxL := 5) (ret := (some .int)) (by decide) rfl ?_
  intro p e s m args below meth c s₁ B hml hv
  obtain ⟨rfl, hM, hK⟩ := hv
  have zc := zc_of B hml
  have hl := lv_entry ([.ref qz, .int x1, .int x2]) (n := 5) (Nat.le_of_ble_eq_true rfl)
  rw [lg_entry_eq]
  generalize (lg_sl ([.ref qz, .int x1, .int x2]) ++ List.replicate (5 - (lg_sl ([.ref qz, .int x1, .int x2])).length) Slot.unset).toArray = ls at hl ⊢
  have hl : lv_has ls 5 [(0, .ref qz), (1, .int x1), (2, .int x2)] := hl
  exact t_wk_X5_waysOn_6_0 zc hK hM (lv_sub hl [0, 1, 2] rfl) hw
-- wk_X5_fill_3
abbrev rm_wk_X5_fill_3 (kc ks : Nat) : Room := { frames := 3, cells := kc, slots := ks, locals := 86 }
def q_wk_X5_fill_3_87 (P22 : Int32 → (Nat → Int32) → Prop) (P30 : Int32 → (Nat → Int32) → Prop) (a_gaps : Nat → Int32) (a_behind : Nat → Int32) (cf_voices : Int32) (cf_step : Int32) (ca_parts : Nat → Int32) (ca_heights : Nat → Int32) (z_tab : Nat → Int32) (x3 : Int32) (x4 : Int32) (x5 : Int32) (post : (Nat → Int32) → (Nat → Int32) → (Nat → Int32) → Prop) : Prop :=
  ∀ v_1 : Int32, v_1 = x5 + (1 : Int32) → (P30 v_1 z_tab)
def q_wk_X5_fill_3_86 (P22 : Int32 → (Nat → Int32) → Prop) (P30 : Int32 → (Nat → Int32) → Prop) (a_gaps : Nat → Int32) (a_behind : Nat → Int32) (cf_voices : Int32) (cf_step : Int32) (ca_parts : Nat → Int32) (ca_heights : Nat → Int32) (z_tab : Nat → Int32) (x3 : Int32) (x4 : Int32) (x5 : Int32) (y0 : Int32) (y1 : Int32) (post : (Nat → Int32) → (Nat → Int32) → (Nat → Int32) → Prop) : Prop :=
  vp_in y0 4608 ∧ (∀ z_tab_1 : Nat → Int32, z_tab_1 = upd z_tab (Int32.toNatClampNeg y0) y1 → (q_wk_X5_fill_3_87 P22 P30 a_gaps a_behind cf_voices cf_step ca_parts ca_heights z_tab_1 x3 x4 x5 post))
def q_wk_X5_fill_3_30 (P22 : Int32 → (Nat → Int32) → Prop) (a_gaps : Nat → Int32) (a_behind : Nat → Int32) (cf_voices : Int32) (cf_step : Int32) (ca_parts : Nat → Int32) (ca_heights : Nat → Int32) (z_tab : Nat → Int32) (x3 : Int32) (x4 : Int32) (x5 : Int32) (post : (Nat → Int32) → (Nat → Int32) → (Nat → Int32) → Prop) : Prop :=
  ∀ P30 : Int32 → (Nat → Int32) → Prop, (∀ (x5 : Int32) (z_tab : Nat → Int32), ((cf_voices ≤ x5 → (∀ v_1 : Int32, v_1 = x4 + (-1 : Int32) → (P22 v_1 z_tab))) ∧ (¬ cf_voices ≤ x5 → (q_z_X10_has_0 x4 x5 (fun r_1 => (r_1 = 0 → (q_wk_X5_fill_3_87 P22 P30 a_gaps a_behind cf_voices cf_step ca_parts ca_heights z_tab x3 x4 x5 post)) ∧ (¬ r_1 = 0 → ((¬ x4 = x3 → (vp_in x5 9 ∧ (q_wk_X5_waysOn_6_0 z_tab x4 ((a_behind (Int32.toNatClampNeg x5)) &&& (x4 ^^^ (-1 : Int32))) (fun r_2 => q_wk_X5_fill_3_86 P22 P30 a_gaps a_behind cf_voices cf_step ca_parts ca_heights z_tab x3 x4 x5 ((x4 * (9 : Int32)) + x5) r_2 post)))) ∧ (x4 = x3 → (q_wk_X5_fill_3_86 P22 P30 a_gaps a_behind cf_voices cf_step ca_parts ca_heights z_tab x3 x4 x5 ((x4 * (9 : Int32)) + x5) (1 : Int32) post)))))))) → P30 x5 z_tab) → P30 x5 z_tab
def q_wk_X5_fill_3_22 (a_gaps : Nat → Int32) (a_behind : Nat → Int32) (cf_voices : Int32) (cf_step : Int32) (ca_parts : Nat → Int32) (ca_heights : Nat → Int32) (z_tab : Nat → Int32) (x3 : Int32) (x4 : Int32) (post : (Nat → Int32) → (Nat → Int32) → (Nat → Int32) → Prop) : Prop :=
  ∀ P22 : Int32 → (Nat → Int32) → Prop, (∀ (x4 : Int32) (z_tab : Nat → Int32), ((x4 ≤ 0 → (post a_gaps a_behind z_tab)) ∧ (¬ x4 ≤ 0 → (q_wk_X5_fill_3_30 P22 a_gaps a_behind cf_voices cf_step ca_parts ca_heights z_tab x3 x4 (0 : Int32) post))) → P22 x4 z_tab) → P22 x4 z_tab
def q_wk_X5_fill_3_10 (a_gaps : Nat → Int32) (a_behind : Nat → Int32) (cf_voices : Int32) (cf_step : Int32) (ca_parts : Nat → Int32) (ca_heights : Nat → Int32) (z_tab : Nat → Int32) (post : (Nat → Int32) → (Nat → Int32) → (Nat → Int32) → Prop) : Prop :=
  ∀ v_1 : Int32, v_1 = (((1 : Int32) <<< (cf_voices &&& 31)) - (1 : Int32)) → (q_wk_X5_fill_3_22 a_gaps a_behind cf_voices cf_step ca_parts ca_heights z_tab v_1 v_1 post)
def q_wk_X5_fill_3_0 (a_gaps : Nat → Int32) (a_behind : Nat → Int32) (cf_voices : Int32) (cf_step : Int32) (ca_parts : Nat → Int32) (ca_heights : Nat → Int32) (z_tab : Nat → Int32) (post : (Nat → Int32) → (Nat → Int32) → (Nat → Int32) → Prop) : Prop :=
  q_wk_X5_measure_3_0 a_gaps a_behind cf_voices cf_step ca_parts ca_heights (fun a_gaps_1 a_behind_1 => q_wk_X5_table_0 (fun r_1 => (r_1 = 0 → False) ∧ (¬ r_1 = 0 → (q_wk_X5_fill_3_10 a_gaps_1 a_behind_1 cf_voices cf_step ca_parts ca_heights z_tab post))))
set_option maxRecDepth 20000 in
theorem t_wk_X5_fill_3_87 {p : Program} {l : Launch} {e : Env} {s : State} {m : MethodId} {args : Array Value} {below : List Frame} {meth : Method} {c : Code} {kc ks : Nat} {E : zE} {qk qc qz : Nat} {a_gaps : Nat → Int32} {a_behind : Nat → Int32} {cf_voices : Int32} {cf_step : Int32} {ca_parts : Nat → Int32} {ca_heights : Nat → Int32} {z_tab : Nat → Int32} {P22 : Int32 → (Nat → Int32) → Prop} {P30 : Int32 → (Nat → Int32) → Prop} {post : (Nat → Int32) → (Nat → Int32) → (Nat → Int32) → Prop} {x3 : Int32} {x4 : Int32} {x5 : Int32} {ls : Array Slot} {H : Heap} {locs : List Loc}
    (zc : zC p s m args meth c cX5_fill 6 RX5 none)
    (hK : zK E s)
    (hM : wkW E qk qc qz a_gaps a_behind cf_voices cf_step ca_parts ca_heights z_tab H)
    (hS : va_S (wkA qk qc qz) s.heap H locs)
    (hP22 : ∀ (x4 : Int32) (z_tab : Nat → Int32) (H : Heap) (locs : List Loc) (ls : Array Slot), P22 x4 z_tab → lv_has ls 6 [(0, .ref qk), (1, .ref qc), (2, .ref qz), (3, .int x3), (4, .int x4)] → wkW E qk qc qz a_gaps a_behind cf_voices cf_step ca_parts ca_heights z_tab H → va_S (wkA qk qc qz) s.heap H locs → W p l e (rm_wk_X5_fill_3 kc ks) s m args below meth c H locs kc ks (MQ below (zQv (S := (Nat → Int32) × (Nat → Int32) × (Nat → Int32)) (fun u => post u.1 u.2.1 u.2.2) (fun u H => wkW E qk qc qz u.1 u.2.1 cf_voices cf_step ca_parts ca_heights u.2.2 H) (wkA qk qc qz)) args s kc ks (wkA qk qc qz)) (F0 m 22 ls []))
    (hP30 : ∀ (x5 : Int32) (z_tab : Nat → Int32) (H : Heap) (locs : List Loc) (ls : Array Slot), P30 x5 z_tab → lv_has ls 6 [(0, .ref qk), (1, .ref qc), (2, .ref qz), (3, .int x3), (4, .int x4), (5, .int x5)] → wkW E qk qc qz a_gaps a_behind cf_voices cf_step ca_parts ca_heights z_tab H → va_S (wkA qk qc qz) s.heap H locs → W p l e (rm_wk_X5_fill_3 kc ks) s m args below meth c H locs kc ks (MQ below (zQv (S := (Nat → Int32) × (Nat → Int32) × (Nat → Int32)) (fun u => post u.1 u.2.1 u.2.2) (fun u H => wkW E qk qc qz u.1 u.2.1 cf_voices cf_step ca_parts ca_heights u.2.2 H) (wkA qk qc qz)) args s kc ks (wkA qk qc qz)) (F0 m 30 ls []))
    (hl : lv_has ls 6 [(0, .ref qk), (1, .ref qc), (2, .ref qz), (3, .int x3), (4, .int x4), (5, .int x5)])
    (hw : q_wk_X5_fill_3_87 P22 P30 a_gaps a_behind cf_voices cf_step ca_parts ca_heights z_tab x3 x4 x5 post) :
    W p l e (rm_wk_X5_fill_3 kc ks) s m args below meth c H locs kc ks (MQ below (zQv (S := (Nat → Int32) × (Nat → Int32) × (Nat → Int32)) (fun u => post u.1 u.2.1 u.2.2) (fun u H => wkW E qk qc qz u.1 u.2.1 cf_voices cf_step ca_parts ca_heights u.2.2 H) (wkA qk qc qz)) args s kc ks (wkA qk qc qz)) (F0 m 87 ls []) := by
  have hx := zc.1
  have hb := zc.2.1
  obtain ⟨v_1, ev_1⟩ : ∃ y : Int32, y = x5 + (1 : Int32) := ⟨_, rfl⟩
  have hw := hw v_1 ev_1
  refine lv_iinc (v := v_1) (k := 5) (lv' := [(5, .int v_1), (0, .ref qk), (1, .ref qc), (2, .ref qz), (3, .int x3), (4, .int x4)]) hx hb dX5_fill_87 hl rfl (by rw [ev_1]; rfl) (by decide) rfl (fun ls hl => ?_)
  refine lv_goto (tgt := 30) hx hb dX5_fill_90 (by decide) ?_
  exact hP30 _ _ _ _ _ hw (lv_sub hl [1, 2, 3, 4, 5, 0] rfl) hM hS
set_option maxRecDepth 20000 in
theorem t_wk_X5_fill_3_86 {p : Program} {l : Launch} {e : Env} {s : State} {m : MethodId} {args : Array Value} {below : List Frame} {meth : Method} {c : Code} {kc ks : Nat} {E : zE} {qk qc qz : Nat} {a_gaps : Nat → Int32} {a_behind : Nat → Int32} {cf_voices : Int32} {cf_step : Int32} {ca_parts : Nat → Int32} {ca_heights : Nat → Int32} {z_tab : Nat → Int32} {P22 : Int32 → (Nat → Int32) → Prop} {P30 : Int32 → (Nat → Int32) → Prop} {post : (Nat → Int32) → (Nat → Int32) → (Nat → Int32) → Prop} {x3 : Int32} {x4 : Int32} {x5 : Int32} {y0 : Int32} {y1 : Int32} {ls : Array Slot} {H : Heap} {locs : List Loc}
    (zc : zC p s m args meth c cX5_fill 6 RX5 none)
    (hK : zK E s)
    (hM : wkW E qk qc qz a_gaps a_behind cf_voices cf_step ca_parts ca_heights z_tab H)
    (hS : va_S (wkA qk qc qz) s.heap H locs)
    (hP22 : ∀ (x4 : Int32) (z_tab : Nat → Int32) (H : Heap) (locs : List Loc) (ls : Array Slot), P22 x4 z_tab → lv_has ls 6 [(0, .ref qk), (1, .ref qc), (2, .ref qz), (3, .int x3), (4, .int x4)] → wkW E qk qc qz a_gaps a_behind cf_voices cf_step ca_parts ca_heights z_tab H → va_S (wkA qk qc qz) s.heap H locs → W p l e (rm_wk_X5_fill_3 kc ks) s m args below meth c H locs kc ks (MQ below (zQv (S := (Nat → Int32) × (Nat → Int32) × (Nat → Int32)) (fun u => post u.1 u.2.1 u.2.2) (fun u H => wkW E qk qc qz u.1 u.2.1 cf_voices cf_step ca_parts ca_heights u.2.2 H) (wkA qk qc qz)) args s kc ks (wkA qk qc qz)) (F0 m 22 ls []))
    (hP30 : ∀ (x5 : Int32) (z_tab : Nat → Int32) (H : Heap) (locs : List Loc) (ls : Array Slot), P30 x5 z_tab → lv_has ls 6 [(0, .ref qk), (1, .ref qc), (2, .ref qz), (3, .int x3), (4, .int x4), (5, .int x5)] → wkW E qk qc qz a_gaps a_behind cf_voices cf_step ca_parts ca_heights z_tab H → va_S (wkA qk qc qz) s.heap H locs → W p l e (rm_wk_X5_fill_3 kc ks) s m args below meth c H locs kc ks (MQ below (zQv (S := (Nat → Int32) × (Nat → Int32) × (Nat → Int32)) (fun u => post u.1 u.2.1 u.2.2) (fun u H => wkW E qk qc qz u.1 u.2.1 cf_voices cf_step ca_parts ca_heights u.2.2 H) (wkA qk qc qz)) args s kc ks (wkA qk qc qz)) (F0 m 30 ls []))
    (hl : lv_has ls 6 [(0, .ref qk), (1, .ref qc), (2, .ref qz), (3, .int x3), (4, .int x4), (5, .int x5)])
    (hw : q_wk_X5_fill_3_86 P22 P30 a_gaps a_behind cf_voices cf_step ca_parts ca_heights z_tab x3 x4 x5 y0 y1 post) :
    W p l e (rm_wk_X5_fill_3 kc ks) s m args below meth c H locs kc ks (MQ below (zQv (S := (Nat → Int32) × (Nat → Int32) × (Nat → Int32)) (fun u => post u.1 u.2.1 u.2.2) (fun u H => wkW E qk qc qz u.1 u.2.1 cf_voices cf_step ca_parts ca_heights u.2.2 H) (wkA qk qc qz)) args s kc ks (wkA qk qc qz)) (F0 m 86 ls [.int y1, .int y0, .ref qz]) := by
  have hx := zc.1
  have hb := zc.2.1
  refine wkst_6 zc hK hM hS hw.1 dX5_fill_86 (fun z_tab_1 H locs ez_tab_1 hM hS => ?_)
  have hw := hw.2 z_tab_1 ez_tab_1
  exact t_wk_X5_fill_3_87 zc hK hM hS hP22 hP30 (lv_sub hl [0, 1, 2, 3, 4, 5] rfl) hw
set_option maxRecDepth 20000 in
theorem t_wk_X5_fill_3_30 {p : Program} {l : Launch} {e : Env} {s : State} {m : MethodId} {args : Array Value} {below : List Frame} {meth : Method} {c : Code} {kc ks : Nat} {E : zE} {qk qc qz : Nat} {a_gaps : Nat → Int32} {a_behind : Nat → Int32} {cf_voices : Int32} {cf_step : Int32} {ca_parts : Nat → Int32} {ca_heights : Nat → Int32} {z_tab : Nat → Int32} {P22 : Int32 → (Nat → Int32) → Prop} {post : (Nat → Int32) → (Nat → Int32) → (Nat → Int32) → Prop} {x3 : Int32} {x4 : Int32} {x5 : Int32} {ls : Array Slot} {H : Heap} {locs : List Loc}
    (zc : zC p s m args meth c cX5_fill 6 RX5 none)
    (hK : zK E s)
    (hM : wkW E qk qc qz a_gaps a_behind cf_voices cf_step ca_parts ca_heights z_tab H)
    (hS : va_S (wkA qk qc qz) s.heap H locs)
    (hP22 : ∀ (x4 : Int32) (z_tab : Nat → Int32) (H : Heap) (locs : List Loc) (ls : Array Slot), P22 x4 z_tab → lv_has ls 6 [(0, .ref qk), (1, .ref qc), (2, .ref qz), (3, .int x3), (4, .int x4)] → wkW E qk qc qz a_gaps a_behind cf_voices cf_step ca_parts ca_heights z_tab H → va_S (wkA qk qc qz) s.heap H locs → W p l e (rm_wk_X5_fill_3 kc ks) s m args below meth c H locs kc ks (MQ below (zQv (S := (Nat → Int32) × (Nat → Int32) × (Nat → Int32)) (fun u => post u.1 u.2.1 u.2.2) (fun u H => wkW E qk qc qz u.1 u.2.1 cf_voices cf_step ca_parts ca_heights u.2.2 H) (wkA qk qc qz)) args s kc ks (wkA qk qc qz)) (F0 m 22 ls []))
    (hl : lv_has ls 6 [(0, .ref qk), (1, .ref qc), (2, .ref qz), (3, .int x3), (4, .int x4), (5, .int x5)])
    (hw : q_wk_X5_fill_3_30 P22 a_gaps a_behind cf_voices cf_step ca_parts ca_heights z_tab x3 x4 x5 post) :
    W p l e (rm_wk_X5_fill_3 kc ks) s m args below meth c H locs kc ks (MQ below (zQv (S := (Nat → Int32) × (Nat → Int32) × (Nat → Int32)) (fun u => post u.1 u.2.1 u.2.2) (fun u H => wkW E qk qc qz u.1 u.2.1 cf_voices cf_step ca_parts ca_heights u.2.2 H) (wkA qk qc qz)) args s kc ks (wkA qk qc qz)) (F0 m 30 ls []) := by
  have hx := zc.1
  have hb := zc.2.1
  refine hw (fun x5 z_tab => ∀ (H : Heap) (locs : List Loc) (ls : Array Slot), lv_has ls 6 [(0, .ref qk), (1, .ref qc), (2, .ref qz), (3, .int x3), (4, .int x4), (5, .int x5)] → wkW E qk qc qz a_gaps a_behind cf_voices cf_step ca_parts ca_heights z_tab H → va_S (wkA qk qc qz) s.heap H locs → W p l e (rm_wk_X5_fill_3 kc ks) s m args below meth c H locs kc ks (MQ below (zQv (S := (Nat → Int32) × (Nat → Int32) × (Nat → Int32)) (fun u => post u.1 u.2.1 u.2.2) (fun u H => wkW E qk qc qz u.1 u.2.1 cf_voices cf_step ca_parts ca_heights u.2.2 H) (wkA qk qc qz)) args s kc ks (wkA qk qc qz)) (F0 m 30 ls [])) ?_ _ _ _ hl hM hS
  intro x5 z_tab hw H locs ls hl hM hS
  refine lv_iload hx hb dX5_fill_30 (lv_at hl 5 rfl) ?_
  refine lv_aload_n hx hb dX5_fill_32 rfl (lv_at hl 1 rfl) ?_
  refine wkg_5_26_3 zc hK hM dX5_fill_33 ?_
  refine lv_icmp_ge (tgt := 93) hx hb dX5_fill_36 (by decide) (fun hc => ?_) (fun hc => ?_)
  · have hw := hw.1 hc
    obtain ⟨v_1, ev_1⟩ : ∃ y : Int32, y = x4 + (-1 : Int32) := ⟨_, rfl⟩
    have hw := hw v_1 ev_1
    refine lv_iinc (v := v_1) (k := 4) (lv' := [(4, .int v_1), (0, .ref qk), (1, .ref qc), (2, .ref qz), (3, .int x3), (5, .int x5)]) hx hb dX5_fill_93 hl rfl (by rw [ev_1]; rfl) (by decide) rfl (fun ls hl => ?_)
    refine lv_goto (tgt := 22) hx hb dX5_fill_96 (by decide) ?_
    exact hP22 _ _ _ _ _ hw (lv_sub hl [1, 2, 3, 4, 0] rfl) hM hS
  · have hw := hw.2 hc
    refine lv_iload hx hb dX5_fill_39 (lv_at hl 4 rfl) ?_
    refine lv_iload hx hb dX5_fill_41 (lv_at hl 5 rfl) ?_
    refine zSN_i [.int x4, .int x5] [] zc ky_X10_has kz_X10_has (hK.2 _ kn_5_32) (c_z_X10_has l hw) (zPre0 _) rfl rfl hl.1 (Nat.le_of_ble_eq_true rfl) ⟨rfl, rfl⟩ ⟨Nat.le_of_ble_eq_true rfl, Nat.le_of_ble_eq_true rfl⟩ ⟨(Nat.le_refl _), (Nat.le_refl _)⟩ dX5_fill_43 (fun r_1 hw => ?_)
    refine lv_if_eq (tgt := 87) hx hb dX5_fill_46 (by decide) (fun hc => ?_) (fun hc => ?_)
    · have hw := hw.1 hc
      exact t_wk_X5_fill_3_87 zc hK hM hS hP22 (fun _ _ H locs ls h hl hM hS => h H locs ls hl hM hS) (lv_sub hl [0, 1, 2, 3, 4, 5] rfl) hw
    · have hw := hw.2 hc
      refine lv_aload_n hx hb dX5_fill_49 rfl (lv_at hl 2 rfl) ?_
      refine lv_iload hx hb dX5_fill_50 (lv_at hl 4 rfl) ?_
      refine lv_bipush (v := (9 : Int32)) hx hb dX5_fill_52 (by decide) ?_
      refine lv_imul hx hb dX5_fill_54 ?_
      refine lv_iload hx hb dX5_fill_55 (lv_at hl 5 rfl) ?_
      refine lv_iadd hx hb dX5_fill_57 ?_
      refine lv_iload hx hb dX5_fill_58 (lv_at hl 4 rfl) ?_
      refine lv_iload_n hx hb dX5_fill_60 rfl (lv_at hl 3 rfl) ?_
      refine lv_icmp_ne (tgt := 68) hx hb dX5_fill_61 (by decide) (fun hc => ?_) (fun hc => ?_)
      · have hw := hw.1 hc
        refine lv_aload_n hx hb dX5_fill_68 rfl (lv_at hl 2 rfl) ?_
        refine lv_iload hx hb dX5_fill_69 (lv_at hl 4 rfl) ?_
        refine lv_aload_n hx hb dX5_fill_71 rfl (lv_at hl 0 rfl) ?_
        refine wkg_5_15_0 zc hK hM dX5_fill_72 ?_
        refine lv_iload hx hb dX5_fill_75 (lv_at hl 5 rfl) ?_
        refine wkld_2 zc hK hM hw.1 dX5_fill_77 ?_
        have hw := hw.2
        refine lv_iload hx hb dX5_fill_78 (lv_at hl 4 rfl) ?_
        refine lv_iconst (v := (-1 : Int32)) hx hb dX5_fill_80 (by decide) ?_
        refine lv_ixor hx hb dX5_fill_81 ?_
        refine lv_iand hx hb dX5_fill_82 ?_
        refine zS_i [.ref qz, .int x4, .int ((a_behind (Int32.toNatClampNeg x5)) &&& (x4 ^^^ (-1 : Int32)))] [.int ((x4 * (9 : Int32)) + x5), .ref qz] zc ky_X5_waysOn kz_X5_waysOn km_5_36 (c_wk_X5_waysOn_6 l hw) (wkPreS hK hM) rfl rfl hl.1 (Nat.le_of_ble_eq_true rfl) ⟨rfl, rfl⟩ ⟨Nat.le_of_ble_eq_true rfl, Nat.le_of_ble_eq_true rfl⟩ ⟨(Nat.le_refl _), (Nat.le_refl _)⟩ dX5_fill_83 (fun r_2 hw => ?_)
        exact t_wk_X5_fill_3_86 zc hK hM hS hP22 (fun _ _ H locs ls h hl hM hS => h H locs ls hl hM hS) (lv_sub hl [0, 1, 2, 3, 4, 5] rfl) hw
      · have hw := hw.2 hc
        refine lv_iconst (v := (1 : Int32)) hx hb dX5_fill_64 (by decide) ?_
        refine lv_goto (tgt := 86) hx hb dX5_fill_65 (by decide) ?_
        exact t_wk_X5_fill_3_86 zc hK hM hS hP22 (fun _ _ H locs ls h hl hM hS => h H locs ls hl hM hS) (lv_sub hl [0, 1, 2, 3, 4, 5] rfl) hw
set_option maxRecDepth 20000 in
theorem t_wk_X5_fill_3_22 {p : Program} {l : Launch} {e : Env} {s : State} {m : MethodId} {args : Array Value} {below : List Frame} {meth : Method} {c : Code} {kc ks : Nat} {E : zE} {qk qc qz : Nat} {a_gaps : Nat → Int32} {a_behind : Nat → Int32} {cf_voices : Int32} {cf_step : Int32} {ca_parts : Nat → Int32} {ca_heights : Nat → Int32} {z_tab : Nat → Int32} {post : (Nat → Int32) → (Nat → Int32) → (Nat → Int32) → Prop} {x3 : Int32} {x4 : Int32} {ls : Array Slot} {H : Heap} {locs : List Loc}
    (zc : zC p s m args meth c cX5_fill 6 RX5 none)
    (hK : zK E s)
    (hM : wkW E qk qc qz a_gaps a_behind cf_voices cf_step ca_parts ca_heights z_tab H)
    (hS : va_S (wkA qk qc qz) s.heap H locs)
    (hl : lv_has ls 6 [(0, .ref qk), (1, .ref qc), (2, .ref qz), (3, .int x3), (4, .int x4)])
    (hw : q_wk_X5_fill_3_22 a_gaps a_behind cf_voices cf_step ca_parts ca_heights z_tab x3 x4 post) :
    W p l e (rm_wk_X5_fill_3 kc ks) s m args below meth c H locs kc ks (MQ below (zQv (S := (Nat → Int32) × (Nat → Int32) × (Nat → Int32)) (fun u => post u.1 u.2.1 u.2.2) (fun u H => wkW E qk qc qz u.1 u.2.1 cf_voices cf_step ca_parts ca_heights u.2.2 H) (wkA qk qc qz)) args s kc ks (wkA qk qc qz)) (F0 m 22 ls []) := by
  have hx := zc.1
  have hb := zc.2.1
  refine hw (fun x4 z_tab => ∀ (H : Heap) (locs : List Loc) (ls : Array Slot), lv_has ls 6 [(0, .ref qk), (1, .ref qc), (2, .ref qz), (3, .int x3), (4, .int x4)] → wkW E qk qc qz a_gaps a_behind cf_voices cf_step ca_parts ca_heights z_tab H → va_S (wkA qk qc qz) s.heap H locs → W p l e (rm_wk_X5_fill_3 kc ks) s m args below meth c H locs kc ks (MQ below (zQv (S := (Nat → Int32) × (Nat → Int32) × (Nat → Int32)) (fun u => post u.1 u.2.1 u.2.2) (fun u H => wkW E qk qc qz u.1 u.2.1 cf_voices cf_step ca_parts ca_heights u.2.2 H) (wkA qk qc qz)) args s kc ks (wkA qk qc qz)) (F0 m 22 ls [])) ?_ _ _ _ hl hM hS
  intro x4 z_tab hw H locs ls hl hM hS
  refine lv_iload hx hb dX5_fill_22 (lv_at hl 4 rfl) ?_
  refine lv_if_le (tgt := 99) hx hb dX5_fill_24 (by decide) (fun hc => ?_) (fun hc => ?_)
  · have hw := hw.1 hc
    exact zret_vw ⟨a_gaps, a_behind, z_tab⟩ zc hS hw hM dX5_fill_99
  · have hw := hw.2 hc
    refine lv_iconst (v := (0 : Int32)) hx hb dX5_fill_27 (by decide) ?_
    refine lv_istore (lv' := [(5, .int (0 : Int32)), (0, .ref qk), (1, .ref qc), (2, .ref qz), (3, .int x3), (4, .int x4)]) hx hb dX5_fill_28 hl (by decide) rfl (fun ls hl => ?_)
    exact t_wk_X5_fill_3_30 zc hK hM hS (fun _ _ H locs ls h hl hM hS => h H locs ls hl hM hS) (lv_sub hl [1, 2, 3, 4, 5, 0] rfl) hw
set_option maxRecDepth 20000 in
theorem t_wk_X5_fill_3_10 {p : Program} {l : Launch} {e : Env} {s : State} {m : MethodId} {args : Array Value} {below : List Frame} {meth : Method} {c : Code} {kc ks : Nat} {E : zE} {qk qc qz : Nat} {a_gaps : Nat → Int32} {a_behind : Nat → Int32} {cf_voices : Int32} {cf_step : Int32} {ca_parts : Nat → Int32} {ca_heights : Nat → Int32} {z_tab : Nat → Int32} {post : (Nat → Int32) → (Nat → Int32) → (Nat → Int32) → Prop} {ls : Array Slot} {H : Heap} {locs : List Loc}
    (zc : zC p s m args meth c cX5_fill 6 RX5 none)
    (hK : zK E s)
    (hM : wkW E qk qc qz a_gaps a_behind cf_voices cf_step ca_parts ca_heights z_tab H)
    (hS : va_S (wkA qk qc qz) s.heap H locs)
    (hl : lv_has ls 6 [(0, .ref qk), (1, .ref qc), (2, .ref qz)])
    (hw : q_wk_X5_fill_3_10 a_gaps a_behind cf_voices cf_step ca_parts ca_heights z_tab post) :
    W p l e (rm_wk_X5_fill_3 kc ks) s m args below meth c H locs kc ks (MQ below (zQv (S := (Nat → Int32) × (Nat → Int32) × (Nat → Int32)) (fun u => post u.1 u.2.1 u.2.2) (fun u H => wkW E qk qc qz u.1 u.2.1 cf_voices cf_step ca_parts ca_heights u.2.2 H) (wkA qk qc qz)) args s kc ks (wkA qk qc qz)) (F0 m 10 ls []) := by
  have hx := zc.1
  have hb := zc.2.1
  refine lv_iconst (v := (1 : Int32)) hx hb dX5_fill_10 (by decide) ?_
  refine lv_aload_n hx hb dX5_fill_11 rfl (lv_at hl 1 rfl) ?_
  refine wkg_5_26_3 zc hK hM dX5_fill_12 ?_
  refine lv_ishl hx hb dX5_fill_15 ?_
  refine lv_iconst (v := (1 : Int32)) hx hb dX5_fill_16 (by decide) ?_
  refine lv_isub hx hb dX5_fill_17 ?_
  refine lv_topi (fun v_1 ev_1 => ?_)
  have hw := hw v_1 ev_1
  refine lv_istore_n (lv' := [(3, .int v_1), (0, .ref qk), (1, .ref qc), (2, .ref qz)]) hx hb dX5_fill_18 rfl hl (by decide) rfl (fun ls hl => ?_)
  refine lv_iload_n hx hb dX5_fill_19 rfl (lv_at hl 0 rfl) ?_
  refine lv_istore (lv' := [(4, .int v_1), (3, .int v_1), (0, .ref qk), (1, .ref qc), (2, .ref qz)]) hx hb dX5_fill_20 hl (by decide) rfl (fun ls hl => ?_)
  exact t_wk_X5_fill_3_22 zc hK hM hS  (lv_sub hl [2, 3, 4, 1, 0] rfl) hw
set_option maxRecDepth 20000 in
theorem t_wk_X5_fill_3_0 {p : Program} {l : Launch} {e : Env} {s : State} {m : MethodId} {args : Array Value} {below : List Frame} {meth : Method} {c : Code} {kc ks : Nat} {E : zE} {qk qc qz : Nat} {a_gaps : Nat → Int32} {a_behind : Nat → Int32} {cf_voices : Int32} {cf_step : Int32} {ca_parts : Nat → Int32} {ca_heights : Nat → Int32} {z_tab : Nat → Int32} {post : (Nat → Int32) → (Nat → Int32) → (Nat → Int32) → Prop} {ls : Array Slot} {H : Heap} {locs : List Loc}
    (zc : zC p s m args meth c cX5_fill 6 RX5 none)
    (hK : zK E s)
    (hM : wkW E qk qc qz a_gaps a_behind cf_voices cf_step ca_parts ca_heights z_tab H)
    (hS : va_S (wkA qk qc qz) s.heap H locs)
    (hl : lv_has ls 6 [(0, .ref qk), (1, .ref qc)])
    (hw : q_wk_X5_fill_3_0 a_gaps a_behind cf_voices cf_step ca_parts ca_heights z_tab post) :
    W p l e (rm_wk_X5_fill_3 kc ks) s m args below meth c H locs kc ks (MQ below (zQv (S := (Nat → Int32) × (Nat → Int32) × (Nat → Int32)) (fun u => post u.1 u.2.1 u.2.2) (fun u H => wkW E qk qc qz u.1 u.2.1 cf_voices cf_step ca_parts ca_heights u.2.2 H) (wkA qk qc qz)) args s kc ks (wkA qk qc qz)) (F0 m 0 ls []) := by
  have hx := zc.1
  have hb := zc.2.1
  refine lv_aload_n hx hb dX5_fill_0 rfl (lv_at hl 0 rfl) ?_
  refine lv_aload_n hx hb dX5_fill_1 rfl (lv_at hl 1 rfl) ?_
  refine zVw_v [.ref qc] [] zc ky_X5_measure kz_X5_measure km_5_18 (c_wk_X5_measure_3 l hw) (wkPreV0 hK hM) hS rfl rfl hl.1 (Nat.le_of_ble_eq_true rfl) ⟨rfl, rfl⟩ ⟨Nat.le_of_ble_eq_true rfl, Nat.le_of_ble_eq_true rfl⟩ ⟨(Nat.le_refl _), (Nat.le_refl _)⟩ dX5_fill_2 (fun u H locs hw hM hS => ?_)
  obtain ⟨a_gaps_1, a_behind_1⟩ := u
  refine lv_aload_n hx hb dX5_fill_5 rfl (lv_at hl 0 rfl) ?_
  refine zV_r [] [] zc ky_X5_table kz_X5_table km_5_22 (c_wk_X5_table l hw) (wkPreV0 hK hM) rfl rfl hl.1 (Nat.le_of_ble_eq_true rfl) ⟨rfl, rfl⟩ ⟨Nat.le_of_ble_eq_true rfl, Nat.le_of_ble_eq_true rfl⟩ ⟨(Nat.le_refl _), (Nat.le_refl _)⟩ dX5_fill_6 (fun r_1 hw => ?_)
  by_cases hc0 : r_1 = 0
  · have hw := hw.1 hc0
    exact hw.elim
  have hw := hw.2 hc0
  refine W.eq (g2 := F0 m 9 ls (.ref qz :: [])) (by simp [hc0]) ?_
  refine lv_astore_n (lv' := [(2, .ref qz), (0, .ref qk), (1, .ref qc)]) hx hb dX5_fill_9 rfl hl (by decide) rfl (fun ls hl => ?_)
  exact t_wk_X5_fill_3_10 zc hK hM hS  (lv_sub hl [1, 2, 0] rfl) hw
set_option maxRecDepth 20000 in
theorem c_wk_X5_fill_3 (l : Launch) {E : zE} {qk qc qz : Nat} {a_gaps : Nat → Int32} {a_behind : Nat → Int32} {cf_voices : Int32} {cf_step : Int32} {ca_parts : Nat → Int32} {ca_heights : Nat → Int32} {z_tab : Nat → Int32} {post : (Nat → Int32) → (Nat → Int32) → (Nat → Int32) → Prop} (hw : q_wk_X5_fill_3_0 a_gaps a_behind cf_voices cf_step ca_parts ca_heights z_tab post) : Met l yX5_fill (Cond.code yX5_fill cX5_fill 6 none :: zb) (rm_wk_X5_fill_3 0 0) (va_Pc [.ref qk, .ref qc] (fun U => wkW E qk qc qz a_gaps a_behind cf_voices cf_step ca_parts ca_heights z_tab U.heap ∧ zK E U)) (zQv (S := (Nat → Int32) × (Nat → Int32) × (Nat → Int32)) (fun u => post u.1 u.2.1 u.2.2) (fun u H => wkW E qk qc qz u.1 u.2.1 cf_voices cf_step ca_parts ca_heights u.2.2 H) (wkA qk qc qz)) 0 0 (wkA qk qc qz) := by
  refine Met.ofW (cc := cX5_fill) (maxL := 6) (ret := none) (by decide) rfl ?_
  intro p e s m args below meth c s₁ B hml hv
  obtain ⟨rfl, hM, hK⟩ := hv
  have zc := zc_of B hml
  have hl := lv_entry ([.ref qk, .ref qc]) (n := 6) (Nat.le_of_ble_eq_true rfl)
  rw [lg_entry_eq]
  generalize (lg_sl ([.ref qk, .ref qc]) ++ List.replicate (6 - (lg_sl ([.ref qk, .ref qc])).length) Slot.unset).toArray = ls at hl ⊢
  have hl : lv_has ls 6 [(0, .ref qk), (1, .ref qc)] := hl
  exact t_wk_X5_fill_3_0 zc hK hM va_S.rf (lv_sub hl [0, 1] rfl) hw
-- wk_X5_total_3
abbrev rm_wk_X5_total_3 (kc ks : Nat) : Room := { frames := 1, cells := kc, slots := ks, locals := 20 }
def q_wk_X5_total_3_19 (cf_voices : Int32) (z_tab : Nat → Int32) (x3 : Int32) (x4 : Int32) (post : Int32 → Prop) : Prop :=
  ∀ P19 : Int32 → Int32 → Prop, (∀ (x3 : Int32) (x4 : Int32), ((cf_voices ≤ x4 → (post x3)) ∧ (¬ cf_voices ≤ x4 → (vp_in ((((1 : Int32) <<< (x4 &&& 31)) * (9 : Int32)) + x4) 4608 ∧ (∀ v_1 : Int32, v_1 = (x3 + (z_tab (Int32.toNatClampNeg ((((1 : Int32) <<< (x4 &&& 31)) * (9 : Int32)) + x4)))) → (∀ v_2 : Int32, v_2 = x4 + (1 : Int32) → (P19 v_1 v_2)))))) → P19 x3 x4) → P19 x3 x4
def q_wk_X5_total_3_0 (cf_voices : Int32) (z_tab : Nat → Int32) (post : Int32 → Prop) : Prop :=
  (¬ cf_voices = 0 → (q_wk_X5_table_0 (fun r_1 => (r_1 = 0 → False) ∧ (¬ r_1 = 0 → (q_wk_X5_total_3_19 cf_voices z_tab (0 : Int32) (0 : Int32) post))))) ∧ (cf_voices = 0 → (post (1 : Int32)))
set_option maxRecDepth 20000 in
theorem t_wk_X5_total_3_19 {p : Program} {l : Launch} {e : Env} {s : State} {m : MethodId} {args : Array Value} {below : List Frame} {meth : Method} {c : Code} {kc ks : Nat} {E : zE} {qk qc qz : Nat} {a_gaps : Nat → Int32} {a_behind : Nat → Int32} {cf_voices : Int32} {cf_step : Int32} {ca_parts : Nat → Int32} {ca_heights : Nat → Int32} {z_tab : Nat → Int32} {post : Int32 → Prop} {x3 : Int32} {x4 : Int32} {ls : Array Slot}
    (zc : zC p s m args meth c cX5_total 5 RX5 (some .int))
    (hK : zK E s)
    (hM : wkW E qk qc qz a_gaps a_behind cf_voices cf_step ca_parts ca_heights z_tab s.heap)
    (hl : lv_has ls 5 [(1, .ref qc), (2, .ref qz), (3, .int x3), (4, .int x4)])
    (hw : q_wk_X5_total_3_19 cf_voices z_tab x3 x4 post) :
    W p l e (rm_wk_X5_total_3 kc ks) s m args below meth c s.heap [] kc ks (MQ below (vp_Si post) args s kc ks (fun _ => False)) (F0 m 19 ls []) := by
  have hx := zc.1
  have hb := zc.2.1
  refine hw (fun x3 x4 => ∀ (ls : Array Slot), lv_has ls 5 [(1, .ref qc), (2, .ref qz), (3, .int x3), (4, .int x4)] → W p l e (rm_wk_X5_total_3 kc ks) s m args below meth c s.heap [] kc ks (MQ below (vp_Si post) args s kc ks (fun _ => False)) (F0 m 19 ls [])) ?_ _ hl
  intro x3 x4 hw ls hl
  refine lv_iload hx hb dX5_total_19 (lv_at hl 3 rfl) ?_
  refine lv_aload_n hx hb dX5_total_21 rfl (lv_at hl 0 rfl) ?_
  refine wkg_5_26_3 zc hK hM dX5_total_22 ?_
  refine lv_icmp_ge (tgt := 49) hx hb dX5_total_25 (by decide) (fun hc => ?_) (fun hc => ?_)
  · have hw := hw.1 hc
    refine lv_iload_n hx hb dX5_total_49 rfl (lv_at hl 2 rfl) ?_
    exact zret_i zc hw dX5_total_50
  · have hw := hw.2 hc
    refine lv_iload_n hx hb dX5_total_28 rfl (lv_at hl 2 rfl) ?_
    refine lv_aload_n hx hb dX5_total_29 rfl (lv_at hl 1 rfl) ?_
    refine lv_iconst (v := (1 : Int32)) hx hb dX5_total_30 (by decide) ?_
    refine lv_iload hx hb dX5_total_31 (lv_at hl 3 rfl) ?_
    refine lv_ishl hx hb dX5_total_33 ?_
    refine lv_bipush (v := (9 : Int32)) hx hb dX5_total_34 (by decide) ?_
    refine lv_imul hx hb dX5_total_36 ?_
    refine lv_iload hx hb dX5_total_37 (lv_at hl 3 rfl) ?_
    refine lv_iadd hx hb dX5_total_39 ?_
    refine wkld_6 zc hK hM hw.1 dX5_total_40 ?_
    have hw := hw.2
    refine lv_iadd hx hb dX5_total_41 ?_
    refine lv_topi (fun v_1 ev_1 => ?_)
    have hw := hw v_1 ev_1
    refine lv_istore_n (lv' := [(3, .int v_1), (1, .ref qc), (2, .ref qz), (4, .int x4)]) hx hb dX5_total_42 rfl hl (by decide) rfl (fun ls hl => ?_)
    obtain ⟨v_2, ev_2⟩ : ∃ y : Int32, y = x4 + (1 : Int32) := ⟨_, rfl⟩
    have hw := hw v_2 ev_2
    refine lv_iinc (v := v_2) (k := 3) (lv' := [(4, .int v_2), (3, .int v_1), (1, .ref qc), (2, .ref qz)]) hx hb dX5_total_43 hl rfl (by rw [ev_2]; rfl) (by decide) rfl (fun ls hl => ?_)
    refine lv_goto (tgt := 19) hx hb dX5_total_46 (by decide) ?_
    exact hw _ (lv_sub hl [2, 3, 1, 0] rfl)
set_option maxRecDepth 20000 in
theorem t_wk_X5_total_3_0 {p : Program} {l : Launch} {e : Env} {s : State} {m : MethodId} {args : Array Value} {below : List Frame} {meth : Method} {c : Code} {kc ks : Nat} {E : zE} {qk qc qz : Nat} {a_gaps : Nat → Int32} {a_behind : Nat → Int32} {cf_voices : Int32} {cf_step : Int32} {ca_parts : Nat → Int32} {ca_heights : Nat → Int32} {z_tab : Nat → Int32} {post : Int32 → Prop} {ls : Array Slot}
    (zc : zC p s m args meth c cX5_total 5 RX5 (some .int))
    (hK : zK E s)
    (hM : wkW E qk qc qz a_gaps a_behind cf_voices cf_step ca_parts ca_heights z_tab s.heap)
    (hl : lv_has ls 5 [(0, .ref qk), (1, .ref qc)])
    (hw : q_wk_X5_total_3_0 cf_voices z_tab post) :
    W p l e (rm_wk_X5_total_3 kc ks) s m args below meth c s.heap [] kc ks (MQ below (vp_Si post) args s kc ks (fun _ => False)) (F0 m 0 ls []) := by
  have hx := zc.1
  have hb := zc.2.1
  refine lv_aload_n hx hb dX5_total_0 rfl (lv_at hl 1 rfl) ?_
  refine wkg_5_26_3 zc hK hM dX5_total_1 ?_
  refine lv_if_ne (tgt := 9) hx hb dX5_total_4 (by decide) (fun hc => ?_) (fun hc => ?_)
  · have hw := hw.1 hc
    refine lv_aload_n hx hb dX5_total_9 rfl (lv_at hl 0 rfl) ?_
    refine zV_r [] [] zc ky_X5_table kz_X5_table km_5_22 (c_wk_X5_table l hw) (wkPreV0 hK hM) rfl rfl hl.1 (Nat.le_of_ble_eq_true rfl) ⟨rfl, rfl⟩ ⟨Nat.le_of_ble_eq_true rfl, Nat.le_of_ble_eq_true rfl⟩ ⟨(Nat.le_refl _), (Nat.le_refl _)⟩ dX5_total_10 (fun r_1 hw => ?_)
    by_cases hc0 : r_1 = 0
    · have hw := hw.1 hc0
      exact hw.elim
    have hw := hw.2 hc0
    refine W.eq (g2 := F0 m 13 ls (.ref qz :: [])) (by simp [hc0]) ?_
    refine lv_astore_n (lv' := [(2, .ref qz), (0, .ref qk), (1, .ref qc)]) hx hb dX5_total_13 rfl hl (by decide) rfl (fun ls hl => ?_)
    refine lv_iconst (v := (0 : Int32)) hx hb dX5_total_14 (by decide) ?_
    refine lv_istore_n (lv' := [(3, .int (0 : Int32)), (2, .ref qz), (0, .ref qk), (1, .ref qc)]) hx hb dX5_total_15 rfl hl (by decide) rfl (fun ls hl => ?_)
    refine lv_iconst (v := (0 : Int32)) hx hb dX5_total_16 (by decide) ?_
    refine lv_istore (lv' := [(4, .int (0 : Int32)), (3, .int (0 : Int32)), (2, .ref qz), (0, .ref qk), (1, .ref qc)]) hx hb dX5_total_17 hl (by decide) rfl (fun ls hl => ?_)
    exact t_wk_X5_total_3_19 zc hK hM  (lv_sub hl [4, 2, 1, 0] rfl) hw
  · have hw := hw.2 hc
    refine lv_iconst (v := (1 : Int32)) hx hb dX5_total_7 (by decide) ?_
    exact zret_i zc hw dX5_total_8
set_option maxRecDepth 20000 in
theorem c_wk_X5_total_3 (l : Launch) {E : zE} {qk qc qz : Nat} {a_gaps : Nat → Int32} {a_behind : Nat → Int32} {cf_voices : Int32} {cf_step : Int32} {ca_parts : Nat → Int32} {ca_heights : Nat → Int32} {z_tab : Nat → Int32} {post : Int32 → Prop} (hw : q_wk_X5_total_3_0 cf_voices z_tab post) : Met l yX5_total (Cond.code yX5_total cX5_total 5 (some .int) :: zb) (rm_wk_X5_total_3 0 0) (va_Pc [.ref qk, .ref qc] (fun U => wkW E qk qc qz a_gaps a_behind cf_voices cf_step ca_parts ca_heights z_tab U.heap ∧ zK E U)) (vp_Si post) 0 0 (fun _ => False) := by
  refine Met.ofW (cc := cX5_total) (maxL := 5) (ret := (some .int)) (by decide) rfl ?_
  intro p e s m args below meth c s₁ B hml hv
  obtain ⟨rfl, hM, hK⟩ := hv
  have zc := zc_of B hml
  have hl := lv_entry ([.ref qk, .ref qc]) (n := 5) (Nat.le_of_ble_eq_true rfl)
  rw [lg_entry_eq]
  generalize (lg_sl ([.ref qk, .ref qc]) ++ List.replicate (5 - (lg_sl ([.ref qk, .ref qc])).length) Slot.unset).toArray = ls at hl ⊢
  have hl : lv_has ls 5 [(0, .ref qk), (1, .ref qc)] := hl
  exact t_wk_X5_total_3_0 zc hK hM (lv_sub hl [0, 1] rfl) hw
-- wk_X5_firstOf
abbrev rm_wk_X5_firstOf (kc ks : Nat) : Room := { frames := 1, cells := kc, slots := ks, locals := 21 }
def q_wk_X5_firstOf_44 (P8 : Int32 → Prop) (z_tab : Nat → Int32) (x1 : Int32) (x2 : Int32) (x4 : Int32) (post : Int32 → Prop) : Prop :=
  ∀ v_1 : Int32, v_1 = x4 + (1 : Int32) → (P8 v_1)
def q_wk_X5_firstOf_8 (z_tab : Nat → Int32) (x1 : Int32) (x2 : Int32) (x4 : Int32) (post : Int32 → Prop) : Prop :=
  ∀ P8 : Int32 → Prop, (∀ (x4 : Int32), (((9 : Int32) ≤ x4 → (post (-1 : Int32))) ∧ (¬ (9 : Int32) ≤ x4 → (q_z_X10_has_0 x2 x4 (fun r_1 => (r_1 = 0 → (q_wk_X5_firstOf_44 P8 z_tab x1 x2 x4 post)) ∧ (¬ r_1 = 0 → (vp_in (((x1 ||| ((1 : Int32) <<< (x4 &&& 31))) * (9 : Int32)) + x4) 4608 ∧ (((z_tab (Int32.toNatClampNeg (((x1 ||| ((1 : Int32) <<< (x4 &&& 31))) * (9 : Int32)) + x4))) ≤ 0 → (q_wk_X5_firstOf_44 P8 z_tab x1 x2 x4 post)) ∧ (¬ (z_tab (Int32.toNatClampNeg (((x1 ||| ((1 : Int32) <<< (x4 &&& 31))) * (9 : Int32)) + x4))) ≤ 0 → (post x4))))))))) → P8 x4) → P8 x4
def q_wk_X5_firstOf_0 (z_tab : Nat → Int32) (x1 : Int32) (x2 : Int32) (post : Int32 → Prop) : Prop :=
  q_wk_X5_table_0 (fun r_1 => (r_1 = 0 → False) ∧ (¬ r_1 = 0 → (q_wk_X5_firstOf_8 z_tab x1 x2 (0 : Int32) post)))
set_option maxRecDepth 20000 in
theorem t_wk_X5_firstOf_44 {p : Program} {l : Launch} {e : Env} {s : State} {m : MethodId} {args : Array Value} {below : List Frame} {meth : Method} {c : Code} {kc ks : Nat} {E : zE} {qk qc qz : Nat} {a_gaps : Nat → Int32} {a_behind : Nat → Int32} {cf_voices : Int32} {cf_step : Int32} {ca_parts : Nat → Int32} {ca_heights : Nat → Int32} {z_tab : Nat → Int32} {P8 : Int32 → Prop} {post : Int32 → Prop} {x1 : Int32} {x2 : Int32} {x4 : Int32} {ls : Array Slot}
    (zc : zC p s m args meth c cX5_firstOf 5 RX5 (some .int))
    (hK : zK E s)
    (hM : wkW E qk qc qz a_gaps a_behind cf_voices cf_step ca_parts ca_heights z_tab s.heap)
    (hP8 : ∀ (x4 : Int32) (ls : Array Slot), P8 x4 → lv_has ls 5 [(1, .int x1), (2, .int x2), (3, .ref qz), (4, .int x4)] → W p l e (rm_wk_X5_firstOf kc ks) s m args below meth c s.heap [] kc ks (MQ below (vp_Si post) args s kc ks (fun _ => False)) (F0 m 8 ls []))
    (hl : lv_has ls 5 [(1, .int x1), (2, .int x2), (3, .ref qz), (4, .int x4)])
    (hw : q_wk_X5_firstOf_44 P8 z_tab x1 x2 x4 post) :
    W p l e (rm_wk_X5_firstOf kc ks) s m args below meth c s.heap [] kc ks (MQ below (vp_Si post) args s kc ks (fun _ => False)) (F0 m 44 ls []) := by
  have hx := zc.1
  have hb := zc.2.1
  obtain ⟨v_1, ev_1⟩ : ∃ y : Int32, y = x4 + (1 : Int32) := ⟨_, rfl⟩
  have hw := hw v_1 ev_1
  refine lv_iinc (v := v_1) (k := 3) (lv' := [(4, .int v_1), (1, .int x1), (2, .int x2), (3, .ref qz)]) hx hb dX5_firstOf_44 hl rfl (by rw [ev_1]; rfl) (by decide) rfl (fun ls hl => ?_)
  refine lv_goto (tgt := 8) hx hb dX5_firstOf_47 (by decide) ?_
  exact hP8 _ _ hw (lv_sub hl [1, 2, 3, 0] rfl)
set_option maxRecDepth 20000 in
theorem t_wk_X5_firstOf_8 {p : Program} {l : Launch} {e : Env} {s : State} {m : MethodId} {args : Array Value} {below : List Frame} {meth : Method} {c : Code} {kc ks : Nat} {E : zE} {qk qc qz : Nat} {a_gaps : Nat → Int32} {a_behind : Nat → Int32} {cf_voices : Int32} {cf_step : Int32} {ca_parts : Nat → Int32} {ca_heights : Nat → Int32} {z_tab : Nat → Int32} {post : Int32 → Prop} {x1 : Int32} {x2 : Int32} {x4 : Int32} {ls : Array Slot}
    (zc : zC p s m args meth c cX5_firstOf 5 RX5 (some .int))
    (hK : zK E s)
    (hM : wkW E qk qc qz a_gaps a_behind cf_voices cf_step ca_parts ca_heights z_tab s.heap)
    (hl : lv_has ls 5 [(1, .int x1), (2, .int x2), (3, .ref qz), (4, .int x4)])
    (hw : q_wk_X5_firstOf_8 z_tab x1 x2 x4 post) :
    W p l e (rm_wk_X5_firstOf kc ks) s m args below meth c s.heap [] kc ks (MQ below (vp_Si post) args s kc ks (fun _ => False)) (F0 m 8 ls []) := by
  have hx := zc.1
  have hb := zc.2.1
  refine hw (fun x4 => ∀ (ls : Array Slot), lv_has ls 5 [(1, .int x1), (2, .int x2), (3, .ref qz), (4, .int x4)] → W p l e (rm_wk_X5_firstOf kc ks) s m args below meth c s.heap [] kc ks (MQ below (vp_Si post) args s kc ks (fun _ => False)) (F0 m 8 ls [])) ?_ _ hl
  intro x4 hw ls hl
  refine lv_iload hx hb dX5_firstOf_8 (lv_at hl 3 rfl) ?_
  refine lv_bipush (v := (9 : Int32)) hx hb dX5_firstOf_10 (by decide) ?_
  refine lv_icmp_ge (tgt := 50) hx hb dX5_firstOf_12 (by decide) (fun hc => ?_) (fun hc => ?_)
  · have hw := hw.1 hc
    refine lv_iconst (v := (-1 : Int32)) hx hb dX5_firstOf_50 (by decide) ?_
    exact zret_i zc hw dX5_firstOf_51
  · have hw := hw.2 hc
    refine lv_iload_n hx hb dX5_firstOf_15 rfl (lv_at hl 1 rfl) ?_
    refine lv_iload hx hb dX5_firstOf_16 (lv_at hl 3 rfl) ?_
    refine zSN_i [.int x2, .int x4] [] zc ky_X10_has kz_X10_has (hK.2 _ kn_5_32) (c_z_X10_has l hw) (zPre0 _) rfl rfl hl.1 (Nat.le_of_ble_eq_true rfl) ⟨rfl, rfl⟩ ⟨Nat.le_of_ble_eq_true rfl, Nat.le_of_ble_eq_true rfl⟩ ⟨(Nat.le_refl _), (Nat.le_refl _)⟩ dX5_firstOf_18 (fun r_1 hw => ?_)
    refine lv_if_eq (tgt := 44) hx hb dX5_firstOf_21 (by decide) (fun hc => ?_) (fun hc => ?_)
    · have hw := hw.1 hc
      exact t_wk_X5_firstOf_44 zc hK hM (fun _ ls h hl => h ls hl) (lv_sub hl [0, 1, 2, 3] rfl) hw
    · have hw := hw.2 hc
      refine lv_aload_n hx hb dX5_firstOf_24 rfl (lv_at hl 2 rfl) ?_
      refine lv_iload_n hx hb dX5_firstOf_25 rfl (lv_at hl 0 rfl) ?_
      refine lv_iconst (v := (1 : Int32)) hx hb dX5_firstOf_26 (by decide) ?_
      refine lv_iload hx hb dX5_firstOf_27 (lv_at hl 3 rfl) ?_
      refine lv_ishl hx hb dX5_firstOf_29 ?_
      refine lv_ior hx hb dX5_firstOf_30 ?_
      refine lv_bipush (v := (9 : Int32)) hx hb dX5_firstOf_31 (by decide) ?_
      refine lv_imul hx hb dX5_firstOf_33 ?_
      refine lv_iload hx hb dX5_firstOf_34 (lv_at hl 3 rfl) ?_
      refine lv_iadd hx hb dX5_firstOf_36 ?_
      refine wkld_6 zc hK hM hw.1 dX5_firstOf_37 ?_
      have hw := hw.2
      refine lv_if_le (tgt := 44) hx hb dX5_firstOf_38 (by decide) (fun hc => ?_) (fun hc => ?_)
      · have hw := hw.1 hc
        exact t_wk_X5_firstOf_44 zc hK hM (fun _ ls h hl => h ls hl) (lv_sub hl [0, 1, 2, 3] rfl) hw
      · have hw := hw.2 hc
        refine lv_iload hx hb dX5_firstOf_41 (lv_at hl 3 rfl) ?_
        exact zret_i zc hw dX5_firstOf_43
set_option maxRecDepth 20000 in
theorem t_wk_X5_firstOf_0 {p : Program} {l : Launch} {e : Env} {s : State} {m : MethodId} {args : Array Value} {below : List Frame} {meth : Method} {c : Code} {kc ks : Nat} {E : zE} {qk qc qz : Nat} {a_gaps : Nat → Int32} {a_behind : Nat → Int32} {cf_voices : Int32} {cf_step : Int32} {ca_parts : Nat → Int32} {ca_heights : Nat → Int32} {z_tab : Nat → Int32} {post : Int32 → Prop} {x1 : Int32} {x2 : Int32} {ls : Array Slot}
    (zc : zC p s m args meth c cX5_firstOf 5 RX5 (some .int))
    (hK : zK E s)
    (hM : wkW E qk qc qz a_gaps a_behind cf_voices cf_step ca_parts ca_heights z_tab s.heap)
    (hl : lv_has ls 5 [(0, .ref qk), (1, .int x1), (2, .int x2)])
    (hw : q_wk_X5_firstOf_0 z_tab x1 x2 post) :
    W p l e (rm_wk_X5_firstOf kc ks) s m args below meth c s.heap [] kc ks (MQ below (vp_Si post) args s kc ks (fun _ => False)) (F0 m 0 ls []) := by
  have hx := zc.1
  have hb := zc.2.1
  refine lv_aload_n hx hb dX5_firstOf_0 rfl (lv_at hl 0 rfl) ?_
  refine zV_r [] [] zc ky_X5_table kz_X5_table km_5_22 (c_wk_X5_table l hw) (wkPreV0 hK hM) rfl rfl hl.1 (Nat.le_of_ble_eq_true rfl) ⟨rfl, rfl⟩ ⟨Nat.le_of_ble_eq_true rfl, Nat.le_of_ble_eq_true rfl⟩ ⟨(Nat.le_refl _), (Nat.le_refl _)⟩ dX5_firstOf_1 (fun r_1 hw => ?_)
  by_cases hc0 : r_1 = 0
  · have hw := hw.1 hc0
    exact hw.elim
  have hw := hw.2 hc0
  refine W.eq (g2 := F0 m 4 ls (.ref qz :: [])) (by simp [hc0]) ?_
  refine lv_astore_n (lv' := [(3, .ref qz), (0, .ref qk), (1, .int x1), (2, .int x2)]) hx hb dX5_firstOf_4 rfl hl (by decide) rfl (fun ls hl => ?_)
  refine lv_iconst (v := (0 : Int32)) hx hb dX5_firstOf_5 (by decide) ?_
  refine lv_istore (lv' := [(4, .int (0 : Int32)), (3, .ref qz), (0, .ref qk), (1, .int x1), (2, .int x2)]) hx hb dX5_firstOf_6 hl (by decide) rfl (fun ls hl => ?_)
  exact t_wk_X5_firstOf_8 zc hK hM  (lv_sub hl [3, 4, 1, 0] rfl) hw
set_option maxRecDepth 20000 in
theorem c_wk_X5_firstOf (l : Launch) {E : zE} {qk qc qz : Nat} {a_gaps : Nat → Int32} {a_behind : Nat → Int32} {cf_voices : Int32} {cf_step : Int32} {ca_parts : Nat → Int32} {ca_heights : Nat → Int32} {z_tab : Nat → Int32} {x1 : Int32} {x2 : Int32} {post : Int32 → Prop} (hw : q_wk_X5_firstOf_0 z_tab x1 x2 post) : Met l yX5_firstOf (Cond.code yX5_firstOf cX5_firstOf 5 (some .int) :: zb) (rm_wk_X5_firstOf 0 0) (va_Pc [.ref qk, .int x1, .int x2] (fun U => wkW E qk qc qz a_gaps a_behind cf_voices cf_step ca_parts ca_heights z_tab U.heap ∧ zK E U)) (vp_Si post) 0 0 (fun _ => False) := by
  refine Met.ofW (cc := cX5_firstOf) (maxL := 5) (ret := (some .int)) (by decide) rfl ?_
  intro p e s m args below meth c s₁ B hml hv
  obtain ⟨rfl, hM, hK⟩ := hv
  have zc := zc_of B hml
  have hl := lv_entry ([.ref qk, .int x1, .int x2]) (n := 5) (Nat.le_of_ble_eq_true rfl)
  rw [lg_entry_eq]
  generalize (lg_sl ([.ref qk, .int x1, .int x2]) ++ List.replicate (5 - (lg_sl ([.ref qk, .int x1, .int x2])).length) Slot.unset).toArray = ls at hl ⊢
  have hl : lv_has ls 5 [(0, .ref qk), (1, .int x1), (2, .int x2)] := hl
  exact t_wk_X5_firstOf_0 zc hK hM (lv_sub hl [0, 1, 2] rfl) hw
-- wk_X5_voiceAt_3
abbrev rm_wk_X5_voiceAt_3 (kc ks : Nat) : Room := { frames := 2, cells := kc, slots := ks, locals := 45 }
def q_wk_X5_voiceAt_3_18 (a_behind : Nat → Int32) (cf_voices : Int32) (z_tab : Nat → Int32) (x2 : Int32) (x3 : Int32) (x4 : Int32) (x5 : Int32) (x6 : Int32) (post : Int32 → Prop) : Prop :=
  ∀ P18 : Int32 → Int32 → Int32 → Int32 → Prop, (∀ (x3 : Int32) (x4 : Int32) (x5 : Int32) (x6 : Int32), ((x2 < x6 → (post x5)) ∧ (¬ x2 < x6 → (q_wk_X5_firstOf_0 z_tab x3 x4 (fun r_1 => (¬ r_1 = (-1 : Int32) → (∀ v_1 : Int32, v_1 = (x3 ||| ((1 : Int32) <<< (r_1 &&& 31))) → (vp_in r_1 9 ∧ (∀ v_2 : Int32, v_2 = ((a_behind (Int32.toNatClampNeg r_1)) &&& (v_1 ^^^ (-1 : Int32))) → (∀ v_3 : Int32, v_3 = x6 + (1 : Int32) → (P18 v_1 v_2 r_1 v_3)))))) ∧ (r_1 = (-1 : Int32) → (post (-1 : Int32))))))) → P18 x3 x4 x5 x6) → P18 x3 x4 x5 x6
def q_wk_X5_voiceAt_3_0 (a_behind : Nat → Int32) (cf_voices : Int32) (z_tab : Nat → Int32) (x2 : Int32) (post : Int32 → Prop) : Prop :=
  ∀ v_1 : Int32, v_1 = (((1 : Int32) <<< (cf_voices &&& 31)) - (1 : Int32)) → (q_wk_X5_voiceAt_3_18 a_behind cf_voices z_tab x2 (0 : Int32) v_1 (-1 : Int32) (0 : Int32) post)
set_option maxRecDepth 20000 in
theorem t_wk_X5_voiceAt_3_18 {p : Program} {l : Launch} {e : Env} {s : State} {m : MethodId} {args : Array Value} {below : List Frame} {meth : Method} {c : Code} {kc ks : Nat} {E : zE} {qk qc qz : Nat} {a_gaps : Nat → Int32} {a_behind : Nat → Int32} {cf_voices : Int32} {cf_step : Int32} {ca_parts : Nat → Int32} {ca_heights : Nat → Int32} {z_tab : Nat → Int32} {post : Int32 → Prop} {x2 : Int32} {x3 : Int32} {x4 : Int32} {x5 : Int32} {x6 : Int32} {ls : Array Slot}
    (zc : zC p s m args meth c cX5_voiceAt 7 RX5 (some .int))
    (hK : zK E s)
    (hM : wkW E qk qc qz a_gaps a_behind cf_voices cf_step ca_parts ca_heights z_tab s.heap)
    (hl : lv_has ls 7 [(0, .ref qk), (2, .int x2), (3, .int x3), (4, .int x4), (5, .int x5), (6, .int x6)])
    (hw : q_wk_X5_voiceAt_3_18 a_behind cf_voices z_tab x2 x3 x4 x5 x6 post) :
    W p l e (rm_wk_X5_voiceAt_3 kc ks) s m args below meth c s.heap [] kc ks (MQ below (vp_Si post) args s kc ks (fun _ => False)) (F0 m 18 ls []) := by
  have hx := zc.1
  have hb := zc.2.1
  refine hw (fun x3 x4 x5 x6 => ∀ (ls : Array Slot), lv_has ls 7 [(0, .ref qk), (2, .int x2), (3, .int x3), (4, .int x4), (5, .int x5), (6, .int x6)] → W p l e (rm_wk_X5_voiceAt_3 kc ks) s m args below meth c s.heap [] kc ks (MQ below (vp_Si post) args s kc ks (fun _ => False)) (F0 m 18 ls [])) ?_ _ hl
  intro x3 x4 x5 x6 hw ls hl
  refine lv_iload hx hb dX5_voiceAt_18 (lv_at hl 5 rfl) ?_
  refine lv_iload_n hx hb dX5_voiceAt_20 rfl (lv_at hl 1 rfl) ?_
  refine lv_icmp_gt (tgt := 67) hx hb dX5_voiceAt_21 (by decide) (fun hc => ?_) (fun hc => ?_)
  · have hw := hw.1 hc
    refine lv_iload hx hb dX5_voiceAt_67 (lv_at hl 4 rfl) ?_
    exact zret_i zc hw dX5_voiceAt_69
  · have hw := hw.2 hc
    refine lv_aload_n hx hb dX5_voiceAt_24 rfl (lv_at hl 0 rfl) ?_
    refine lv_iload_n hx hb dX5_voiceAt_25 rfl (lv_at hl 2 rfl) ?_
    refine lv_iload hx hb dX5_voiceAt_26 (lv_at hl 3 rfl) ?_
    refine zV_i [.int x3, .int x4] [] zc ky_X5_firstOf kz_X5_firstOf km_5_47 (c_wk_X5_firstOf l hw) (wkPreV0 hK hM) rfl rfl hl.1 (Nat.le_of_ble_eq_true rfl) ⟨rfl, rfl⟩ ⟨Nat.le_of_ble_eq_true rfl, Nat.le_of_ble_eq_true rfl⟩ ⟨(Nat.le_refl _), (Nat.le_refl _)⟩ dX5_voiceAt_28 (fun r_1 hw => ?_)
    refine lv_istore (lv' := [(5, .int r_1), (0, .ref qk), (2, .int x2), (3, .int x3), (4, .int x4), (6, .int x6)]) hx hb dX5_voiceAt_31 hl (by decide) rfl (fun ls hl => ?_)
    refine lv_iload hx hb dX5_voiceAt_33 (lv_at hl 0 rfl) ?_
    refine lv_iconst (v := (-1 : Int32)) hx hb dX5_voiceAt_35 (by decide) ?_
    refine lv_icmp_ne (tgt := 41) hx hb dX5_voiceAt_36 (by decide) (fun hc => ?_) (fun hc => ?_)
    · have hw := hw.1 hc
      refine lv_iload_n hx hb dX5_voiceAt_41 rfl (lv_at hl 3 rfl) ?_
      refine lv_iconst (v := (1 : Int32)) hx hb dX5_voiceAt_42 (by decide) ?_
      refine lv_iload hx hb dX5_voiceAt_43 (lv_at hl 0 rfl) ?_
      refine lv_ishl hx hb dX5_voiceAt_45 ?_
      refine lv_ior hx hb dX5_voiceAt_46 ?_
      refine lv_topi (fun v_1 ev_1 => ?_)
      have hw := hw v_1 ev_1
      refine lv_istore_n (lv' := [(3, .int v_1), (5, .int r_1), (0, .ref qk), (2, .int x2), (4, .int x4), (6, .int x6)]) hx hb dX5_voiceAt_47 rfl hl (by decide) rfl (fun ls hl => ?_)
      refine lv_aload_n hx hb dX5_voiceAt_48 rfl (lv_at hl 2 rfl) ?_
      refine wkg_5_15_0 zc hK hM dX5_voiceAt_49 ?_
      refine lv_iload hx hb dX5_voiceAt_52 (lv_at hl 1 rfl) ?_
      refine wkld_2 zc hK hM hw.1 dX5_voiceAt_54 ?_
      have hw := hw.2
      refine lv_iload_n hx hb dX5_voiceAt_55 rfl (lv_at hl 0 rfl) ?_
      refine lv_iconst (v := (-1 : Int32)) hx hb dX5_voiceAt_56 (by decide) ?_
      refine lv_ixor hx hb dX5_voiceAt_57 ?_
      refine lv_iand hx hb dX5_voiceAt_58 ?_
      refine lv_topi (fun v_2 ev_2 => ?_)
      have hw := hw v_2 ev_2
      refine lv_istore (lv' := [(4, .int v_2), (3, .int v_1), (5, .int r_1), (0, .ref qk), (2, .int x2), (6, .int x6)]) hx hb dX5_voiceAt_59 hl (by decide) rfl (fun ls hl => ?_)
      obtain ⟨v_3, ev_3⟩ : ∃ y : Int32, y = x6 + (1 : Int32) := ⟨_, rfl⟩
      have hw := hw v_3 ev_3
      refine lv_iinc (v := v_3) (k := 5) (lv' := [(6, .int v_3), (4, .int v_2), (3, .int v_1), (5, .int r_1), (0, .ref qk), (2, .int x2)]) hx hb dX5_voiceAt_61 hl rfl (by rw [ev_3]; rfl) (by decide) rfl (fun ls hl => ?_)
      refine lv_goto (tgt := 18) hx hb dX5_voiceAt_64 (by decide) ?_
      exact hw _ (lv_sub hl [4, 5, 2, 1, 3, 0] rfl)
    · have hw := hw.2 hc
      refine lv_iconst (v := (-1 : Int32)) hx hb dX5_voiceAt_39 (by decide) ?_
      exact zret_i zc hw dX5_voiceAt_40
set_option maxRecDepth 20000 in
theorem t_wk_X5_voiceAt_3_0 {p : Program} {l : Launch} {e : Env} {s : State} {m : MethodId} {args : Array Value} {below : List Frame} {meth : Method} {c : Code} {kc ks : Nat} {E : zE} {qk qc qz : Nat} {a_gaps : Nat → Int32} {a_behind : Nat → Int32} {cf_voices : Int32} {cf_step : Int32} {ca_parts : Nat → Int32} {ca_heights : Nat → Int32} {z_tab : Nat → Int32} {post : Int32 → Prop} {x2 : Int32} {ls : Array Slot}
    (zc : zC p s m args meth c cX5_voiceAt 7 RX5 (some .int))
    (hK : zK E s)
    (hM : wkW E qk qc qz a_gaps a_behind cf_voices cf_step ca_parts ca_heights z_tab s.heap)
    (hl : lv_has ls 7 [(0, .ref qk), (1, .ref qc), (2, .int x2)])
    (hw : q_wk_X5_voiceAt_3_0 a_behind cf_voices z_tab x2 post) :
    W p l e (rm_wk_X5_voiceAt_3 kc ks) s m args below meth c s.heap [] kc ks (MQ below (vp_Si post) args s kc ks (fun _ => False)) (F0 m 0 ls []) := by
  have hx := zc.1
  have hb := zc.2.1
  refine lv_iconst (v := (0 : Int32)) hx hb dX5_voiceAt_0 (by decide) ?_
  refine lv_istore_n (lv' := [(3, .int (0 : Int32)), (0, .ref qk), (1, .ref qc), (2, .int x2)]) hx hb dX5_voiceAt_1 rfl hl (by decide) rfl (fun ls hl => ?_)
  refine lv_iconst (v := (1 : Int32)) hx hb dX5_voiceAt_2 (by decide) ?_
  refine lv_aload_n hx hb dX5_voiceAt_3 rfl (lv_at hl 2 rfl) ?_
  refine wkg_5_26_3 zc hK hM dX5_voiceAt_4 ?_
  refine lv_ishl hx hb dX5_voiceAt_7 ?_
  refine lv_iconst (v := (1 : Int32)) hx hb dX5_voiceAt_8 (by decide) ?_
  refine lv_isub hx hb dX5_voiceAt_9 ?_
  refine lv_topi (fun v_1 ev_1 => ?_)
  have hw := hw v_1 ev_1
  refine lv_istore (lv' := [(4, .int v_1), (3, .int (0 : Int32)), (0, .ref qk), (1, .ref qc), (2, .int x2)]) hx hb dX5_voiceAt_10 hl (by decide) rfl (fun ls hl => ?_)
  refine lv_iconst (v := (-1 : Int32)) hx hb dX5_voiceAt_12 (by decide) ?_
  refine lv_istore (lv' := [(5, .int (-1 : Int32)), (4, .int v_1), (3, .int (0 : Int32)), (0, .ref qk), (1, .ref qc), (2, .int x2)]) hx hb dX5_voiceAt_13 hl (by decide) rfl (fun ls hl => ?_)
  refine lv_iconst (v := (0 : Int32)) hx hb dX5_voiceAt_15 (by decide) ?_
  refine lv_istore (lv' := [(6, .int (0 : Int32)), (5, .int (-1 : Int32)), (4, .int v_1), (3, .int (0 : Int32)), (0, .ref qk), (1, .ref qc), (2, .int x2)]) hx hb dX5_voiceAt_16 hl (by decide) rfl (fun ls hl => ?_)
  exact t_wk_X5_voiceAt_3_18 zc hK hM  (lv_sub hl [4, 6, 3, 2, 1, 0] rfl) hw
set_option maxRecDepth 20000 in
theorem c_wk_X5_voiceAt_3 (l : Launch) {E : zE} {qk qc qz : Nat} {a_gaps : Nat → Int32} {a_behind : Nat → Int32} {cf_voices : Int32} {cf_step : Int32} {ca_parts : Nat → Int32} {ca_heights : Nat → Int32} {z_tab : Nat → Int32} {x2 : Int32} {post : Int32 → Prop} (hw : q_wk_X5_voiceAt_3_0 a_behind cf_voices z_tab x2 post) : Met l yX5_voiceAt (Cond.code yX5_voiceAt cX5_voiceAt 7 (some .int) :: zb) (rm_wk_X5_voiceAt_3 0 0) (va_Pc [.ref qk, .ref qc, .int x2] (fun U => wkW E qk qc qz a_gaps a_behind cf_voices cf_step ca_parts ca_heights z_tab U.heap ∧ zK E U)) (vp_Si post) 0 0 (fun _ => False) := by
  refine Met.ofW (cc := cX5_voiceAt) (maxL := 7) (ret := (some .int)) (by decide) rfl ?_
  intro p e s m args below meth c s₁ B hml hv
  obtain ⟨rfl, hM, hK⟩ := hv
  have zc := zc_of B hml
  have hl := lv_entry ([.ref qk, .ref qc, .int x2]) (n := 7) (Nat.le_of_ble_eq_true rfl)
  rw [lg_entry_eq]
  generalize (lg_sl ([.ref qk, .ref qc, .int x2]) ++ List.replicate (7 - (lg_sl ([.ref qk, .ref qc, .int x2])).length) Slot.unset).toArray = ls at hl ⊢
  have hl : lv_has ls 7 [(0, .ref qk), (1, .ref qc), (2, .int x2)] := hl
  exact t_wk_X5_voiceAt_3_0 zc hK hM (lv_sub hl [0, 1, 2] rfl) hw
-- wk_X5_stepOn_6
abbrev rm_wk_X5_stepOn_6 (kc ks : Nat) : Room := { frames := 1, cells := kc, slots := ks, locals := 40 }
def q_wk_X5_stepOn_6_79 (P8 : Int32 → Int32 → Prop) (a_gaps : Nat → Int32) (z_tab : Nat → Int32) (x2 : Int32) (x3 : Int32) (x4 : Int32) (x5 : Int32) (x6 : Int32) (post : Int32 → Prop) : Prop :=
  ∀ v_1 : Int32, v_1 = x6 + (1 : Int32) → (P8 x5 v_1)
def q_wk_X5_stepOn_6_8 (a_gaps : Nat → Int32) (z_tab : Nat → Int32) (x2 : Int32) (x3 : Int32) (x4 : Int32) (x5 : Int32) (x6 : Int32) (post : Int32 → Prop) : Prop :=
  ∀ P8 : Int32 → Int32 → Prop, (∀ (x5 : Int32) (x6 : Int32), (((9 : Int32) ≤ x6 → (post x5)) ∧ (¬ (9 : Int32) ≤ x6 → (((x3 >>> (x6 &&& 31)) = 0 → (post x5)) ∧ (¬ (x3 >>> (x6 &&& 31)) = 0 → (vp_in ((x4 * (9 : Int32)) + x6) 81 ∧ (∀ v_1 : Int32, v_1 = (a_gaps (Int32.toNatClampNeg ((x4 * (9 : Int32)) + x6))) → (q_z_X10_has_0 x3 x6 (fun r_1 => (r_1 = 0 → (q_wk_X5_stepOn_6_79 P8 a_gaps z_tab x2 x3 x4 x5 x6 post)) ∧ (¬ r_1 = 0 → ((x5 ≤ v_1 → (q_wk_X5_stepOn_6_79 P8 a_gaps z_tab x2 x3 x4 x5 x6 post)) ∧ (¬ x5 ≤ v_1 → (vp_in (((x2 ||| ((1 : Int32) <<< (x6 &&& 31))) * (9 : Int32)) + x6) 4608 ∧ (∀ v_2 : Int32, v_2 = (if (if v_1 < (z_tab (Int32.toNatClampNeg (((x2 ||| ((1 : Int32) <<< (x6 &&& 31))) * (9 : Int32)) + x6))) then (z_tab (Int32.toNatClampNeg (((x2 ||| ((1 : Int32) <<< (x6 &&& 31))) * (9 : Int32)) + x6))) else v_1) < x5 then (if v_1 < (z_tab (Int32.toNatClampNeg (((x2 ||| ((1 : Int32) <<< (x6 &&& 31))) * (9 : Int32)) + x6))) then (z_tab (Int32.toNatClampNeg (((x2 ||| ((1 : Int32) <<< (x6 &&& 31))) * (9 : Int32)) + x6))) else v_1) else x5) → (q_wk_X5_stepOn_6_79 P8 a_gaps z_tab x2 x3 x4 v_2 x6 post)))))))))))))) → P8 x5 x6) → P8 x5 x6
def q_wk_X5_stepOn_6_0 (a_gaps : Nat → Int32) (z_tab : Nat → Int32) (x2 : Int32) (x3 : Int32) (x4 : Int32) (post : Int32 → Prop) : Prop :=
  q_wk_X5_stepOn_6_8 a_gaps z_tab x2 x3 x4 (1000 : Int32) (0 : Int32) post
set_option maxRecDepth 20000 in
theorem t_wk_X5_stepOn_6_79 {p : Program} {l : Launch} {e : Env} {s : State} {m : MethodId} {args : Array Value} {below : List Frame} {meth : Method} {c : Code} {kc ks : Nat} {E : zE} {qk qc qz : Nat} {a_gaps : Nat → Int32} {a_behind : Nat → Int32} {cf_voices : Int32} {cf_step : Int32} {ca_parts : Nat → Int32} {ca_heights : Nat → Int32} {z_tab : Nat → Int32} {P8 : Int32 → Int32 → Prop} {post : Int32 → Prop} {x2 : Int32} {x3 : Int32} {x4 : Int32} {x5 : Int32} {x6 : Int32} {ls : Array Slot}
    (zc : zC p s m args meth c cX5_stepOn 8 RX5 (some .int))
    (hK : zK E s)
    (hM : wkW E qk qc qz a_gaps a_behind cf_voices cf_step ca_parts ca_heights z_tab s.heap)
    (hP8 : ∀ (x5 : Int32) (x6 : Int32) (ls : Array Slot), P8 x5 x6 → lv_has ls 8 [(0, .ref qk), (1, .ref qz), (2, .int x2), (3, .int x3), (4, .int x4), (5, .int x5), (6, .int x6)] → W p l e (rm_wk_X5_stepOn_6 kc ks) s m args below meth c s.heap [] kc ks (MQ below (vp_Si post) args s kc ks (fun _ => False)) (F0 m 8 ls []))
    (hl : lv_has ls 8 [(0, .ref qk), (1, .ref qz), (2, .int x2), (3, .int x3), (4, .int x4), (5, .int x5), (6, .int x6)])
    (hw : q_wk_X5_stepOn_6_79 P8 a_gaps z_tab x2 x3 x4 x5 x6 post) :
    W p l e (rm_wk_X5_stepOn_6 kc ks) s m args below meth c s.heap [] kc ks (MQ below (vp_Si post) args s kc ks (fun _ => False)) (F0 m 79 ls []) := by
  have hx := zc.1
  have hb := zc.2.1
  obtain ⟨v_1, ev_1⟩ : ∃ y : Int32, y = x6 + (1 : Int32) := ⟨_, rfl⟩
  have hw := hw v_1 ev_1
  refine lv_iinc (v := v_1) (k := 6) (lv' := [(6, .int v_1), (0, .ref qk), (1, .ref qz), (2, .int x2), (3, .int x3), (4, .int x4), (5, .int x5)]) hx hb dX5_stepOn_79 hl rfl (by rw [ev_1]; rfl) (by decide) rfl (fun ls hl => ?_)
  refine lv_goto (tgt := 8) hx hb dX5_stepOn_82 (by decide) ?_
  exact hP8 _ _ _ hw (lv_sub hl [1, 2, 3, 4, 5, 6, 0] rfl)
set_option maxRecDepth 20000 in
theorem t_wk_X5_stepOn_6_8 {p : Program} {l : Launch} {e : Env} {s : State} {m : MethodId} {args : Array Value} {below : List Frame} {meth : Method} {c : Code} {kc ks : Nat} {E : zE} {qk qc qz : Nat} {a_gaps : Nat → Int32} {a_behind : Nat → Int32} {cf_voices : Int32} {cf_step : Int32} {ca_parts : Nat → Int32} {ca_heights : Nat → Int32} {z_tab : Nat → Int32} {post : Int32 → Prop} {x2 : Int32} {x3 : Int32} {x4 : Int32} {x5 : Int32} {x6 : Int32} {ls : Array Slot}
    (zc : zC p s m args meth c cX5_stepOn 8 RX5 (some .int))
    (hK : zK E s)
    (hM : wkW E qk qc qz a_gaps a_behind cf_voices cf_step ca_parts ca_heights z_tab s.heap)
    (hl : lv_has ls 8 [(0, .ref qk), (1, .ref qz), (2, .int x2), (3, .int x3), (4, .int x4), (5, .int x5), (6, .int x6)])
    (hw : q_wk_X5_stepOn_6_8 a_gaps z_tab x2 x3 x4 x5 x6 post) :
    W p l e (rm_wk_X5_stepOn_6 kc ks) s m args below meth c s.heap [] kc ks (MQ below (vp_Si post) args s kc ks (fun _ => False)) (F0 m 8 ls []) := by
  have hx := zc.1
  have hb := zc.2.1
  refine hw (fun x5 x6 => ∀ (ls : Array Slot), lv_has ls 8 [(0, .ref qk), (1, .ref qz), (2, .int x2), (3, .int x3), (4, .int x4), (5, .int x5), (6, .int x6)] → W p l e (rm_wk_X5_stepOn_6 kc ks) s m args below meth c s.heap [] kc ks (MQ below (vp_Si post) args s kc ks (fun _ => False)) (F0 m 8 ls [])) ?_ _ hl
  intro x5 x6 hw ls hl
  refine lv_iload hx hb dX5_stepOn_8 (lv_at hl 6 rfl) ?_
  refine lv_bipush (v := (9 : Int32)) hx hb dX5_stepOn_10 (by decide) ?_
  refine lv_icmp_ge (tgt := 85) hx hb dX5_stepOn_12 (by decide) (fun hc => ?_) (fun hc => ?_)
  · have hw := hw.1 hc
    refine lv_iload hx hb dX5_stepOn_85 (lv_at hl 5 rfl) ?_
    exact zret_i zc hw dX5_stepOn_87
  · have hw := hw.2 hc
    refine lv_iload_n hx hb dX5_stepOn_15 rfl (lv_at hl 3 rfl) ?_
    refine lv_iload hx hb dX5_stepOn_16 (lv_at hl 6 rfl) ?_
    refine lv_ishr hx hb dX5_stepOn_18 ?_
    refine lv_if_eq (tgt := 85) hx hb dX5_stepOn_19 (by decide) (fun hc => ?_) (fun hc => ?_)
    · have hw := hw.1 hc
      refine lv_iload hx hb dX5_stepOn_85 (lv_at hl 5 rfl) ?_
      exact zret_i zc hw dX5_stepOn_87
    · have hw := hw.2 hc
      refine lv_aload_n hx hb dX5_stepOn_22 rfl (lv_at hl 0 rfl) ?_
      refine wkg_5_9_0 zc hK hM dX5_stepOn_23 ?_
      refine lv_iload hx hb dX5_stepOn_26 (lv_at hl 4 rfl) ?_
      refine lv_bipush (v := (9 : Int32)) hx hb dX5_stepOn_28 (by decide) ?_
      refine lv_imul hx hb dX5_stepOn_30 ?_
      refine lv_iload hx hb dX5_stepOn_31 (lv_at hl 6 rfl) ?_
      refine lv_iadd hx hb dX5_stepOn_33 ?_
      refine wkld_1 zc hK hM hw.1 dX5_stepOn_34 ?_
      have hw := hw.2
      refine lv_topi (fun v_1 ev_1 => ?_)
      have hw := hw v_1 ev_1
      refine lv_istore (lv' := [(7, .int v_1), (0, .ref qk), (1, .ref qz), (2, .int x2), (3, .int x3), (4, .int x4), (5, .int x5), (6, .int x6)]) hx hb dX5_stepOn_35 hl (by decide) rfl (fun ls hl => ?_)
      refine lv_iload_n hx hb dX5_stepOn_37 rfl (lv_at hl 4 rfl) ?_
      refine lv_iload hx hb dX5_stepOn_38 (lv_at hl 7 rfl) ?_
      refine zSN_i [.int x3, .int x6] [] zc ky_X10_has kz_X10_has (hK.2 _ kn_5_32) (c_z_X10_has l hw) (zPre0 _) rfl rfl hl.1 (Nat.le_of_ble_eq_true rfl) ⟨rfl, rfl⟩ ⟨Nat.le_of_ble_eq_true rfl, Nat.le_of_ble_eq_true rfl⟩ ⟨(Nat.le_refl _), (Nat.le_refl _)⟩ dX5_stepOn_40 (fun r_1 hw => ?_)
      refine lv_if_eq (tgt := 79) hx hb dX5_stepOn_43 (by decide) (fun hc => ?_) (fun hc => ?_)
      · have hw := hw.1 hc
        exact t_wk_X5_stepOn_6_79 zc hK hM (fun _ _ ls h hl => h ls hl) (lv_sub hl [1, 2, 3, 4, 5, 6, 7] rfl) hw
      · have hw := hw.2 hc
        refine lv_iload hx hb dX5_stepOn_46 (lv_at hl 0 rfl) ?_
        refine lv_iload hx hb dX5_stepOn_48 (lv_at hl 6 rfl) ?_
        refine lv_icmp_ge (tgt := 79) hx hb dX5_stepOn_50 (by decide) (fun hc => ?_) (fun hc => ?_)
        · have hw := hw.1 hc
          exact t_wk_X5_stepOn_6_79 zc hK hM (fun _ _ ls h hl => h ls hl) (lv_sub hl [1, 2, 3, 4, 5, 6, 7] rfl) hw
        · have hw := hw.2 hc
          refine lv_iload hx hb dX5_stepOn_53 (lv_at hl 6 rfl) ?_
          refine lv_iload hx hb dX5_stepOn_55 (lv_at hl 0 rfl) ?_
          refine lv_aload_n hx hb dX5_stepOn_57 rfl (lv_at hl 2 rfl) ?_
          refine lv_iload_n hx hb dX5_stepOn_58 rfl (lv_at hl 3 rfl) ?_
          refine lv_iconst (v := (1 : Int32)) hx hb dX5_stepOn_59 (by decide) ?_
          refine lv_iload hx hb dX5_stepOn_60 (lv_at hl 7 rfl) ?_
          refine lv_ishl hx hb dX5_stepOn_62 ?_
          refine lv_ior hx hb dX5_stepOn_63 ?_
          refine lv_bipush (v := (9 : Int32)) hx hb dX5_stepOn_64 (by decide) ?_
          refine lv_imul hx hb dX5_stepOn_66 ?_
          refine lv_iload hx hb dX5_stepOn_67 (lv_at hl 7 rfl) ?_
          refine lv_iadd hx hb dX5_stepOn_69 ?_
          refine wkld_6 zc hK hM hw.1 dX5_stepOn_70 ?_
          have hw := hw.2
          refine va_mmax hx hb (zc.2.2.1.trans hl.1.symm) zc.2.2.2.1 (zc.2.2.2.2.1 _ km_5_63) (zc.2.2.2.2.1 _ k_mmaxs) (zc.2.2.2.2.1 _ k_mini) (zc.2.2.2.2.1 _ k_mmaxc) (Nat.le_of_ble_eq_true rfl) (Nat.le_of_ble_eq_true rfl) (Nat.le_refl _) (Nat.le_refl _) dX5_stepOn_71 ?_
          refine va_mmin hx hb (zc.2.2.1.trans hl.1.symm) zc.2.2.2.1 (zc.2.2.2.2.1 _ km_5_54) (zc.2.2.2.2.1 _ k_mmins) (zc.2.2.2.2.1 _ k_mini) (zc.2.2.2.2.1 _ k_mminc) (Nat.le_of_ble_eq_true rfl) (Nat.le_of_ble_eq_true rfl) (Nat.le_refl _) (Nat.le_refl _) dX5_stepOn_74 ?_
          refine lv_topi (fun v_2 ev_2 => ?_)
          have hw := hw v_2 ev_2
          refine lv_istore (lv' := [(5, .int v_2), (7, .int v_1), (0, .ref qk), (1, .ref qz), (2, .int x2), (3, .int x3), (4, .int x4), (6, .int x6)]) hx hb dX5_stepOn_77 hl (by decide) rfl (fun ls hl => ?_)
          exact t_wk_X5_stepOn_6_79 zc hK hM (fun _ _ ls h hl => h ls hl) (lv_sub hl [2, 3, 4, 5, 6, 0, 7] rfl) hw
set_option maxRecDepth 20000 in
theorem t_wk_X5_stepOn_6_0 {p : Program} {l : Launch} {e : Env} {s : State} {m : MethodId} {args : Array Value} {below : List Frame} {meth : Method} {c : Code} {kc ks : Nat} {E : zE} {qk qc qz : Nat} {a_gaps : Nat → Int32} {a_behind : Nat → Int32} {cf_voices : Int32} {cf_step : Int32} {ca_parts : Nat → Int32} {ca_heights : Nat → Int32} {z_tab : Nat → Int32} {post : Int32 → Prop} {x2 : Int32} {x3 : Int32} {x4 : Int32} {ls : Array Slot}
    (zc : zC p s m args meth c cX5_stepOn 8 RX5 (some .int))
    (hK : zK E s)
    (hM : wkW E qk qc qz a_gaps a_behind cf_voices cf_step ca_parts ca_heights z_tab s.heap)
    (hl : lv_has ls 8 [(0, .ref qk), (1, .ref qz), (2, .int x2), (3, .int x3), (4, .int x4)])
    (hw : q_wk_X5_stepOn_6_0 a_gaps z_tab x2 x3 x4 post) :
    W p l e (rm_wk_X5_stepOn_6 kc ks) s m args below meth c s.heap [] kc ks (MQ below (vp_Si post) args s kc ks (fun _ => False)) (F0 m 0 ls []) := by
  have hx := zc.1
  have hb := zc.2.1
  refine lv_sipush (v := (1000 : Int32)) hx hb dX5_stepOn_0 (by decide) ?_
  refine lv_istore (lv' := [(5, .int (1000 : Int32)), (0, .ref qk), (1, .ref qz), (2, .int x2), (3, .int x3), (4, .int x4)]) hx hb dX5_stepOn_3 hl (by decide) rfl (fun ls hl => ?_)
  refine lv_iconst (v := (0 : Int32)) hx hb dX5_stepOn_5 (by decide) ?_
  refine lv_istore (lv' := [(6, .int (0 : Int32)), (5, .int (1000 : Int32)), (0, .ref qk), (1, .ref qz), (2, .int x2), (3, .int x3), (4, .int x4)]) hx hb dX5_stepOn_6 hl (by decide) rfl (fun ls hl => ?_)
  exact t_wk_X5_stepOn_6_8 zc hK hM  (lv_sub hl [2, 3, 4, 5, 6, 1, 0] rfl) hw
set_option maxRecDepth 20000 in
theorem c_wk_X5_stepOn_6 (l : Launch) {E : zE} {qk qc qz : Nat} {a_gaps : Nat → Int32} {a_behind : Nat → Int32} {cf_voices : Int32} {cf_step : Int32} {ca_parts : Nat → Int32} {ca_heights : Nat → Int32} {z_tab : Nat → Int32} {x2 : Int32} {x3 : Int32} {x4 : Int32} {post : Int32 → Prop} (hw : q_wk_X5_stepOn_6_0 a_gaps z_tab x2 x3 x4 post) : Met l yX5_stepOn (Cond.code yX5_stepOn cX5_stepOn 8 (some .int) :: zb) (rm_wk_X5_stepOn_6 0 0) (va_Pc [.ref qk, .ref qz, .int x2, .int x3, .int x4] (fun U => wkW E qk qc qz a_gaps a_behind cf_voices cf_step ca_parts ca_heights z_tab U.heap ∧ zK E U)) (vp_Si post) 0 0 (fun _ => False) := by
  refine Met.ofW (cc := cX5_stepOn) (maxL := 8) (ret := (some .int)) (by decide) rfl ?_
  intro p e s m args below meth c s₁ B hml hv
  obtain ⟨rfl, hM, hK⟩ := hv
  have zc := zc_of B hml
  have hl := lv_entry ([.ref qk, .ref qz, .int x2, .int x3, .int x4]) (n := 8) (Nat.le_of_ble_eq_true rfl)
  rw [lg_entry_eq]
  generalize (lg_sl ([.ref qk, .ref qz, .int x2, .int x3, .int x4]) ++ List.replicate (8 - (lg_sl ([.ref qk, .ref qz, .int x2, .int x3, .int x4])).length) Slot.unset).toArray = ls at hl ⊢
  have hl : lv_has ls 8 [(0, .ref qk), (1, .ref qz), (2, .int x2), (3, .int x3), (4, .int x4)] := hl
  exact t_wk_X5_stepOn_6_0 zc hK hM (lv_sub hl [0, 1, 2, 3, 4] rfl) hw
-- wk_X5_leastStep_3
abbrev rm_wk_X5_leastStep_3 (kc ks : Nat) : Room := { frames := 3, cells := kc, slots := ks, locals := 86 }
def q_wk_X5_leastStep_3_113 (a_gaps : Nat → Int32) (a_behind : Nat → Int32) (cf_voices : Int32) (cf_step : Int32) (ca_parts : Nat → Int32) (ca_heights : Nat → Int32) (z_tab : Nat → Int32) (x4 : Int32) (x5 : Int32) (post : Int32 → (Nat → Int32) → (Nat → Int32) → (Nat → Int32) → Prop) : Prop :=
  ∀ P113 : Int32 → Int32 → Prop, (∀ (x4 : Int32) (x5 : Int32), ((cf_voices ≤ x5 → (q_z_X10_nearOrNone_0 x4 (fun r_1 => post r_1 a_gaps a_behind z_tab))) ∧ (¬ cf_voices ≤ x5 → (vp_in ((((1 : Int32) <<< (x5 &&& 31)) * (9 : Int32)) + x5) 4608 ∧ (∀ v_1 : Int32, v_1 = (if (z_tab (Int32.toNatClampNeg ((((1 : Int32) <<< (x5 &&& 31)) * (9 : Int32)) + x5))) < x4 then (z_tab (Int32.toNatClampNeg ((((1 : Int32) <<< (x5 &&& 31)) * (9 : Int32)) + x5))) else x4) → (∀ v_2 : Int32, v_2 = x5 + (1 : Int32) → (P113 v_1 v_2)))))) → P113 x4 x5) → P113 x4 x5
def q_wk_X5_leastStep_3_93 (P31 : Int32 → (Nat → Int32) → Prop) (P39 : Int32 → (Nat → Int32) → Prop) (a_gaps : Nat → Int32) (a_behind : Nat → Int32) (cf_voices : Int32) (cf_step : Int32) (ca_parts : Nat → Int32) (ca_heights : Nat → Int32) (z_tab : Nat → Int32) (x3 : Int32) (x4 : Int32) (x5 : Int32) (post : Int32 → (Nat → Int32) → (Nat → Int32) → (Nat → Int32) → Prop) : Prop :=
  ∀ v_1 : Int32, v_1 = x5 + (1 : Int32) → (P39 v_1 z_tab)
def q_wk_X5_leastStep_3_92 (P31 : Int32 → (Nat → Int32) → Prop) (P39 : Int32 → (Nat → Int32) → Prop) (a_gaps : Nat → Int32) (a_behind : Nat → Int32) (cf_voices : Int32) (cf_step : Int32) (ca_parts : Nat → Int32) (ca_heights : Nat → Int32) (z_tab : Nat → Int32) (x3 : Int32) (x4 : Int32) (x5 : Int32) (y0 : Int32) (y1 : Int32) (post : Int32 → (Nat → Int32) → (Nat → Int32) → (Nat → Int32) → Prop) : Prop :=
  vp_in y0 4608 ∧ (∀ z_tab_1 : Nat → Int32, z_tab_1 = upd z_tab (Int32.toNatClampNeg y0) y1 → (q_wk_X5_leastStep_3_93 P31 P39 a_gaps a_behind cf_voices cf_step ca_parts ca_heights z_tab_1 x3 x4 x5 post))
def q_wk_X5_leastStep_3_39 (P31 : Int32 → (Nat → Int32) → Prop) (a_gaps : Nat → Int32) (a_behind : Nat → Int32) (cf_voices : Int32) (cf_step : Int32) (ca_parts : Nat → Int32) (ca_heights : Nat → Int32) (z_tab : Nat → Int32) (x3 : Int32) (x4 : Int32) (x5 : Int32) (post : Int32 → (Nat → Int32) → (Nat → Int32) → (Nat → Int32) → Prop) : Prop :=
  ∀ P39 : Int32 → (Nat → Int32) → Prop, (∀ (x5 : Int32) (z_tab : Nat → Int32), ((cf_voices ≤ x5 → (∀ v_1 : Int32, v_1 = x4 + (-1 : Int32) → (P31 v_1 z_tab))) ∧ (¬ cf_voices ≤ x5 → (q_z_X10_has_0 x4 x5 (fun r_1 => (r_1 = 0 → (q_wk_X5_leastStep_3_93 P31 P39 a_gaps a_behind cf_voices cf_step ca_parts ca_heights z_tab x3 x4 x5 post)) ∧ (¬ r_1 = 0 → ((¬ x4 = x3 → (q_wk_X5_stepOn_6_0 a_gaps z_tab x4 (x3 &&& (x4 ^^^ (-1 : Int32))) x5 (fun r_2 => q_wk_X5_leastStep_3_92 P31 P39 a_gaps a_behind cf_voices cf_step ca_parts ca_heights z_tab x3 x4 x5 ((x4 * (9 : Int32)) + x5) r_2 post))) ∧ (x4 = x3 → (q_wk_X5_leastStep_3_92 P31 P39 a_gaps a_behind cf_voices cf_step ca_parts ca_heights z_tab x3 x4 x5 ((x4 * (9 : Int32)) + x5) (0 : Int32) post)))))))) → P39 x5 z_tab) → P39 x5 z_tab
def q_wk_X5_leastStep_3_31 (a_gaps : Nat → Int32) (a_behind : Nat → Int32) (cf_voices : Int32) (cf_step : Int32) (ca_parts : Nat → Int32) (ca_heights : Nat → Int32) (z_tab : Nat → Int32) (x3 : Int32) (x4 : Int32) (post : Int32 → (Nat → Int32) → (Nat → Int32) → (Nat → Int32) → Prop) : Prop :=
  ∀ P31 : Int32 → (Nat → Int32) → Prop, (∀ (x4 : Int32) (z_tab : Nat → Int32), ((x4 ≤ 0 → (q_wk_X5_leastStep_3_113 a_gaps a_behind cf_voices cf_step ca_parts ca_heights z_tab (1000 : Int32) (0 : Int32) post)) ∧ (¬ x4 ≤ 0 → (q_wk_X5_leastStep_3_39 P31 a_gaps a_behind cf_voices cf_step ca_parts ca_heights z_tab x3 x4 (0 : Int32) post))) → P31 x4 z_tab) → P31 x4 z_tab
def q_wk_X5_leastStep_3_19 (a_gaps : Nat → Int32) (a_behind : Nat → Int32) (cf_voices : Int32) (cf_step : Int32) (ca_parts : Nat → Int32) (ca_heights : Nat → Int32) (z_tab : Nat → Int32) (post : Int32 → (Nat → Int32) → (Nat → Int32) → (Nat → Int32) → Prop) : Prop :=
  ∀ v_1 : Int32, v_1 = (((1 : Int32) <<< (cf_voices &&& 31)) - (1 : Int32)) → (q_wk_X5_leastStep_3_31 a_gaps a_behind cf_voices cf_step ca_parts ca_heights z_tab v_1 v_1 post)
def q_wk_X5_leastStep_3_0 (a_gaps : Nat → Int32) (a_behind : Nat → Int32) (cf_voices : Int32) (cf_step : Int32) (ca_parts : Nat → Int32) (ca_heights : Nat → Int32) (z_tab : Nat → Int32) (post : Int32 → (Nat → Int32) → (Nat → Int32) → (Nat → Int32) → Prop) : Prop :=
  (¬ cf_voices = 0 → (q_wk_X5_measure_3_0 a_gaps a_behind cf_voices cf_step ca_parts ca_heights (fun a_gaps_1 a_behind_1 => q_wk_X5_table_0 (fun r_1 => (r_1 = 0 → False) ∧ (¬ r_1 = 0 → (q_wk_X5_leastStep_3_19 a_gaps_1 a_behind_1 cf_voices cf_step ca_parts ca_heights z_tab post)))))) ∧ (cf_voices = 0 → (post (0 : Int32) a_gaps a_behind z_tab))
set_option maxRecDepth 20000 in
theorem t_wk_X5_leastStep_3_113 {p : Program} {l : Launch} {e : Env} {s : State} {m : MethodId} {args : Array Value} {below : List Frame} {meth : Method} {c : Code} {kc ks : Nat} {E : zE} {qk qc qz : Nat} {a_gaps : Nat → Int32} {a_behind : Nat → Int32} {cf_voices : Int32} {cf_step : Int32} {ca_parts : Nat → Int32} {ca_heights : Nat → Int32} {z_tab : Nat → Int32} {post : Int32 → (Nat → Int32) → (Nat → Int32) → (Nat → Int32) → Prop} {x4 : Int32} {x5 : Int32} {ls : Array Slot} {H : Heap} {locs : List Loc}
    (zc : zC p s m args meth c cX5_leastStep 6 RX5 (some .int))
    (hK : zK E s)
    (hM : wkW E qk qc qz a_gaps a_behind cf_voices cf_step ca_parts ca_heights z_tab H)
    (hS : va_S (wkA qk qc qz) s.heap H locs)
    (hl : lv_has ls 6 [(1, .ref qc), (2, .ref qz), (4, .int x4), (5, .int x5)])
    (hw : q_wk_X5_leastStep_3_113 a_gaps a_behind cf_voices cf_step ca_parts ca_heights z_tab x4 x5 post) :
    W p l e (rm_wk_X5_leastStep_3 kc ks) s m args below meth c H locs kc ks (MQ below (zQi (S := (Nat → Int32) × (Nat → Int32) × (Nat → Int32)) (fun r u => post r u.1 u.2.1 u.2.2) (fun u H => wkW E qk qc qz u.1 u.2.1 cf_voices cf_step ca_parts ca_heights u.2.2 H) (wkA qk qc qz)) args s kc ks (wkA qk qc qz)) (F0 m 113 ls []) := by
  have hx := zc.1
  have hb := zc.2.1
  refine hw (fun x4 x5 => ∀ (H : Heap) (locs : List Loc) (ls : Array Slot), lv_has ls 6 [(1, .ref qc), (2, .ref qz), (4, .int x4), (5, .int x5)] → wkW E qk qc qz a_gaps a_behind cf_voices cf_step ca_parts ca_heights z_tab H → va_S (wkA qk qc qz) s.heap H locs → W p l e (rm_wk_X5_leastStep_3 kc ks) s m args below meth c H locs kc ks (MQ below (zQi (S := (Nat → Int32) × (Nat → Int32) × (Nat → Int32)) (fun r u => post r u.1 u.2.1 u.2.2) (fun u H => wkW E qk qc qz u.1 u.2.1 cf_voices cf_step ca_parts ca_heights u.2.2 H) (wkA qk qc qz)) args s kc ks (wkA qk qc qz)) (F0 m 113 ls [])) ?_ _ _ _ hl hM hS
  intro x4 x5 hw H locs ls hl hM hS
  refine lv_iload hx hb dX5_leastStep_113 (lv_at hl 3 rfl) ?_
  refine lv_aload_n hx hb dX5_leastStep_115 rfl (lv_at hl 0 rfl) ?_
  refine wkg_5_26_3 zc hK hM dX5_leastStep_116 ?_
  refine lv_icmp_ge (tgt := 147) hx hb dX5_leastStep_119 (by decide) (fun hc => ?_) (fun hc => ?_)
  · have hw := hw.1 hc
    refine lv_iload hx hb dX5_leastStep_147 (lv_at hl 2 rfl) ?_
    refine zSN_i [.int x4] [] zc ky_X10_nearOrNone kz_X10_nearOrNone (hK.2 _ kn_5_59) (c_z_X10_nearOrNone l hw) (zPre0 _) rfl rfl hl.1 (Nat.le_of_ble_eq_true rfl) ⟨rfl, rfl⟩ ⟨Nat.le_of_ble_eq_true rfl, Nat.le_of_ble_eq_true rfl⟩ ⟨(Nat.le_refl _), (Nat.le_refl _)⟩ dX5_leastStep_149 (fun r_1 hw => ?_)
    exact zret_iw ⟨a_gaps, a_behind, z_tab⟩ zc hS hw hM dX5_leastStep_152
  · have hw := hw.2 hc
    refine lv_iload hx hb dX5_leastStep_122 (lv_at hl 2 rfl) ?_
    refine lv_aload_n hx hb dX5_leastStep_124 rfl (lv_at hl 1 rfl) ?_
    refine lv_iconst (v := (1 : Int32)) hx hb dX5_leastStep_125 (by decide) ?_
    refine lv_iload hx hb dX5_leastStep_126 (lv_at hl 3 rfl) ?_
    refine lv_ishl hx hb dX5_leastStep_128 ?_
    refine lv_bipush (v := (9 : Int32)) hx hb dX5_leastStep_129 (by decide) ?_
    refine lv_imul hx hb dX5_leastStep_131 ?_
    refine lv_iload hx hb dX5_leastStep_132 (lv_at hl 3 rfl) ?_
    refine lv_iadd hx hb dX5_leastStep_134 ?_
    refine wkld_6 zc hK hM hw.1 dX5_leastStep_135 ?_
    have hw := hw.2
    refine va_mmin hx hb (zc.2.2.1.trans hl.1.symm) zc.2.2.2.1 (zc.2.2.2.2.1 _ km_5_54) (zc.2.2.2.2.1 _ k_mmins) (zc.2.2.2.2.1 _ k_mini) (zc.2.2.2.2.1 _ k_mminc) (Nat.le_of_ble_eq_true rfl) (Nat.le_of_ble_eq_true rfl) (Nat.le_refl _) (Nat.le_refl _) dX5_leastStep_136 ?_
    refine lv_topi (fun v_1 ev_1 => ?_)
    have hw := hw v_1 ev_1
    refine lv_istore (lv' := [(4, .int v_1), (1, .ref qc), (2, .ref qz), (5, .int x5)]) hx hb dX5_leastStep_139 hl (by decide) rfl (fun ls hl => ?_)
    obtain ⟨v_2, ev_2⟩ : ∃ y : Int32, y = x5 + (1 : Int32) := ⟨_, rfl⟩
    have hw := hw v_2 ev_2
    refine lv_iinc (v := v_2) (k := 3) (lv' := [(5, .int v_2), (4, .int v_1), (1, .ref qc), (2, .ref qz)]) hx hb dX5_leastStep_141 hl rfl (by rw [ev_2]; rfl) (by decide) rfl (fun ls hl => ?_)
    refine lv_goto (tgt := 113) hx hb dX5_leastStep_144 (by decide) ?_
    exact hw _ _ _ (lv_sub hl [2, 3, 1, 0] rfl) hM hS
set_option maxRecDepth 20000 in
theorem t_wk_X5_leastStep_3_93 {p : Program} {l : Launch} {e : Env} {s : State} {m : MethodId} {args : Array Value} {below : List Frame} {meth : Method} {c : Code} {kc ks : Nat} {E : zE} {qk qc qz : Nat} {a_gaps : Nat → Int32} {a_behind : Nat → Int32} {cf_voices : Int32} {cf_step : Int32} {ca_parts : Nat → Int32} {ca_heights : Nat → Int32} {z_tab : Nat → Int32} {P31 : Int32 → (Nat → Int32) → Prop} {P39 : Int32 → (Nat → Int32) → Prop} {post : Int32 → (Nat → Int32) → (Nat → Int32) → (Nat → Int32) → Prop} {x3 : Int32} {x4 : Int32} {x5 : Int32} {ls : Array Slot} {H : Heap} {locs : List Loc}
    (zc : zC p s m args meth c cX5_leastStep 6 RX5 (some .int))
    (hK : zK E s)
    (hM : wkW E qk qc qz a_gaps a_behind cf_voices cf_step ca_parts ca_heights z_tab H)
    (hS : va_S (wkA qk qc qz) s.heap H locs)
    (hP31 : ∀ (x4 : Int32) (z_tab : Nat → Int32) (H : Heap) (locs : List Loc) (ls : Array Slot), P31 x4 z_tab → lv_has ls 6 [(0, .ref qk), (1, .ref qc), (2, .ref qz), (3, .int x3), (4, .int x4)] → wkW E qk qc qz a_gaps a_behind cf_voices cf_step ca_parts ca_heights z_tab H → va_S (wkA qk qc qz) s.heap H locs → W p l e (rm_wk_X5_leastStep_3 kc ks) s m args below meth c H locs kc ks (MQ below (zQi (S := (Nat → Int32) × (Nat → Int32) × (Nat → Int32)) (fun r u => post r u.1 u.2.1 u.2.2) (fun u H => wkW E qk qc qz u.1 u.2.1 cf_voices cf_step ca_parts ca_heights u.2.2 H) (wkA qk qc qz)) args s kc ks (wkA qk qc qz)) (F0 m 31 ls []))
    (hP39 : ∀ (x5 : Int32) (z_tab : Nat → Int32) (H : Heap) (locs : List Loc) (ls : Array Slot), P39 x5 z_tab → lv_has ls 6 [(0, .ref qk), (1, .ref qc), (2, .ref qz), (3, .int x3), (4, .int x4), (5, .int x5)] → wkW E qk qc qz a_gaps a_behind cf_voices cf_step ca_parts ca_heights z_tab H → va_S (wkA qk qc qz) s.heap H locs → W p l e (rm_wk_X5_leastStep_3 kc ks) s m args below meth c H locs kc ks (MQ below (zQi (S := (Nat → Int32) × (Nat → Int32) × (Nat → Int32)) (fun r u => post r u.1 u.2.1 u.2.2) (fun u H => wkW E qk qc qz u.1 u.2.1 cf_voices cf_step ca_parts ca_heights u.2.2 H) (wkA qk qc qz)) args s kc ks (wkA qk qc qz)) (F0 m 39 ls []))
    (hl : lv_has ls 6 [(0, .ref qk), (1, .ref qc), (2, .ref qz), (3, .int x3), (4, .int x4), (5, .int x5)])
    (hw : q_wk_X5_leastStep_3_93 P31 P39 a_gaps a_behind cf_voices cf_step ca_parts ca_heights z_tab x3 x4 x5 post) :
    W p l e (rm_wk_X5_leastStep_3 kc ks) s m args below meth c H locs kc ks (MQ below (zQi (S := (Nat → Int32) × (Nat → Int32) × (Nat → Int32)) (fun r u => post r u.1 u.2.1 u.2.2) (fun u H => wkW E qk qc qz u.1 u.2.1 cf_voices cf_step ca_parts ca_heights u.2.2 H) (wkA qk qc qz)) args s kc ks (wkA qk qc qz)) (F0 m 93 ls []) := by
  have hx := zc.1
  have hb := zc.2.1
  obtain ⟨v_1, ev_1⟩ : ∃ y : Int32, y = x5 + (1 : Int32) := ⟨_, rfl⟩
  have hw := hw v_1 ev_1
  refine lv_iinc (v := v_1) (k := 5) (lv' := [(5, .int v_1), (0, .ref qk), (1, .ref qc), (2, .ref qz), (3, .int x3), (4, .int x4)]) hx hb dX5_leastStep_93 hl rfl (by rw [ev_1]; rfl) (by decide) rfl (fun ls hl => ?_)
  refine lv_goto (tgt := 39) hx hb dX5_leastStep_96 (by decide) ?_
  exact hP39 _ _ _ _ _ hw (lv_sub hl [1, 2, 3, 4, 5, 0] rfl) hM hS
set_option maxRecDepth 20000 in
theorem t_wk_X5_leastStep_3_92 {p : Program} {l : Launch} {e : Env} {s : State} {m : MethodId} {args : Array Value} {below : List Frame} {meth : Method} {c : Code} {kc ks : Nat} {E : zE} {qk qc qz : Nat} {a_gaps : Nat → Int32} {a_behind : Nat → Int32} {cf_voices : Int32} {cf_step : Int32} {ca_parts : Nat → Int32} {ca_heights : Nat → Int32} {z_tab : Nat → Int32} {P31 : Int32 → (Nat → Int32) → Prop} {P39 : Int32 → (Nat → Int32) → Prop} {post : Int32 → (Nat → Int32) → (Nat → Int32) → (Nat → Int32) → Prop} {x3 : Int32} {x4 : Int32} {x5 : Int32} {y0 : Int32} {y1 : Int32} {ls : Array Slot} {H : Heap} {locs : List Loc}
    (zc : zC p s m args meth c cX5_leastStep 6 RX5 (some .int))
    (hK : zK E s)
    (hM : wkW E qk qc qz a_gaps a_behind cf_voices cf_step ca_parts ca_heights z_tab H)
    (hS : va_S (wkA qk qc qz) s.heap H locs)
    (hP31 : ∀ (x4 : Int32) (z_tab : Nat → Int32) (H : Heap) (locs : List Loc) (ls : Array Slot), P31 x4 z_tab → lv_has ls 6 [(0, .ref qk), (1, .ref qc), (2, .ref qz), (3, .int x3), (4, .int x4)] → wkW E qk qc qz a_gaps a_behind cf_voices cf_step ca_parts ca_heights z_tab H → va_S (wkA qk qc qz) s.heap H locs → W p l e (rm_wk_X5_leastStep_3 kc ks) s m args below meth c H locs kc ks (MQ below (zQi (S := (Nat → Int32) × (Nat → Int32) × (Nat → Int32)) (fun r u => post r u.1 u.2.1 u.2.2) (fun u H => wkW E qk qc qz u.1 u.2.1 cf_voices cf_step ca_parts ca_heights u.2.2 H) (wkA qk qc qz)) args s kc ks (wkA qk qc qz)) (F0 m 31 ls []))
    (hP39 : ∀ (x5 : Int32) (z_tab : Nat → Int32) (H : Heap) (locs : List Loc) (ls : Array Slot), P39 x5 z_tab → lv_has ls 6 [(0, .ref qk), (1, .ref qc), (2, .ref qz), (3, .int x3), (4, .int x4), (5, .int x5)] → wkW E qk qc qz a_gaps a_behind cf_voices cf_step ca_parts ca_heights z_tab H → va_S (wkA qk qc qz) s.heap H locs → W p l e (rm_wk_X5_leastStep_3 kc ks) s m args below meth c H locs kc ks (MQ below (zQi (S := (Nat → Int32) × (Nat → Int32) × (Nat → Int32)) (fun r u => post r u.1 u.2.1 u.2.2) (fun u H => wkW E qk qc qz u.1 u.2.1 cf_voices cf_step ca_parts ca_heights u.2.2 H) (wkA qk qc qz)) args s kc ks (wkA qk qc qz)) (F0 m 39 ls []))
    (hl : lv_has ls 6 [(0, .ref qk), (1, .ref qc), (2, .ref qz), (3, .int x3), (4, .int x4), (5, .int x5)])
    (hw : q_wk_X5_leastStep_3_92 P31 P39 a_gaps a_behind cf_voices cf_step ca_parts ca_heights z_tab x3 x4 x5 y0 y1 post) :
    W p l e (rm_wk_X5_leastStep_3 kc ks) s m args below meth c H locs kc ks (MQ below (zQi (S := (Nat → Int32) × (Nat → Int32) × (Nat → Int32)) (fun r u => post r u.1 u.2.1 u.2.2) (fun u H => wkW E qk qc qz u.1 u.2.1 cf_voices cf_step ca_parts ca_heights u.2.2 H) (wkA qk qc qz)) args s kc ks (wkA qk qc qz)) (F0 m 92 ls [.int y1, .int y0, .ref qz]) := by
  have hx := zc.1
  have hb := zc.2.1
  refine wkst_6 zc hK hM hS hw.1 dX5_leastStep_92 (fun z_tab_1 H locs ez_tab_1 hM hS => ?_)
  have hw := hw.2 z_tab_1 ez_tab_1
  exact t_wk_X5_leastStep_3_93 zc hK hM hS hP31 hP39 (lv_sub hl [0, 1, 2, 3, 4, 5] rfl) hw
set_option maxRecDepth 20000 in
theorem t_wk_X5_leastStep_3_39 {p : Program} {l : Launch} {e : Env} {s : State} {m : MethodId} {args : Array Value} {below : List Frame} {meth : Method} {c : Code} {kc ks : Nat} {E : zE} {qk qc qz : Nat} {a_gaps : Nat → Int32} {a_behind : Nat → Int32} {cf_voices : Int32} {cf_step : Int32} {ca_parts : Nat → Int32} {ca_heights : Nat → Int32} {z_tab : Nat → Int32} {P31 : Int32 → (Nat → Int32) → Prop} {post : Int32 → (Nat → Int32) → (Nat → Int32) → (Nat → Int32) → Prop} {x3 : Int32} {x4 : Int32} {x5 : Int32} {ls : Array Slot} {H : Heap} {locs : List Loc}
    (zc : zC p s m args meth c cX5_leastStep 6 RX5 (some .int))
    (hK : zK E s)
    (hM : wkW E qk qc qz a_gaps a_behind cf_voices cf_step ca_parts ca_heights z_tab H)
    (hS : va_S (wkA qk qc qz) s.heap H locs)
    (hP31 : ∀ (x4 : Int32) (z_tab : Nat → Int32) (H : Heap) (locs : List Loc) (ls : Array Slot), P31 x4 z_tab → lv_has ls 6 [(0, .ref qk), (1, .ref qc), (2, .ref qz), (3, .int x3), (4, .int x4)] → wkW E qk qc qz a_gaps a_behind cf_voices cf_step ca_parts ca_heights z_tab H → va_S (wkA qk qc qz) s.heap H locs → W p l e (rm_wk_X5_leastStep_3 kc ks) s m args below meth c H locs kc ks (MQ below (zQi (S := (Nat → Int32) × (Nat → Int32) × (Nat → Int32)) (fun r u => post r u.1 u.2.1 u.2.2) (fun u H => wkW E qk qc qz u.1 u.2.1 cf_voices cf_step ca_parts ca_heights u.2.2 H) (wkA qk qc qz)) args s kc ks (wkA qk qc qz)) (F0 m 31 ls []))
    (hl : lv_has ls 6 [(0, .ref qk), (1, .ref qc), (2, .ref qz), (3, .int x3), (4, .int x4), (5, .int x5)])
    (hw : q_wk_X5_leastStep_3_39 P31 a_gaps a_behind cf_voices cf_step ca_parts ca_heights z_tab x3 x4 x5 post) :
    W p l e (rm_wk_X5_leastStep_3 kc ks) s m args below meth c H locs kc ks (MQ below (zQi (S := (Nat → Int32) × (Nat → Int32) × (Nat → Int32)) (fun r u => post r u.1 u.2.1 u.2.2) (fun u H => wkW E qk qc qz u.1 u.2.1 cf_voices cf_step ca_parts ca_heights u.2.2 H) (wkA qk qc qz)) args s kc ks (wkA qk qc qz)) (F0 m 39 ls []) := by
  have hx := zc.1
  have hb := zc.2.1
  refine hw (fun x5 z_tab => ∀ (H : Heap) (locs : List Loc) (ls : Array Slot), lv_has ls 6 [(0, .ref qk), (1, .ref qc), (2, .ref qz), (3, .int x3), (4, .int x4), (5, .int x5)] → wkW E qk qc qz a_gaps a_behind cf_voices cf_step ca_parts ca_heights z_tab H → va_S (wkA qk qc qz) s.heap H locs → W p l e (rm_wk_X5_leastStep_3 kc ks) s m args below meth c H locs kc ks (MQ below (zQi (S := (Nat → Int32) × (Nat → Int32) × (Nat → Int32)) (fun r u => post r u.1 u.2.1 u.2.2) (fun u H => wkW E qk qc qz u.1 u.2.1 cf_voices cf_step ca_parts ca_heights u.2.2 H) (wkA qk qc qz)) args s kc ks (wkA qk qc qz)) (F0 m 39 ls [])) ?_ _ _ _ hl hM hS
  intro x5 z_tab hw H locs ls hl hM hS
  refine lv_iload hx hb dX5_leastStep_39 (lv_at hl 5 rfl) ?_
  refine lv_aload_n hx hb dX5_leastStep_41 rfl (lv_at hl 1 rfl) ?_
  refine wkg_5_26_3 zc hK hM dX5_leastStep_42 ?_
  refine lv_icmp_ge (tgt := 99) hx hb dX5_leastStep_45 (by decide) (fun hc => ?_) (fun hc => ?_)
  · have hw := hw.1 hc
    obtain ⟨v_1, ev_1⟩ : ∃ y : Int32, y = x4 + (-1 : Int32) := ⟨_, rfl⟩
    have hw := hw v_1 ev_1
    refine lv_iinc (v := v_1) (k := 4) (lv' := [(4, .int v_1), (0, .ref qk), (1, .ref qc), (2, .ref qz), (3, .int x3), (5, .int x5)]) hx hb dX5_leastStep_99 hl rfl (by rw [ev_1]; rfl) (by decide) rfl (fun ls hl => ?_)
    refine lv_goto (tgt := 31) hx hb dX5_leastStep_102 (by decide) ?_
    exact hP31 _ _ _ _ _ hw (lv_sub hl [1, 2, 3, 4, 0] rfl) hM hS
  · have hw := hw.2 hc
    refine lv_iload hx hb dX5_leastStep_48 (lv_at hl 4 rfl) ?_
    refine lv_iload hx hb dX5_leastStep_50 (lv_at hl 5 rfl) ?_
    refine zSN_i [.int x4, .int x5] [] zc ky_X10_has kz_X10_has (hK.2 _ kn_5_32) (c_z_X10_has l hw) (zPre0 _) rfl rfl hl.1 (Nat.le_of_ble_eq_true rfl) ⟨rfl, rfl⟩ ⟨Nat.le_of_ble_eq_true rfl, Nat.le_of_ble_eq_true rfl⟩ ⟨(Nat.le_refl _), (Nat.le_refl _)⟩ dX5_leastStep_52 (fun r_1 hw => ?_)
    refine lv_if_eq (tgt := 93) hx hb dX5_leastStep_55 (by decide) (fun hc => ?_) (fun hc => ?_)
    · have hw := hw.1 hc
      exact t_wk_X5_leastStep_3_93 zc hK hM hS hP31 (fun _ _ H locs ls h hl hM hS => h H locs ls hl hM hS) (lv_sub hl [0, 1, 2, 3, 4, 5] rfl) hw
    · have hw := hw.2 hc
      refine lv_aload_n hx hb dX5_leastStep_58 rfl (lv_at hl 2 rfl) ?_
      refine lv_iload hx hb dX5_leastStep_59 (lv_at hl 4 rfl) ?_
      refine lv_bipush (v := (9 : Int32)) hx hb dX5_leastStep_61 (by decide) ?_
      refine lv_imul hx hb dX5_leastStep_63 ?_
      refine lv_iload hx hb dX5_leastStep_64 (lv_at hl 5 rfl) ?_
      refine lv_iadd hx hb dX5_leastStep_66 ?_
      refine lv_iload hx hb dX5_leastStep_67 (lv_at hl 4 rfl) ?_
      refine lv_iload_n hx hb dX5_leastStep_69 rfl (lv_at hl 3 rfl) ?_
      refine lv_icmp_ne (tgt := 77) hx hb dX5_leastStep_70 (by decide) (fun hc => ?_) (fun hc => ?_)
      · have hw := hw.1 hc
        refine lv_aload_n hx hb dX5_leastStep_77 rfl (lv_at hl 0 rfl) ?_
        refine lv_aload_n hx hb dX5_leastStep_78 rfl (lv_at hl 2 rfl) ?_
        refine lv_iload hx hb dX5_leastStep_79 (lv_at hl 4 rfl) ?_
        refine lv_iload_n hx hb dX5_leastStep_81 rfl (lv_at hl 3 rfl) ?_
        refine lv_iload hx hb dX5_leastStep_82 (lv_at hl 4 rfl) ?_
        refine lv_iconst (v := (-1 : Int32)) hx hb dX5_leastStep_84 (by decide) ?_
        refine lv_ixor hx hb dX5_leastStep_85 ?_
        refine lv_iand hx hb dX5_leastStep_86 ?_
        refine lv_iload hx hb dX5_leastStep_87 (lv_at hl 5 rfl) ?_
        refine zV_i [.ref qz, .int x4, .int (x3 &&& (x4 ^^^ (-1 : Int32))), .int x5] [.int ((x4 * (9 : Int32)) + x5), .ref qz] zc ky_X5_stepOn kz_X5_stepOn km_5_50 (c_wk_X5_stepOn_6 l hw) (wkPreV0 hK hM) rfl rfl hl.1 (Nat.le_of_ble_eq_true rfl) ⟨rfl, rfl⟩ ⟨Nat.le_of_ble_eq_true rfl, Nat.le_of_ble_eq_true rfl⟩ ⟨(Nat.le_refl _), (Nat.le_refl _)⟩ dX5_leastStep_89 (fun r_2 hw => ?_)
        exact t_wk_X5_leastStep_3_92 zc hK hM hS hP31 (fun _ _ H locs ls h hl hM hS => h H locs ls hl hM hS) (lv_sub hl [0, 1, 2, 3, 4, 5] rfl) hw
      · have hw := hw.2 hc
        refine lv_iconst (v := (0 : Int32)) hx hb dX5_leastStep_73 (by decide) ?_
        refine lv_goto (tgt := 92) hx hb dX5_leastStep_74 (by decide) ?_
        exact t_wk_X5_leastStep_3_92 zc hK hM hS hP31 (fun _ _ H locs ls h hl hM hS => h H locs ls hl hM hS) (lv_sub hl [0, 1, 2, 3, 4, 5] rfl) hw
set_option maxRecDepth 20000 in
theorem t_wk_X5_leastStep_3_31 {p : Program} {l : Launch} {e : Env} {s : State} {m : MethodId} {args : Array Value} {below : List Frame} {meth : Method} {c : Code} {kc ks : Nat} {E : zE} {qk qc qz : Nat} {a_gaps : Nat → Int32} {a_behind : Nat → Int32} {cf_voices : Int32} {cf_step : Int32} {ca_parts : Nat → Int32} {ca_heights : Nat → Int32} {z_tab : Nat → Int32} {post : Int32 → (Nat → Int32) → (Nat → Int32) → (Nat → Int32) → Prop} {x3 : Int32} {x4 : Int32} {ls : Array Slot} {H : Heap} {locs : List Loc}
    (zc : zC p s m args meth c cX5_leastStep 6 RX5 (some .int))
    (hK : zK E s)
    (hM : wkW E qk qc qz a_gaps a_behind cf_voices cf_step ca_parts ca_heights z_tab H)
    (hS : va_S (wkA qk qc qz) s.heap H locs)
    (hl : lv_has ls 6 [(0, .ref qk), (1, .ref qc), (2, .ref qz), (3, .int x3), (4, .int x4)])
    (hw : q_wk_X5_leastStep_3_31 a_gaps a_behind cf_voices cf_step ca_parts ca_heights z_tab x3 x4 post) :
    W p l e (rm_wk_X5_leastStep_3 kc ks) s m args below meth c H locs kc ks (MQ below (zQi (S := (Nat → Int32) × (Nat → Int32) × (Nat → Int32)) (fun r u => post r u.1 u.2.1 u.2.2) (fun u H => wkW E qk qc qz u.1 u.2.1 cf_voices cf_step ca_parts ca_heights u.2.2 H) (wkA qk qc qz)) args s kc ks (wkA qk qc qz)) (F0 m 31 ls []) := by
  have hx := zc.1
  have hb := zc.2.1
  refine hw (fun x4 z_tab => ∀ (H : Heap) (locs : List Loc) (ls : Array Slot), lv_has ls 6 [(0, .ref qk), (1, .ref qc), (2, .ref qz), (3, .int x3), (4, .int x4)] → wkW E qk qc qz a_gaps a_behind cf_voices cf_step ca_parts ca_heights z_tab H → va_S (wkA qk qc qz) s.heap H locs → W p l e (rm_wk_X5_leastStep_3 kc ks) s m args below meth c H locs kc ks (MQ below (zQi (S := (Nat → Int32) × (Nat → Int32) × (Nat → Int32)) (fun r u => post r u.1 u.2.1 u.2.2) (fun u H => wkW E qk qc qz u.1 u.2.1 cf_voices cf_step ca_parts ca_heights u.2.2 H) (wkA qk qc qz)) args s kc ks (wkA qk qc qz)) (F0 m 31 ls [])) ?_ _ _ _ hl hM hS
  intro x4 z_tab hw H locs ls hl hM hS
  refine lv_iload hx hb dX5_leastStep_31 (lv_at hl 4 rfl) ?_
  refine lv_if_le (tgt := 105) hx hb dX5_leastStep_33 (by decide) (fun hc => ?_) (fun hc => ?_)
  · have hw := hw.1 hc
    refine lv_sipush (v := (1000 : Int32)) hx hb dX5_leastStep_105 (by decide) ?_
    refine lv_istore (lv' := [(4, .int (1000 : Int32)), (0, .ref qk), (1, .ref qc), (2, .ref qz), (3, .int x3)]) hx hb dX5_leastStep_108 hl (by decide) rfl (fun ls hl => ?_)
    refine lv_iconst (v := (0 : Int32)) hx hb dX5_leastStep_110 (by decide) ?_
    refine lv_istore (lv' := [(5, .int (0 : Int32)), (4, .int (1000 : Int32)), (0, .ref qk), (1, .ref qc), (2, .ref qz), (3, .int x3)]) hx hb dX5_leastStep_111 hl (by decide) rfl (fun ls hl => ?_)
    exact t_wk_X5_leastStep_3_113 zc hK hM hS  (lv_sub hl [3, 4, 1, 0] rfl) hw
  · have hw := hw.2 hc
    refine lv_iconst (v := (0 : Int32)) hx hb dX5_leastStep_36 (by decide) ?_
    refine lv_istore (lv' := [(5, .int (0 : Int32)), (0, .ref qk), (1, .ref qc), (2, .ref qz), (3, .int x3), (4, .int x4)]) hx hb dX5_leastStep_37 hl (by decide) rfl (fun ls hl => ?_)
    exact t_wk_X5_leastStep_3_39 zc hK hM hS (fun _ _ H locs ls h hl hM hS => h H locs ls hl hM hS) (lv_sub hl [1, 2, 3, 4, 5, 0] rfl) hw
set_option maxRecDepth 20000 in
theorem t_wk_X5_leastStep_3_19 {p : Program} {l : Launch} {e : Env} {s : State} {m : MethodId} {args : Array Value} {below : List Frame} {meth : Method} {c : Code} {kc ks : Nat} {E : zE} {qk qc qz : Nat} {a_gaps : Nat → Int32} {a_behind : Nat → Int32} {cf_voices : Int32} {cf_step : Int32} {ca_parts : Nat → Int32} {ca_heights : Nat → Int32} {z_tab : Nat → Int32} {post : Int32 → (Nat → Int32) → (Nat → Int32) → (Nat → Int32) → Prop} {ls : Array Slot} {H : Heap} {locs : List Loc}
    (zc : zC p s m args meth c cX5_leastStep 6 RX5 (some .int))
    (hK : zK E s)
    (hM : wkW E qk qc qz a_gaps a_behind cf_voices cf_step ca_parts ca_heights z_tab H)
    (hS : va_S (wkA qk qc qz) s.heap H locs)
    (hl : lv_has ls 6 [(0, .ref qk), (1, .ref qc), (2, .ref qz)])
    (hw : q_wk_X5_leastStep_3_19 a_gaps a_behind cf_voices cf_step ca_parts ca_heights z_tab post) :
    W p l e (rm_wk_X5_leastStep_3 kc ks) s m args below meth c H locs kc ks (MQ below (zQi (S := (Nat → Int32) × (Nat → Int32) × (Nat → Int32)) (fun r u => post r u.1 u.2.1 u.2.2) (fun u H => wkW E qk qc qz u.1 u.2.1 cf_voices cf_step ca_parts ca_heights u.2.2 H) (wkA qk qc qz)) args s kc ks (wkA qk qc qz)) (F0 m 19 ls []) := by
  have hx := zc.1
  have hb := zc.2.1
  refine lv_iconst (v := (1 : Int32)) hx hb dX5_leastStep_19 (by decide) ?_
  refine lv_aload_n hx hb dX5_leastStep_20 rfl (lv_at hl 1 rfl) ?_
  refine wkg_5_26_3 zc hK hM dX5_leastStep_21 ?_
  refine lv_ishl hx hb dX5_leastStep_24 ?_
  refine lv_iconst (v := (1 : Int32)) hx hb dX5_leastStep_25 (by decide) ?_
  refine lv_isub hx hb dX5_leastStep_26 ?_
  refine lv_topi (fun v_1 ev_1 => ?_)
  have hw := hw v_1 ev_1
  refine lv_istore_n (lv' := [(3, .int v_1), (0, .ref qk), (1, .ref qc), (2, .ref qz)]) hx hb dX5_leastStep_27 rfl hl (by decide) rfl (fun ls hl => ?_)
  refine lv_iload_n hx hb dX5_leastStep_28 rfl (lv_at hl 0 rfl) ?_
  refine lv_istore (lv' := [(4, .int v_1), (3, .int v_1), (0, .ref qk), (1, .ref qc), (2, .ref qz)]) hx hb dX5_leastStep_29 hl (by decide) rfl (fun ls hl => ?_)
  exact t_wk_X5_leastStep_3_31 zc hK hM hS  (lv_sub hl [2, 3, 4, 1, 0] rfl) hw
set_option maxRecDepth 20000 in
theorem t_wk_X5_leastStep_3_0 {p : Program} {l : Launch} {e : Env} {s : State} {m : MethodId} {args : Array Value} {below : List Frame} {meth : Method} {c : Code} {kc ks : Nat} {E : zE} {qk qc qz : Nat} {a_gaps : Nat → Int32} {a_behind : Nat → Int32} {cf_voices : Int32} {cf_step : Int32} {ca_parts : Nat → Int32} {ca_heights : Nat → Int32} {z_tab : Nat → Int32} {post : Int32 → (Nat → Int32) → (Nat → Int32) → (Nat → Int32) → Prop} {ls : Array Slot} {H : Heap} {locs : List Loc}
    (zc : zC p s m args meth c cX5_leastStep 6 RX5 (some .int))
    (hK : zK E s)
    (hM : wkW E qk qc qz a_gaps a_behind cf_voices cf_step ca_parts ca_heights z_tab H)
    (hS : va_S (wkA qk qc qz) s.heap H locs)
    (hl : lv_has ls 6 [(0, .ref qk), (1, .ref qc)])
    (hw : q_wk_X5_leastStep_3_0 a_gaps a_behind cf_voices cf_step ca_parts ca_heights z_tab post) :
    W p l e (rm_wk_X5_leastStep_3 kc ks) s m args below meth c H locs kc ks (MQ below (zQi (S := (Nat → Int32) × (Nat → Int32) × (Nat → Int32)) (fun r u => post r u.1 u.2.1 u.2.2) (fun u H => wkW E qk qc qz u.1 u.2.1 cf_voices cf_step ca_parts ca_heights u.2.2 H) (wkA qk qc qz)) args s kc ks (wkA qk qc qz)) (F0 m 0 ls []) := by
  have hx := zc.1
  have hb := zc.2.1
  refine lv_aload_n hx hb dX5_leastStep_0 rfl (lv_at hl 1 rfl) ?_
  refine wkg_5_26_3 zc hK hM dX5_leastStep_1 ?_
  refine lv_if_ne (tgt := 9) hx hb dX5_leastStep_4 (by decide) (fun hc => ?_) (fun hc => ?_)
  · have hw := hw.1 hc
    refine lv_aload_n hx hb dX5_leastStep_9 rfl (lv_at hl 0 rfl) ?_
    refine lv_aload_n hx hb dX5_leastStep_10 rfl (lv_at hl 1 rfl) ?_
    refine zVw_v [.ref qc] [] zc ky_X5_measure kz_X5_measure km_5_18 (c_wk_X5_measure_3 l hw) (wkPreV0 hK hM) hS rfl rfl hl.1 (Nat.le_of_ble_eq_true rfl) ⟨rfl, rfl⟩ ⟨Nat.le_of_ble_eq_true rfl, Nat.le_of_ble_eq_true rfl⟩ ⟨(Nat.le_refl _), (Nat.le_refl _)⟩ dX5_leastStep_11 (fun u H locs hw hM hS => ?_)
    obtain ⟨a_gaps_1, a_behind_1⟩ := u
    refine lv_aload_n hx hb dX5_leastStep_14 rfl (lv_at hl 0 rfl) ?_
    refine zV_r [] [] zc ky_X5_table kz_X5_table km_5_22 (c_wk_X5_table l hw) (wkPreV0 hK hM) rfl rfl hl.1 (Nat.le_of_ble_eq_true rfl) ⟨rfl, rfl⟩ ⟨Nat.le_of_ble_eq_true rfl, Nat.le_of_ble_eq_true rfl⟩ ⟨(Nat.le_refl _), (Nat.le_refl _)⟩ dX5_leastStep_15 (fun r_1 hw => ?_)
    by_cases hc0 : r_1 = 0
    · have hw := hw.1 hc0
      exact hw.elim
    have hw := hw.2 hc0
    refine W.eq (g2 := F0 m 18 ls (.ref qz :: [])) (by simp [hc0]) ?_
    refine lv_astore_n (lv' := [(2, .ref qz), (0, .ref qk), (1, .ref qc)]) hx hb dX5_leastStep_18 rfl hl (by decide) rfl (fun ls hl => ?_)
    exact t_wk_X5_leastStep_3_19 zc hK hM hS  (lv_sub hl [1, 2, 0] rfl) hw
  · have hw := hw.2 hc
    refine lv_iconst (v := (0 : Int32)) hx hb dX5_leastStep_7 (by decide) ?_
    exact zret_iw ⟨a_gaps, a_behind, z_tab⟩ zc hS hw hM dX5_leastStep_8
set_option maxRecDepth 20000 in
theorem c_wk_X5_leastStep_3 (l : Launch) {E : zE} {qk qc qz : Nat} {a_gaps : Nat → Int32} {a_behind : Nat → Int32} {cf_voices : Int32} {cf_step : Int32} {ca_parts : Nat → Int32} {ca_heights : Nat → Int32} {z_tab : Nat → Int32} {post : Int32 → (Nat → Int32) → (Nat → Int32) → (Nat → Int32) → Prop} (hw : q_wk_X5_leastStep_3_0 a_gaps a_behind cf_voices cf_step ca_parts ca_heights z_tab post) : Met l yX5_leastStep (Cond.code yX5_leastStep cX5_leastStep 6 (some .int) :: zb) (rm_wk_X5_leastStep_3 0 0) (va_Pc [.ref qk, .ref qc] (fun U => wkW E qk qc qz a_gaps a_behind cf_voices cf_step ca_parts ca_heights z_tab U.heap ∧ zK E U)) (zQi (S := (Nat → Int32) × (Nat → Int32) × (Nat → Int32)) (fun r u => post r u.1 u.2.1 u.2.2) (fun u H => wkW E qk qc qz u.1 u.2.1 cf_voices cf_step ca_parts ca_heights u.2.2 H) (wkA qk qc qz)) 0 0 (wkA qk qc qz) := by
  refine Met.ofW (cc := cX5_leastStep) (maxL := 6) (ret := (some .int)) (by decide) rfl ?_
  intro p e s m args below meth c s₁ B hml hv
  obtain ⟨rfl, hM, hK⟩ := hv
  have zc := zc_of B hml
  have hl := lv_entry ([.ref qk, .ref qc]) (n := 6) (Nat.le_of_ble_eq_true rfl)
  rw [lg_entry_eq]
  generalize (lg_sl ([.ref qk, .ref qc]) ++ List.replicate (6 - (lg_sl ([.ref qk, .ref qc])).length) Slot.unset).toArray = ls at hl ⊢
  have hl : lv_has ls 6 [(0, .ref qk), (1, .ref qc)] := hl
  exact t_wk_X5_leastStep_3_0 zc hK hM va_S.rf (lv_sub hl [0, 1] rfl) hw
end
