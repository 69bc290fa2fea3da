section
-- z_X4_isLetter
abbrev rm_z_X4_isLetter : Room := { frames := 0, cells := 0, slots := 0, locals := 0 }
def q_z_X4_isLetter_0 (x0 : Int32) (post : Int32 → Prop) : Prop :=
  (x0 < (97 : Int32) → (post (0 : Int32))) ∧ (¬ x0 < (97 : Int32) → (((122 : Int32) < x0 → (post (0 : Int32))) ∧ (¬ (122 : Int32) < x0 → (post (1 : Int32)))))
set_option maxRecDepth 20000 in
theorem t_z_X4_isLetter_0 {p : Program} {l : Launch} {e : Env} {s : State} {m : MethodId} {args : Array Value} {below : List Frame} {meth : Method} {c : Code} {post : Int32 → Prop} {x0 : Int32} {ls : Array Slot}
    (zc : zC p s m args meth c cX4_isLetter 1 RX4 (some .boolean))
    (hl : lv_has ls 1 [(0, .int x0)])
    (hw : q_z_X4_isLetter_0 x0 post) :
    W p l e rm_z_X4_isLetter s m args below meth c s.heap [] 0 0 (MQ below (vp_Si post) args s 0 0 (fun _ => False)) (F0 m 0 ls []) := by
  have hx := zc.1
  have hb := zc.2.1
  refine lv_iload_n hx hb dX4_isLetter_0 rfl (lv_at hl 0 rfl) ?_
  refine lv_bipush (v := (97 : Int32)) hx hb dX4_isLetter_1 (by decide) ?_
  refine lv_icmp_lt (tgt := 16) hx hb dX4_isLetter_3 (by decide) (fun hc => ?_) (fun hc => ?_)
  · have hw := hw.1 hc
    refine lv_iconst (v := (0 : Int32)) hx hb dX4_isLetter_16 (by decide) ?_
    exact zret_z zc rfl hw dX4_isLetter_17
  · have hw := hw.2 hc
    refine lv_iload_n hx hb dX4_isLetter_6 rfl (lv_at hl 0 rfl) ?_
    refine lv_bipush (v := (122 : Int32)) hx hb dX4_isLetter_7 (by decide) ?_
    refine lv_icmp_gt (tgt := 16) hx hb dX4_isLetter_9 (by decide) (fun hc => ?_) (fun hc => ?_)
    · have hw := hw.1 hc
      refine lv_iconst (v := (0 : Int32)) hx hb dX4_isLetter_16 (by decide) ?_
      exact zret_z zc rfl hw dX4_isLetter_17
    · have hw := hw.2 hc
      refine lv_iconst (v := (1 : Int32)) hx hb dX4_isLetter_12 (by decide) ?_
      refine lv_goto (tgt := 17) hx hb dX4_isLetter_13 (by decide) ?_
      exact zret_z zc rfl hw dX4_isLetter_17
set_option maxRecDepth 20000 in
theorem c_z_X4_isLetter (l : Launch) {x0 : Int32} {post : Int32 → Prop} (hw : q_z_X4_isLetter_0 x0 post) : Met l yX4_isLetter (Cond.code yX4_isLetter cX4_isLetter 1 (some .boolean) :: zb) rm_z_X4_isLetter (va_Pc [.int x0] (fun _ => True)) (vp_Si post) 0 0 (fun _ => False) := by
  refine Met.ofW (cc := cX4_isLetter) (maxL := 1) (ret := (some .boolean)) (by decide) rfl ?_
  intro p e s m args below meth c s₁ B hml hv
  obtain ⟨rfl, -⟩ := hv
  have zc := zc_of B hml
  have hl := lv_entry ([.int x0]) (n := 1) (Nat.le_of_ble_eq_true rfl)
  rw [lg_entry_eq]
  generalize (lg_sl ([.int x0]) ++ List.replicate (1 - (lg_sl ([.int x0])).length) Slot.unset).toArray = ls at hl ⊢
  have hl : lv_has ls 1 [(0, .int x0)] := hl
  exact t_z_X4_isLetter_0 zc (lv_sub hl [0] rfl) hw
-- z_X4_isDigit
abbrev rm_z_X4_isDigit : Room := { frames := 0, cells := 0, slots := 0, locals := 0 }
def q_z_X4_isDigit_0 (x0 : Int32) (post : Int32 → Prop) : Prop :=
  (x0 < (48 : Int32) → (post (0 : Int32))) ∧ (¬ x0 < (48 : Int32) → (((57 : Int32) < x0 → (post (0 : Int32))) ∧ (¬ (57 : Int32) < x0 → (post (1 : Int32)))))
set_option maxRecDepth 20000 in
theorem t_z_X4_isDigit_0 {p : Program} {l : Launch} {e : Env} {s : State} {m : MethodId} {args : Array Value} {below : List Frame} {meth : Method} {c : Code} {post : Int32 → Prop} {x0 : Int32} {ls : Array Slot}
    (zc : zC p s m args meth c cX4_isDigit 1 RX4 (some .boolean))
    (hl : lv_has ls 1 [(0, .int x0)])
    (hw : q_z_X4_isDigit_0 x0 post) :
    W p l e rm_z_X4_isDigit s m args below meth c s.heap [] 0 0 (MQ below (vp_Si post) args s 0 0 (fun _ => False)) (F0 m 0 ls []) := by
  have hx := zc.1
  have hb := zc.2.1
  refine lv_iload_n hx hb dX4_isDigit_0 rfl (lv_at hl 0 rfl) ?_
  refine lv_bipush (v := (48 : Int32)) hx hb dX4_isDigit_1 (by decide) ?_
  refine lv_icmp_lt (tgt := 16) hx hb dX4_isDigit_3 (by decide) (fun hc => ?_) (fun hc => ?_)
  · have hw := hw.1 hc
    refine lv_iconst (v := (0 : Int32)) hx hb dX4_isDigit_16 (by decide) ?_
    exact zret_z zc rfl hw dX4_isDigit_17
  · have hw := hw.2 hc
    refine lv_iload_n hx hb dX4_isDigit_6 rfl (lv_at hl 0 rfl) ?_
    refine lv_bipush (v := (57 : Int32)) hx hb dX4_isDigit_7 (by decide) ?_
    refine lv_icmp_gt (tgt := 16) hx hb dX4_isDigit_9 (by decide) (fun hc => ?_) (fun hc => ?_)
    · have hw := hw.1 hc
      refine lv_iconst (v := (0 : Int32)) hx hb dX4_isDigit_16 (by decide) ?_
      exact zret_z zc rfl hw dX4_isDigit_17
    · have hw := hw.2 hc
      refine lv_iconst (v := (1 : Int32)) hx hb dX4_isDigit_12 (by decide) ?_
      refine lv_goto (tgt := 17) hx hb dX4_isDigit_13 (by decide) ?_
      exact zret_z zc rfl hw dX4_isDigit_17
set_option maxRecDepth 20000 in
theorem c_z_X4_isDigit (l : Launch) {x0 : Int32} {post : Int32 → Prop} (hw : q_z_X4_isDigit_0 x0 post) : Met l yX4_isDigit (Cond.code yX4_isDigit cX4_isDigit 1 (some .boolean) :: zb) rm_z_X4_isDigit (va_Pc [.int x0] (fun _ => True)) (vp_Si post) 0 0 (fun _ => False) := by
  refine Met.ofW (cc := cX4_isDigit) (maxL := 1) (ret := (some .boolean)) (by decide) rfl ?_
  intro p e s m args below meth c s₁ B hml hv
  obtain ⟨rfl, -⟩ := hv
  have zc := zc_of B hml
  have hl := lv_entry ([.int x0]) (n := 1) (Nat.le_of_ble_eq_true rfl)
  rw [lg_entry_eq]
  generalize (lg_sl ([.int x0]) ++ List.replicate (1 - (lg_sl ([.int x0])).length) Slot.unset).toArray = ls at hl ⊢
  have hl : lv_has ls 1 [(0, .int x0)] := hl
  exact t_z_X4_isDigit_0 zc (lv_sub hl [0] rfl) hw
-- z_X10_nearOrNone
abbrev rm_z_X10_nearOrNone : Room := { frames := 0, cells := 0, slots := 0, locals := 0 }
def q_z_X10_nearOrNone_0 (x0 : Int32) (post : Int32 → Prop) : Prop :=
  ((1000 : Int32) ≤ x0 → (post (-1 : Int32))) ∧ (¬ (1000 : Int32) ≤ x0 → (post x0))
set_option maxRecDepth 20000 in
theorem t_z_X10_nearOrNone_0 {p : Program} {l : Launch} {e : Env} {s : State} {m : MethodId} {args : Array Value} {below : List Frame} {meth : Method} {c : Code} {post : Int32 → Prop} {x0 : Int32} {ls : Array Slot}
    (zc : zC p s m args meth c cX10_nearOrNone 1 RX10 (some .int))
    (hl : lv_has ls 1 [(0, .int x0)])
    (hw : q_z_X10_nearOrNone_0 x0 post) :
    W p l e rm_z_X10_nearOrNone s m args below meth c s.heap [] 0 0 (MQ below (vp_Si post) args s 0 0 (fun _ => False)) (F0 m 0 ls []) := by
  have hx := zc.1
  have hb := zc.2.1
  refine lv_iload_n hx hb dX10_nearOrNone_0 rfl (lv_at hl 0 rfl) ?_
  refine lv_sipush (v := (1000 : Int32)) hx hb dX10_nearOrNone_1 (by decide) ?_
  refine lv_icmp_ge (tgt := 11) hx hb dX10_nearOrNone_4 (by decide) (fun hc => ?_) (fun hc => ?_)
  · have hw := hw.1 hc
    refine lv_iconst (v := (-1 : Int32)) hx hb dX10_nearOrNone_11 (by decide) ?_
    exact zret_i zc hw dX10_nearOrNone_12
  · have hw := hw.2 hc
    refine lv_iload_n hx hb dX10_nearOrNone_7 rfl (lv_at hl 0 rfl) ?_
    refine lv_goto (tgt := 12) hx hb dX10_nearOrNone_8 (by decide) ?_
    exact zret_i zc hw dX10_nearOrNone_12
set_option maxRecDepth 20000 in
theorem c_z_X10_nearOrNone (l : Launch) {x0 : Int32} {post : Int32 → Prop} (hw : q_z_X10_nearOrNone_0 x0 post) : Met l yX10_nearOrNone (Cond.code yX10_nearOrNone cX10_nearOrNone 1 (some .int) :: zb) rm_z_X10_nearOrNone (va_Pc [.int x0] (fun _ => True)) (vp_Si post) 0 0 (fun _ => False) := by
  refine Met.ofW (cc := cX10_nearOrNone) (maxL := 1) (ret := (some .int)) (by decide) rfl ?_
  intro p e s m args below meth c s₁ B hml hv
  obtain ⟨rfl, -⟩ := hv
  have zc := zc_of B hml
  have hl := lv_entry ([.int x0]) (n := 1) (Nat.le_of_ble_eq_true rfl)
  rw [lg_entry_eq]
  generalize (lg_sl ([.int x0]) ++ List.replicate (1 - (lg_sl ([.int x0])).length) Slot.unset).toArray = ls at hl ⊢
  have hl : lv_has ls 1 [(0, .int x0)] := hl
  exact t_z_X10_nearOrNone_0 zc (lv_sub hl [0] rfl) hw
-- z_X10_sharedDivisor
abbrev rm_z_X10_sharedDivisor : Room := { frames := 0, cells := 0, slots := 0, locals := 0 }
def q_z_X10_sharedDivisor_0 (x0 : Int32) (post : Int32 → Prop) : Prop :=
  (¬ (x0 - x0 / (10 : Int32) * (10 : Int32)) = 0 → ((¬ (x0 - x0 / (5 : Int32) * (5 : Int32)) = 0 → ((¬ (x0 - x0 / (2 : Int32) * (2 : Int32)) = 0 → (post (1 : Int32))) ∧ ((x0 - x0 / (2 : Int32) * (2 : Int32)) = 0 → (post (2 : Int32))))) ∧ ((x0 - x0 / (5 : Int32) * (5 : Int32)) = 0 → (post (5 : Int32))))) ∧ ((x0 - x0 / (10 : Int32) * (10 : Int32)) = 0 → (post (10 : Int32)))
set_option maxRecDepth 20000 in
theorem t_z_X10_sharedDivisor_0 {p : Program} {l : Launch} {e : Env} {s : State} {m : MethodId} {args : Array Value} {below : List Frame} {meth : Method} {c : Code} {post : Int32 → Prop} {x0 : Int32} {ls : Array Slot}
    (zc : zC p s m args meth c cX10_sharedDivisor 1 RX10 (some .int))
    (hl : lv_has ls 1 [(0, .int x0)])
    (hw : q_z_X10_sharedDivisor_0 x0 post) :
    W p l e rm_z_X10_sharedDivisor s m args below meth c s.heap [] 0 0 (MQ below (vp_Si post) args s 0 0 (fun _ => False)) (F0 m 0 ls []) := by
  have hx := zc.1
  have hb := zc.2.1
  refine lv_iload_n hx hb dX10_sharedDivisor_0 rfl (lv_at hl 0 rfl) ?_
  refine lv_bipush (v := (10 : Int32)) hx hb dX10_sharedDivisor_1 (by decide) ?_
  refine lv_irem hx hb dX10_sharedDivisor_3 (by decide) ?_
  refine lv_if_ne (tgt := 10) hx hb dX10_sharedDivisor_4 (by decide) (fun hc => ?_) (fun hc => ?_)
  · have hw := hw.1 hc
    refine lv_iload_n hx hb dX10_sharedDivisor_10 rfl (lv_at hl 0 rfl) ?_
    refine lv_iconst (v := (5 : Int32)) hx hb dX10_sharedDivisor_11 (by decide) ?_
    refine lv_irem hx hb dX10_sharedDivisor_12 (by decide) ?_
    refine lv_if_ne (tgt := 18) hx hb dX10_sharedDivisor_13 (by decide) (fun hc => ?_) (fun hc => ?_)
    · have hw := hw.1 hc
      refine lv_iload_n hx hb dX10_sharedDivisor_18 rfl (lv_at hl 0 rfl) ?_
      refine lv_iconst (v := (2 : Int32)) hx hb dX10_sharedDivisor_19 (by decide) ?_
      refine lv_irem hx hb dX10_sharedDivisor_20 (by decide) ?_
      refine lv_if_ne (tgt := 28) hx hb dX10_sharedDivisor_21 (by decide) (fun hc => ?_) (fun hc => ?_)
      · have hw := hw.1 hc
        refine lv_iconst (v := (1 : Int32)) hx hb dX10_sharedDivisor_28 (by decide) ?_
        exact zret_i zc hw dX10_sharedDivisor_29
      · have hw := hw.2 hc
        refine lv_iconst (v := (2 : Int32)) hx hb dX10_sharedDivisor_24 (by decide) ?_
        refine lv_goto (tgt := 29) hx hb dX10_sharedDivisor_25 (by decide) ?_
        exact zret_i zc hw dX10_sharedDivisor_29
    · have hw := hw.2 hc
      refine lv_iconst (v := (5 : Int32)) hx hb dX10_sharedDivisor_16 (by decide) ?_
      exact zret_i zc hw dX10_sharedDivisor_17
  · have hw := hw.2 hc
    refine lv_bipush (v := (10 : Int32)) hx hb dX10_sharedDivisor_7 (by decide) ?_
    exact zret_i zc hw dX10_sharedDivisor_9
set_option maxRecDepth 20000 in
theorem c_z_X10_sharedDivisor (l : Launch) {x0 : Int32} {post : Int32 → Prop} (hw : q_z_X10_sharedDivisor_0 x0 post) : Met l yX10_sharedDivisor (Cond.code yX10_sharedDivisor cX10_sharedDivisor 1 (some .int) :: zb) rm_z_X10_sharedDivisor (va_Pc [.int x0] (fun _ => True)) (vp_Si post) 0 0 (fun _ => False) := by
  refine Met.ofW (cc := cX10_sharedDivisor) (maxL := 1) (ret := (some .int)) (by decide) rfl ?_
  intro p e s m args below meth c s₁ B hml hv
  obtain ⟨rfl, -⟩ := hv
  have zc := zc_of B hml
  have hl := lv_entry ([.int x0]) (n := 1) (Nat.le_of_ble_eq_true rfl)
  rw [lg_entry_eq]
  generalize (lg_sl ([.int x0]) ++ List.replicate (1 - (lg_sl ([.int x0])).length) Slot.unset).toArray = ls at hl ⊢
  have hl : lv_has ls 1 [(0, .int x0)] := hl
  exact t_z_X10_sharedDivisor_0 zc (lv_sub hl [0] rfl) hw
-- z_X10_power
abbrev rm_z_X10_power : Room := { frames := 0, cells := 0, slots := 0, locals := 0 }
def q_z_X10_power_5 (x0 : Int32) (x1 : Int32) (x2 : Int64) (x4 : Int32) (post : Int64 → Prop) : Prop :=
  ∀ P5 : Int64 → Int32 → Prop, (∀ (x2 : Int64) (x4 : Int32), ((x1 ≤ x4 → (post x2)) ∧ (¬ x1 ≤ x4 → (∀ v_1 : Int64, v_1 = (x2 * (Int32.toInt64 x0)) → (∀ v_2 : Int32, v_2 = x4 + (1 : Int32) → (P5 v_1 v_2))))) → P5 x2 x4) → P5 x2 x4
def q_z_X10_power_0 (x0 : Int32) (x1 : Int32) (post : Int64 → Prop) : Prop :=
  q_z_X10_power_5 x0 x1 (1 : Int64) (0 : Int32) post
set_option maxRecDepth 20000 in
theorem t_z_X10_power_5 {p : Program} {l : Launch} {e : Env} {s : State} {m : MethodId} {args : Array Value} {below : List Frame} {meth : Method} {c : Code} {post : Int64 → Prop} {x0 : Int32} {x1 : Int32} {x2 : Int64} {x4 : Int32} {ls : Array Slot}
    (zc : zC p s m args meth c cX10_power 5 RX10 (some .long))
    (hl : lv_has ls 5 [(0, .int x0), (1, .int x1), (2, .long x2), (4, .int x4)])
    (hw : q_z_X10_power_5 x0 x1 x2 x4 post) :
    W p l e rm_z_X10_power s m args below meth c s.heap [] 0 0 (MQ below (vp_Sl post) args s 0 0 (fun _ => False)) (F0 m 5 ls []) := by
  have hx := zc.1
  have hb := zc.2.1
  refine hw (fun x2 x4 => ∀ (ls : Array Slot), lv_has ls 5 [(0, .int x0), (1, .int x1), (2, .long x2), (4, .int x4)] → W p l e rm_z_X10_power s m args below meth c s.heap [] 0 0 (MQ below (vp_Sl post) args s 0 0 (fun _ => False)) (F0 m 5 ls [])) ?_ _ hl
  intro x2 x4 hw ls hl
  refine lv_iload hx hb dX10_power_5 (lv_at hl 3 rfl) ?_
  refine lv_iload_n hx hb dX10_power_7 rfl (lv_at hl 1 rfl) ?_
  refine lv_icmp_ge (tgt := 22) hx hb dX10_power_8 (by decide) (fun hc => ?_) (fun hc => ?_)
  · have hw := hw.1 hc
    refine lv_lload_n hx hb dX10_power_22 rfl (lv_at hl 2 rfl) ?_
    exact zret_l zc hw dX10_power_23
  · have hw := hw.2 hc
    refine lv_lload_n hx hb dX10_power_11 rfl (lv_at hl 2 rfl) ?_
    refine lv_iload_n hx hb dX10_power_12 rfl (lv_at hl 0 rfl) ?_
    refine lv_i2l hx hb dX10_power_13 rfl ?_
    refine lv_lmul hx hb dX10_power_14 ?_
    refine lv_topl (fun v_1 ev_1 => ?_)
    have hw := hw v_1 ev_1
    refine lv_lstore_n (lv' := [(2, .long v_1), (0, .int x0), (1, .int x1), (4, .int x4)]) hx hb dX10_power_15 rfl hl (by decide) rfl (fun ls hl => ?_)
    obtain ⟨v_2, ev_2⟩ : ∃ y : Int32, y = x4 + (1 : Int32) := ⟨_, rfl⟩
    have hw := hw v_2 ev_2
    refine lv_iinc (v := v_2) (k := 3) (lv' := [(4, .int v_2), (2, .long v_1), (0, .int x0), (1, .int x1)]) hx hb dX10_power_16 hl rfl (by rw [ev_2]; rfl) (by decide) rfl (fun ls hl => ?_)
    refine lv_goto (tgt := 5) hx hb dX10_power_19 (by decide) ?_
    exact hw _ (lv_sub hl [2, 3, 1, 0] rfl)
set_option maxRecDepth 20000 in
theorem t_z_X10_power_0 {p : Program} {l : Launch} {e : Env} {s : State} {m : MethodId} {args : Array Value} {below : List Frame} {meth : Method} {c : Code} {post : Int64 → Prop} {x0 : Int32} {x1 : Int32} {ls : Array Slot}
    (zc : zC p s m args meth c cX10_power 5 RX10 (some .long))
    (hl : lv_has ls 5 [(0, .int x0), (1, .int x1)])
    (hw : q_z_X10_power_0 x0 x1 post) :
    W p l e rm_z_X10_power s m args below meth c s.heap [] 0 0 (MQ below (vp_Sl post) args s 0 0 (fun _ => False)) (F0 m 0 ls []) := by
  have hx := zc.1
  have hb := zc.2.1
  refine lv_lconst (v := (1 : Int64)) hx hb dX10_power_0 (by decide) ?_
  refine lv_lstore_n (lv' := [(2, .long (1 : Int64)), (0, .int x0), (1, .int x1)]) hx hb dX10_power_1 rfl hl (by decide) rfl (fun ls hl => ?_)
  refine lv_iconst (v := (0 : Int32)) hx hb dX10_power_2 (by decide) ?_
  refine lv_istore (lv' := [(4, .int (0 : Int32)), (2, .long (1 : Int64)), (0, .int x0), (1, .int x1)]) hx hb dX10_power_3 hl (by decide) rfl (fun ls hl => ?_)
  exact t_z_X10_power_5 zc  (lv_sub hl [2, 3, 1, 0] rfl) hw
set_option maxRecDepth 20000 in
theorem c_z_X10_power (l : Launch) {x0 : Int32} {x1 : Int32} {post : Int64 → Prop} (hw : q_z_X10_power_0 x0 x1 post) : Met l yX10_power (Cond.code yX10_power cX10_power 5 (some .long) :: zb) rm_z_X10_power (va_Pc [.int x0, .int x1] (fun _ => True)) (vp_Sl post) 0 0 (fun _ => False) := by
  refine Met.ofW (cc := cX10_power) (maxL := 5) (ret := (some .long)) (by decide) rfl ?_
  intro p e s m args below meth c s₁ B hml hv
  obtain ⟨rfl, -⟩ := hv
  have zc := zc_of B hml
  have hl := lv_entry ([.int x0, .int x1]) (n := 5) (Nat.le_of_ble_eq_true rfl)
  rw [lg_entry_eq]
  generalize (lg_sl ([.int x0, .int x1]) ++ List.replicate (5 - (lg_sl ([.int x0, .int x1])).length) Slot.unset).toArray = ls at hl ⊢
  have hl : lv_has ls 5 [(0, .int x0), (1, .int x1)] := hl
  exact t_z_X10_power_0 zc (lv_sub hl [0, 1] rfl) hw
end
section
-- wc_X0_stepBetween
abbrev rm_wc_X0_stepBetween : Room := { frames := 1, cells := 0, slots := 0, locals := 40 }
def q_wc_X0_stepBetween_0 (a_parts : Nat → Int32) (a_heights : Nat → Int32) (x1 : Int32) (x2 : Int32) (post : Int32 → Prop) : Prop :=
  vp_in x1 9 ∧ (vp_in x2 9 ∧ ((¬ (a_parts (Int32.toNatClampNeg x1)) = (a_parts (Int32.toNatClampNeg x2)) → (vp_in x2 9 ∧ (vp_in x1 9 ∧ (post (if (0 : Int32) < ((a_heights (Int32.toNatClampNeg x2)) - (a_heights (Int32.toNatClampNeg x1))) then ((a_heights (Int32.toNatClampNeg x2)) - (a_heights (Int32.toNatClampNeg x1))) else (0 : Int32)))))) ∧ ((a_parts (Int32.toNatClampNeg x1)) = (a_parts (Int32.toNatClampNeg x2)) → (post (1000 : Int32)))))
set_option maxRecDepth 20000 in
theorem t_wc_X0_stepBetween_0 {p : Program} {l : Launch} {e : Env} {s : State} {m : MethodId} {args : Array Value} {below : List Frame} {meth : Method} {c : Code} {E : zE} {qc : Nat} {f_voices : Int32} {f_step : Int32} {a_parts : Nat → Int32} {a_heights : Nat → Int32} {post : Int32 → Prop} {x1 : Int32} {x2 : Int32} {ls : Array Slot}
    (zc : zC p s m args meth c cX0_stepBetween 3 RX0 (some .int))
    (hK : zK E s)
    (hM : wcW E qc f_voices f_step a_parts a_heights s.heap)
    (hl : lv_has ls 3 [(0, .ref qc), (1, .int x1), (2, .int x2)])
    (hw : q_wc_X0_stepBetween_0 a_parts a_heights x1 x2 post) :
    W p l e rm_wc_X0_stepBetween s m args below meth c s.heap [] 0 0 (MQ below (vp_Si post) args s 0 0 (fun _ => False)) (F0 m 0 ls []) := by
  have hx := zc.1
  have hb := zc.2.1
  refine lv_aload_n hx hb dX0_stepBetween_0 rfl (lv_at hl 0 rfl) ?_
  refine wcg_0_9_0 zc hK hM dX0_stepBetween_1 ?_
  refine lv_iload_n hx hb dX0_stepBetween_4 rfl (lv_at hl 1 rfl) ?_
  refine wcld_1 zc hK hM hw.1 dX0_stepBetween_5 ?_
  have hw := hw.2
  refine lv_aload_n hx hb dX0_stepBetween_6 rfl (lv_at hl 0 rfl) ?_
  refine wcg_0_9_0 zc hK hM dX0_stepBetween_7 ?_
  refine lv_iload_n hx hb dX0_stepBetween_10 rfl (lv_at hl 2 rfl) ?_
  refine wcld_1 zc hK hM hw.1 dX0_stepBetween_11 ?_
  have hw := hw.2
  refine lv_icmp_ne (tgt := 21) hx hb dX0_stepBetween_12 (by decide) (fun hc => ?_) (fun hc => ?_)
  · have hw := hw.1 hc
    refine lv_iconst (v := (0 : Int32)) hx hb dX0_stepBetween_21 (by decide) ?_
    refine lv_aload_n hx hb dX0_stepBetween_22 rfl (lv_at hl 0 rfl) ?_
    refine wcg_0_15_0 zc hK hM dX0_stepBetween_23 ?_
    refine lv_iload_n hx hb dX0_stepBetween_26 rfl (lv_at hl 2 rfl) ?_
    refine wcld_2 zc hK hM hw.1 dX0_stepBetween_27 ?_
    have hw := hw.2
    refine lv_aload_n hx hb dX0_stepBetween_28 rfl (lv_at hl 0 rfl) ?_
    refine wcg_0_15_0 zc hK hM dX0_stepBetween_29 ?_
    refine lv_iload_n hx hb dX0_stepBetween_32 rfl (lv_at hl 1 rfl) ?_
    refine wcld_2 zc hK hM hw.1 dX0_stepBetween_33 ?_
    have hw := hw.2
    refine lv_isub hx hb dX0_stepBetween_34 ?_
    refine va_mmax hx hb (zc.2.2.1.trans hl.1.symm) zc.2.2.2.1 (zc.2.2.2.2.1 _ km_0_31) (zc.2.2.2.2.1 _ k_mmaxs) (zc.2.2.2.2.1 _ k_mini) (zc.2.2.2.2.1 _ k_mmaxc) (Nat.le_of_ble_eq_true rfl) (Nat.le_of_ble_eq_true rfl) (Nat.zero_le _) (Nat.zero_le _) dX0_stepBetween_35 ?_
    exact zret_i zc hw dX0_stepBetween_38
  · have hw := hw.2 hc
    refine lv_sipush (v := (1000 : Int32)) hx hb dX0_stepBetween_15 (by decide) ?_
    refine lv_goto (tgt := 38) hx hb dX0_stepBetween_18 (by decide) ?_
    exact zret_i zc hw dX0_stepBetween_38
set_option maxRecDepth 20000 in
theorem c_wc_X0_stepBetween (l : Launch) {E : zE} {qc : Nat} {f_voices : Int32} {f_step : Int32} {a_parts : Nat → Int32} {a_heights : Nat → Int32} {x1 : Int32} {x2 : Int32} {post : Int32 → Prop} (hw : q_wc_X0_stepBetween_0 a_parts a_heights x1 x2 post) : Met l yX0_stepBetween (Cond.code yX0_stepBetween cX0_stepBetween 3 (some .int) :: zb) rm_wc_X0_stepBetween (va_Pc [.ref qc, .int x1, .int x2] (fun U => wcW E qc f_voices f_step a_parts a_heights U.heap ∧ zK E U)) (vp_Si post) 0 0 (fun _ => False) := by
  refine Met.ofW (cc := cX0_stepBetween) (maxL := 3) (ret := (some .int)) (by decide) rfl ?_
  intro p e s m args below meth c s₁ B hml hv
  obtain ⟨rfl, hM, hK⟩ := hv
  have zc := zc_of B hml
  have hl := lv_entry ([.ref qc, .int x1, .int x2]) (n := 3) (Nat.le_of_ble_eq_true rfl)
  rw [lg_entry_eq]
  generalize (lg_sl ([.ref qc, .int x1, .int x2]) ++ List.replicate (3 - (lg_sl ([.ref qc, .int x1, .int x2])).length) Slot.unset).toArray = ls at hl ⊢
  have hl : lv_has ls 3 [(0, .ref qc), (1, .int x1), (2, .int x2)] := hl
  exact t_wc_X0_stepBetween_0 zc hK hM (lv_sub hl [0, 1, 2] rfl) hw
end
section
-- wp_X7_together_9_2
abbrev rm_wp_X7_together_9_2 : Room := { frames := 1, cells := 0, slots := 0, locals := 40 }
def q_wp_X7_together_9_2_59 (P11 : Int32 → Int32 → Int32 → Prop) (a_walked : Nat → Int32) (lf_huts : Int32) (x3 : Int32) (x4 : Int32) (x5 : Int32) (x6 : Int32) (x7 : Int32) (x8 : Int32) (post : Int32 → Prop) : Prop :=
  ∀ v_1 : Int32, v_1 = x8 + (1 : Int32) → (P11 x6 x7 v_1)
def q_wp_X7_together_9_2_11 (a_walked : Nat → Int32) (lf_huts : Int32) (x3 : Int32) (x4 : Int32) (x5 : Int32) (x6 : Int32) (x7 : Int32) (x8 : Int32) (post : Int32 → Prop) : Prop :=
  ∀ P11 : Int32 → Int32 → Int32 → Prop, (∀ (x6 : Int32) (x7 : Int32) (x8 : Int32), ((lf_huts ≤ x8 → ((x6 = (-1 : Int32) → (post x6)) ∧ (¬ x6 = (-1 : Int32) → ((x5 = 0 → (post x6)) ∧ (¬ x5 = 0 → (post x7)))))) ∧ (¬ lf_huts ≤ x8 → (vp_in ((x3 * (9 : Int32)) + x8) 81 ∧ (vp_in ((x4 * (9 : Int32)) + x8) 81 ∧ (∀ v_1 : Int32, v_1 = (if (a_walked (Int32.toNatClampNeg ((x3 * (9 : Int32)) + x8))) < (a_walked (Int32.toNatClampNeg ((x4 * (9 : Int32)) + x8))) then (a_walked (Int32.toNatClampNeg ((x4 * (9 : Int32)) + x8))) else (a_walked (Int32.toNatClampNeg ((x3 * (9 : Int32)) + x8)))) → ((x7 ≤ v_1 → (q_wp_X7_together_9_2_59 P11 a_walked lf_huts x3 x4 x5 x6 x7 x8 post)) ∧ (¬ x7 ≤ v_1 → (q_wp_X7_together_9_2_59 P11 a_walked lf_huts x3 x4 x5 x8 v_1 x8 post)))))))) → P11 x6 x7 x8) → P11 x6 x7 x8
def q_wp_X7_together_9_2_0 (a_walked : Nat → Int32) (lf_huts : Int32) (x3 : Int32) (x4 : Int32) (x5 : Int32) (post : Int32 → Prop) : Prop :=
  q_wp_X7_together_9_2_11 a_walked lf_huts x3 x4 x5 (-1 : Int32) (1000 : Int32) (0 : Int32) post
set_option maxRecDepth 20000 in
theorem t_wp_X7_together_9_2_59 {p : Program} {l : Launch} {e : Env} {s : State} {m : MethodId} {args : Array Value} {below : List Frame} {meth : Method} {c : Code} {E : zE} {qp ql qs : Nat} {a_heard : Nat → Int32} {a_walked : Nat → Int32} {a_total : Nat → Int32} {a_longest : Nat → Int32} {a_next : Nat → Int32} {a_cover : Nat → Int32} {a_now : Nat → Int32} {a_then : Nat → Int32} {lf_huts : Int32} {lf_singers : Int32} {lf_villages : Int32} {lf_dams : Int32} {lf_echoes : Int32} {lf_deep : Int32} {lf_slide : Int32} {la_heights : Nat → Int32} {la_ladders : Nat → Int32} {la_minutes : Nat → Int32} {la_echoFrom : Nat → Int32} {la_echoTo : Nat → Int32} {la_homes : Nat → Int32} {la_talls : Nat → Int32} {la_known : Nat → Int32} {sf_facts : Int32} {sa_heard : Nat → Int32} {sa_huts : Nat → Int32} {sa_minutes : Nat → Int32} {P11 : Int32 → Int32 → Int32 → Prop} {post : Int32 → Prop} {x3 : Int32} {x4 : Int32} {x5 : Int32} {x6 : Int32} {x7 : Int32} {x8 : Int32} {ls : Array Slot}
    (zc : zC p s m args meth c cX7_together 10 RX7 (some .int))
    (hK : zK E s)
    (hM : wpW E qp ql qs a_heard a_walked a_total a_longest a_next a_cover a_now a_then lf_huts lf_singers lf_villages lf_dams lf_echoes lf_deep lf_slide la_heights la_ladders la_minutes la_echoFrom la_echoTo la_homes la_talls la_known sf_facts sa_heard sa_huts sa_minutes s.heap)
    (hP11 : ∀ (x6 : Int32) (x7 : Int32) (x8 : Int32) (ls : Array Slot), P11 x6 x7 x8 → lv_has ls 10 [(1, .ref ql), (2, .ref (qp + 2)), (3, .int x3), (4, .int x4), (5, .int x5), (6, .int x6), (7, .int x7), (8, .int x8)] → W p l e rm_wp_X7_together_9_2 s m args below meth c s.heap [] 0 0 (MQ below (vp_Si post) args s 0 0 (fun _ => False)) (F0 m 11 ls []))
    (hl : lv_has ls 10 [(1, .ref ql), (2, .ref (qp + 2)), (3, .int x3), (4, .int x4), (5, .int x5), (6, .int x6), (7, .int x7), (8, .int x8)])
    (hw : q_wp_X7_together_9_2_59 P11 a_walked lf_huts x3 x4 x5 x6 x7 x8 post) :
    W p l e rm_wp_X7_together_9_2 s m args below meth c s.heap [] 0 0 (MQ below (vp_Si post) args s 0 0 (fun _ => False)) (F0 m 59 ls []) := by
  have hx := zc.1
  have hb := zc.2.1
  obtain ⟨v_1, ev_1⟩ : ∃ y : Int32, y = x8 + (1 : Int32) := ⟨_, rfl⟩
  have hw := hw v_1 ev_1
  refine lv_iinc (v := v_1) (k := 7) (lv' := [(8, .int v_1), (1, .ref ql), (2, .ref (qp + 2)), (3, .int x3), (4, .int x4), (5, .int x5), (6, .int x6), (7, .int x7)]) hx hb dX7_together_59 hl rfl (by rw [ev_1]; rfl) (by decide) rfl (fun ls hl => ?_)
  refine lv_goto (tgt := 11) hx hb dX7_together_62 (by decide) ?_
  exact hP11 _ _ _ _ hw (lv_sub hl [1, 2, 3, 4, 5, 6, 7, 0] rfl)
set_option maxRecDepth 20000 in
theorem t_wp_X7_together_9_2_11 {p : Program} {l : Launch} {e : Env} {s : State} {m : MethodId} {args : Array Value} {below : List Frame} {meth : Method} {c : Code} {E : zE} {qp ql qs : Nat} {a_heard : Nat → Int32} {a_walked : Nat → Int32} {a_total : Nat → Int32} {a_longest : Nat → Int32} {a_next : Nat → Int32} {a_cover : Nat → Int32} {a_now : Nat → Int32} {a_then : Nat → Int32} {lf_huts : Int32} {lf_singers : Int32} {lf_villages : Int32} {lf_dams : Int32} {lf_echoes : Int32} {lf_deep : Int32} {lf_slide : Int32} {la_heights : Nat → Int32} {la_ladders : Nat → Int32} {la_minutes : Nat → Int32} {la_echoFrom : Nat → Int32} {la_echoTo : Nat → Int32} {la_homes : Nat → Int32} {la_talls : Nat → Int32} {la_known : Nat → Int32} {sf_facts : Int32} {sa_heard : Nat → Int32} {sa_huts : Nat → Int32} {sa_minutes : Nat → Int32} {post : Int32 → Prop} {x3 : Int32} {x4 : Int32} {x5 : Int32} {x6 : Int32} {x7 : Int32} {x8 : Int32} {ls : Array Slot}
    (zc : zC p s m args meth c cX7_together 10 RX7 (some .int))
    (hK : zK E s)
    (hM : wpW E qp ql qs a_heard a_walked a_total a_longest a_next a_cover a_now a_then lf_huts lf_singers lf_villages lf_dams lf_echoes lf_deep lf_slide la_heights la_ladders la_minutes la_echoFrom la_echoTo la_homes la_talls la_known sf_facts sa_heard sa_huts sa_minutes s.heap)
    (hl : lv_has ls 10 [(1, .ref ql), (2, .ref (qp + 2)), (3, .int x3), (4, .int x4), (5, .int x5), (6, .int x6), (7, .int x7), (8, .int x8)])
    (hw : q_wp_X7_together_9_2_11 a_walked lf_huts x3 x4 x5 x6 x7 x8 post) :
    W p l e rm_wp_X7_together_9_2 s m args below meth c s.heap [] 0 0 (MQ below (vp_Si post) args s 0 0 (fun _ => False)) (F0 m 11 ls []) := by
  have hx := zc.1
  have hb := zc.2.1
  refine hw (fun x6 x7 x8 => ∀ (ls : Array Slot), lv_has ls 10 [(1, .ref ql), (2, .ref (qp + 2)), (3, .int x3), (4, .int x4), (5, .int x5), (6, .int x6), (7, .int x7), (8, .int x8)] → W p l e rm_wp_X7_together_9_2 s m args below meth c s.heap [] 0 0 (MQ below (vp_Si post) args s 0 0 (fun _ => False)) (F0 m 11 ls [])) ?_ _ hl
  intro x6 x7 x8 hw ls hl
  refine lv_iload hx hb dX7_together_11 (lv_at hl 7 rfl) ?_
  refine lv_aload_n hx hb dX7_together_13 rfl (lv_at hl 0 rfl) ?_
  refine wpg_7_42_9 zc hK hM dX7_together_14 ?_
  refine lv_icmp_ge (tgt := 65) hx hb dX7_together_17 (by decide) (fun hc => ?_) (fun hc => ?_)
  · have hw := hw.1 hc
    refine lv_iload hx hb dX7_together_65 (lv_at hl 5 rfl) ?_
    refine lv_iconst (v := (-1 : Int32)) hx hb dX7_together_67 (by decide) ?_
    refine lv_icmp_eq (tgt := 81) hx hb dX7_together_68 (by decide) (fun hc => ?_) (fun hc => ?_)
    · have hw := hw.1 hc
      refine lv_iload hx hb dX7_together_81 (lv_at hl 5 rfl) ?_
      exact zret_i zc hw dX7_together_83
    · have hw := hw.2 hc
      refine lv_iload hx hb dX7_together_71 (lv_at hl 4 rfl) ?_
      refine lv_if_eq (tgt := 81) hx hb dX7_together_73 (by decide) (fun hc => ?_) (fun hc => ?_)
      · have hw := hw.1 hc
        refine lv_iload hx hb dX7_together_81 (lv_at hl 5 rfl) ?_
        exact zret_i zc hw dX7_together_83
      · have hw := hw.2 hc
        refine lv_iload hx hb dX7_together_76 (lv_at hl 6 rfl) ?_
        refine lv_goto (tgt := 83) hx hb dX7_together_78 (by decide) ?_
        exact zret_i zc hw dX7_together_83
  · have hw := hw.2 hc
    refine lv_aload_n hx hb dX7_together_20 rfl (lv_at hl 1 rfl) ?_
    refine lv_iload_n hx hb dX7_together_21 rfl (lv_at hl 2 rfl) ?_
    refine lv_bipush (v := (9 : Int32)) hx hb dX7_together_22 (by decide) ?_
    refine lv_imul hx hb dX7_together_24 ?_
    refine lv_iload hx hb dX7_together_25 (lv_at hl 7 rfl) ?_
    refine lv_iadd hx hb dX7_together_27 ?_
    refine wpld_2 zc hK hM hw.1 dX7_together_28 ?_
    have hw := hw.2
    refine lv_aload_n hx hb dX7_together_29 rfl (lv_at hl 1 rfl) ?_
    refine lv_iload hx hb dX7_together_30 (lv_at hl 3 rfl) ?_
    refine lv_bipush (v := (9 : Int32)) hx hb dX7_together_32 (by decide) ?_
    refine lv_imul hx hb dX7_together_34 ?_
    refine lv_iload hx hb dX7_together_35 (lv_at hl 7 rfl) ?_
    refine lv_iadd hx hb dX7_together_37 ?_
    refine wpld_2 zc hK hM hw.1 dX7_together_38 ?_
    have hw := hw.2
    refine va_mmax hx hb (zc.2.2.1.trans hl.1.symm) zc.2.2.2.1 (zc.2.2.2.2.1 _ km_7_76) (zc.2.2.2.2.1 _ k_mmaxs) (zc.2.2.2.2.1 _ k_mini) (zc.2.2.2.2.1 _ k_mmaxc) (Nat.le_of_ble_eq_true rfl) (Nat.le_of_ble_eq_true rfl) (Nat.zero_le _) (Nat.zero_le _) dX7_together_39 ?_
    refine lv_topi (fun v_1 ev_1 => ?_)
    have hw := hw v_1 ev_1
    refine lv_istore (lv' := [(9, .int v_1), (1, .ref ql), (2, .ref (qp + 2)), (3, .int x3), (4, .int x4), (5, .int x5), (6, .int x6), (7, .int x7), (8, .int x8)]) hx hb dX7_together_42 hl (by decide) rfl (fun ls hl => ?_)
    refine lv_iload hx hb dX7_together_44 (lv_at hl 0 rfl) ?_
    refine lv_iload hx hb dX7_together_46 (lv_at hl 7 rfl) ?_
    refine lv_icmp_ge (tgt := 59) hx hb dX7_together_48 (by decide) (fun hc => ?_) (fun hc => ?_)
    · have hw := hw.1 hc
      exact t_wp_X7_together_9_2_59 zc hK hM (fun _ _ _ ls h hl => h ls hl) (lv_sub hl [1, 2, 3, 4, 5, 6, 7, 8] rfl) hw
    · have hw := hw.2 hc
      refine lv_iload hx hb dX7_together_51 (lv_at hl 8 rfl) ?_
      refine lv_istore (lv' := [(6, .int x8), (9, .int v_1), (1, .ref ql), (2, .ref (qp + 2)), (3, .int x3), (4, .int x4), (5, .int x5), (7, .int x7), (8, .int x8)]) hx hb dX7_together_53 hl (by decide) rfl (fun ls hl => ?_)
      refine lv_iload hx hb dX7_together_55 (lv_at hl 1 rfl) ?_
      refine lv_istore (lv' := [(7, .int v_1), (6, .int x8), (9, .int v_1), (1, .ref ql), (2, .ref (qp + 2)), (3, .int x3), (4, .int x4), (5, .int x5), (8, .int x8)]) hx hb dX7_together_57 hl (by decide) rfl (fun ls hl => ?_)
      exact t_wp_X7_together_9_2_59 zc hK hM (fun _ _ _ ls h hl => h ls hl) (lv_sub hl [3, 4, 5, 6, 7, 1, 0, 8] rfl) hw
set_option maxRecDepth 20000 in
theorem t_wp_X7_together_9_2_0 {p : Program} {l : Launch} {e : Env} {s : State} {m : MethodId} {args : Array Value} {below : List Frame} {meth : Method} {c : Code} {E : zE} {qp ql qs : Nat} {a_heard : Nat → Int32} {a_walked : Nat → Int32} {a_total : Nat → Int32} {a_longest : Nat → Int32} {a_next : Nat → Int32} {a_cover : Nat → Int32} {a_now : Nat → Int32} {a_then : Nat → Int32} {lf_huts : Int32} {lf_singers : Int32} {lf_villages : Int32} {lf_dams : Int32} {lf_echoes : Int32} {lf_deep : Int32} {lf_slide : Int32} {la_heights : Nat → Int32} {la_ladders : Nat → Int32} {la_minutes : Nat → Int32} {la_echoFrom : Nat → Int32} {la_echoTo : Nat → Int32} {la_homes : Nat → Int32} {la_talls : Nat → Int32} {la_known : Nat → Int32} {sf_facts : Int32} {sa_heard : Nat → Int32} {sa_huts : Nat → Int32} {sa_minutes : Nat → Int32} {post : Int32 → Prop} {x3 : Int32} {x4 : Int32} {x5 : Int32} {ls : Array Slot}
    (zc : zC p s m args meth c cX7_together 10 RX7 (some .int))
    (hK : zK E s)
    (hM : wpW E qp ql qs a_heard a_walked a_total a_longest a_next a_cover a_now a_then lf_huts lf_singers lf_villages lf_dams lf_echoes lf_deep lf_slide la_heights la_ladders la_minutes la_echoFrom la_echoTo la_homes la_talls la_known sf_facts sa_heard sa_huts sa_minutes s.heap)
    (hl : lv_has ls 10 [(1, .ref ql), (2, .ref (qp + 2)), (3, .int x3), (4, .int x4), (5, .int x5)])
    (hw : q_wp_X7_together_9_2_0 a_walked lf_huts x3 x4 x5 post) :
    W p l e rm_wp_X7_together_9_2 s m args below meth c s.heap [] 0 0 (MQ below (vp_Si post) args s 0 0 (fun _ => False)) (F0 m 0 ls []) := by
  have hx := zc.1
  have hb := zc.2.1
  refine lv_iconst (v := (-1 : Int32)) hx hb dX7_together_0 (by decide) ?_
  refine lv_istore (lv' := [(6, .int (-1 : Int32)), (1, .ref ql), (2, .ref (qp + 2)), (3, .int x3), (4, .int x4), (5, .int x5)]) hx hb dX7_together_1 hl (by decide) rfl (fun ls hl => ?_)
  refine lv_sipush (v := (1000 : Int32)) hx hb dX7_together_3 (by decide) ?_
  refine lv_istore (lv' := [(7, .int (1000 : Int32)), (6, .int (-1 : Int32)), (1, .ref ql), (2, .ref (qp + 2)), (3, .int x3), (4, .int x4), (5, .int x5)]) hx hb dX7_together_6 hl (by decide) rfl (fun ls hl => ?_)
  refine lv_iconst (v := (0 : Int32)) hx hb dX7_together_8 (by decide) ?_
  refine lv_istore (lv' := [(8, .int (0 : Int32)), (7, .int (1000 : Int32)), (6, .int (-1 : Int32)), (1, .ref ql), (2, .ref (qp + 2)), (3, .int x3), (4, .int x4), (5, .int x5)]) hx hb dX7_together_9 hl (by decide) rfl (fun ls hl => ?_)
  exact t_wp_X7_together_9_2_11 zc hK hM  (lv_sub hl [3, 4, 5, 6, 7, 2, 1, 0] rfl) hw
set_option maxRecDepth 20000 in
theorem c_wp_X7_together_9_2 (l : Launch) {E : zE} {qp ql qs : Nat} {a_heard : Nat → Int32} {a_walked : Nat → Int32} {a_total : Nat → Int32} {a_longest : Nat → Int32} {a_next : Nat → Int32} {a_cover : Nat → Int32} {a_now : Nat → Int32} {a_then : Nat → Int32} {lf_huts : Int32} {lf_singers : Int32} {lf_villages : Int32} {lf_dams : Int32} {lf_echoes : Int32} {lf_deep : Int32} {lf_slide : Int32} {la_heights : Nat → Int32} {la_ladders : Nat → Int32} {la_minutes : Nat → Int32} {la_echoFrom : Nat → Int32} {la_echoTo : Nat → Int32} {la_homes : Nat → Int32} {la_talls : Nat → Int32} {la_known : Nat → Int32} {sf_facts : Int32} {sa_heard : Nat → Int32} {sa_huts : Nat → Int32} {sa_minutes : Nat → Int32} {x3 : Int32} {x4 : Int32} {x5 : Int32} {post : Int32 → Prop} (hw : q_wp_X7_together_9_2_0 a_walked lf_huts x3 x4 x5 post) : Met l yX7_together (Cond.code yX7_together cX7_together 10 (some .int) :: zb) rm_wp_X7_together_9_2 (va_Pc [.ref qp, .ref ql, .ref (qp + 2), .int x3, .int x4, .int x5] (fun U => wpW E qp ql qs a_heard a_walked a_total a_longest a_next a_cover a_now a_then lf_huts lf_singers lf_villages lf_dams lf_echoes lf_deep lf_slide la_heights la_ladders la_minutes la_echoFrom la_echoTo la_homes la_talls la_known sf_facts sa_heard sa_huts sa_minutes U.heap ∧ zK E U)) (vp_Si post) 0 0 (fun _ => False) := by
  refine Met.ofW (cc := cX7_together) (maxL := 10) (ret := (some .int)) (by decide) rfl ?_
  intro p e s m args below meth c s₁ B hml hv
  obtain ⟨rfl, hM, hK⟩ := hv
  have zc := zc_of B hml
  have hl := lv_entry ([.ref qp, .ref ql, .ref (qp + 2), .int x3, .int x4, .int x5]) (n := 10) (Nat.le_of_ble_eq_true rfl)
  rw [lg_entry_eq]
  generalize (lg_sl ([.ref qp, .ref ql, .ref (qp + 2), .int x3, .int x4, .int x5]) ++ List.replicate (10 - (lg_sl ([.ref qp, .ref ql, .ref (qp + 2), .int x3, .int x4, .int x5])).length) Slot.unset).toArray = ls at hl ⊢
  have hl : lv_has ls 10 [(0, .ref qp), (1, .ref ql), (2, .ref (qp + 2)), (3, .int x3), (4, .int x4), (5, .int x5)] := hl
  exact t_wp_X7_together_9_2_0 zc hK hM (lv_sub hl [1, 2, 3, 4, 5] rfl) hw
-- wp_X7_together_9_1
abbrev rm_wp_X7_together_9_1 : Room := { frames := 1, cells := 0, slots := 0, locals := 40 }
def q_wp_X7_together_9_1_59 (P11 : Int32 → Int32 → Int32 → Prop) (a_heard : Nat → Int32) (lf_huts : Int32) (x3 : Int32) (x4 : Int32) (x5 : Int32) (x6 : Int32) (x7 : Int32) (x8 : Int32) (post : Int32 → Prop) : Prop :=
  ∀ v_1 : Int32, v_1 = x8 + (1 : Int32) → (P11 x6 x7 v_1)
def q_wp_X7_together_9_1_11 (a_heard : Nat → Int32) (lf_huts : Int32) (x3 : Int32) (x4 : Int32) (x5 : Int32) (x6 : Int32) (x7 : Int32) (x8 : Int32) (post : Int32 → Prop) : Prop :=
  ∀ P11 : Int32 → Int32 → Int32 → Prop, (∀ (x6 : Int32) (x7 : Int32) (x8 : Int32), ((lf_huts ≤ x8 → ((x6 = (-1 : Int32) → (post x6)) ∧ (¬ x6 = (-1 : Int32) → ((x5 = 0 → (post x6)) ∧ (¬ x5 = 0 → (post x7)))))) ∧ (¬ lf_huts ≤ x8 → (vp_in ((x3 * (9 : Int32)) + x8) 81 ∧ (vp_in ((x4 * (9 : Int32)) + x8) 81 ∧ (∀ v_1 : Int32, v_1 = (if (a_heard (Int32.toNatClampNeg ((x3 * (9 : Int32)) + x8))) < (a_heard (Int32.toNatClampNeg ((x4 * (9 : Int32)) + x8))) then (a_heard (Int32.toNatClampNeg ((x4 * (9 : Int32)) + x8))) else (a_heard (Int32.toNatClampNeg ((x3 * (9 : Int32)) + x8)))) → ((x7 ≤ v_1 → (q_wp_X7_together_9_1_59 P11 a_heard lf_huts x3 x4 x5 x6 x7 x8 post)) ∧ (¬ x7 ≤ v_1 → (q_wp_X7_together_9_1_59 P11 a_heard lf_huts x3 x4 x5 x8 v_1 x8 post)))))))) → P11 x6 x7 x8) → P11 x6 x7 x8
def q_wp_X7_together_9_1_0 (a_heard : Nat → Int32) (lf_huts : Int32) (x3 : Int32) (x4 : Int32) (x5 : Int32) (post : Int32 → Prop) : Prop :=
  q_wp_X7_together_9_1_11 a_heard lf_huts x3 x4 x5 (-1 : Int32) (1000 : Int32) (0 : Int32) post
set_option maxRecDepth 20000 in
theorem t_wp_X7_together_9_1_59 {p : Program} {l : Launch} {e : Env} {s : State} {m : MethodId} {args : Array Value} {below : List Frame} {meth : Method} {c : Code} {E : zE} {qp ql qs : Nat} {a_heard : Nat → Int32} {a_walked : Nat → Int32} {a_total : Nat → Int32} {a_longest : Nat → Int32} {a_next : Nat → Int32} {a_cover : Nat → Int32} {a_now : Nat → Int32} {a_then : Nat → Int32} {lf_huts : Int32} {lf_singers : Int32} {lf_villages : Int32} {lf_dams : Int32} {lf_echoes : Int32} {lf_deep : Int32} {lf_slide : Int32} {la_heights : Nat → Int32} {la_ladders : Nat → Int32} {la_minutes : Nat → Int32} {la_echoFrom : Nat → Int32} {la_echoTo : Nat → Int32} {la_homes : Nat → Int32} {la_talls : Nat → Int32} {la_known : Nat → Int32} {sf_facts : Int32} {sa_heard : Nat → Int32} {sa_huts : Nat → Int32} {sa_minutes : Nat → Int32} {P11 : Int32 → Int32 → Int32 → Prop} {post : Int32 → Prop} {x3 : Int32} {x4 : Int32} {x5 : Int32} {x6 : Int32} {x7 : Int32} {x8 : Int32} {ls : Array Slot}
    (zc : zC p s m args meth c cX7_together 10 RX7 (some .int))
    (hK : zK E s)
    (hM : wpW E qp ql qs a_heard a_walked a_total a_longest a_next a_cover a_now a_then lf_huts lf_singers lf_villages lf_dams lf_echoes lf_deep lf_slide la_heights la_ladders la_minutes la_echoFrom la_echoTo la_homes la_talls la_known sf_facts sa_heard sa_huts sa_minutes s.heap)
    (hP11 : ∀ (x6 : Int32) (x7 : Int32) (x8 : Int32) (ls : Array Slot), P11 x6 x7 x8 → lv_has ls 10 [(1, .ref ql), (2, .ref (qp + 1)), (3, .int x3), (4, .int x4), (5, .int x5), (6, .int x6), (7, .int x7), (8, .int x8)] → W p l e rm_wp_X7_together_9_1 s m args below meth c s.heap [] 0 0 (MQ below (vp_Si post) args s 0 0 (fun _ => False)) (F0 m 11 ls []))
    (hl : lv_has ls 10 [(1, .ref ql), (2, .ref (qp + 1)), (3, .int x3), (4, .int x4), (5, .int x5), (6, .int x6), (7, .int x7), (8, .int x8)])
    (hw : q_wp_X7_together_9_1_59 P11 a_heard lf_huts x3 x4 x5 x6 x7 x8 post) :
    W p l e rm_wp_X7_together_9_1 s m args below meth c s.heap [] 0 0 (MQ below (vp_Si post) args s 0 0 (fun _ => False)) (F0 m 59 ls []) := by
  have hx := zc.1
  have hb := zc.2.1
  obtain ⟨v_1, ev_1⟩ : ∃ y : Int32, y = x8 + (1 : Int32) := ⟨_, rfl⟩
  have hw := hw v_1 ev_1
  refine lv_iinc (v := v_1) (k := 7) (lv' := [(8, .int v_1), (1, .ref ql), (2, .ref (qp + 1)), (3, .int x3), (4, .int x4), (5, .int x5), (6, .int x6), (7, .int x7)]) hx hb dX7_together_59 hl rfl (by rw [ev_1]; rfl) (by decide) rfl (fun ls hl => ?_)
  refine lv_goto (tgt := 11) hx hb dX7_together_62 (by decide) ?_
  exact hP11 _ _ _ _ hw (lv_sub hl [1, 2, 3, 4, 5, 6, 7, 0] rfl)
set_option maxRecDepth 20000 in
theorem t_wp_X7_together_9_1_11 {p : Program} {l : Launch} {e : Env} {s : State} {m : MethodId} {args : Array Value} {below : List Frame} {meth : Method} {c : Code} {E : zE} {qp ql qs : Nat} {a_heard : Nat → Int32} {a_walked : Nat → Int32} {a_total : Nat → Int32} {a_longest : Nat → Int32} {a_next : Nat → Int32} {a_cover : Nat → Int32} {a_now : Nat → Int32} {a_then : Nat → Int32} {lf_huts : Int32} {lf_singers : Int32} {lf_villages : Int32} {lf_dams : Int32} {lf_echoes : Int32} {lf_deep : Int32} {lf_slide : Int32} {la_heights : Nat → Int32} {la_ladders : Nat → Int32} {la_minutes : Nat → Int32} {la_echoFrom : Nat → Int32} {la_echoTo : Nat → Int32} {la_homes : Nat → Int32} {la_talls : Nat → Int32} {la_known : Nat → Int32} {sf_facts : Int32} {sa_heard : Nat → Int32} {sa_huts : Nat → Int32} {sa_minutes : Nat → Int32} {post : Int32 → Prop} {x3 : Int32} {x4 : Int32} {x5 : Int32} {x6 : Int32} {x7 : Int32} {x8 : Int32} {ls : Array Slot}
    (zc : zC p s m args meth c cX7_together 10 RX7 (some .int))
    (hK : zK E s)
    (hM : wpW E qp ql qs a_heard a_walked a_total a_longest a_next a_cover a_now a_then lf_huts lf_singers lf_villages lf_dams lf_echoes lf_deep lf_slide la_heights la_ladders la_minutes la_echoFrom la_echoTo la_homes la_talls la_known sf_facts sa_heard sa_huts sa_minutes s.heap)
    (hl : lv_has ls 10 [(1, .ref ql), (2, .ref (qp + 1)), (3, .int x3), (4, .int x4), (5, .int x5), (6, .int x6), (7, .int x7), (8, .int x8)])
    (hw : q_wp_X7_together_9_1_11 a_heard lf_huts x3 x4 x5 x6 x7 x8 post) :
    W p l e rm_wp_X7_together_9_1 s m args below meth c s.heap [] 0 0 (MQ below (vp_Si post) args s 0 0 (fun _ => False)) (F0 m 11 ls []) := by
  have hx := zc.1
  have hb := zc.2.1
  refine hw (fun x6 x7 x8 => ∀ (ls : Array Slot), lv_has ls 10 [(1, .ref ql), (2, .ref (qp + 1)), (3, .int x3), (4, .int x4), (5, .int x5), (6, .int x6), (7, .int x7), (8, .int x8)] → W p l e rm_wp_X7_together_9_1 s m args below meth c s.heap [] 0 0 (MQ below (vp_Si post) args s 0 0 (fun _ => False)) (F0 m 11 ls [])) ?_ _ hl
  intro x6 x7 x8 hw ls hl
  refine lv_iload hx hb dX7_together_11 (lv_at hl 7 rfl) ?_
  refine lv_aload_n hx hb dX7_together_13 rfl (lv_at hl 0 rfl) ?_
  refine wpg_7_42_9 zc hK hM dX7_together_14 ?_
  refine lv_icmp_ge (tgt := 65) hx hb dX7_together_17 (by decide) (fun hc => ?_) (fun hc => ?_)
  · have hw := hw.1 hc
    refine lv_iload hx hb dX7_together_65 (lv_at hl 5 rfl) ?_
    refine lv_iconst (v := (-1 : Int32)) hx hb dX7_together_67 (by decide) ?_
    refine lv_icmp_eq (tgt := 81) hx hb dX7_together_68 (by decide) (fun hc => ?_) (fun hc => ?_)
    · have hw := hw.1 hc
      refine lv_iload hx hb dX7_together_81 (lv_at hl 5 rfl) ?_
      exact zret_i zc hw dX7_together_83
    · have hw := hw.2 hc
      refine lv_iload hx hb dX7_together_71 (lv_at hl 4 rfl) ?_
      refine lv_if_eq (tgt := 81) hx hb dX7_together_73 (by decide) (fun hc => ?_) (fun hc => ?_)
      · have hw := hw.1 hc
        refine lv_iload hx hb dX7_together_81 (lv_at hl 5 rfl) ?_
        exact zret_i zc hw dX7_together_83
      · have hw := hw.2 hc
        refine lv_iload hx hb dX7_together_76 (lv_at hl 6 rfl) ?_
        refine lv_goto (tgt := 83) hx hb dX7_together_78 (by decide) ?_
        exact zret_i zc hw dX7_together_83
  · have hw := hw.2 hc
    refine lv_aload_n hx hb dX7_together_20 rfl (lv_at hl 1 rfl) ?_
    refine lv_iload_n hx hb dX7_together_21 rfl (lv_at hl 2 rfl) ?_
    refine lv_bipush (v := (9 : Int32)) hx hb dX7_together_22 (by decide) ?_
    refine lv_imul hx hb dX7_together_24 ?_
    refine lv_iload hx hb dX7_together_25 (lv_at hl 7 rfl) ?_
    refine lv_iadd hx hb dX7_together_27 ?_
    refine wpld_1 zc hK hM hw.1 dX7_together_28 ?_
    have hw := hw.2
    refine lv_aload_n hx hb dX7_together_29 rfl (lv_at hl 1 rfl) ?_
    refine lv_iload hx hb dX7_together_30 (lv_at hl 3 rfl) ?_
    refine lv_bipush (v := (9 : Int32)) hx hb dX7_together_32 (by decide) ?_
    refine lv_imul hx hb dX7_together_34 ?_
    refine lv_iload hx hb dX7_together_35 (lv_at hl 7 rfl) ?_
    refine lv_iadd hx hb dX7_together_37 ?_
    refine wpld_1 zc hK hM hw.1 dX7_together_38 ?_
    have hw := hw.2
    refine va_mmax hx hb (zc.2.2.1.trans hl.1.symm) zc.2.2.2.1 (zc.2.2.2.2.1 _ km_7_76) (zc.2.2.2.2.1 _ k_mmaxs) (zc.2.2.2.2.1 _ k_mini) (zc.2.2.2.2.1 _ k_mmaxc) (Nat.le_of_ble_eq_true rfl) (Nat.le_of_ble_eq_true rfl) (Nat.zero_le _) (Nat.zero_le _) dX7_together_39 ?_
    refine lv_topi (fun v_1 ev_1 => ?_)
    have hw := hw v_1 ev_1
    refine lv_istore (lv' := [(9, .int v_1), (1, .ref ql), (2, .ref (qp + 1)), (3, .int x3), (4, .int x4), (5, .int x5), (6, .int x6), (7, .int x7), (8, .int x8)]) hx hb dX7_together_42 hl (by decide) rfl (fun ls hl => ?_)
    refine lv_iload hx hb dX7_together_44 (lv_at hl 0 rfl) ?_
    refine lv_iload hx hb dX7_together_46 (lv_at hl 7 rfl) ?_
    refine lv_icmp_ge (tgt := 59) hx hb dX7_together_48 (by decide) (fun hc => ?_) (fun hc => ?_)
    · have hw := hw.1 hc
      exact t_wp_X7_together_9_1_59 zc hK hM (fun _ _ _ ls h hl => h ls hl) (lv_sub hl [1, 2, 3, 4, 5, 6, 7, 8] rfl) hw
    · have hw := hw.2 hc
      refine lv_iload hx hb dX7_together_51 (lv_at hl 8 rfl) ?_
      refine lv_istore (lv' := [(6, .int x8), (9, .int v_1), (1, .ref ql), (2, .ref (qp + 1)), (3, .int x3), (4, .int x4), (5, .int x5), (7, .int x7), (8, .int x8)]) hx hb dX7_together_53 hl (by decide) rfl (fun ls hl => ?_)
      refine lv_iload hx hb dX7_together_55 (lv_at hl 1 rfl) ?_
      refine lv_istore (lv' := [(7, .int v_1), (6, .int x8), (9, .int v_1), (1, .ref ql), (2, .ref (qp + 1)), (3, .int x3), (4, .int x4), (5, .int x5), (8, .int x8)]) hx hb dX7_together_57 hl (by decide) rfl (fun ls hl => ?_)
      exact t_wp_X7_together_9_1_59 zc hK hM (fun _ _ _ ls h hl => h ls hl) (lv_sub hl [3, 4, 5, 6, 7, 1, 0, 8] rfl) hw
set_option maxRecDepth 20000 in
theorem t_wp_X7_together_9_1_0 {p : Program} {l : Launch} {e : Env} {s : State} {m : MethodId} {args : Array Value} {below : List Frame} {meth : Method} {c : Code} {E : zE} {qp ql qs : Nat} {a_heard : Nat → Int32} {a_walked : Nat → Int32} {a_total : Nat → Int32} {a_longest : Nat → Int32} {a_next : Nat → Int32} {a_cover : Nat → Int32} {a_now : Nat → Int32} {a_then : Nat → Int32} {lf_huts : Int32} {lf_singers : Int32} {lf_villages : Int32} {lf_dams : Int32} {lf_echoes : Int32} {lf_deep : Int32} {lf_slide : Int32} {la_heights : Nat → Int32} {la_ladders : Nat → Int32} {la_minutes : Nat → Int32} {la_echoFrom : Nat → Int32} {la_echoTo : Nat → Int32} {la_homes : Nat → Int32} {la_talls : Nat → Int32} {la_known : Nat → Int32} {sf_facts : Int32} {sa_heard : Nat → Int32} {sa_huts : Nat → Int32} {sa_minutes : Nat → Int32} {post : Int32 → Prop} {x3 : Int32} {x4 : Int32} {x5 : Int32} {ls : Array Slot}
    (zc : zC p s m args meth c cX7_together 10 RX7 (some .int))
    (hK : zK E s)
    (hM : wpW E qp ql qs a_heard a_walked a_total a_longest a_next a_cover a_now a_then lf_huts lf_singers lf_villages lf_dams lf_echoes lf_deep lf_slide la_heights la_ladders la_minutes la_echoFrom la_echoTo la_homes la_talls la_known sf_facts sa_heard sa_huts sa_minutes s.heap)
    (hl : lv_has ls 10 [(1, .ref ql), (2, .ref (qp + 1)), (3, .int x3), (4, .int x4), (5, .int x5)])
    (hw : q_wp_X7_together_9_1_0 a_heard lf_huts x3 x4 x5 post) :
    W p l e rm_wp_X7_together_9_1 s m args below meth c s.heap [] 0 0 (MQ below (vp_Si post) args s 0 0 (fun _ => False)) (F0 m 0 ls []) := by
  have hx := zc.1
  have hb := zc.2.1
  refine lv_iconst (v := (-1 : Int32)) hx hb dX7_together_0 (by decide) ?_
  refine lv_istore (lv' := [(6, .int (-1 : Int32)), (1, .ref ql), (2, .ref (qp + 1)), (3, .int x3), (4, .int x4), (5, .int x5)]) hx hb dX7_together_1 hl (by decide) rfl (fun ls hl => ?_)
  refine lv_sipush (v := (1000 : Int32)) hx hb dX7_together_3 (by decide) ?_
  refine lv_istore (lv' := [(7, .int (1000 : Int32)), (6, .int (-1 : Int32)), (1, .ref ql), (2, .ref (qp + 1)), (3, .int x3), (4, .int x4), (5, .int x5)]) hx hb dX7_together_6 hl (by decide) rfl (fun ls hl => ?_)
  refine lv_iconst (v := (0 : Int32)) hx hb dX7_together_8 (by decide) ?_
  refine lv_istore (lv' := [(8, .int (0 : Int32)), (7, .int (1000 : Int32)), (6, .int (-1 : Int32)), (1, .ref ql), (2, .ref (qp + 1)), (3, .int x3), (4, .int x4), (5, .int x5)]) hx hb dX7_together_9 hl (by decide) rfl (fun ls hl => ?_)
  exact t_wp_X7_together_9_1_11 zc hK hM  (lv_sub hl [3, 4, 5, 6, 7, 2, 1, 0] rfl) hw
set_option maxRecDepth 20000 in
theorem c_wp_X7_together_9_1 (l : Launch) {E : zE} {qp ql qs : Nat} {a_heard : Nat → Int32} {a_walked : Nat → Int32} {a_total : Nat → Int32} {a_longest : Nat → Int32} {a_next : Nat → Int32} {a_cover : Nat → Int32} {a_now : Nat → Int32} {a_then : Nat → Int32} {lf_huts : Int32} {lf_singers : Int32} {lf_villages : Int32} {lf_dams : Int32} {lf_echoes : Int32} {lf_deep : Int32} {lf_slide : Int32} {la_heights : Nat → Int32} {la_ladders : Nat → Int32} {la_minutes : Nat → Int32} {la_echoFrom : Nat → Int32} {la_echoTo : Nat → Int32} {la_homes : Nat → Int32} {la_talls : Nat → Int32} {la_known : Nat → Int32} {sf_facts : Int32} {sa_heard : Nat → Int32} {sa_huts : Nat → Int32} {sa_minutes : Nat → Int32} {x3 : Int32} {x4 : Int32} {x5 : Int32} {post : Int32 → Prop} (hw : q_wp_X7_together_9_1_0 a_heard lf_huts x3 x4 x5 post) : Met l yX7_together (Cond.code yX7_together cX7_together 10 (some .int) :: zb) rm_wp_X7_together_9_1 (va_Pc [.ref qp, .ref ql, .ref (qp + 1), .int x3, .int x4, .int x5] (fun U => wpW E qp ql qs a_heard a_walked a_total a_longest a_next a_cover a_now a_then lf_huts lf_singers lf_villages lf_dams lf_echoes lf_deep lf_slide la_heights la_ladders la_minutes la_echoFrom la_echoTo la_homes la_talls la_known sf_facts sa_heard sa_huts sa_minutes U.heap ∧ zK E U)) (vp_Si post) 0 0 (fun _ => False) := by
  refine Met.ofW (cc := cX7_together) (maxL := 10) (ret := (some .int)) (by decide) rfl ?_
  intro p e s m args below meth c s₁ B hml hv
  obtain ⟨rfl, hM, hK⟩ := hv
  have zc := zc_of B hml
  have hl := lv_entry ([.ref qp, .ref ql, .ref (qp + 1), .int x3, .int x4, .int x5]) (n := 10) (Nat.le_of_ble_eq_true rfl)
  rw [lg_entry_eq]
  generalize (lg_sl ([.ref qp, .ref ql, .ref (qp + 1), .int x3, .int x4, .int x5]) ++ List.replicate (10 - (lg_sl ([.ref qp, .ref ql, .ref (qp + 1), .int x3, .int x4, .int x5])).length) Slot.unset).toArray = ls at hl ⊢
  have hl : lv_has ls 10 [(0, .ref qp), (1, .ref ql), (2, .ref (qp + 1)), (3, .int x3), (4, .int x4), (5, .int x5)] := hl
  exact t_wp_X7_together_9_1_0 zc hK hM (lv_sub hl [1, 2, 3, 4, 5] rfl) hw
end
