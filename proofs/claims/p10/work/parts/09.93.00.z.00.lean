-- z_X4_isLetter
abbrev rm_z_X4_isLetter : Room := { frames := 0, cells := 0, slots := 0, locals := 0 }
def q_z_X4_isLetter_0 (x0 : Int32) (post : Int32 → Prop) : Prop :=
  (x0 < (97 : Int32) → (post (0 : Int32))) ∧ (¬ x0 < (97 : Int32) → (((122 : Int32) < x0 → (post (0 : Int32))) ∧ (¬ (122 : Int32) < x0 → (post (1 : Int32)))))
set_option maxRecDepth 20000 in
theorem t_z_X4_isLetter_0 {p : Program} {l : Launch} {e : Env} {s : State} {m : MethodId} {args : Array Value} {below : List Frame} {meth : Method} {c : Code} {post : Int32 → Prop} {x0 : Int32} {ls : Array Slot}
    (zc : zC p s m args meth c cX4_isLetter 1 RX4 (some .boolean))
    (hl : lv_has ls 1 [(0, .int x0)])
    (hw : q_z_X4_isLetter_0 x0 post) :
    W p l e rm_z_X4_isLetter s m args below meth c s.heap [] 0 0 (MQ below (vp_Si post) args s 0 0 (fun _ => False)) (F0 m 0 ls []) := by
  have hx := zc.1
  have hb := zc.2.1
  refine lv_iload_n hx hb dX4_isLetter_0 rfl (lv_at hl 0 rfl) ?_
  refine lv_bipush (v := (97 : Int32)) hx hb dX4_isLetter_1 (by decide) ?_
  refine lv_icmp_lt (tgt := 16) hx hb dX4_isLetter_3 (by decide) (fun hc => ?_) (fun hc => ?_)
  · have hw := hw.1 hc
    refine lv_iconst (v := (0 : Int32)) hx hb dX4_isLetter_16 (by decide) ?_
    exact zret_z zc rfl hw dX4_isLetter_17
  · have hw := hw.2 hc
    refine lv_iload_n hx hb dX4_isLetter_6 rfl (lv_at hl 0 rfl) ?_
    refine lv_bipush (v := (122 : Int32)) hx hb dX4_isLetter_7 (by decide) ?_
    refine lv_icmp_gt (tgt := 16) hx hb dX4_isLetter_9 (by decide) (fun hc => ?_) (fun hc => ?_)
    · have hw := hw.1 hc
      refine lv_iconst (v := (0 : Int32)) hx hb dX4_isLetter_16 (by decide) ?_
      exact zret_z zc rfl hw dX4_isLetter_17
    · have hw := hw.2 hc
      refine lv_iconst (v := (1 : Int32)) hx hb dX4_isLetter_12 (by decide) ?_
      refine lv_goto (tgt := 17) hx hb dX4_isLetter_13 (by decide) ?_
      exact zret_z zc rfl hw dX4_isLetter_17
set_option maxRecDepth 20000 in
theorem c_z_X4_isLetter (l : Launch) {x0 : Int32} {post : Int32 → Prop} (hw : q_z_X4_isLetter_0 x0 post) : Met l yX4_isLetter (Cond.code yX4_isLetter cX4_isLetter 1 (some .boolean) :: zb) rm_z_X4_isLetter (va_Pc [.int x0] (fun _ => True)) (vp_Si post) 0 0 (fun _ => False) := by
  refine Met.ofW (cc := cX4_isLetter) (maxL := 1) (ret := (some .boolean)) (by decide) rfl ?_
  intro p e s m args below meth c s₁ B hml hv
  obtain ⟨rfl, -⟩ := hv
  have zc := zc_of B hml
  have hl := lv_entry ([.int x0]) (n := 1) (Nat.le_of_ble_eq_true rfl)
  rw [lg_entry_eq]
  generalize (lg_sl ([.int x0]) ++ List.replicate (1 - (lg_sl ([.int x0])).length) Slot.unset).toArray = ls at hl ⊢
  have hl : lv_has ls 1 [(0, .int x0)] := hl
  exact t_z_X4_isLetter_0 zc (lv_sub hl [0] rfl) hw
-- z_X4_isDigit
abbrev rm_z_X4_isDigit : Room := { frames := 0, cells := 0, slots := 0, locals := 0 }
def q_z_X4_isDigit_0 (x0 : Int32) (post : Int32 → Prop) : Prop :=
  (x0 < (48 : Int32) → (post (0 : Int32))) ∧ (¬ x0 < (48 : Int32) → (((57 : Int32) < x0 → (post (0 : Int32))) ∧ (¬ (57 : Int32) < x0 → (post (1 : Int32)))))
set_option maxRecDepth 20000 in
theorem t_z_X4_isDigit_0 {p : Program} {l : Launch} {e : Env} {s : State} {m : MethodId} {args : Array Value} {below : List Frame} {meth : Method} {c : Code} {post : Int32 → Prop} {x0 : Int32} {ls : Array Slot}
    (zc : zC p s m args meth c cX4_isDigit 1 RX4 (some .boolean))
    (hl : lv_has ls 1 [(0, .int x0)])
    (hw : q_z_X4_isDigit_0 x0 post) :
    W p l e rm_z_X4_isDigit s m args below meth c s.heap [] 0 0 (MQ below (vp_Si post) args s 0 0 (fun _ => False)) (F0 m 0 ls []) := by
  have hx := zc.1
  have hb := zc.2.1
  refine lv_iload_n hx hb dX4_isDigit_0 rfl (lv_at hl 0 rfl) ?_
  refine lv_bipush (v := (48 : Int32)) hx hb dX4_isDigit_1 (by decide) ?_
  refine lv_icmp_lt (tgt := 16) hx hb dX4_isDigit_3 (by decide) (fun hc => ?_) (fun hc => ?_)
  · have hw := hw.1 hc
    refine lv_iconst (v := (0 : Int32)) hx hb dX4_isDigit_16 (by decide) ?_
    exact zret_z zc rfl hw dX4_isDigit_17
  · have hw := hw.2 hc
    refine lv_iload_n hx hb dX4_isDigit_6 rfl (lv_at hl 0 rfl) ?_
    refine lv_bipush (v := (57 : Int32)) hx hb dX4_isDigit_7 (by decide) ?_
    refine lv_icmp_gt (tgt := 16) hx hb dX4_isDigit_9 (by decide) (fun hc => ?_) (fun hc => ?_)
    · have hw := hw.1 hc
      refine lv_iconst (v := (0 : Int32)) hx hb dX4_isDigit_16 (by decide) ?_
      exact zret_z zc rfl hw dX4_isDigit_17
    · have hw := hw.2 hc
      refine lv_iconst (v := (1 : Int32)) hx hb dX4_isDigit_12 (by decide) ?_
      refine lv_goto (tgt := 17) hx hb dX4_isDigit_13 (by decide) ?_
      exact zret_z zc rfl hw dX4_isDigit_17
set_option maxRecDepth 20000 in
theorem c_z_X4_isDigit (l : Launch) {x0 : Int32} {post : Int32 → Prop} (hw : q_z_X4_isDigit_0 x0 post) : Met l yX4_isDigit (Cond.code yX4_isDigit cX4_isDigit 1 (some .boolean) :: zb) rm_z_X4_isDigit (va_Pc [.int x0] (fun _ => True)) (vp_Si post) 0 0 (fun _ => False) := by
  refine Met.ofW (cc := cX4_isDigit) (maxL := 1) (ret := (some .boolean)) (by decide) rfl ?_
  intro p e s m args below meth c s₁ B hml hv
  obtain ⟨rfl, -⟩ := hv
  have zc := zc_of B hml
  have hl := lv_entry ([.int x0]) (n := 1) (Nat.le_of_ble_eq_true rfl)
  rw [lg_entry_eq]
  generalize (lg_sl ([.int x0]) ++ List.replicate (1 - (lg_sl ([.int x0])).length) Slot.unset).toArray = ls at hl ⊢
  have hl : lv_has ls 1 [(0, .int x0)] := hl
  exact t_z_X4_isDigit_0 zc (lv_sub hl [0] rfl) hw
-- z_X10_nearOrNone
abbrev rm_z_X10_nearOrNone : Room := { frames := 0, cells := 0, slots := 0, locals := 0 }
def q_z_X10_nearOrNone_0 (x0 : Int32) (post : Int32 → Prop) : Prop :=
  ((1000 : Int32) ≤ x0 → (post (-1 : Int32))) ∧ (¬ (1000 : Int32) ≤ x0 → (post x0))
set_option maxRecDepth 20000 in
theorem t_z_X10_nearOrNone_0 {p : Program} {l : Launch} {e : Env} {s : State} {m : MethodId} {args : Array Value} {below : List Frame} {meth : Method} {c : Code} {post : Int32 → Prop} {x0 : Int32} {ls : Array Slot}
    (zc : zC p s m args meth c cX10_nearOrNone 1 RX10 (some .int))
    (hl : lv_has ls 1 [(0, .int x0)])
    (hw : q_z_X10_nearOrNone_0 x0 post) :
    W p l e rm_z_X10_nearOrNone s m args below meth c s.heap [] 0 0 (MQ below (vp_Si post) args s 0 0 (fun _ => False)) (F0 m 0 ls []) := by
  have hx := zc.1
  have hb := zc.2.1
  refine lv_iload_n hx hb dX10_nearOrNone_0 rfl (lv_at hl 0 rfl) ?_
  refine lv_sipush (v := (1000 : Int32)) hx hb dX10_nearOrNone_1 (by decide) ?_
  refine lv_icmp_ge (tgt := 11) hx hb dX10_nearOrNone_4 (by decide) (fun hc => ?_) (fun hc => ?_)
  · have hw := hw.1 hc
    refine lv_iconst (v := (-1 : Int32)) hx hb dX10_nearOrNone_11 (by decide) ?_
    exact zret_i zc hw dX10_nearOrNone_12
  · have hw := hw.2 hc
    refine lv_iload_n hx hb dX10_nearOrNone_7 rfl (lv_at hl 0 rfl) ?_
    refine lv_goto (tgt := 12) hx hb dX10_nearOrNone_8 (by decide) ?_
    exact zret_i zc hw dX10_nearOrNone_12
set_option maxRecDepth 20000 in
theorem c_z_X10_nearOrNone (l : Launch) {x0 : Int32} {post : Int32 → Prop} (hw : q_z_X10_nearOrNone_0 x0 post) : Met l yX10_nearOrNone (Cond.code yX10_nearOrNone cX10_nearOrNone 1 (some .int) :: zb) rm_z_X10_nearOrNone (va_Pc [.int x0] (fun _ => True)) (vp_Si post) 0 0 (fun _ => False) := by
  refine Met.ofW (cc := cX10_nearOrNone) (maxL := 1) (ret := (some .int)) (by decide) rfl ?_
  intro p e s m args below meth c s₁ B hml hv
  obtain ⟨rfl, -⟩ := hv
  have zc := zc_of B hml
  have hl := lv_entry ([.int x0]) (n := 1) (Nat.le_of_ble_eq_true rfl)
  rw [lg_entry_eq]
  generalize (lg_sl ([.int x0]) ++ List.replicate (1 - (lg_sl ([.int x0])).length) Slot.unset).toArray = ls at hl ⊢
  have hl : lv_has ls 1 [(0, .int x0)] := hl
  exact t_z_X10_nearOrNone_0 zc (lv_sub hl [0] rfl) hw
-- z_X10_sharedDivisor
abbrev rm_z_X10_sharedDivisor : Room := { frames := 0, cells := 0, slots := 0, locals := 0 }
def q_z_X10_sharedDivisor_0 (x0 : Int32) (post : Int32 → Prop) : Prop :=
  (¬ (x0 - x0 / (10 : Int32) * (10 : Int32)) = 0 → ((¬ (x0 - x0 / (5 : Int32) * (5 : Int32)) = 0 → ((¬ (x0 - x0 / (2 : Int32) * (2 : Int32)) = 0 → (post (1 : Int32))) ∧ ((x0 - x0 / (2 : Int32) * (2 : Int32)) = 0 → (post (2 : Int32))))) ∧ ((x0 - x0 / (5 : Int32) * (5 : Int32)) = 0 → (post (5 : Int32))))) ∧ ((x0 - x0 / (10 : Int32) * (10 : Int32)) = 0 → (post (10 : Int32)))
set_option maxRecDepth 20000 in
theorem t_z_X10_sharedDivisor_0 {p : Program} {l : Launch} {e : Env} {s : State} {m : MethodId} {args : Array Value} {below : List Frame} {meth : Method} {c : Code} {post : Int32 → Prop} {x0 : Int32} {ls : Array Slot}
    (zc : zC p s m args meth c cX10_sharedDivisor 1 RX10 (some .int))
    (hl : lv_has ls 1 [(0, .int x0)])
    (hw : q_z_X10_sharedDivisor_0 x0 post) :
    W p l e rm_z_X10_sharedDivisor s m args below meth c s.heap [] 0 0 (MQ below (vp_Si post) args s 0 0 (fun _ => False)) (F0 m 0 ls []) := by
  have hx := zc.1
  have hb := zc.2.1
  refine lv_iload_n hx hb dX10_sharedDivisor_0 rfl (lv_at hl 0 rfl) ?_
  refine lv_bipush (v := (10 : Int32)) hx hb dX10_sharedDivisor_1 (by decide) ?_
  refine lv_irem hx hb dX10_sharedDivisor_3 (by decide) ?_
  refine lv_if_ne (tgt := 10) hx hb dX10_sharedDivisor_4 (by decide) (fun hc => ?_) (fun hc => ?_)
  · have hw := hw.1 hc
    refine lv_iload_n hx hb dX10_sharedDivisor_10 rfl (lv_at hl 0 rfl) ?_
    refine lv_iconst (v := (5 : Int32)) hx hb dX10_sharedDivisor_11 (by decide) ?_
    refine lv_irem hx hb dX10_sharedDivisor_12 (by decide) ?_
    refine lv_if_ne (tgt := 18) hx hb dX10_sharedDivisor_13 (by decide) (fun hc => ?_) (fun hc => ?_)
    · have hw := hw.1 hc
      refine lv_iload_n hx hb dX10_sharedDivisor_18 rfl (lv_at hl 0 rfl) ?_
      refine lv_iconst (v := (2 : Int32)) hx hb dX10_sharedDivisor_19 (by decide) ?_
      refine lv_irem hx hb dX10_sharedDivisor_20 (by decide) ?_
      refine lv_if_ne (tgt := 28) hx hb dX10_sharedDivisor_21 (by decide) (fun hc => ?_) (fun hc => ?_)
      · have hw := hw.1 hc
        refine lv_iconst (v := (1 : Int32)) hx hb dX10_sharedDivisor_28 (by decide) ?_
        exact zret_i zc hw dX10_sharedDivisor_29
      · have hw := hw.2 hc
        refine lv_iconst (v := (2 : Int32)) hx hb dX10_sharedDivisor_24 (by decide) ?_
        refine lv_goto (tgt := 29) hx hb dX10_sharedDivisor_25 (by decide) ?_
        exact zret_i zc hw dX10_sharedDivisor_29
    · have hw := hw.2 hc
      refine lv_iconst (v := (5 : Int32)) hx hb dX10_sharedDivisor_16 (by decide) ?_
      exact zret_i zc hw dX10_sharedDivisor_17
  · have hw := hw.2 hc
    refine lv_bipush (v := (10 : Int32)) hx hb dX10_sharedDivisor_7 (by decide) ?_
    exact zret_i zc hw dX10_sharedDivisor_9
set_option maxRecDepth 20000 in
theorem c_z_X10_sharedDivisor (l : Launch) {x0 : Int32} {post : Int32 → Prop} (hw : q_z_X10_sharedDivisor_0 x0 post) : Met l yX10_sharedDivisor (Cond.code yX10_sharedDivisor cX10_sharedDivisor 1 (some .int) :: zb) rm_z_X10_sharedDivisor (va_Pc [.int x0] (fun _ => True)) (vp_Si post) 0 0 (fun _ => False) := by
  refine Met.ofW (cc := cX10_sharedDivisor) (maxL := 1) (ret := (some .int)) (by decide) rfl ?_
  intro p e s m args below meth c s₁ B hml hv
  obtain ⟨rfl, -⟩ := hv
  have zc := zc_of B hml
  have hl := lv_entry ([.int x0]) (n := 1) (Nat.le_of_ble_eq_true rfl)
  rw [lg_entry_eq]
  generalize (lg_sl ([.int x0]) ++ List.replicate (1 - (lg_sl ([.int x0])).length) Slot.unset).toArray = ls at hl ⊢
  have hl : lv_has ls 1 [(0, .int x0)] := hl
  exact t_z_X10_sharedDivisor_0 zc (lv_sub hl [0] rfl) hw
-- z_X10_power
abbrev rm_z_X10_power : Room := { frames := 0, cells := 0, slots := 0, locals := 0 }
def q_z_X10_power_5 (x0 : Int32) (x1 : Int32) (x2 : Int64) (x4 : Int32) (post : Int64 → Prop) : Prop :=
  ∀ P5 : Int64 → Int32 → Prop, (∀ (x2 : Int64) (x4 : Int32), ((x1 ≤ x4 → (post x2)) ∧ (¬ x1 ≤ x4 → (∀ v_1 : Int64, v_1 = (x2 * (Int32.toInt64 x0)) → (∀ v_2 : Int32, v_2 = x4 + (1 : Int32) → (P5 v_1 v_2))))) → P5 x2 x4) → P5 x2 x4
def q_z_X10_power_0 (x0 : Int32) (x1 : Int32) (post : Int64 → Prop) : Prop :=
  q_z_X10_power_5 x0 x1 (1 : Int64) (0 : Int32) post
set_option maxRecDepth 20000 in
theorem t_z_X10_power_5 {p : Program} {l : Launch} {e : Env} {s : State} {m : MethodId} {args : Array Value} {below : List Frame} {meth : Method} {c : Code} {post : Int64 → Prop} {x0 : Int32} {x1 : Int32} {x2 : Int64} {x4 : Int32} {ls : Array Slot}
    (zc : zC p s m args meth c cX10_power 5 RX10 (some .long))
    (hl : lv_has ls 5 [(0, .int x0), (1, .int x1), (2, .long x2), (4, .int x4)])
    (hw : q_z_X10_power_5 x0 x1 x2 x4 post) :
    W p l e rm_z_X10_power s m args below meth c s.heap [] 0 0 (MQ below (vp_Sl post) args s 0 0 (fun _ => False)) (F0 m 5 ls []) := by
  have hx := zc.1
  have hb := zc.2.1
  refine hw (fun x2 x4 => ∀ (ls : Array Slot), lv_has ls 5 [(0, .int x0), (1, .int x1), (2, .long x2), (4, .int x4)] → W p l e rm_z_X10_power s m args below meth c s.heap [] 0 0 (MQ below (vp_Sl post) args s 0 0 (fun _ => False)) (F0 m 5 ls [])) ?_ _ hl
  intro x2 x4 hw ls hl
  refine lv_iload hx hb dX10_power_5 (lv_at hl 3 rfl) ?_
  refine lv_iload_n hx hb dX10_power_7 rfl (lv_at hl 1 rfl) ?_
  refine lv_icmp_ge (tgt := 22) hx hb dX10_power_8 (by decide) (fun hc => ?_) (fun hc => ?_)
  · have hw := hw.1 hc
    refine lv_lload_n hx hb dX10_power_22 rfl (lv_at hl 2 rfl) ?_
    exact zret_l zc hw dX10_power_23
  · have hw := hw.2 hc
    refine lv_lload_n hx hb dX10_power_11 rfl (lv_at hl 2 rfl) ?_
    refine lv_iload_n hx hb dX10_power_12 rfl (lv_at hl 0 rfl) ?_
    refine lv_i2l hx hb dX10_power_13 rfl ?_
    refine lv_lmul hx hb dX10_power_14 ?_
    refine lv_topl (fun v_1 ev_1 => ?_)
    have hw := hw v_1 ev_1
    refine lv_lstore_n (lv' := [(2, .long v_1), (0, .int x0), (1, .int x1), (4, .int x4)]) hx hb dX10_power_15 rfl hl (by decide) rfl (fun ls hl => ?_)
    obtain ⟨v_2, ev_2⟩ : ∃ y : Int32, y = x4 + (1 : Int32) := ⟨_, rfl⟩
    have hw := hw v_2 ev_2
    refine lv_iinc (v := v_2) (k := 3) (lv' := [(4, .int v_2), (2, .long v_1), (0, .int x0), (1, .int x1)]) hx hb dX10_power_16 hl rfl (by rw [ev_2]; rfl) (by decide) rfl (fun ls hl => ?_)
    refine lv_goto (tgt := 5) hx hb dX10_power_19 (by decide) ?_
    exact hw _ (lv_sub hl [2, 3, 1, 0] rfl)
set_option maxRecDepth 20000 in
theorem t_z_X10_power_0 {p : Program} {l : Launch} {e : Env} {s : State} {m : MethodId} {args : Array Value} {below : List Frame} {meth : Method} {c : Code} {post : Int64 → Prop} {x0 : Int32} {x1 : Int32} {ls : Array Slot}
    (zc : zC p s m args meth c cX10_power 5 RX10 (some .long))
    (hl : lv_has ls 5 [(0, .int x0), (1, .int x1)])
    (hw : q_z_X10_power_0 x0 x1 post) :
    W p l e rm_z_X10_power s m args below meth c s.heap [] 0 0 (MQ below (vp_Sl post) args s 0 0 (fun _ => False)) (F0 m 0 ls []) := by
  have hx := zc.1
  have hb := zc.2.1
  refine lv_lconst (v := (1 : Int64)) hx hb dX10_power_0 (by decide) ?_
  refine lv_lstore_n (lv' := [(2, .long (1 : Int64)), (0, .int x0), (1, .int x1)]) hx hb dX10_power_1 rfl hl (by decide) rfl (fun ls hl => ?_)
  refine lv_iconst (v := (0 : Int32)) hx hb dX10_power_2 (by decide) ?_
  refine lv_istore (lv' := [(4, .int (0 : Int32)), (2, .long (1 : Int64)), (0, .int x0), (1, .int x1)]) hx hb dX10_power_3 hl (by decide) rfl (fun ls hl => ?_)
  exact t_z_X10_power_5 zc  (lv_sub hl [2, 3, 1, 0] rfl) hw
set_option maxRecDepth 20000 in
theorem c_z_X10_power (l : Launch) {x0 : Int32} {x1 : Int32} {post : Int64 → Prop} (hw : q_z_X10_power_0 x0 x1 post) : Met l yX10_power (Cond.code yX10_power cX10_power 5 (some .long) :: zb) rm_z_X10_power (va_Pc [.int x0, .int x1] (fun _ => True)) (vp_Sl post) 0 0 (fun _ => False) := by
  refine Met.ofW (cc := cX10_power) (maxL := 5) (ret := (some .long)) (by decide) rfl ?_
  intro p e s m args below meth c s₁ B hml hv
  obtain ⟨rfl, -⟩ := hv
  have zc := zc_of B hml
  have hl := lv_entry ([.int x0, .int x1]) (n := 5) (Nat.le_of_ble_eq_true rfl)
  rw [lg_entry_eq]
  generalize (lg_sl ([.int x0, .int x1]) ++ List.replicate (5 - (lg_sl ([.int x0, .int x1])).length) Slot.unset).toArray = ls at hl ⊢
  have hl : lv_has ls 5 [(0, .int x0), (1, .int x1)] := hl
  exact t_z_X10_power_0 zc (lv_sub hl [0, 1] rfl) hw
