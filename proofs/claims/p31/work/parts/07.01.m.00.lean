-- m_in
abbrev rm_m_in : Room := { frames := 0, cells := 0, slots := 0, locals := 0 }
def q_m_in_0 (x0 : Int32) (x1 : Int32) (x2 : Int32) (post : Int32 → Prop) : Prop :=
  (x0 < x1 → (post (0 : Int32))) ∧ (¬ x0 < x1 → ((x2 < x0 → (post (0 : Int32))) ∧ (¬ x2 < x0 → (post (1 : Int32)))))
set_option maxRecDepth 20000 in
theorem t_m_in_0 {p : Program} {l : Launch} {e : Env} {s : State} {m : MethodId} {args : Array Value} {below : List Frame} {meth : Method} {c : Code} {post : Int32 → Prop} {x0 : Int32} {x1 : Int32} {x2 : Int32} {ls : Array Slot}
    (zc : zC p s m args meth c cX11_in 3 RX11 (some .boolean))
    (hl : lv_has ls 3 [(0, .int x0), (1, .int x1), (2, .int x2)])
    (hw : q_m_in_0 x0 x1 x2 post) :
    W p l e rm_m_in s m args below meth c s.heap [] 0 0 (MQ below (vp_Si post) args s 0 0 (fun _ => False)) (F0 m 0 ls []) := by
  have hx := zc.1
  have hb := zc.2.1
  refine lv_iload_n hx hb dX11_in_0 rfl (lv_at hl 0 rfl) ?_
  refine lv_iload_n hx hb dX11_in_1 rfl (lv_at hl 1 rfl) ?_
  refine lv_icmp_lt (tgt := 14) hx hb dX11_in_2 (by decide) (fun hc => ?_) (fun hc => ?_)
  · have hw := hw.1 hc
    refine lv_iconst (v := (0 : Int32)) hx hb dX11_in_14 (by decide) ?_
    exact zret_z zc rfl hw dX11_in_15
  · have hw := hw.2 hc
    refine lv_iload_n hx hb dX11_in_5 rfl (lv_at hl 0 rfl) ?_
    refine lv_iload_n hx hb dX11_in_6 rfl (lv_at hl 2 rfl) ?_
    refine lv_icmp_gt (tgt := 14) hx hb dX11_in_7 (by decide) (fun hc => ?_) (fun hc => ?_)
    · have hw := hw.1 hc
      refine lv_iconst (v := (0 : Int32)) hx hb dX11_in_14 (by decide) ?_
      exact zret_z zc rfl hw dX11_in_15
    · have hw := hw.2 hc
      refine lv_iconst (v := (1 : Int32)) hx hb dX11_in_10 (by decide) ?_
      refine lv_goto (tgt := 15) hx hb dX11_in_11 (by decide) ?_
      exact zret_z zc rfl hw dX11_in_15
set_option maxRecDepth 20000 in
theorem c_m_in (l : Launch) {x0 : Int32} {x1 : Int32} {x2 : Int32} {post : Int32 → Prop} (hw : q_m_in_0 x0 x1 x2 post) : Met l yX11_in (Cond.code yX11_in cX11_in 3 (some .boolean) :: zb) rm_m_in (va_Pc [.int x0, .int x1, .int x2] (fun _ => True)) (vp_Si post) 0 0 (fun _ => False) := by
  refine Met.ofW (cc := cX11_in) (maxL := 3) (ret := (some .boolean)) (by decide) rfl ?_
  intro p e s m args below meth c s₁ B hml hv
  obtain ⟨rfl, -⟩ := hv
  have zc := zc_of B hml
  have hl := lv_entry ([.int x0, .int x1, .int x2]) (n := 3) (Nat.le_of_ble_eq_true rfl)
  rw [lg_entry_eq]
  generalize (lg_sl ([.int x0, .int x1, .int x2]) ++ List.replicate (3 - (lg_sl ([.int x0, .int x1, .int x2])).length) Slot.unset).toArray = ls at hl ⊢
  have hl : lv_has ls 3 [(0, .int x0), (1, .int x1), (2, .int x2)] := hl
  exact t_m_in_0 zc (lv_sub hl [0, 1, 2] rfl) hw
-- m_has
abbrev rm_m_has : Room := { frames := 0, cells := 0, slots := 0, locals := 0 }
def q_m_has_0 (x0 : Int32) (x1 : Int32) (post : Int32 → Prop) : Prop :=
  (¬ ((x0 >>> (x1 &&& 31)) &&& (1 : Int32)) = (1 : Int32) → (post (0 : Int32))) ∧ (((x0 >>> (x1 &&& 31)) &&& (1 : Int32)) = (1 : Int32) → (post (1 : Int32)))
set_option maxRecDepth 20000 in
theorem t_m_has_0 {p : Program} {l : Launch} {e : Env} {s : State} {m : MethodId} {args : Array Value} {below : List Frame} {meth : Method} {c : Code} {post : Int32 → Prop} {x0 : Int32} {x1 : Int32} {ls : Array Slot}
    (zc : zC p s m args meth c cX11_has 2 RX11 (some .boolean))
    (hl : lv_has ls 2 [(0, .int x0), (1, .int x1)])
    (hw : q_m_has_0 x0 x1 post) :
    W p l e rm_m_has s m args below meth c s.heap [] 0 0 (MQ below (vp_Si post) args s 0 0 (fun _ => False)) (F0 m 0 ls []) := by
  have hx := zc.1
  have hb := zc.2.1
  refine lv_iload_n hx hb dX11_has_0 rfl (lv_at hl 0 rfl) ?_
  refine lv_iload_n hx hb dX11_has_1 rfl (lv_at hl 1 rfl) ?_
  refine lv_ishr hx hb dX11_has_2 ?_
  refine lv_iconst (v := (1 : Int32)) hx hb dX11_has_3 (by decide) ?_
  refine lv_iand hx hb dX11_has_4 ?_
  refine lv_iconst (v := (1 : Int32)) hx hb dX11_has_5 (by decide) ?_
  refine lv_icmp_ne (tgt := 13) hx hb dX11_has_6 (by decide) (fun hc => ?_) (fun hc => ?_)
  · have hw := hw.1 hc
    refine lv_iconst (v := (0 : Int32)) hx hb dX11_has_13 (by decide) ?_
    exact zret_z zc rfl hw dX11_has_14
  · have hw := hw.2 hc
    refine lv_iconst (v := (1 : Int32)) hx hb dX11_has_9 (by decide) ?_
    refine lv_goto (tgt := 14) hx hb dX11_has_10 (by decide) ?_
    exact zret_z zc rfl hw dX11_has_14
set_option maxRecDepth 20000 in
theorem c_m_has (l : Launch) {x0 : Int32} {x1 : Int32} {post : Int32 → Prop} (hw : q_m_has_0 x0 x1 post) : Met l yX11_has (Cond.code yX11_has cX11_has 2 (some .boolean) :: zb) rm_m_has (va_Pc [.int x0, .int x1] (fun _ => True)) (vp_Si post) 0 0 (fun _ => False) := by
  refine Met.ofW (cc := cX11_has) (maxL := 2) (ret := (some .boolean)) (by decide) rfl ?_
  intro p e s m args below meth c s₁ B hml hv
  obtain ⟨rfl, -⟩ := hv
  have zc := zc_of B hml
  have hl := lv_entry ([.int x0, .int x1]) (n := 2) (Nat.le_of_ble_eq_true rfl)
  rw [lg_entry_eq]
  generalize (lg_sl ([.int x0, .int x1]) ++ List.replicate (2 - (lg_sl ([.int x0, .int x1])).length) Slot.unset).toArray = ls at hl ⊢
  have hl : lv_has ls 2 [(0, .int x0), (1, .int x1)] := hl
  exact t_m_has_0 zc (lv_sub hl [0, 1] rfl) hw
-- m_greater
abbrev rm_m_greater : Room := { frames := 0, cells := 0, slots := 0, locals := 0 }
def q_m_greater_0 (x0 : Int32) (x1 : Int32) (post : Int32 → Prop) : Prop :=
  (x0 ≤ x1 → (post x1)) ∧ (¬ x0 ≤ x1 → (post x0))
set_option maxRecDepth 20000 in
theorem t_m_greater_0 {p : Program} {l : Launch} {e : Env} {s : State} {m : MethodId} {args : Array Value} {below : List Frame} {meth : Method} {c : Code} {post : Int32 → Prop} {x0 : Int32} {x1 : Int32} {ls : Array Slot}
    (zc : zC p s m args meth c cX11_greater 2 RX11 (some .int))
    (hl : lv_has ls 2 [(0, .int x0), (1, .int x1)])
    (hw : q_m_greater_0 x0 x1 post) :
    W p l e rm_m_greater s m args below meth c s.heap [] 0 0 (MQ below (vp_Si post) args s 0 0 (fun _ => False)) (F0 m 0 ls []) := by
  have hx := zc.1
  have hb := zc.2.1
  refine lv_iload_n hx hb dX11_greater_0 rfl (lv_at hl 0 rfl) ?_
  refine lv_iload_n hx hb dX11_greater_1 rfl (lv_at hl 1 rfl) ?_
  refine lv_icmp_le (tgt := 9) hx hb dX11_greater_2 (by decide) (fun hc => ?_) (fun hc => ?_)
  · have hw := hw.1 hc
    refine lv_iload_n hx hb dX11_greater_9 rfl (lv_at hl 1 rfl) ?_
    exact zret_i zc hw dX11_greater_10
  · have hw := hw.2 hc
    refine lv_iload_n hx hb dX11_greater_5 rfl (lv_at hl 0 rfl) ?_
    refine lv_goto (tgt := 10) hx hb dX11_greater_6 (by decide) ?_
    exact zret_i zc hw dX11_greater_10
set_option maxRecDepth 20000 in
theorem c_m_greater (l : Launch) {x0 : Int32} {x1 : Int32} {post : Int32 → Prop} (hw : q_m_greater_0 x0 x1 post) : Met l yX11_greater (Cond.code yX11_greater cX11_greater 2 (some .int) :: zb) rm_m_greater (va_Pc [.int x0, .int x1] (fun _ => True)) (vp_Si post) 0 0 (fun _ => False) := by
  refine Met.ofW (cc := cX11_greater) (maxL := 2) (ret := (some .int)) (by decide) rfl ?_
  intro p e s m args below meth c s₁ B hml hv
  obtain ⟨rfl, -⟩ := hv
  have zc := zc_of B hml
  have hl := lv_entry ([.int x0, .int x1]) (n := 2) (Nat.le_of_ble_eq_true rfl)
  rw [lg_entry_eq]
  generalize (lg_sl ([.int x0, .int x1]) ++ List.replicate (2 - (lg_sl ([.int x0, .int x1])).length) Slot.unset).toArray = ls at hl ⊢
  have hl : lv_has ls 2 [(0, .int x0), (1, .int x1)] := hl
  exact t_m_greater_0 zc (lv_sub hl [0, 1] rfl) hw
-- m_lesser
abbrev rm_m_lesser : Room := { frames := 0, cells := 0, slots := 0, locals := 0 }
def q_m_lesser_0 (x0 : Int32) (x1 : Int32) (post : Int32 → Prop) : Prop :=
  (x1 ≤ x0 → (post x1)) ∧ (¬ x1 ≤ x0 → (post x0))
set_option maxRecDepth 20000 in
theorem t_m_lesser_0 {p : Program} {l : Launch} {e : Env} {s : State} {m : MethodId} {args : Array Value} {below : List Frame} {meth : Method} {c : Code} {post : Int32 → Prop} {x0 : Int32} {x1 : Int32} {ls : Array Slot}
    (zc : zC p s m args meth c cX11_lesser 2 RX11 (some .int))
    (hl : lv_has ls 2 [(0, .int x0), (1, .int x1)])
    (hw : q_m_lesser_0 x0 x1 post) :
    W p l e rm_m_lesser s m args below meth c s.heap [] 0 0 (MQ below (vp_Si post) args s 0 0 (fun _ => False)) (F0 m 0 ls []) := by
  have hx := zc.1
  have hb := zc.2.1
  refine lv_iload_n hx hb dX11_lesser_0 rfl (lv_at hl 0 rfl) ?_
  refine lv_iload_n hx hb dX11_lesser_1 rfl (lv_at hl 1 rfl) ?_
  refine lv_icmp_ge (tgt := 9) hx hb dX11_lesser_2 (by decide) (fun hc => ?_) (fun hc => ?_)
  · have hw := hw.1 hc
    refine lv_iload_n hx hb dX11_lesser_9 rfl (lv_at hl 1 rfl) ?_
    exact zret_i zc hw dX11_lesser_10
  · have hw := hw.2 hc
    refine lv_iload_n hx hb dX11_lesser_5 rfl (lv_at hl 0 rfl) ?_
    refine lv_goto (tgt := 10) hx hb dX11_lesser_6 (by decide) ?_
    exact zret_i zc hw dX11_lesser_10
set_option maxRecDepth 20000 in
theorem c_m_lesser (l : Launch) {x0 : Int32} {x1 : Int32} {post : Int32 → Prop} (hw : q_m_lesser_0 x0 x1 post) : Met l yX11_lesser (Cond.code yX11_lesser cX11_lesser 2 (some .int) :: zb) rm_m_lesser (va_Pc [.int x0, .int x1] (fun _ => True)) (vp_Si post) 0 0 (fun _ => False) := by
  refine Met.ofW (cc := cX11_lesser) (maxL := 2) (ret := (some .int)) (by decide) rfl ?_
  intro p e s m args below meth c s₁ B hml hv
  obtain ⟨rfl, -⟩ := hv
  have zc := zc_of B hml
  have hl := lv_entry ([.int x0, .int x1]) (n := 2) (Nat.le_of_ble_eq_true rfl)
  rw [lg_entry_eq]
  generalize (lg_sl ([.int x0, .int x1]) ++ List.replicate (2 - (lg_sl ([.int x0, .int x1])).length) Slot.unset).toArray = ls at hl ⊢
  have hl : lv_has ls 2 [(0, .int x0), (1, .int x1)] := hl
  exact t_m_lesser_0 zc (lv_sub hl [0, 1] rfl) hw
-- m_ones
abbrev rm_m_ones : Room := { frames := 1, cells := 0, slots := 0, locals := 21 }
def q_m_ones_24 (P4 : Int32 → Int32 → Prop) (x0 : Int32) (x2 : Int32) (y0 : Int32) (y1 : Int32) (post : Int32 → Prop) : Prop :=
  ∀ v_1 : Int32, v_1 = (y0 + y1) → (∀ v_2 : Int32, v_2 = x2 + (1 : Int32) → (P4 v_1 v_2))
def q_m_ones_4 (x0 : Int32) (x1 : Int32) (x2 : Int32) (post : Int32 → Prop) : Prop :=
  ∀ P4 : Int32 → Int32 → Prop, (∀ (x1 : Int32) (x2 : Int32), (((9 : Int32) ≤ x2 → (post x1)) ∧ (¬ (9 : Int32) ≤ x2 → (q_m_has_0 x0 x2 (fun r_1 => (r_1 = 0 → (q_m_ones_24 P4 x0 x2 x1 (0 : Int32) post)) ∧ (¬ r_1 = 0 → (q_m_ones_24 P4 x0 x2 x1 (1 : Int32) post)))))) → P4 x1 x2) → P4 x1 x2
def q_m_ones_0 (x0 : Int32) (post : Int32 → Prop) : Prop :=
  q_m_ones_4 x0 (0 : Int32) (0 : Int32) post
set_option maxRecDepth 20000 in
theorem t_m_ones_24 {p : Program} {l : Launch} {e : Env} {s : State} {m : MethodId} {args : Array Value} {below : List Frame} {meth : Method} {c : Code} {P4 : Int32 → Int32 → Prop} {post : Int32 → Prop} {x0 : Int32} {x2 : Int32} {y0 : Int32} {y1 : Int32} {ls : Array Slot}
    (zc : zC p s m args meth c cX11_ones 3 RX11 (some .int))
    (hP4 : ∀ (x1 : Int32) (x2 : Int32) (ls : Array Slot), P4 x1 x2 → lv_has ls 3 [(0, .int x0), (1, .int x1), (2, .int x2)] → W p l e rm_m_ones s m args below meth c s.heap [] 0 0 (MQ below (vp_Si post) args s 0 0 (fun _ => False)) (F0 m 4 ls []))
    (hl : lv_has ls 3 [(0, .int x0), (2, .int x2)])
    (hw : q_m_ones_24 P4 x0 x2 y0 y1 post) :
    W p l e rm_m_ones s m args below meth c s.heap [] 0 0 (MQ below (vp_Si post) args s 0 0 (fun _ => False)) (F0 m 24 ls [.int y1, .int y0]) := by
  have hx := zc.1
  have hb := zc.2.1
  refine lv_iadd hx hb dX11_ones_24 ?_
  refine lv_topi (fun v_1 ev_1 => ?_)
  have hw := hw v_1 ev_1
  refine lv_istore_n (lv' := [(1, .int v_1), (0, .int x0), (2, .int x2)]) hx hb dX11_ones_25 rfl hl (by decide) rfl (fun ls hl => ?_)
  obtain ⟨v_2, ev_2⟩ : ∃ y : Int32, y = x2 + (1 : Int32) := ⟨_, rfl⟩
  have hw := hw v_2 ev_2
  refine lv_iinc (v := v_2) (k := 2) (lv' := [(2, .int v_2), (1, .int v_1), (0, .int x0)]) hx hb dX11_ones_26 hl rfl (by rw [ev_2]; rfl) (by decide) rfl (fun ls hl => ?_)
  refine lv_goto (tgt := 4) hx hb dX11_ones_29 (by decide) ?_
  exact hP4 _ _ _ hw (lv_sub hl [2, 1, 0] rfl)
set_option maxRecDepth 20000 in
theorem t_m_ones_4 {p : Program} {l : Launch} {e : Env} {s : State} {m : MethodId} {args : Array Value} {below : List Frame} {meth : Method} {c : Code} {post : Int32 → Prop} {x0 : Int32} {x1 : Int32} {x2 : Int32} {ls : Array Slot}
    (zc : zC p s m args meth c cX11_ones 3 RX11 (some .int))
    (hl : lv_has ls 3 [(0, .int x0), (1, .int x1), (2, .int x2)])
    (hw : q_m_ones_4 x0 x1 x2 post) :
    W p l e rm_m_ones s m args below meth c s.heap [] 0 0 (MQ below (vp_Si post) args s 0 0 (fun _ => False)) (F0 m 4 ls []) := by
  have hx := zc.1
  have hb := zc.2.1
  refine hw (fun x1 x2 => ∀ (ls : Array Slot), lv_has ls 3 [(0, .int x0), (1, .int x1), (2, .int x2)] → W p l e rm_m_ones s m args below meth c s.heap [] 0 0 (MQ below (vp_Si post) args s 0 0 (fun _ => False)) (F0 m 4 ls [])) ?_ _ hl
  intro x1 x2 hw ls hl
  refine lv_iload_n hx hb dX11_ones_4 rfl (lv_at hl 2 rfl) ?_
  refine lv_bipush (v := (9 : Int32)) hx hb dX11_ones_5 (by decide) ?_
  refine lv_icmp_ge (tgt := 32) hx hb dX11_ones_7 (by decide) (fun hc => ?_) (fun hc => ?_)
  · have hw := hw.1 hc
    refine lv_iload_n hx hb dX11_ones_32 rfl (lv_at hl 1 rfl) ?_
    exact zret_i zc hw dX11_ones_33
  · have hw := hw.2 hc
    refine lv_iload_n hx hb dX11_ones_10 rfl (lv_at hl 1 rfl) ?_
    refine lv_iload_n hx hb dX11_ones_11 rfl (lv_at hl 0 rfl) ?_
    refine lv_iload_n hx hb dX11_ones_12 rfl (lv_at hl 2 rfl) ?_
    refine zS_i [.int x0, .int x2] [.int x1] zc ky_X11_has kz_X11_has km_11_101 (c_m_has l hw) (zPre0 _) rfl rfl hl.1 (Nat.le_of_ble_eq_true rfl) ⟨rfl, rfl⟩ ⟨Nat.le_of_ble_eq_true rfl, Nat.le_of_ble_eq_true rfl⟩ ⟨(Nat.zero_le _), (Nat.zero_le _)⟩ dX11_ones_13 (fun r_1 hw => ?_)
    refine lv_if_eq (tgt := 23) hx hb dX11_ones_16 (by decide) (fun hc => ?_) (fun hc => ?_)
    · have hw := hw.1 hc
      refine lv_iconst (v := (0 : Int32)) hx hb dX11_ones_23 (by decide) ?_
      exact t_m_ones_24 zc (fun _ _ ls h hl => h ls hl) (lv_sub hl [0, 2] rfl) hw
    · have hw := hw.2 hc
      refine lv_iconst (v := (1 : Int32)) hx hb dX11_ones_19 (by decide) ?_
      refine lv_goto (tgt := 24) hx hb dX11_ones_20 (by decide) ?_
      exact t_m_ones_24 zc (fun _ _ ls h hl => h ls hl) (lv_sub hl [0, 2] rfl) hw
set_option maxRecDepth 20000 in
theorem t_m_ones_0 {p : Program} {l : Launch} {e : Env} {s : State} {m : MethodId} {args : Array Value} {below : List Frame} {meth : Method} {c : Code} {post : Int32 → Prop} {x0 : Int32} {ls : Array Slot}
    (zc : zC p s m args meth c cX11_ones 3 RX11 (some .int))
    (hl : lv_has ls 3 [(0, .int x0)])
    (hw : q_m_ones_0 x0 post) :
    W p l e rm_m_ones s m args below meth c s.heap [] 0 0 (MQ below (vp_Si post) args s 0 0 (fun _ => False)) (F0 m 0 ls []) := by
  have hx := zc.1
  have hb := zc.2.1
  refine lv_iconst (v := (0 : Int32)) hx hb dX11_ones_0 (by decide) ?_
  refine lv_istore_n (lv' := [(1, .int (0 : Int32)), (0, .int x0)]) hx hb dX11_ones_1 rfl hl (by decide) rfl (fun ls hl => ?_)
  refine lv_iconst (v := (0 : Int32)) hx hb dX11_ones_2 (by decide) ?_
  refine lv_istore_n (lv' := [(2, .int (0 : Int32)), (1, .int (0 : Int32)), (0, .int x0)]) hx hb dX11_ones_3 rfl hl (by decide) rfl (fun ls hl => ?_)
  exact t_m_ones_4 zc  (lv_sub hl [2, 1, 0] rfl) hw
set_option maxRecDepth 20000 in
theorem c_m_ones (l : Launch) {x0 : Int32} {post : Int32 → Prop} (hw : q_m_ones_0 x0 post) : Met l yX11_ones (Cond.code yX11_ones cX11_ones 3 (some .int) :: zb) rm_m_ones (va_Pc [.int x0] (fun _ => True)) (vp_Si post) 0 0 (fun _ => False) := by
  refine Met.ofW (cc := cX11_ones) (maxL := 3) (ret := (some .int)) (by decide) rfl ?_
  intro p e s m args below meth c s₁ B hml hv
  obtain ⟨rfl, -⟩ := hv
  have zc := zc_of B hml
  have hl := lv_entry ([.int x0]) (n := 3) (Nat.le_of_ble_eq_true rfl)
  rw [lg_entry_eq]
  generalize (lg_sl ([.int x0]) ++ List.replicate (3 - (lg_sl ([.int x0])).length) Slot.unset).toArray = ls at hl ⊢
  have hl : lv_has ls 3 [(0, .int x0)] := hl
  exact t_m_ones_0 zc (lv_sub hl [0] rfl) hw
-- m_copyRow_2
abbrev rm_m_copyRow_2 : Room := { frames := 0, cells := 0, slots := 0, locals := 0 }
def q_m_copyRow_2_3 (a_size : Nat → Int32) (x1 : Int32) (x2 : Int32) (x3 : Int32) (x4 : Int32) (post : (Nat → Int32) → Prop) : Prop :=
  ∀ P3 : Int32 → (Nat → Int32) → Prop, (∀ (x4 : Int32) (a_size : Nat → Int32), ((x1 ≤ x4 → (post a_size)) ∧ (¬ x1 ≤ x4 → (vp_in ((x1 * x2) + x4) 4 ∧ (∀ v_1 : Int32, v_1 = (a_size (Int32.toNatClampNeg ((x1 * x2) + x4))) → (vp_in ((x1 * x3) + x4) 4 ∧ (∀ a_size_1 : Nat → Int32, a_size_1 = upd a_size (Int32.toNatClampNeg ((x1 * x3) + x4)) v_1 → (∀ v_2 : Int32, v_2 = x4 + (1 : Int32) → (P3 v_2 a_size_1)))))))) → P3 x4 a_size) → P3 x4 a_size
def q_m_copyRow_2_0 (a_size : Nat → Int32) (x1 : Int32) (x2 : Int32) (x3 : Int32) (post : (Nat → Int32) → Prop) : Prop :=
  q_m_copyRow_2_3 a_size x1 x2 x3 (0 : Int32) post
set_option maxRecDepth 20000 in
theorem t_m_copyRow_2_3 {p : Program} {l : Launch} {e : Env} {s : State} {m : MethodId} {args : Array Value} {below : List Frame} {meth : Method} {c : Code} {E : zE} {q : Nat} {f_code : Int32} {a_tape : Nat → Int32} {a_size : Nat → Int32} {a_fault : Nat → Int32} {a_faultPlace : Nat → Int32} {a_many : Nat → Int32} {a_lands : Nat → Int32} {a_evenings : Nat → Int32} {a_sights : Nat → Int32} {a_choirs : Nat → Int32} {f_reached : Int32} {f_length : Int32} {f_begins : Int32} {f_sort : Int32} {f_value : Int32} {f_word : Int64} {f_wrongAt : Int32} {f_laterFault : Int32} {f_laterPlace : Int32} {a_told : Nat → Int32} {a_read : Nat → Int32} {f_farHut : Int32} {f_farSinger : Int32} {f_good : Int32} {f_land : Int32} {f_huts : Int32} {f_singers : Int32} {f_evening : Int32} {a_at : Nat → Int32} {a_knows : Nat → Int32} {a_climbed : Nat → Int32} {a_snow : Nat → Int32} {a_level : Nat → Int32} {f_begun : Int32} {f_minute : Int32} {f_avalanches : Int32} {a_run : Nat → Int32} {a_covers : Nat → Int32} {a_routes : Nat → Int32} {a_longest : Nat → Int32} {a_steep : Nat → Int32} {a_laid : Nat → Int32} {a_far : Nat → Int32} {f_sight : Int32} {a_runs : Nat → Int32} {f_choir : Int32} {f_voices : Int32} {a_rest : Nat → Int64} {a_wins : Nat → Int32} {f_seed : Int32} {a_other : Nat → Int32} {a_kept : Nat → Int32} {post : (Nat → Int32) → Prop} {x1 : Int32} {x2 : Int32} {x3 : Int32} {x4 : Int32} {ls : Array Slot} {H : Heap} {locs : List Loc}
    (zc : zC p s m args meth c cX11_copyRow 5 RX11 none)
    (hK : zK E s)
    (hM : mW E q f_code a_tape a_size a_fault a_faultPlace a_many a_lands a_evenings a_sights a_choirs f_reached f_length f_begins f_sort f_value f_word f_wrongAt f_laterFault f_laterPlace a_told a_read f_farHut f_farSinger f_good f_land f_huts f_singers f_evening a_at a_knows a_climbed a_snow a_level f_begun f_minute f_avalanches a_run a_covers a_routes a_longest a_steep a_laid a_far f_sight a_runs f_choir f_voices a_rest a_wins f_seed a_other a_kept H)
    (hS : va_S (mA q) s.heap H locs)
    (hl : lv_has ls 5 [(0, .ref (q + 2)), (1, .int x1), (2, .int x2), (3, .int x3), (4, .int x4)])
    (hw : q_m_copyRow_2_3 a_size x1 x2 x3 x4 post) :
    W p l e rm_m_copyRow_2 s m args below meth c H locs 0 0 (MQ below (zQv (S := (Nat → Int32)) (fun u => post u) (fun u H => mW E q f_code a_tape u a_fault a_faultPlace a_many a_lands a_evenings a_sights a_choirs f_reached f_length f_begins f_sort f_value f_word f_wrongAt f_laterFault f_laterPlace a_told a_read f_farHut f_farSinger f_good f_land f_huts f_singers f_evening a_at a_knows a_climbed a_snow a_level f_begun f_minute f_avalanches a_run a_covers a_routes a_longest a_steep a_laid a_far f_sight a_runs f_choir f_voices a_rest a_wins f_seed a_other a_kept H) (mA q)) args s 0 0 (mA q)) (F0 m 3 ls []) := by
  have hx := zc.1
  have hb := zc.2.1
  refine hw (fun x4 a_size => ∀ (H : Heap) (locs : List Loc) (ls : Array Slot), lv_has ls 5 [(0, .ref (q + 2)), (1, .int x1), (2, .int x2), (3, .int x3), (4, .int x4)] → mW E q f_code a_tape a_size a_fault a_faultPlace a_many a_lands a_evenings a_sights a_choirs f_reached f_length f_begins f_sort f_value f_word f_wrongAt f_laterFault f_laterPlace a_told a_read f_farHut f_farSinger f_good f_land f_huts f_singers f_evening a_at a_knows a_climbed a_snow a_level f_begun f_minute f_avalanches a_run a_covers a_routes a_longest a_steep a_laid a_far f_sight a_runs f_choir f_voices a_rest a_wins f_seed a_other a_kept H → va_S (mA q) s.heap H locs → W p l e rm_m_copyRow_2 s m args below meth c H locs 0 0 (MQ below (zQv (S := (Nat → Int32)) (fun u => post u) (fun u H => mW E q f_code a_tape u a_fault a_faultPlace a_many a_lands a_evenings a_sights a_choirs f_reached f_length f_begins f_sort f_value f_word f_wrongAt f_laterFault f_laterPlace a_told a_read f_farHut f_farSinger f_good f_land f_huts f_singers f_evening a_at a_knows a_climbed a_snow a_level f_begun f_minute f_avalanches a_run a_covers a_routes a_longest a_steep a_laid a_far f_sight a_runs f_choir f_voices a_rest a_wins f_seed a_other a_kept H) (mA q)) args s 0 0 (mA q)) (F0 m 3 ls [])) ?_ _ _ _ hl hM hS
  intro x4 a_size hw H locs ls hl hM hS
  refine lv_iload hx hb dX11_copyRow_3 (lv_at hl 4 rfl) ?_
  refine lv_iload_n hx hb dX11_copyRow_5 rfl (lv_at hl 1 rfl) ?_
  refine lv_icmp_ge (tgt := 31) hx hb dX11_copyRow_6 (by decide) (fun hc => ?_) (fun hc => ?_)
  · have hw := hw.1 hc
    exact zret_vw a_size zc hS hw hM dX11_copyRow_31
  · have hw := hw.2 hc
    refine lv_aload_n hx hb dX11_copyRow_9 rfl (lv_at hl 0 rfl) ?_
    refine lv_iload_n hx hb dX11_copyRow_10 rfl (lv_at hl 1 rfl) ?_
    refine lv_iload_n hx hb dX11_copyRow_11 rfl (lv_at hl 3 rfl) ?_
    refine lv_imul hx hb dX11_copyRow_12 ?_
    refine lv_iload hx hb dX11_copyRow_13 (lv_at hl 4 rfl) ?_
    refine lv_iadd hx hb dX11_copyRow_15 ?_
    refine lv_aload_n hx hb dX11_copyRow_16 rfl (lv_at hl 0 rfl) ?_
    refine lv_iload_n hx hb dX11_copyRow_17 rfl (lv_at hl 1 rfl) ?_
    refine lv_iload_n hx hb dX11_copyRow_18 rfl (lv_at hl 2 rfl) ?_
    refine lv_imul hx hb dX11_copyRow_19 ?_
    refine lv_iload hx hb dX11_copyRow_20 (lv_at hl 4 rfl) ?_
    refine lv_iadd hx hb dX11_copyRow_22 ?_
    refine mld_2 zc hK hM hw.1 dX11_copyRow_23 ?_
    have hw := hw.2
    refine lv_topi (fun v_1 ev_1 => ?_)
    have hw := hw v_1 ev_1
    refine mst_2 zc hK hM hS hw.1 dX11_copyRow_24 (fun a_size_1 H locs ea_size_1 hM hS => ?_)
    have hw := hw.2 a_size_1 ea_size_1
    obtain ⟨v_2, ev_2⟩ : ∃ y : Int32, y = x4 + (1 : Int32) := ⟨_, rfl⟩
    have hw := hw v_2 ev_2
    refine lv_iinc (v := v_2) (k := 4) (lv' := [(4, .int v_2), (0, .ref (q + 2)), (1, .int x1), (2, .int x2), (3, .int x3)]) hx hb dX11_copyRow_25 hl rfl (by rw [ev_2]; rfl) (by decide) rfl (fun ls hl => ?_)
    refine lv_goto (tgt := 3) hx hb dX11_copyRow_28 (by decide) ?_
    exact hw _ _ _ (lv_sub hl [1, 2, 3, 4, 0] rfl) hM hS
set_option maxRecDepth 20000 in
theorem t_m_copyRow_2_0 {p : Program} {l : Launch} {e : Env} {s : State} {m : MethodId} {args : Array Value} {below : List Frame} {meth : Method} {c : Code} {E : zE} {q : Nat} {f_code : Int32} {a_tape : Nat → Int32} {a_size : Nat → Int32} {a_fault : Nat → Int32} {a_faultPlace : Nat → Int32} {a_many : Nat → Int32} {a_lands : Nat → Int32} {a_evenings : Nat → Int32} {a_sights : Nat → Int32} {a_choirs : Nat → Int32} {f_reached : Int32} {f_length : Int32} {f_begins : Int32} {f_sort : Int32} {f_value : Int32} {f_word : Int64} {f_wrongAt : Int32} {f_laterFault : Int32} {f_laterPlace : Int32} {a_told : Nat → Int32} {a_read : Nat → Int32} {f_farHut : Int32} {f_farSinger : Int32} {f_good : Int32} {f_land : Int32} {f_huts : Int32} {f_singers : Int32} {f_evening : Int32} {a_at : Nat → Int32} {a_knows : Nat → Int32} {a_climbed : Nat → Int32} {a_snow : Nat → Int32} {a_level : Nat → Int32} {f_begun : Int32} {f_minute : Int32} {f_avalanches : Int32} {a_run : Nat → Int32} {a_covers : Nat → Int32} {a_routes : Nat → Int32} {a_longest : Nat → Int32} {a_steep : Nat → Int32} {a_laid : Nat → Int32} {a_far : Nat → Int32} {f_sight : Int32} {a_runs : Nat → Int32} {f_choir : Int32} {f_voices : Int32} {a_rest : Nat → Int64} {a_wins : Nat → Int32} {f_seed : Int32} {a_other : Nat → Int32} {a_kept : Nat → Int32} {post : (Nat → Int32) → Prop} {x1 : Int32} {x2 : Int32} {x3 : Int32} {ls : Array Slot} {H : Heap} {locs : List Loc}
    (zc : zC p s m args meth c cX11_copyRow 5 RX11 none)
    (hK : zK E s)
    (hM : mW E q f_code a_tape a_size a_fault a_faultPlace a_many a_lands a_evenings a_sights a_choirs f_reached f_length f_begins f_sort f_value f_word f_wrongAt f_laterFault f_laterPlace a_told a_read f_farHut f_farSinger f_good f_land f_huts f_singers f_evening a_at a_knows a_climbed a_snow a_level f_begun f_minute f_avalanches a_run a_covers a_routes a_longest a_steep a_laid a_far f_sight a_runs f_choir f_voices a_rest a_wins f_seed a_other a_kept H)
    (hS : va_S (mA q) s.heap H locs)
    (hl : lv_has ls 5 [(0, .ref (q + 2)), (1, .int x1), (2, .int x2), (3, .int x3)])
    (hw : q_m_copyRow_2_0 a_size x1 x2 x3 post) :
    W p l e rm_m_copyRow_2 s m args below meth c H locs 0 0 (MQ below (zQv (S := (Nat → Int32)) (fun u => post u) (fun u H => mW E q f_code a_tape u a_fault a_faultPlace a_many a_lands a_evenings a_sights a_choirs f_reached f_length f_begins f_sort f_value f_word f_wrongAt f_laterFault f_laterPlace a_told a_read f_farHut f_farSinger f_good f_land f_huts f_singers f_evening a_at a_knows a_climbed a_snow a_level f_begun f_minute f_avalanches a_run a_covers a_routes a_longest a_steep a_laid a_far f_sight a_runs f_choir f_voices a_rest a_wins f_seed a_other a_kept H) (mA q)) args s 0 0 (mA q)) (F0 m 0 ls []) := by
  have hx := zc.1
  have hb := zc.2.1
  refine lv_iconst (v := (0 : Int32)) hx hb dX11_copyRow_0 (by decide) ?_
  refine lv_istore (lv' := [(4, .int (0 : Int32)), (0, .ref (q + 2)), (1, .int x1), (2, .int x2), (3, .int x3)]) hx hb dX11_copyRow_1 hl (by decide) rfl (fun ls hl => ?_)
  exact t_m_copyRow_2_3 zc hK hM hS  (lv_sub hl [1, 2, 3, 4, 0] rfl) hw
set_option maxRecDepth 20000 in
theorem c_m_copyRow_2 (l : Launch) {E : zE} {q : Nat} {f_code : Int32} {a_tape : Nat → Int32} {a_size : Nat → Int32} {a_fault : Nat → Int32} {a_faultPlace : Nat → Int32} {a_many : Nat → Int32} {a_lands : Nat → Int32} {a_evenings : Nat → Int32} {a_sights : Nat → Int32} {a_choirs : Nat → Int32} {f_reached : Int32} {f_length : Int32} {f_begins : Int32} {f_sort : Int32} {f_value : Int32} {f_word : Int64} {f_wrongAt : Int32} {f_laterFault : Int32} {f_laterPlace : Int32} {a_told : Nat → Int32} {a_read : Nat → Int32} {f_farHut : Int32} {f_farSinger : Int32} {f_good : Int32} {f_land : Int32} {f_huts : Int32} {f_singers : Int32} {f_evening : Int32} {a_at : Nat → Int32} {a_knows : Nat → Int32} {a_climbed : Nat → Int32} {a_snow : Nat → Int32} {a_level : Nat → Int32} {f_begun : Int32} {f_minute : Int32} {f_avalanches : Int32} {a_run : Nat → Int32} {a_covers : Nat → Int32} {a_routes : Nat → Int32} {a_longest : Nat → Int32} {a_steep : Nat → Int32} {a_laid : Nat → Int32} {a_far : Nat → Int32} {f_sight : Int32} {a_runs : Nat → Int32} {f_choir : Int32} {f_voices : Int32} {a_rest : Nat → Int64} {a_wins : Nat → Int32} {f_seed : Int32} {a_other : Nat → Int32} {a_kept : Nat → Int32} {x1 : Int32} {x2 : Int32} {x3 : Int32} {post : (Nat → Int32) → Prop} (hw : q_m_copyRow_2_0 a_size x1 x2 x3 post) : Met l yX11_copyRow (Cond.code yX11_copyRow cX11_copyRow 5 none :: zb) rm_m_copyRow_2 (va_Pc [.ref (q + 2), .int x1, .int x2, .int x3] (fun U => mW E q f_code a_tape a_size a_fault a_faultPlace a_many a_lands a_evenings a_sights a_choirs f_reached f_length f_begins f_sort f_value f_word f_wrongAt f_laterFault f_laterPlace a_told a_read f_farHut f_farSinger f_good f_land f_huts f_singers f_evening a_at a_knows a_climbed a_snow a_level f_begun f_minute f_avalanches a_run a_covers a_routes a_longest a_steep a_laid a_far f_sight a_runs f_choir f_voices a_rest a_wins f_seed a_other a_kept U.heap ∧ zK E U)) (zQv (S := (Nat → Int32)) (fun u => post u) (fun u H => mW E q f_code a_tape u a_fault a_faultPlace a_many a_lands a_evenings a_sights a_choirs f_reached f_length f_begins f_sort f_value f_word f_wrongAt f_laterFault f_laterPlace a_told a_read f_farHut f_farSinger f_good f_land f_huts f_singers f_evening a_at a_knows a_climbed a_snow a_level f_begun f_minute f_avalanches a_run a_covers a_routes a_longest a_steep a_laid a_far f_sight a_runs f_choir f_voices a_rest a_wins f_seed a_other a_kept H) (mA q)) 0 0 (mA q) := by
  refine Met.ofW (cc := cX11_copyRow) (maxL := 5) (ret := none) (by decide) rfl ?_
  intro p e s m args below meth c s₁ B hml hv
  obtain ⟨rfl, hM, hK⟩ := hv
  have zc := zc_of B hml
  have hl := lv_entry ([.ref (q + 2), .int x1, .int x2, .int x3]) (n := 5) (Nat.le_of_ble_eq_true rfl)
  rw [lg_entry_eq]
  generalize (lg_sl ([.ref (q + 2), .int x1, .int x2, .int x3]) ++ List.replicate (5 - (lg_sl ([.ref (q + 2), .int x1, .int x2, .int x3])).length) Slot.unset).toArray = ls at hl ⊢
  have hl : lv_has ls 5 [(0, .ref (q + 2)), (1, .int x1), (2, .int x2), (3, .int x3)] := hl
  exact t_m_copyRow_2_0 zc hK hM va_S.rf (lv_sub hl [0, 1, 2, 3] rfl) hw
-- m_copyRow_3
abbrev rm_m_copyRow_3 : Room := { frames := 0, cells := 0, slots := 0, locals := 0 }
def q_m_copyRow_3_3 (a_fault : Nat → Int32) (x1 : Int32) (x2 : Int32) (x3 : Int32) (x4 : Int32) (post : (Nat → Int32) → Prop) : Prop :=
  ∀ P3 : Int32 → (Nat → Int32) → Prop, (∀ (x4 : Int32) (a_fault : Nat → Int32), ((x1 ≤ x4 → (post a_fault)) ∧ (¬ x1 ≤ x4 → (vp_in ((x1 * x2) + x4) 4 ∧ (∀ v_1 : Int32, v_1 = (a_fault (Int32.toNatClampNeg ((x1 * x2) + x4))) → (vp_in ((x1 * x3) + x4) 4 ∧ (∀ a_fault_1 : Nat → Int32, a_fault_1 = upd a_fault (Int32.toNatClampNeg ((x1 * x3) + x4)) v_1 → (∀ v_2 : Int32, v_2 = x4 + (1 : Int32) → (P3 v_2 a_fault_1)))))))) → P3 x4 a_fault) → P3 x4 a_fault
def q_m_copyRow_3_0 (a_fault : Nat → Int32) (x1 : Int32) (x2 : Int32) (x3 : Int32) (post : (Nat → Int32) → Prop) : Prop :=
  q_m_copyRow_3_3 a_fault x1 x2 x3 (0 : Int32) post
set_option maxRecDepth 20000 in
theorem t_m_copyRow_3_3 {p : Program} {l : Launch} {e : Env} {s : State} {m : MethodId} {args : Array Value} {below : List Frame} {meth : Method} {c : Code} {E : zE} {q : Nat} {f_code : Int32} {a_tape : Nat → Int32} {a_size : Nat → Int32} {a_fault : Nat → Int32} {a_faultPlace : Nat → Int32} {a_many : Nat → Int32} {a_lands : Nat → Int32} {a_evenings : Nat → Int32} {a_sights : Nat → Int32} {a_choirs : Nat → Int32} {f_reached : Int32} {f_length : Int32} {f_begins : Int32} {f_sort : Int32} {f_value : Int32} {f_word : Int64} {f_wrongAt : Int32} {f_laterFault : Int32} {f_laterPlace : Int32} {a_told : Nat → Int32} {a_read : Nat → Int32} {f_farHut : Int32} {f_farSinger : Int32} {f_good : Int32} {f_land : Int32} {f_huts : Int32} {f_singers : Int32} {f_evening : Int32} {a_at : Nat → Int32} {a_knows : Nat → Int32} {a_climbed : Nat → Int32} {a_snow : Nat → Int32} {a_level : Nat → Int32} {f_begun : Int32} {f_minute : Int32} {f_avalanches : Int32} {a_run : Nat → Int32} {a_covers : Nat → Int32} {a_routes : Nat → Int32} {a_longest : Nat → Int32} {a_steep : Nat → Int32} {a_laid : Nat → Int32} {a_far : Nat → Int32} {f_sight : Int32} {a_runs : Nat → Int32} {f_choir : Int32} {f_voices : Int32} {a_rest : Nat → Int64} {a_wins : Nat → Int32} {f_seed : Int32} {a_other : Nat → Int32} {a_kept : Nat → Int32} {post : (Nat → Int32) → Prop} {x1 : Int32} {x2 : Int32} {x3 : Int32} {x4 : Int32} {ls : Array Slot} {H : Heap} {locs : List Loc}
    (zc : zC p s m args meth c cX11_copyRow 5 RX11 none)
    (hK : zK E s)
    (hM : mW E q f_code a_tape a_size a_fault a_faultPlace a_many a_lands a_evenings a_sights a_choirs f_reached f_length f_begins f_sort f_value f_word f_wrongAt f_laterFault f_laterPlace a_told a_read f_farHut f_farSinger f_good f_land f_huts f_singers f_evening a_at a_knows a_climbed a_snow a_level f_begun f_minute f_avalanches a_run a_covers a_routes a_longest a_steep a_laid a_far f_sight a_runs f_choir f_voices a_rest a_wins f_seed a_other a_kept H)
    (hS : va_S (mA q) s.heap H locs)
    (hl : lv_has ls 5 [(0, .ref (q + 3)), (1, .int x1), (2, .int x2), (3, .int x3), (4, .int x4)])
    (hw : q_m_copyRow_3_3 a_fault x1 x2 x3 x4 post) :
    W p l e rm_m_copyRow_3 s m args below meth c H locs 0 0 (MQ below (zQv (S := (Nat → Int32)) (fun u => post u) (fun u H => mW E q f_code a_tape a_size u a_faultPlace a_many a_lands a_evenings a_sights a_choirs f_reached f_length f_begins f_sort f_value f_word f_wrongAt f_laterFault f_laterPlace a_told a_read f_farHut f_farSinger f_good f_land f_huts f_singers f_evening a_at a_knows a_climbed a_snow a_level f_begun f_minute f_avalanches a_run a_covers a_routes a_longest a_steep a_laid a_far f_sight a_runs f_choir f_voices a_rest a_wins f_seed a_other a_kept H) (mA q)) args s 0 0 (mA q)) (F0 m 3 ls []) := by
  have hx := zc.1
  have hb := zc.2.1
  refine hw (fun x4 a_fault => ∀ (H : Heap) (locs : List Loc) (ls : Array Slot), lv_has ls 5 [(0, .ref (q + 3)), (1, .int x1), (2, .int x2), (3, .int x3), (4, .int x4)] → mW E q f_code a_tape a_size a_fault a_faultPlace a_many a_lands a_evenings a_sights a_choirs f_reached f_length f_begins f_sort f_value f_word f_wrongAt f_laterFault f_laterPlace a_told a_read f_farHut f_farSinger f_good f_land f_huts f_singers f_evening a_at a_knows a_climbed a_snow a_level f_begun f_minute f_avalanches a_run a_covers a_routes a_longest a_steep a_laid a_far f_sight a_runs f_choir f_voices a_rest a_wins f_seed a_other a_kept H → va_S (mA q) s.heap H locs → W p l e rm_m_copyRow_3 s m args below meth c H locs 0 0 (MQ below (zQv (S := (Nat → Int32)) (fun u => post u) (fun u H => mW E q f_code a_tape a_size u a_faultPlace a_many a_lands a_evenings a_sights a_choirs f_reached f_length f_begins f_sort f_value f_word f_wrongAt f_laterFault f_laterPlace a_told a_read f_farHut f_farSinger f_good f_land f_huts f_singers f_evening a_at a_knows a_climbed a_snow a_level f_begun f_minute f_avalanches a_run a_covers a_routes a_longest a_steep a_laid a_far f_sight a_runs f_choir f_voices a_rest a_wins f_seed a_other a_kept H) (mA q)) args s 0 0 (mA q)) (F0 m 3 ls [])) ?_ _ _ _ hl hM hS
  intro x4 a_fault hw H locs ls hl hM hS
  refine lv_iload hx hb dX11_copyRow_3 (lv_at hl 4 rfl) ?_
  refine lv_iload_n hx hb dX11_copyRow_5 rfl (lv_at hl 1 rfl) ?_
  refine lv_icmp_ge (tgt := 31) hx hb dX11_copyRow_6 (by decide) (fun hc => ?_) (fun hc => ?_)
  · have hw := hw.1 hc
    exact zret_vw a_fault zc hS hw hM dX11_copyRow_31
  · have hw := hw.2 hc
    refine lv_aload_n hx hb dX11_copyRow_9 rfl (lv_at hl 0 rfl) ?_
    refine lv_iload_n hx hb dX11_copyRow_10 rfl (lv_at hl 1 rfl) ?_
    refine lv_iload_n hx hb dX11_copyRow_11 rfl (lv_at hl 3 rfl) ?_
    refine lv_imul hx hb dX11_copyRow_12 ?_
    refine lv_iload hx hb dX11_copyRow_13 (lv_at hl 4 rfl) ?_
    refine lv_iadd hx hb dX11_copyRow_15 ?_
    refine lv_aload_n hx hb dX11_copyRow_16 rfl (lv_at hl 0 rfl) ?_
    refine lv_iload_n hx hb dX11_copyRow_17 rfl (lv_at hl 1 rfl) ?_
    refine lv_iload_n hx hb dX11_copyRow_18 rfl (lv_at hl 2 rfl) ?_
    refine lv_imul hx hb dX11_copyRow_19 ?_
    refine lv_iload hx hb dX11_copyRow_20 (lv_at hl 4 rfl) ?_
    refine lv_iadd hx hb dX11_copyRow_22 ?_
    refine mld_3 zc hK hM hw.1 dX11_copyRow_23 ?_
    have hw := hw.2
    refine lv_topi (fun v_1 ev_1 => ?_)
    have hw := hw v_1 ev_1
    refine mst_3 zc hK hM hS hw.1 dX11_copyRow_24 (fun a_fault_1 H locs ea_fault_1 hM hS => ?_)
    have hw := hw.2 a_fault_1 ea_fault_1
    obtain ⟨v_2, ev_2⟩ : ∃ y : Int32, y = x4 + (1 : Int32) := ⟨_, rfl⟩
    have hw := hw v_2 ev_2
    refine lv_iinc (v := v_2) (k := 4) (lv' := [(4, .int v_2), (0, .ref (q + 3)), (1, .int x1), (2, .int x2), (3, .int x3)]) hx hb dX11_copyRow_25 hl rfl (by rw [ev_2]; rfl) (by decide) rfl (fun ls hl => ?_)
    refine lv_goto (tgt := 3) hx hb dX11_copyRow_28 (by decide) ?_
    exact hw _ _ _ (lv_sub hl [1, 2, 3, 4, 0] rfl) hM hS
set_option maxRecDepth 20000 in
theorem t_m_copyRow_3_0 {p : Program} {l : Launch} {e : Env} {s : State} {m : MethodId} {args : Array Value} {below : List Frame} {meth : Method} {c : Code} {E : zE} {q : Nat} {f_code : Int32} {a_tape : Nat → Int32} {a_size : Nat → Int32} {a_fault : Nat → Int32} {a_faultPlace : Nat → Int32} {a_many : Nat → Int32} {a_lands : Nat → Int32} {a_evenings : Nat → Int32} {a_sights : Nat → Int32} {a_choirs : Nat → Int32} {f_reached : Int32} {f_length : Int32} {f_begins : Int32} {f_sort : Int32} {f_value : Int32} {f_word : Int64} {f_wrongAt : Int32} {f_laterFault : Int32} {f_laterPlace : Int32} {a_told : Nat → Int32} {a_read : Nat → Int32} {f_farHut : Int32} {f_farSinger : Int32} {f_good : Int32} {f_land : Int32} {f_huts : Int32} {f_singers : Int32} {f_evening : Int32} {a_at : Nat → Int32} {a_knows : Nat → Int32} {a_climbed : Nat → Int32} {a_snow : Nat → Int32} {a_level : Nat → Int32} {f_begun : Int32} {f_minute : Int32} {f_avalanches : Int32} {a_run : Nat → Int32} {a_covers : Nat → Int32} {a_routes : Nat → Int32} {a_longest : Nat → Int32} {a_steep : Nat → Int32} {a_laid : Nat → Int32} {a_far : Nat → Int32} {f_sight : Int32} {a_runs : Nat → Int32} {f_choir : Int32} {f_voices : Int32} {a_rest : Nat → Int64} {a_wins : Nat → Int32} {f_seed : Int32} {a_other : Nat → Int32} {a_kept : Nat → Int32} {post : (Nat → Int32) → Prop} {x1 : Int32} {x2 : Int32} {x3 : Int32} {ls : Array Slot} {H : Heap} {locs : List Loc}
    (zc : zC p s m args meth c cX11_copyRow 5 RX11 none)
    (hK : zK E s)
    (hM : mW E q f_code a_tape a_size a_fault a_faultPlace a_many a_lands a_evenings a_sights a_choirs f_reached f_length f_begins f_sort f_value f_word f_wrongAt f_laterFault f_laterPlace a_told a_read f_farHut f_farSinger f_good f_land f_huts f_singers f_evening a_at a_knows a_climbed a_snow a_level f_begun f_minute f_avalanches a_run a_covers a_routes a_longest a_steep a_laid a_far f_sight a_runs f_choir f_voices a_rest a_wins f_seed a_other a_kept H)
    (hS : va_S (mA q) s.heap H locs)
    (hl : lv_has ls 5 [(0, .ref (q + 3)), (1, .int x1), (2, .int x2), (3, .int x3)])
    (hw : q_m_copyRow_3_0 a_fault x1 x2 x3 post) :
    W p l e rm_m_copyRow_3 s m args below meth c H locs 0 0 (MQ below (zQv (S := (Nat → Int32)) (fun u => post u) (fun u H => mW E q f_code a_tape a_size u a_faultPlace a_many a_lands a_evenings a_sights a_choirs f_reached f_length f_begins f_sort f_value f_word f_wrongAt f_laterFault f_laterPlace a_told a_read f_farHut f_farSinger f_good f_land f_huts f_singers f_evening a_at a_knows a_climbed a_snow a_level f_begun f_minute f_avalanches a_run a_covers a_routes a_longest a_steep a_laid a_far f_sight a_runs f_choir f_voices a_rest a_wins f_seed a_other a_kept H) (mA q)) args s 0 0 (mA q)) (F0 m 0 ls []) := by
  have hx := zc.1
  have hb := zc.2.1
  refine lv_iconst (v := (0 : Int32)) hx hb dX11_copyRow_0 (by decide) ?_
  refine lv_istore (lv' := [(4, .int (0 : Int32)), (0, .ref (q + 3)), (1, .int x1), (2, .int x2), (3, .int x3)]) hx hb dX11_copyRow_1 hl (by decide) rfl (fun ls hl => ?_)
  exact t_m_copyRow_3_3 zc hK hM hS  (lv_sub hl [1, 2, 3, 4, 0] rfl) hw
set_option maxRecDepth 20000 in
theorem c_m_copyRow_3 (l : Launch) {E : zE} {q : Nat} {f_code : Int32} {a_tape : Nat → Int32} {a_size : Nat → Int32} {a_fault : Nat → Int32} {a_faultPlace : Nat → Int32} {a_many : Nat → Int32} {a_lands : Nat → Int32} {a_evenings : Nat → Int32} {a_sights : Nat → Int32} {a_choirs : Nat → Int32} {f_reached : Int32} {f_length : Int32} {f_begins : Int32} {f_sort : Int32} {f_value : Int32} {f_word : Int64} {f_wrongAt : Int32} {f_laterFault : Int32} {f_laterPlace : Int32} {a_told : Nat → Int32} {a_read : Nat → Int32} {f_farHut : Int32} {f_farSinger : Int32} {f_good : Int32} {f_land : Int32} {f_huts : Int32} {f_singers : Int32} {f_evening : Int32} {a_at : Nat → Int32} {a_knows : Nat → Int32} {a_climbed : Nat → Int32} {a_snow : Nat → Int32} {a_level : Nat → Int32} {f_begun : Int32} {f_minute : Int32} {f_avalanches : Int32} {a_run : Nat → Int32} {a_covers : Nat → Int32} {a_routes : Nat → Int32} {a_longest : Nat → Int32} {a_steep : Nat → Int32} {a_laid : Nat → Int32} {a_far : Nat → Int32} {f_sight : Int32} {a_runs : Nat → Int32} {f_choir : Int32} {f_voices : Int32} {a_rest : Nat → Int64} {a_wins : Nat → Int32} {f_seed : Int32} {a_other : Nat → Int32} {a_kept : Nat → Int32} {x1 : Int32} {x2 : Int32} {x3 : Int32} {post : (Nat → Int32) → Prop} (hw : q_m_copyRow_3_0 a_fault x1 x2 x3 post) : Met l yX11_copyRow (Cond.code yX11_copyRow cX11_copyRow 5 none :: zb) rm_m_copyRow_3 (va_Pc [.ref (q + 3), .int x1, .int x2, .int x3] (fun U => mW E q f_code a_tape a_size a_fault a_faultPlace a_many a_lands a_evenings a_sights a_choirs f_reached f_length f_begins f_sort f_value f_word f_wrongAt f_laterFault f_laterPlace a_told a_read f_farHut f_farSinger f_good f_land f_huts f_singers f_evening a_at a_knows a_climbed a_snow a_level f_begun f_minute f_avalanches a_run a_covers a_routes a_longest a_steep a_laid a_far f_sight a_runs f_choir f_voices a_rest a_wins f_seed a_other a_kept U.heap ∧ zK E U)) (zQv (S := (Nat → Int32)) (fun u => post u) (fun u H => mW E q f_code a_tape a_size u a_faultPlace a_many a_lands a_evenings a_sights a_choirs f_reached f_length f_begins f_sort f_value f_word f_wrongAt f_laterFault f_laterPlace a_told a_read f_farHut f_farSinger f_good f_land f_huts f_singers f_evening a_at a_knows a_climbed a_snow a_level f_begun f_minute f_avalanches a_run a_covers a_routes a_longest a_steep a_laid a_far f_sight a_runs f_choir f_voices a_rest a_wins f_seed a_other a_kept H) (mA q)) 0 0 (mA q) := by
  refine Met.ofW (cc := cX11_copyRow) (maxL := 5) (ret := none) (by decide) rfl ?_
  intro p e s m args below meth c s₁ B hml hv
  obtain ⟨rfl, hM, hK⟩ := hv
  have zc := zc_of B hml
  have hl := lv_entry ([.ref (q + 3), .int x1, .int x2, .int x3]) (n := 5) (Nat.le_of_ble_eq_true rfl)
  rw [lg_entry_eq]
  generalize (lg_sl ([.ref (q + 3), .int x1, .int x2, .int x3]) ++ List.replicate (5 - (lg_sl ([.ref (q + 3), .int x1, .int x2, .int x3])).length) Slot.unset).toArray = ls at hl ⊢
  have hl : lv_has ls 5 [(0, .ref (q + 3)), (1, .int x1), (2, .int x2), (3, .int x3)] := hl
  exact t_m_copyRow_3_0 zc hK hM va_S.rf (lv_sub hl [0, 1, 2, 3] rfl) hw
-- m_copyRow_4
abbrev rm_m_copyRow_4 : Room := { frames := 0, cells := 0, slots := 0, locals := 0 }
def q_m_copyRow_4_3 (a_faultPlace : Nat → Int32) (x1 : Int32) (x2 : Int32) (x3 : Int32) (x4 : Int32) (post : (Nat → Int32) → Prop) : Prop :=
  ∀ P3 : Int32 → (Nat → Int32) → Prop, (∀ (x4 : Int32) (a_faultPlace : Nat → Int32), ((x1 ≤ x4 → (post a_faultPlace)) ∧ (¬ x1 ≤ x4 → (vp_in ((x1 * x2) + x4) 4 ∧ (∀ v_1 : Int32, v_1 = (a_faultPlace (Int32.toNatClampNeg ((x1 * x2) + x4))) → (vp_in ((x1 * x3) + x4) 4 ∧ (∀ a_faultPlace_1 : Nat → Int32, a_faultPlace_1 = upd a_faultPlace (Int32.toNatClampNeg ((x1 * x3) + x4)) v_1 → (∀ v_2 : Int32, v_2 = x4 + (1 : Int32) → (P3 v_2 a_faultPlace_1)))))))) → P3 x4 a_faultPlace) → P3 x4 a_faultPlace
def q_m_copyRow_4_0 (a_faultPlace : Nat → Int32) (x1 : Int32) (x2 : Int32) (x3 : Int32) (post : (Nat → Int32) → Prop) : Prop :=
  q_m_copyRow_4_3 a_faultPlace x1 x2 x3 (0 : Int32) post
set_option maxRecDepth 20000 in
theorem t_m_copyRow_4_3 {p : Program} {l : Launch} {e : Env} {s : State} {m : MethodId} {args : Array Value} {below : List Frame} {meth : Method} {c : Code} {E : zE} {q : Nat} {f_code : Int32} {a_tape : Nat → Int32} {a_size : Nat → Int32} {a_fault : Nat → Int32} {a_faultPlace : Nat → Int32} {a_many : Nat → Int32} {a_lands : Nat → Int32} {a_evenings : Nat → Int32} {a_sights : Nat → Int32} {a_choirs : Nat → Int32} {f_reached : Int32} {f_length : Int32} {f_begins : Int32} {f_sort : Int32} {f_value : Int32} {f_word : Int64} {f_wrongAt : Int32} {f_laterFault : Int32} {f_laterPlace : Int32} {a_told : Nat → Int32} {a_read : Nat → Int32} {f_farHut : Int32} {f_farSinger : Int32} {f_good : Int32} {f_land : Int32} {f_huts : Int32} {f_singers : Int32} {f_evening : Int32} {a_at : Nat → Int32} {a_knows : Nat → Int32} {a_climbed : Nat → Int32} {a_snow : Nat → Int32} {a_level : Nat → Int32} {f_begun : Int32} {f_minute : Int32} {f_avalanches : Int32} {a_run : Nat → Int32} {a_covers : Nat → Int32} {a_routes : Nat → Int32} {a_longest : Nat → Int32} {a_steep : Nat → Int32} {a_laid : Nat → Int32} {a_far : Nat → Int32} {f_sight : Int32} {a_runs : Nat → Int32} {f_choir : Int32} {f_voices : Int32} {a_rest : Nat → Int64} {a_wins : Nat → Int32} {f_seed : Int32} {a_other : Nat → Int32} {a_kept : Nat → Int32} {post : (Nat → Int32) → Prop} {x1 : Int32} {x2 : Int32} {x3 : Int32} {x4 : Int32} {ls : Array Slot} {H : Heap} {locs : List Loc}
    (zc : zC p s m args meth c cX11_copyRow 5 RX11 none)
    (hK : zK E s)
    (hM : mW E q f_code a_tape a_size a_fault a_faultPlace a_many a_lands a_evenings a_sights a_choirs f_reached f_length f_begins f_sort f_value f_word f_wrongAt f_laterFault f_laterPlace a_told a_read f_farHut f_farSinger f_good f_land f_huts f_singers f_evening a_at a_knows a_climbed a_snow a_level f_begun f_minute f_avalanches a_run a_covers a_routes a_longest a_steep a_laid a_far f_sight a_runs f_choir f_voices a_rest a_wins f_seed a_other a_kept H)
    (hS : va_S (mA q) s.heap H locs)
    (hl : lv_has ls 5 [(0, .ref (q + 4)), (1, .int x1), (2, .int x2), (3, .int x3), (4, .int x4)])
    (hw : q_m_copyRow_4_3 a_faultPlace x1 x2 x3 x4 post) :
    W p l e rm_m_copyRow_4 s m args below meth c H locs 0 0 (MQ below (zQv (S := (Nat → Int32)) (fun u => post u) (fun u H => mW E q f_code a_tape a_size a_fault u a_many a_lands a_evenings a_sights a_choirs f_reached f_length f_begins f_sort f_value f_word f_wrongAt f_laterFault f_laterPlace a_told a_read f_farHut f_farSinger f_good f_land f_huts f_singers f_evening a_at a_knows a_climbed a_snow a_level f_begun f_minute f_avalanches a_run a_covers a_routes a_longest a_steep a_laid a_far f_sight a_runs f_choir f_voices a_rest a_wins f_seed a_other a_kept H) (mA q)) args s 0 0 (mA q)) (F0 m 3 ls []) := by
  have hx := zc.1
  have hb := zc.2.1
  refine hw (fun x4 a_faultPlace => ∀ (H : Heap) (locs : List Loc) (ls : Array Slot), lv_has ls 5 [(0, .ref (q + 4)), (1, .int x1), (2, .int x2), (3, .int x3), (4, .int x4)] → mW E q f_code a_tape a_size a_fault a_faultPlace a_many a_lands a_evenings a_sights a_choirs f_reached f_length f_begins f_sort f_value f_word f_wrongAt f_laterFault f_laterPlace a_told a_read f_farHut f_farSinger f_good f_land f_huts f_singers f_evening a_at a_knows a_climbed a_snow a_level f_begun f_minute f_avalanches a_run a_covers a_routes a_longest a_steep a_laid a_far f_sight a_runs f_choir f_voices a_rest a_wins f_seed a_other a_kept H → va_S (mA q) s.heap H locs → W p l e rm_m_copyRow_4 s m args below meth c H locs 0 0 (MQ below (zQv (S := (Nat → Int32)) (fun u => post u) (fun u H => mW E q f_code a_tape a_size a_fault u a_many a_lands a_evenings a_sights a_choirs f_reached f_length f_begins f_sort f_value f_word f_wrongAt f_laterFault f_laterPlace a_told a_read f_farHut f_farSinger f_good f_land f_huts f_singers f_evening a_at a_knows a_climbed a_snow a_level f_begun f_minute f_avalanches a_run a_covers a_routes a_longest a_steep a_laid a_far f_sight a_runs f_choir f_voices a_rest a_wins f_seed a_other a_kept H) (mA q)) args s 0 0 (mA q)) (F0 m 3 ls [])) ?_ _ _ _ hl hM hS
  intro x4 a_faultPlace hw H locs ls hl hM hS
  refine lv_iload hx hb dX11_copyRow_3 (lv_at hl 4 rfl) ?_
  refine lv_iload_n hx hb dX11_copyRow_5 rfl (lv_at hl 1 rfl) ?_
  refine lv_icmp_ge (tgt := 31) hx hb dX11_copyRow_6 (by decide) (fun hc => ?_) (fun hc => ?_)
  · have hw := hw.1 hc
    exact zret_vw a_faultPlace zc hS hw hM dX11_copyRow_31
  · have hw := hw.2 hc
    refine lv_aload_n hx hb dX11_copyRow_9 rfl (lv_at hl 0 rfl) ?_
    refine lv_iload_n hx hb dX11_copyRow_10 rfl (lv_at hl 1 rfl) ?_
    refine lv_iload_n hx hb dX11_copyRow_11 rfl (lv_at hl 3 rfl) ?_
    refine lv_imul hx hb dX11_copyRow_12 ?_
    refine lv_iload hx hb dX11_copyRow_13 (lv_at hl 4 rfl) ?_
    refine lv_iadd hx hb dX11_copyRow_15 ?_
    refine lv_aload_n hx hb dX11_copyRow_16 rfl (lv_at hl 0 rfl) ?_
    refine lv_iload_n hx hb dX11_copyRow_17 rfl (lv_at hl 1 rfl) ?_
    refine lv_iload_n hx hb dX11_copyRow_18 rfl (lv_at hl 2 rfl) ?_
    refine lv_imul hx hb dX11_copyRow_19 ?_
    refine lv_iload hx hb dX11_copyRow_20 (lv_at hl 4 rfl) ?_
    refine lv_iadd hx hb dX11_copyRow_22 ?_
    refine mld_4 zc hK hM hw.1 dX11_copyRow_23 ?_
    have hw := hw.2
    refine lv_topi (fun v_1 ev_1 => ?_)
    have hw := hw v_1 ev_1
    refine mst_4 zc hK hM hS hw.1 dX11_copyRow_24 (fun a_faultPlace_1 H locs ea_faultPlace_1 hM hS => ?_)
    have hw := hw.2 a_faultPlace_1 ea_faultPlace_1
    obtain ⟨v_2, ev_2⟩ : ∃ y : Int32, y = x4 + (1 : Int32) := ⟨_, rfl⟩
    have hw := hw v_2 ev_2
    refine lv_iinc (v := v_2) (k := 4) (lv' := [(4, .int v_2), (0, .ref (q + 4)), (1, .int x1), (2, .int x2), (3, .int x3)]) hx hb dX11_copyRow_25 hl rfl (by rw [ev_2]; rfl) (by decide) rfl (fun ls hl => ?_)
    refine lv_goto (tgt := 3) hx hb dX11_copyRow_28 (by decide) ?_
    exact hw _ _ _ (lv_sub hl [1, 2, 3, 4, 0] rfl) hM hS
set_option maxRecDepth 20000 in
theorem t_m_copyRow_4_0 {p : Program} {l : Launch} {e : Env} {s : State} {m : MethodId} {args : Array Value} {below : List Frame} {meth : Method} {c : Code} {E : zE} {q : Nat} {f_code : Int32} {a_tape : Nat → Int32} {a_size : Nat → Int32} {a_fault : Nat → Int32} {a_faultPlace : Nat → Int32} {a_many : Nat → Int32} {a_lands : Nat → Int32} {a_evenings : Nat → Int32} {a_sights : Nat → Int32} {a_choirs : Nat → Int32} {f_reached : Int32} {f_length : Int32} {f_begins : Int32} {f_sort : Int32} {f_value : Int32} {f_word : Int64} {f_wrongAt : Int32} {f_laterFault : Int32} {f_laterPlace : Int32} {a_told : Nat → Int32} {a_read : Nat → Int32} {f_farHut : Int32} {f_farSinger : Int32} {f_good : Int32} {f_land : Int32} {f_huts : Int32} {f_singers : Int32} {f_evening : Int32} {a_at : Nat → Int32} {a_knows : Nat → Int32} {a_climbed : Nat → Int32} {a_snow : Nat → Int32} {a_level : Nat → Int32} {f_begun : Int32} {f_minute : Int32} {f_avalanches : Int32} {a_run : Nat → Int32} {a_covers : Nat → Int32} {a_routes : Nat → Int32} {a_longest : Nat → Int32} {a_steep : Nat → Int32} {a_laid : Nat → Int32} {a_far : Nat → Int32} {f_sight : Int32} {a_runs : Nat → Int32} {f_choir : Int32} {f_voices : Int32} {a_rest : Nat → Int64} {a_wins : Nat → Int32} {f_seed : Int32} {a_other : Nat → Int32} {a_kept : Nat → Int32} {post : (Nat → Int32) → Prop} {x1 : Int32} {x2 : Int32} {x3 : Int32} {ls : Array Slot} {H : Heap} {locs : List Loc}
    (zc : zC p s m args meth c cX11_copyRow 5 RX11 none)
    (hK : zK E s)
    (hM : mW E q f_code a_tape a_size a_fault a_faultPlace a_many a_lands a_evenings a_sights a_choirs f_reached f_length f_begins f_sort f_value f_word f_wrongAt f_laterFault f_laterPlace a_told a_read f_farHut f_farSinger f_good f_land f_huts f_singers f_evening a_at a_knows a_climbed a_snow a_level f_begun f_minute f_avalanches a_run a_covers a_routes a_longest a_steep a_laid a_far f_sight a_runs f_choir f_voices a_rest a_wins f_seed a_other a_kept H)
    (hS : va_S (mA q) s.heap H locs)
    (hl : lv_has ls 5 [(0, .ref (q + 4)), (1, .int x1), (2, .int x2), (3, .int x3)])
    (hw : q_m_copyRow_4_0 a_faultPlace x1 x2 x3 post) :
    W p l e rm_m_copyRow_4 s m args below meth c H locs 0 0 (MQ below (zQv (S := (Nat → Int32)) (fun u => post u) (fun u H => mW E q f_code a_tape a_size a_fault u a_many a_lands a_evenings a_sights a_choirs f_reached f_length f_begins f_sort f_value f_word f_wrongAt f_laterFault f_laterPlace a_told a_read f_farHut f_farSinger f_good f_land f_huts f_singers f_evening a_at a_knows a_climbed a_snow a_level f_begun f_minute f_avalanches a_run a_covers a_routes a_longest a_steep a_laid a_far f_sight a_runs f_choir f_voices a_rest a_wins f_seed a_other a_kept H) (mA q)) args s 0 0 (mA q)) (F0 m 0 ls []) := by
  have hx := zc.1
  have hb := zc.2.1
  refine lv_iconst (v := (0 : Int32)) hx hb dX11_copyRow_0 (by decide) ?_
  refine lv_istore (lv' := [(4, .int (0 : Int32)), (0, .ref (q + 4)), (1, .int x1), (2, .int x2), (3, .int x3)]) hx hb dX11_copyRow_1 hl (by decide) rfl (fun ls hl => ?_)
  exact t_m_copyRow_4_3 zc hK hM hS  (lv_sub hl [1, 2, 3, 4, 0] rfl) hw
set_option maxRecDepth 20000 in
theorem c_m_copyRow_4 (l : Launch) {E : zE} {q : Nat} {f_code : Int32} {a_tape : Nat → Int32} {a_size : Nat → Int32} {a_fault : Nat → Int32} {a_faultPlace : Nat → Int32} {a_many : Nat → Int32} {a_lands : Nat → Int32} {a_evenings : Nat → Int32} {a_sights : Nat → Int32} {a_choirs : Nat → Int32} {f_reached : Int32} {f_length : Int32} {f_begins : Int32} {f_sort : Int32} {f_value : Int32} {f_word : Int64} {f_wrongAt : Int32} {f_laterFault : Int32} {f_laterPlace : Int32} {a_told : Nat → Int32} {a_read : Nat → Int32} {f_farHut : Int32} {f_farSinger : Int32} {f_good : Int32} {f_land : Int32} {f_huts : Int32} {f_singers : Int32} {f_evening : Int32} {a_at : Nat → Int32} {a_knows : Nat → Int32} {a_climbed : Nat → Int32} {a_snow : Nat → Int32} {a_level : Nat → Int32} {f_begun : Int32} {f_minute : Int32} {f_avalanches : Int32} {a_run : Nat → Int32} {a_covers : Nat → Int32} {a_routes : Nat → Int32} {a_longest : Nat → Int32} {a_steep : Nat → Int32} {a_laid : Nat → Int32} {a_far : Nat → Int32} {f_sight : Int32} {a_runs : Nat → Int32} {f_choir : Int32} {f_voices : Int32} {a_rest : Nat → Int64} {a_wins : Nat → Int32} {f_seed : Int32} {a_other : Nat → Int32} {a_kept : Nat → Int32} {x1 : Int32} {x2 : Int32} {x3 : Int32} {post : (Nat → Int32) → Prop} (hw : q_m_copyRow_4_0 a_faultPlace x1 x2 x3 post) : Met l yX11_copyRow (Cond.code yX11_copyRow cX11_copyRow 5 none :: zb) rm_m_copyRow_4 (va_Pc [.ref (q + 4), .int x1, .int x2, .int x3] (fun U => mW E q f_code a_tape a_size a_fault a_faultPlace a_many a_lands a_evenings a_sights a_choirs f_reached f_length f_begins f_sort f_value f_word f_wrongAt f_laterFault f_laterPlace a_told a_read f_farHut f_farSinger f_good f_land f_huts f_singers f_evening a_at a_knows a_climbed a_snow a_level f_begun f_minute f_avalanches a_run a_covers a_routes a_longest a_steep a_laid a_far f_sight a_runs f_choir f_voices a_rest a_wins f_seed a_other a_kept U.heap ∧ zK E U)) (zQv (S := (Nat → Int32)) (fun u => post u) (fun u H => mW E q f_code a_tape a_size a_fault u a_many a_lands a_evenings a_sights a_choirs f_reached f_length f_begins f_sort f_value f_word f_wrongAt f_laterFault f_laterPlace a_told a_read f_farHut f_farSinger f_good f_land f_huts f_singers f_evening a_at a_knows a_climbed a_snow a_level f_begun f_minute f_avalanches a_run a_covers a_routes a_longest a_steep a_laid a_far f_sight a_runs f_choir f_voices a_rest a_wins f_seed a_other a_kept H) (mA q)) 0 0 (mA q) := by
  refine Met.ofW (cc := cX11_copyRow) (maxL := 5) (ret := none) (by decide) rfl ?_
  intro p e s m args below meth c s₁ B hml hv
  obtain ⟨rfl, hM, hK⟩ := hv
  have zc := zc_of B hml
  have hl := lv_entry ([.ref (q + 4), .int x1, .int x2, .int x3]) (n := 5) (Nat.le_of_ble_eq_true rfl)
  rw [lg_entry_eq]
  generalize (lg_sl ([.ref (q + 4), .int x1, .int x2, .int x3]) ++ List.replicate (5 - (lg_sl ([.ref (q + 4), .int x1, .int x2, .int x3])).length) Slot.unset).toArray = ls at hl ⊢
  have hl : lv_has ls 5 [(0, .ref (q + 4)), (1, .int x1), (2, .int x2), (3, .int x3)] := hl
  exact t_m_copyRow_4_0 zc hK hM va_S.rf (lv_sub hl [0, 1, 2, 3] rfl) hw
-- m_copyRow_5
abbrev rm_m_copyRow_5 : Room := { frames := 0, cells := 0, slots := 0, locals := 0 }
def q_m_copyRow_5_3 (a_many : Nat → Int32) (x1 : Int32) (x2 : Int32) (x3 : Int32) (x4 : Int32) (post : (Nat → Int32) → Prop) : Prop :=
  ∀ P3 : Int32 → (Nat → Int32) → Prop, (∀ (x4 : Int32) (a_many : Nat → Int32), ((x1 ≤ x4 → (post a_many)) ∧ (¬ x1 ≤ x4 → (vp_in ((x1 * x2) + x4) 16 ∧ (∀ v_1 : Int32, v_1 = (a_many (Int32.toNatClampNeg ((x1 * x2) + x4))) → (vp_in ((x1 * x3) + x4) 16 ∧ (∀ a_many_1 : Nat → Int32, a_many_1 = upd a_many (Int32.toNatClampNeg ((x1 * x3) + x4)) v_1 → (∀ v_2 : Int32, v_2 = x4 + (1 : Int32) → (P3 v_2 a_many_1)))))))) → P3 x4 a_many) → P3 x4 a_many
def q_m_copyRow_5_0 (a_many : Nat → Int32) (x1 : Int32) (x2 : Int32) (x3 : Int32) (post : (Nat → Int32) → Prop) : Prop :=
  q_m_copyRow_5_3 a_many x1 x2 x3 (0 : Int32) post
set_option maxRecDepth 20000 in
theorem t_m_copyRow_5_3 {p : Program} {l : Launch} {e : Env} {s : State} {m : MethodId} {args : Array Value} {below : List Frame} {meth : Method} {c : Code} {E : zE} {q : Nat} {f_code : Int32} {a_tape : Nat → Int32} {a_size : Nat → Int32} {a_fault : Nat → Int32} {a_faultPlace : Nat → Int32} {a_many : Nat → Int32} {a_lands : Nat → Int32} {a_evenings : Nat → Int32} {a_sights : Nat → Int32} {a_choirs : Nat → Int32} {f_reached : Int32} {f_length : Int32} {f_begins : Int32} {f_sort : Int32} {f_value : Int32} {f_word : Int64} {f_wrongAt : Int32} {f_laterFault : Int32} {f_laterPlace : Int32} {a_told : Nat → Int32} {a_read : Nat → Int32} {f_farHut : Int32} {f_farSinger : Int32} {f_good : Int32} {f_land : Int32} {f_huts : Int32} {f_singers : Int32} {f_evening : Int32} {a_at : Nat → Int32} {a_knows : Nat → Int32} {a_climbed : Nat → Int32} {a_snow : Nat → Int32} {a_level : Nat → Int32} {f_begun : Int32} {f_minute : Int32} {f_avalanches : Int32} {a_run : Nat → Int32} {a_covers : Nat → Int32} {a_routes : Nat → Int32} {a_longest : Nat → Int32} {a_steep : Nat → Int32} {a_laid : Nat → Int32} {a_far : Nat → Int32} {f_sight : Int32} {a_runs : Nat → Int32} {f_choir : Int32} {f_voices : Int32} {a_rest : Nat → Int64} {a_wins : Nat → Int32} {f_seed : Int32} {a_other : Nat → Int32} {a_kept : Nat → Int32} {post : (Nat → Int32) → Prop} {x1 : Int32} {x2 : Int32} {x3 : Int32} {x4 : Int32} {ls : Array Slot} {H : Heap} {locs : List Loc}
    (zc : zC p s m args meth c cX11_copyRow 5 RX11 none)
    (hK : zK E s)
    (hM : mW E q f_code a_tape a_size a_fault a_faultPlace a_many a_lands a_evenings a_sights a_choirs f_reached f_length f_begins f_sort f_value f_word f_wrongAt f_laterFault f_laterPlace a_told a_read f_farHut f_farSinger f_good f_land f_huts f_singers f_evening a_at a_knows a_climbed a_snow a_level f_begun f_minute f_avalanches a_run a_covers a_routes a_longest a_steep a_laid a_far f_sight a_runs f_choir f_voices a_rest a_wins f_seed a_other a_kept H)
    (hS : va_S (mA q) s.heap H locs)
    (hl : lv_has ls 5 [(0, .ref (q + 5)), (1, .int x1), (2, .int x2), (3, .int x3), (4, .int x4)])
    (hw : q_m_copyRow_5_3 a_many x1 x2 x3 x4 post) :
    W p l e rm_m_copyRow_5 s m args below meth c H locs 0 0 (MQ below (zQv (S := (Nat → Int32)) (fun u => post u) (fun u H => mW E q f_code a_tape a_size a_fault a_faultPlace u a_lands a_evenings a_sights a_choirs f_reached f_length f_begins f_sort f_value f_word f_wrongAt f_laterFault f_laterPlace a_told a_read f_farHut f_farSinger f_good f_land f_huts f_singers f_evening a_at a_knows a_climbed a_snow a_level f_begun f_minute f_avalanches a_run a_covers a_routes a_longest a_steep a_laid a_far f_sight a_runs f_choir f_voices a_rest a_wins f_seed a_other a_kept H) (mA q)) args s 0 0 (mA q)) (F0 m 3 ls []) := by
  have hx := zc.1
  have hb := zc.2.1
  refine hw (fun x4 a_many => ∀ (H : Heap) (locs : List Loc) (ls : Array Slot), lv_has ls 5 [(0, .ref (q + 5)), (1, .int x1), (2, .int x2), (3, .int x3), (4, .int x4)] → mW E q f_code a_tape a_size a_fault a_faultPlace a_many a_lands a_evenings a_sights a_choirs f_reached f_length f_begins f_sort f_value f_word f_wrongAt f_laterFault f_laterPlace a_told a_read f_farHut f_farSinger f_good f_land f_huts f_singers f_evening a_at a_knows a_climbed a_snow a_level f_begun f_minute f_avalanches a_run a_covers a_routes a_longest a_steep a_laid a_far f_sight a_runs f_choir f_voices a_rest a_wins f_seed a_other a_kept H → va_S (mA q) s.heap H locs → W p l e rm_m_copyRow_5 s m args below meth c H locs 0 0 (MQ below (zQv (S := (Nat → Int32)) (fun u => post u) (fun u H => mW E q f_code a_tape a_size a_fault a_faultPlace u a_lands a_evenings a_sights a_choirs f_reached f_length f_begins f_sort f_value f_word f_wrongAt f_laterFault f_laterPlace a_told a_read f_farHut f_farSinger f_good f_land f_huts f_singers f_evening a_at a_knows a_climbed a_snow a_level f_begun f_minute f_avalanches a_run a_covers a_routes a_longest a_steep a_laid a_far f_sight a_runs f_choir f_voices a_rest a_wins f_seed a_other a_kept H) (mA q)) args s 0 0 (mA q)) (F0 m 3 ls [])) ?_ _ _ _ hl hM hS
  intro x4 a_many hw H locs ls hl hM hS
  refine lv_iload hx hb dX11_copyRow_3 (lv_at hl 4 rfl) ?_
  refine lv_iload_n hx hb dX11_copyRow_5 rfl (lv_at hl 1 rfl) ?_
  refine lv_icmp_ge (tgt := 31) hx hb dX11_copyRow_6 (by decide) (fun hc => ?_) (fun hc => ?_)
  · have hw := hw.1 hc
    exact zret_vw a_many zc hS hw hM dX11_copyRow_31
  · have hw := hw.2 hc
    refine lv_aload_n hx hb dX11_copyRow_9 rfl (lv_at hl 0 rfl) ?_
    refine lv_iload_n hx hb dX11_copyRow_10 rfl (lv_at hl 1 rfl) ?_
    refine lv_iload_n hx hb dX11_copyRow_11 rfl (lv_at hl 3 rfl) ?_
    refine lv_imul hx hb dX11_copyRow_12 ?_
    refine lv_iload hx hb dX11_copyRow_13 (lv_at hl 4 rfl) ?_
    refine lv_iadd hx hb dX11_copyRow_15 ?_
    refine lv_aload_n hx hb dX11_copyRow_16 rfl (lv_at hl 0 rfl) ?_
    refine lv_iload_n hx hb dX11_copyRow_17 rfl (lv_at hl 1 rfl) ?_
    refine lv_iload_n hx hb dX11_copyRow_18 rfl (lv_at hl 2 rfl) ?_
    refine lv_imul hx hb dX11_copyRow_19 ?_
    refine lv_iload hx hb dX11_copyRow_20 (lv_at hl 4 rfl) ?_
    refine lv_iadd hx hb dX11_copyRow_22 ?_
    refine mld_5 zc hK hM hw.1 dX11_copyRow_23 ?_
    have hw := hw.2
    refine lv_topi (fun v_1 ev_1 => ?_)
    have hw := hw v_1 ev_1
    refine mst_5 zc hK hM hS hw.1 dX11_copyRow_24 (fun a_many_1 H locs ea_many_1 hM hS => ?_)
    have hw := hw.2 a_many_1 ea_many_1
    obtain ⟨v_2, ev_2⟩ : ∃ y : Int32, y = x4 + (1 : Int32) := ⟨_, rfl⟩
    have hw := hw v_2 ev_2
    refine lv_iinc (v := v_2) (k := 4) (lv' := [(4, .int v_2), (0, .ref (q + 5)), (1, .int x1), (2, .int x2), (3, .int x3)]) hx hb dX11_copyRow_25 hl rfl (by rw [ev_2]; rfl) (by decide) rfl (fun ls hl => ?_)
    refine lv_goto (tgt := 3) hx hb dX11_copyRow_28 (by decide) ?_
    exact hw _ _ _ (lv_sub hl [1, 2, 3, 4, 0] rfl) hM hS
set_option maxRecDepth 20000 in
theorem t_m_copyRow_5_0 {p : Program} {l : Launch} {e : Env} {s : State} {m : MethodId} {args : Array Value} {below : List Frame} {meth : Method} {c : Code} {E : zE} {q : Nat} {f_code : Int32} {a_tape : Nat → Int32} {a_size : Nat → Int32} {a_fault : Nat → Int32} {a_faultPlace : Nat → Int32} {a_many : Nat → Int32} {a_lands : Nat → Int32} {a_evenings : Nat → Int32} {a_sights : Nat → Int32} {a_choirs : Nat → Int32} {f_reached : Int32} {f_length : Int32} {f_begins : Int32} {f_sort : Int32} {f_value : Int32} {f_word : Int64} {f_wrongAt : Int32} {f_laterFault : Int32} {f_laterPlace : Int32} {a_told : Nat → Int32} {a_read : Nat → Int32} {f_farHut : Int32} {f_farSinger : Int32} {f_good : Int32} {f_land : Int32} {f_huts : Int32} {f_singers : Int32} {f_evening : Int32} {a_at : Nat → Int32} {a_knows : Nat → Int32} {a_climbed : Nat → Int32} {a_snow : Nat → Int32} {a_level : Nat → Int32} {f_begun : Int32} {f_minute : Int32} {f_avalanches : Int32} {a_run : Nat → Int32} {a_covers : Nat → Int32} {a_routes : Nat → Int32} {a_longest : Nat → Int32} {a_steep : Nat → Int32} {a_laid : Nat → Int32} {a_far : Nat → Int32} {f_sight : Int32} {a_runs : Nat → Int32} {f_choir : Int32} {f_voices : Int32} {a_rest : Nat → Int64} {a_wins : Nat → Int32} {f_seed : Int32} {a_other : Nat → Int32} {a_kept : Nat → Int32} {post : (Nat → Int32) → Prop} {x1 : Int32} {x2 : Int32} {x3 : Int32} {ls : Array Slot} {H : Heap} {locs : List Loc}
    (zc : zC p s m args meth c cX11_copyRow 5 RX11 none)
    (hK : zK E s)
    (hM : mW E q f_code a_tape a_size a_fault a_faultPlace a_many a_lands a_evenings a_sights a_choirs f_reached f_length f_begins f_sort f_value f_word f_wrongAt f_laterFault f_laterPlace a_told a_read f_farHut f_farSinger f_good f_land f_huts f_singers f_evening a_at a_knows a_climbed a_snow a_level f_begun f_minute f_avalanches a_run a_covers a_routes a_longest a_steep a_laid a_far f_sight a_runs f_choir f_voices a_rest a_wins f_seed a_other a_kept H)
    (hS : va_S (mA q) s.heap H locs)
    (hl : lv_has ls 5 [(0, .ref (q + 5)), (1, .int x1), (2, .int x2), (3, .int x3)])
    (hw : q_m_copyRow_5_0 a_many x1 x2 x3 post) :
    W p l e rm_m_copyRow_5 s m args below meth c H locs 0 0 (MQ below (zQv (S := (Nat → Int32)) (fun u => post u) (fun u H => mW E q f_code a_tape a_size a_fault a_faultPlace u a_lands a_evenings a_sights a_choirs f_reached f_length f_begins f_sort f_value f_word f_wrongAt f_laterFault f_laterPlace a_told a_read f_farHut f_farSinger f_good f_land f_huts f_singers f_evening a_at a_knows a_climbed a_snow a_level f_begun f_minute f_avalanches a_run a_covers a_routes a_longest a_steep a_laid a_far f_sight a_runs f_choir f_voices a_rest a_wins f_seed a_other a_kept H) (mA q)) args s 0 0 (mA q)) (F0 m 0 ls []) := by
  have hx := zc.1
  have hb := zc.2.1
  refine lv_iconst (v := (0 : Int32)) hx hb dX11_copyRow_0 (by decide) ?_
  refine lv_istore (lv' := [(4, .int (0 : Int32)), (0, .ref (q + 5)), (1, .int x1), (2, .int x2), (3, .int x3)]) hx hb dX11_copyRow_1 hl (by decide) rfl (fun ls hl => ?_)
  exact t_m_copyRow_5_3 zc hK hM hS  (lv_sub hl [1, 2, 3, 4, 0] rfl) hw
set_option maxRecDepth 20000 in
theorem c_m_copyRow_5 (l : Launch) {E : zE} {q : Nat} {f_code : Int32} {a_tape : Nat → Int32} {a_size : Nat → Int32} {a_fault : Nat → Int32} {a_faultPlace : Nat → Int32} {a_many : Nat → Int32} {a_lands : Nat → Int32} {a_evenings : Nat → Int32} {a_sights : Nat → Int32} {a_choirs : Nat → Int32} {f_reached : Int32} {f_length : Int32} {f_begins : Int32} {f_sort : Int32} {f_value : Int32} {f_word : Int64} {f_wrongAt : Int32} {f_laterFault : Int32} {f_laterPlace : Int32} {a_told : Nat → Int32} {a_read : Nat → Int32} {f_farHut : Int32} {f_farSinger : Int32} {f_good : Int32} {f_land : Int32} {f_huts : Int32} {f_singers : Int32} {f_evening : Int32} {a_at : Nat → Int32} {a_knows : Nat → Int32} {a_climbed : Nat → Int32} {a_snow : Nat → Int32} {a_level : Nat → Int32} {f_begun : Int32} {f_minute : Int32} {f_avalanches : Int32} {a_run : Nat → Int32} {a_covers : Nat → Int32} {a_routes : Nat → Int32} {a_longest : Nat → Int32} {a_steep : Nat → Int32} {a_laid : Nat → Int32} {a_far : Nat → Int32} {f_sight : Int32} {a_runs : Nat → Int32} {f_choir : Int32} {f_voices : Int32} {a_rest : Nat → Int64} {a_wins : Nat → Int32} {f_seed : Int32} {a_other : Nat → Int32} {a_kept : Nat → Int32} {x1 : Int32} {x2 : Int32} {x3 : Int32} {post : (Nat → Int32) → Prop} (hw : q_m_copyRow_5_0 a_many x1 x2 x3 post) : Met l yX11_copyRow (Cond.code yX11_copyRow cX11_copyRow 5 none :: zb) rm_m_copyRow_5 (va_Pc [.ref (q + 5), .int x1, .int x2, .int x3] (fun U => mW E q f_code a_tape a_size a_fault a_faultPlace a_many a_lands a_evenings a_sights a_choirs f_reached f_length f_begins f_sort f_value f_word f_wrongAt f_laterFault f_laterPlace a_told a_read f_farHut f_farSinger f_good f_land f_huts f_singers f_evening a_at a_knows a_climbed a_snow a_level f_begun f_minute f_avalanches a_run a_covers a_routes a_longest a_steep a_laid a_far f_sight a_runs f_choir f_voices a_rest a_wins f_seed a_other a_kept U.heap ∧ zK E U)) (zQv (S := (Nat → Int32)) (fun u => post u) (fun u H => mW E q f_code a_tape a_size a_fault a_faultPlace u a_lands a_evenings a_sights a_choirs f_reached f_length f_begins f_sort f_value f_word f_wrongAt f_laterFault f_laterPlace a_told a_read f_farHut f_farSinger f_good f_land f_huts f_singers f_evening a_at a_knows a_climbed a_snow a_level f_begun f_minute f_avalanches a_run a_covers a_routes a_longest a_steep a_laid a_far f_sight a_runs f_choir f_voices a_rest a_wins f_seed a_other a_kept H) (mA q)) 0 0 (mA q) := by
  refine Met.ofW (cc := cX11_copyRow) (maxL := 5) (ret := none) (by decide) rfl ?_
  intro p e s m args below meth c s₁ B hml hv
  obtain ⟨rfl, hM, hK⟩ := hv
  have zc := zc_of B hml
  have hl := lv_entry ([.ref (q + 5), .int x1, .int x2, .int x3]) (n := 5) (Nat.le_of_ble_eq_true rfl)
  rw [lg_entry_eq]
  generalize (lg_sl ([.ref (q + 5), .int x1, .int x2, .int x3]) ++ List.replicate (5 - (lg_sl ([.ref (q + 5), .int x1, .int x2, .int x3])).length) Slot.unset).toArray = ls at hl ⊢
  have hl : lv_has ls 5 [(0, .ref (q + 5)), (1, .int x1), (2, .int x2), (3, .int x3)] := hl
  exact t_m_copyRow_5_0 zc hK hM va_S.rf (lv_sub hl [0, 1, 2, 3] rfl) hw
-- m_copyRow_6
abbrev rm_m_copyRow_6 : Room := { frames := 0, cells := 0, slots := 0, locals := 0 }
def q_m_copyRow_6_3 (a_lands : Nat → Int32) (x1 : Int32) (x2 : Int32) (x3 : Int32) (x4 : Int32) (post : (Nat → Int32) → Prop) : Prop :=
  ∀ P3 : Int32 → (Nat → Int32) → Prop, (∀ (x4 : Int32) (a_lands : Nat → Int32), ((x1 ≤ x4 → (post a_lands)) ∧ (¬ x1 ≤ x4 → (vp_in ((x1 * x2) + x4) 1056 ∧ (∀ v_1 : Int32, v_1 = (a_lands (Int32.toNatClampNeg ((x1 * x2) + x4))) → (vp_in ((x1 * x3) + x4) 1056 ∧ (∀ a_lands_1 : Nat → Int32, a_lands_1 = upd a_lands (Int32.toNatClampNeg ((x1 * x3) + x4)) v_1 → (∀ v_2 : Int32, v_2 = x4 + (1 : Int32) → (P3 v_2 a_lands_1)))))))) → P3 x4 a_lands) → P3 x4 a_lands
def q_m_copyRow_6_0 (a_lands : Nat → Int32) (x1 : Int32) (x2 : Int32) (x3 : Int32) (post : (Nat → Int32) → Prop) : Prop :=
  q_m_copyRow_6_3 a_lands x1 x2 x3 (0 : Int32) post
set_option maxRecDepth 20000 in
theorem t_m_copyRow_6_3 {p : Program} {l : Launch} {e : Env} {s : State} {m : MethodId} {args : Array Value} {below : List Frame} {meth : Method} {c : Code} {E : zE} {q : Nat} {f_code : Int32} {a_tape : Nat → Int32} {a_size : Nat → Int32} {a_fault : Nat → Int32} {a_faultPlace : Nat → Int32} {a_many : Nat → Int32} {a_lands : Nat → Int32} {a_evenings : Nat → Int32} {a_sights : Nat → Int32} {a_choirs : Nat → Int32} {f_reached : Int32} {f_length : Int32} {f_begins : Int32} {f_sort : Int32} {f_value : Int32} {f_word : Int64} {f_wrongAt : Int32} {f_laterFault : Int32} {f_laterPlace : Int32} {a_told : Nat → Int32} {a_read : Nat → Int32} {f_farHut : Int32} {f_farSinger : Int32} {f_good : Int32} {f_land : Int32} {f_huts : Int32} {f_singers : Int32} {f_evening : Int32} {a_at : Nat → Int32} {a_knows : Nat → Int32} {a_climbed : Nat → Int32} {a_snow : Nat → Int32} {a_level : Nat → Int32} {f_begun : Int32} {f_minute : Int32} {f_avalanches : Int32} {a_run : Nat → Int32} {a_covers : Nat → Int32} {a_routes : Nat → Int32} {a_longest : Nat → Int32} {a_steep : Nat → Int32} {a_laid : Nat → Int32} {a_far : Nat → Int32} {f_sight : Int32} {a_runs : Nat → Int32} {f_choir : Int32} {f_voices : Int32} {a_rest : Nat → Int64} {a_wins : Nat → Int32} {f_seed : Int32} {a_other : Nat → Int32} {a_kept : Nat → Int32} {post : (Nat → Int32) → Prop} {x1 : Int32} {x2 : Int32} {x3 : Int32} {x4 : Int32} {ls : Array Slot} {H : Heap} {locs : List Loc}
    (zc : zC p s m args meth c cX11_copyRow 5 RX11 none)
    (hK : zK E s)
    (hM : mW E q f_code a_tape a_size a_fault a_faultPlace a_many a_lands a_evenings a_sights a_choirs f_reached f_length f_begins f_sort f_value f_word f_wrongAt f_laterFault f_laterPlace a_told a_read f_farHut f_farSinger f_good f_land f_huts f_singers f_evening a_at a_knows a_climbed a_snow a_level f_begun f_minute f_avalanches a_run a_covers a_routes a_longest a_steep a_laid a_far f_sight a_runs f_choir f_voices a_rest a_wins f_seed a_other a_kept H)
    (hS : va_S (mA q) s.heap H locs)
    (hl : lv_has ls 5 [(0, .ref (q + 6)), (1, .int x1), (2, .int x2), (3, .int x3), (4, .int x4)])
    (hw : q_m_copyRow_6_3 a_lands x1 x2 x3 x4 post) :
    W p l e rm_m_copyRow_6 s m args below meth c H locs 0 0 (MQ below (zQv (S := (Nat → Int32)) (fun u => post u) (fun u H => mW E q f_code a_tape a_size a_fault a_faultPlace a_many u a_evenings a_sights a_choirs f_reached f_length f_begins f_sort f_value f_word f_wrongAt f_laterFault f_laterPlace a_told a_read f_farHut f_farSinger f_good f_land f_huts f_singers f_evening a_at a_knows a_climbed a_snow a_level f_begun f_minute f_avalanches a_run a_covers a_routes a_longest a_steep a_laid a_far f_sight a_runs f_choir f_voices a_rest a_wins f_seed a_other a_kept H) (mA q)) args s 0 0 (mA q)) (F0 m 3 ls []) := by
  have hx := zc.1
  have hb := zc.2.1
  refine hw (fun x4 a_lands => ∀ (H : Heap) (locs : List Loc) (ls : Array Slot), lv_has ls 5 [(0, .ref (q + 6)), (1, .int x1), (2, .int x2), (3, .int x3), (4, .int x4)] → mW E q f_code a_tape a_size a_fault a_faultPlace a_many a_lands a_evenings a_sights a_choirs f_reached f_length f_begins f_sort f_value f_word f_wrongAt f_laterFault f_laterPlace a_told a_read f_farHut f_farSinger f_good f_land f_huts f_singers f_evening a_at a_knows a_climbed a_snow a_level f_begun f_minute f_avalanches a_run a_covers a_routes a_longest a_steep a_laid a_far f_sight a_runs f_choir f_voices a_rest a_wins f_seed a_other a_kept H → va_S (mA q) s.heap H locs → W p l e rm_m_copyRow_6 s m args below meth c H locs 0 0 (MQ below (zQv (S := (Nat → Int32)) (fun u => post u) (fun u H => mW E q f_code a_tape a_size a_fault a_faultPlace a_many u a_evenings a_sights a_choirs f_reached f_length f_begins f_sort f_value f_word f_wrongAt f_laterFault f_laterPlace a_told a_read f_farHut f_farSinger f_good f_land f_huts f_singers f_evening a_at a_knows a_climbed a_snow a_level f_begun f_minute f_avalanches a_run a_covers a_routes a_longest a_steep a_laid a_far f_sight a_runs f_choir f_voices a_rest a_wins f_seed a_other a_kept H) (mA q)) args s 0 0 (mA q)) (F0 m 3 ls [])) ?_ _ _ _ hl hM hS
  intro x4 a_lands hw H locs ls hl hM hS
  refine lv_iload hx hb dX11_copyRow_3 (lv_at hl 4 rfl) ?_
  refine lv_iload_n hx hb dX11_copyRow_5 rfl (lv_at hl 1 rfl) ?_
  refine lv_icmp_ge (tgt := 31) hx hb dX11_copyRow_6 (by decide) (fun hc => ?_) (fun hc => ?_)
  · have hw := hw.1 hc
    exact zret_vw a_lands zc hS hw hM dX11_copyRow_31
  · have hw := hw.2 hc
    refine lv_aload_n hx hb dX11_copyRow_9 rfl (lv_at hl 0 rfl) ?_
    refine lv_iload_n hx hb dX11_copyRow_10 rfl (lv_at hl 1 rfl) ?_
    refine lv_iload_n hx hb dX11_copyRow_11 rfl (lv_at hl 3 rfl) ?_
    refine lv_imul hx hb dX11_copyRow_12 ?_
    refine lv_iload hx hb dX11_copyRow_13 (lv_at hl 4 rfl) ?_
    refine lv_iadd hx hb dX11_copyRow_15 ?_
    refine lv_aload_n hx hb dX11_copyRow_16 rfl (lv_at hl 0 rfl) ?_
    refine lv_iload_n hx hb dX11_copyRow_17 rfl (lv_at hl 1 rfl) ?_
    refine lv_iload_n hx hb dX11_copyRow_18 rfl (lv_at hl 2 rfl) ?_
    refine lv_imul hx hb dX11_copyRow_19 ?_
    refine lv_iload hx hb dX11_copyRow_20 (lv_at hl 4 rfl) ?_
    refine lv_iadd hx hb dX11_copyRow_22 ?_
    refine mld_6 zc hK hM hw.1 dX11_copyRow_23 ?_
    have hw := hw.2
    refine lv_topi (fun v_1 ev_1 => ?_)
    have hw := hw v_1 ev_1
    refine mst_6 zc hK hM hS hw.1 dX11_copyRow_24 (fun a_lands_1 H locs ea_lands_1 hM hS => ?_)
    have hw := hw.2 a_lands_1 ea_lands_1
    obtain ⟨v_2, ev_2⟩ : ∃ y : Int32, y = x4 + (1 : Int32) := ⟨_, rfl⟩
    have hw := hw v_2 ev_2
    refine lv_iinc (v := v_2) (k := 4) (lv' := [(4, .int v_2), (0, .ref (q + 6)), (1, .int x1), (2, .int x2), (3, .int x3)]) hx hb dX11_copyRow_25 hl rfl (by rw [ev_2]; rfl) (by decide) rfl (fun ls hl => ?_)
    refine lv_goto (tgt := 3) hx hb dX11_copyRow_28 (by decide) ?_
    exact hw _ _ _ (lv_sub hl [1, 2, 3, 4, 0] rfl) hM hS
set_option maxRecDepth 20000 in
theorem t_m_copyRow_6_0 {p : Program} {l : Launch} {e : Env} {s : State} {m : MethodId} {args : Array Value} {below : List Frame} {meth : Method} {c : Code} {E : zE} {q : Nat} {f_code : Int32} {a_tape : Nat → Int32} {a_size : Nat → Int32} {a_fault : Nat → Int32} {a_faultPlace : Nat → Int32} {a_many : Nat → Int32} {a_lands : Nat → Int32} {a_evenings : Nat → Int32} {a_sights : Nat → Int32} {a_choirs : Nat → Int32} {f_reached : Int32} {f_length : Int32} {f_begins : Int32} {f_sort : Int32} {f_value : Int32} {f_word : Int64} {f_wrongAt : Int32} {f_laterFault : Int32} {f_laterPlace : Int32} {a_told : Nat → Int32} {a_read : Nat → Int32} {f_farHut : Int32} {f_farSinger : Int32} {f_good : Int32} {f_land : Int32} {f_huts : Int32} {f_singers : Int32} {f_evening : Int32} {a_at : Nat → Int32} {a_knows : Nat → Int32} {a_climbed : Nat → Int32} {a_snow : Nat → Int32} {a_level : Nat → Int32} {f_begun : Int32} {f_minute : Int32} {f_avalanches : Int32} {a_run : Nat → Int32} {a_covers : Nat → Int32} {a_routes : Nat → Int32} {a_longest : Nat → Int32} {a_steep : Nat → Int32} {a_laid : Nat → Int32} {a_far : Nat → Int32} {f_sight : Int32} {a_runs : Nat → Int32} {f_choir : Int32} {f_voices : Int32} {a_rest : Nat → Int64} {a_wins : Nat → Int32} {f_seed : Int32} {a_other : Nat → Int32} {a_kept : Nat → Int32} {post : (Nat → Int32) → Prop} {x1 : Int32} {x2 : Int32} {x3 : Int32} {ls : Array Slot} {H : Heap} {locs : List Loc}
    (zc : zC p s m args meth c cX11_copyRow 5 RX11 none)
    (hK : zK E s)
    (hM : mW E q f_code a_tape a_size a_fault a_faultPlace a_many a_lands a_evenings a_sights a_choirs f_reached f_length f_begins f_sort f_value f_word f_wrongAt f_laterFault f_laterPlace a_told a_read f_farHut f_farSinger f_good f_land f_huts f_singers f_evening a_at a_knows a_climbed a_snow a_level f_begun f_minute f_avalanches a_run a_covers a_routes a_longest a_steep a_laid a_far f_sight a_runs f_choir f_voices a_rest a_wins f_seed a_other a_kept H)
    (hS : va_S (mA q) s.heap H locs)
    (hl : lv_has ls 5 [(0, .ref (q + 6)), (1, .int x1), (2, .int x2), (3, .int x3)])
    (hw : q_m_copyRow_6_0 a_lands x1 x2 x3 post) :
    W p l e rm_m_copyRow_6 s m args below meth c H locs 0 0 (MQ below (zQv (S := (Nat → Int32)) (fun u => post u) (fun u H => mW E q f_code a_tape a_size a_fault a_faultPlace a_many u a_evenings a_sights a_choirs f_reached f_length f_begins f_sort f_value f_word f_wrongAt f_laterFault f_laterPlace a_told a_read f_farHut f_farSinger f_good f_land f_huts f_singers f_evening a_at a_knows a_climbed a_snow a_level f_begun f_minute f_avalanches a_run a_covers a_routes a_longest a_steep a_laid a_far f_sight a_runs f_choir f_voices a_rest a_wins f_seed a_other a_kept H) (mA q)) args s 0 0 (mA q)) (F0 m 0 ls []) := by
  have hx := zc.1
  have hb := zc.2.1
  refine lv_iconst (v := (0 : Int32)) hx hb dX11_copyRow_0 (by decide) ?_
  refine lv_istore (lv' := [(4, .int (0 : Int32)), (0, .ref (q + 6)), (1, .int x1), (2, .int x2), (3, .int x3)]) hx hb dX11_copyRow_1 hl (by decide) rfl (fun ls hl => ?_)
  exact t_m_copyRow_6_3 zc hK hM hS  (lv_sub hl [1, 2, 3, 4, 0] rfl) hw
set_option maxRecDepth 20000 in
theorem c_m_copyRow_6 (l : Launch) {E : zE} {q : Nat} {f_code : Int32} {a_tape : Nat → Int32} {a_size : Nat → Int32} {a_fault : Nat → Int32} {a_faultPlace : Nat → Int32} {a_many : Nat → Int32} {a_lands : Nat → Int32} {a_evenings : Nat → Int32} {a_sights : Nat → Int32} {a_choirs : Nat → Int32} {f_reached : Int32} {f_length : Int32} {f_begins : Int32} {f_sort : Int32} {f_value : Int32} {f_word : Int64} {f_wrongAt : Int32} {f_laterFault : Int32} {f_laterPlace : Int32} {a_told : Nat → Int32} {a_read : Nat → Int32} {f_farHut : Int32} {f_farSinger : Int32} {f_good : Int32} {f_land : Int32} {f_huts : Int32} {f_singers : Int32} {f_evening : Int32} {a_at : Nat → Int32} {a_knows : Nat → Int32} {a_climbed : Nat → Int32} {a_snow : Nat → Int32} {a_level : Nat → Int32} {f_begun : Int32} {f_minute : Int32} {f_avalanches : Int32} {a_run : Nat → Int32} {a_covers : Nat → Int32} {a_routes : Nat → Int32} {a_longest : Nat → Int32} {a_steep : Nat → Int32} {a_laid : Nat → Int32} {a_far : Nat → Int32} {f_sight : Int32} {a_runs : Nat → Int32} {f_choir : Int32} {f_voices : Int32} {a_rest : Nat → Int64} {a_wins : Nat → Int32} {f_seed : Int32} {a_other : Nat → Int32} {a_kept : Nat → Int32} {x1 : Int32} {x2 : Int32} {x3 : Int32} {post : (Nat → Int32) → Prop} (hw : q_m_copyRow_6_0 a_lands x1 x2 x3 post) : Met l yX11_copyRow (Cond.code yX11_copyRow cX11_copyRow 5 none :: zb) rm_m_copyRow_6 (va_Pc [.ref (q + 6), .int x1, .int x2, .int x3] (fun U => mW E q f_code a_tape a_size a_fault a_faultPlace a_many a_lands a_evenings a_sights a_choirs f_reached f_length f_begins f_sort f_value f_word f_wrongAt f_laterFault f_laterPlace a_told a_read f_farHut f_farSinger f_good f_land f_huts f_singers f_evening a_at a_knows a_climbed a_snow a_level f_begun f_minute f_avalanches a_run a_covers a_routes a_longest a_steep a_laid a_far f_sight a_runs f_choir f_voices a_rest a_wins f_seed a_other a_kept U.heap ∧ zK E U)) (zQv (S := (Nat → Int32)) (fun u => post u) (fun u H => mW E q f_code a_tape a_size a_fault a_faultPlace a_many u a_evenings a_sights a_choirs f_reached f_length f_begins f_sort f_value f_word f_wrongAt f_laterFault f_laterPlace a_told a_read f_farHut f_farSinger f_good f_land f_huts f_singers f_evening a_at a_knows a_climbed a_snow a_level f_begun f_minute f_avalanches a_run a_covers a_routes a_longest a_steep a_laid a_far f_sight a_runs f_choir f_voices a_rest a_wins f_seed a_other a_kept H) (mA q)) 0 0 (mA q) := by
  refine Met.ofW (cc := cX11_copyRow) (maxL := 5) (ret := none) (by decide) rfl ?_
  intro p e s m args below meth c s₁ B hml hv
  obtain ⟨rfl, hM, hK⟩ := hv
  have zc := zc_of B hml
  have hl := lv_entry ([.ref (q + 6), .int x1, .int x2, .int x3]) (n := 5) (Nat.le_of_ble_eq_true rfl)
  rw [lg_entry_eq]
  generalize (lg_sl ([.ref (q + 6), .int x1, .int x2, .int x3]) ++ List.replicate (5 - (lg_sl ([.ref (q + 6), .int x1, .int x2, .int x3])).length) Slot.unset).toArray = ls at hl ⊢
  have hl : lv_has ls 5 [(0, .ref (q + 6)), (1, .int x1), (2, .int x2), (3, .int x3)] := hl
  exact t_m_copyRow_6_0 zc hK hM va_S.rf (lv_sub hl [0, 1, 2, 3] rfl) hw
-- m_copyRow_7
abbrev rm_m_copyRow_7 : Room := { frames := 0, cells := 0, slots := 0, locals := 0 }
def q_m_copyRow_7_3 (a_evenings : Nat → Int32) (x1 : Int32) (x2 : Int32) (x3 : Int32) (x4 : Int32) (post : (Nat → Int32) → Prop) : Prop :=
  ∀ P3 : Int32 → (Nat → Int32) → Prop, (∀ (x4 : Int32) (a_evenings : Nat → Int32), ((x1 ≤ x4 → (post a_evenings)) ∧ (¬ x1 ≤ x4 → (vp_in ((x1 * x2) + x4) 968 ∧ (∀ v_1 : Int32, v_1 = (a_evenings (Int32.toNatClampNeg ((x1 * x2) + x4))) → (vp_in ((x1 * x3) + x4) 968 ∧ (∀ a_evenings_1 : Nat → Int32, a_evenings_1 = upd a_evenings (Int32.toNatClampNeg ((x1 * x3) + x4)) v_1 → (∀ v_2 : Int32, v_2 = x4 + (1 : Int32) → (P3 v_2 a_evenings_1)))))))) → P3 x4 a_evenings) → P3 x4 a_evenings
def q_m_copyRow_7_0 (a_evenings : Nat → Int32) (x1 : Int32) (x2 : Int32) (x3 : Int32) (post : (Nat → Int32) → Prop) : Prop :=
  q_m_copyRow_7_3 a_evenings x1 x2 x3 (0 : Int32) post
set_option maxRecDepth 20000 in
theorem t_m_copyRow_7_3 {p : Program} {l : Launch} {e : Env} {s : State} {m : MethodId} {args : Array Value} {below : List Frame} {meth : Method} {c : Code} {E : zE} {q : Nat} {f_code : Int32} {a_tape : Nat → Int32} {a_size : Nat → Int32} {a_fault : Nat → Int32} {a_faultPlace : Nat → Int32} {a_many : Nat → Int32} {a_lands : Nat → Int32} {a_evenings : Nat → Int32} {a_sights : Nat → Int32} {a_choirs : Nat → Int32} {f_reached : Int32} {f_length : Int32} {f_begins : Int32} {f_sort : Int32} {f_value : Int32} {f_word : Int64} {f_wrongAt : Int32} {f_laterFault : Int32} {f_laterPlace : Int32} {a_told : Nat → Int32} {a_read : Nat → Int32} {f_farHut : Int32} {f_farSinger : Int32} {f_good : Int32} {f_land : Int32} {f_huts : Int32} {f_singers : Int32} {f_evening : Int32} {a_at : Nat → Int32} {a_knows : Nat → Int32} {a_climbed : Nat → Int32} {a_snow : Nat → Int32} {a_level : Nat → Int32} {f_begun : Int32} {f_minute : Int32} {f_avalanches : Int32} {a_run : Nat → Int32} {a_covers : Nat → Int32} {a_routes : Nat → Int32} {a_longest : Nat → Int32} {a_steep : Nat → Int32} {a_laid : Nat → Int32} {a_far : Nat → Int32} {f_sight : Int32} {a_runs : Nat → Int32} {f_choir : Int32} {f_voices : Int32} {a_rest : Nat → Int64} {a_wins : Nat → Int32} {f_seed : Int32} {a_other : Nat → Int32} {a_kept : Nat → Int32} {post : (Nat → Int32) → Prop} {x1 : Int32} {x2 : Int32} {x3 : Int32} {x4 : Int32} {ls : Array Slot} {H : Heap} {locs : List Loc}
    (zc : zC p s m args meth c cX11_copyRow 5 RX11 none)
    (hK : zK E s)
    (hM : mW E q f_code a_tape a_size a_fault a_faultPlace a_many a_lands a_evenings a_sights a_choirs f_reached f_length f_begins f_sort f_value f_word f_wrongAt f_laterFault f_laterPlace a_told a_read f_farHut f_farSinger f_good f_land f_huts f_singers f_evening a_at a_knows a_climbed a_snow a_level f_begun f_minute f_avalanches a_run a_covers a_routes a_longest a_steep a_laid a_far f_sight a_runs f_choir f_voices a_rest a_wins f_seed a_other a_kept H)
    (hS : va_S (mA q) s.heap H locs)
    (hl : lv_has ls 5 [(0, .ref (q + 7)), (1, .int x1), (2, .int x2), (3, .int x3), (4, .int x4)])
    (hw : q_m_copyRow_7_3 a_evenings x1 x2 x3 x4 post) :
    W p l e rm_m_copyRow_7 s m args below meth c H locs 0 0 (MQ below (zQv (S := (Nat → Int32)) (fun u => post u) (fun u H => mW E q f_code a_tape a_size a_fault a_faultPlace a_many a_lands u a_sights a_choirs f_reached f_length f_begins f_sort f_value f_word f_wrongAt f_laterFault f_laterPlace a_told a_read f_farHut f_farSinger f_good f_land f_huts f_singers f_evening a_at a_knows a_climbed a_snow a_level f_begun f_minute f_avalanches a_run a_covers a_routes a_longest a_steep a_laid a_far f_sight a_runs f_choir f_voices a_rest a_wins f_seed a_other a_kept H) (mA q)) args s 0 0 (mA q)) (F0 m 3 ls []) := by
  have hx := zc.1
  have hb := zc.2.1
  refine hw (fun x4 a_evenings => ∀ (H : Heap) (locs : List Loc) (ls : Array Slot), lv_has ls 5 [(0, .ref (q + 7)), (1, .int x1), (2, .int x2), (3, .int x3), (4, .int x4)] → mW E q f_code a_tape a_size a_fault a_faultPlace a_many a_lands a_evenings a_sights a_choirs f_reached f_length f_begins f_sort f_value f_word f_wrongAt f_laterFault f_laterPlace a_told a_read f_farHut f_farSinger f_good f_land f_huts f_singers f_evening a_at a_knows a_climbed a_snow a_level f_begun f_minute f_avalanches a_run a_covers a_routes a_longest a_steep a_laid a_far f_sight a_runs f_choir f_voices a_rest a_wins f_seed a_other a_kept H → va_S (mA q) s.heap H locs → W p l e rm_m_copyRow_7 s m args below meth c H locs 0 0 (MQ below (zQv (S := (Nat → Int32)) (fun u => post u) (fun u H => mW E q f_code a_tape a_size a_fault a_faultPlace a_many a_lands u a_sights a_choirs f_reached f_length f_begins f_sort f_value f_word f_wrongAt f_laterFault f_laterPlace a_told a_read f_farHut f_farSinger f_good f_land f_huts f_singers f_evening a_at a_knows a_climbed a_snow a_level f_begun f_minute f_avalanches a_run a_covers a_routes a_longest a_steep a_laid a_far f_sight a_runs f_choir f_voices a_rest a_wins f_seed a_other a_kept H) (mA q)) args s 0 0 (mA q)) (F0 m 3 ls [])) ?_ _ _ _ hl hM hS
  intro x4 a_evenings hw H locs ls hl hM hS
  refine lv_iload hx hb dX11_copyRow_3 (lv_at hl 4 rfl) ?_
  refine lv_iload_n hx hb dX11_copyRow_5 rfl (lv_at hl 1 rfl) ?_
  refine lv_icmp_ge (tgt := 31) hx hb dX11_copyRow_6 (by decide) (fun hc => ?_) (fun hc => ?_)
  · have hw := hw.1 hc
    exact zret_vw a_evenings zc hS hw hM dX11_copyRow_31
  · have hw := hw.2 hc
    refine lv_aload_n hx hb dX11_copyRow_9 rfl (lv_at hl 0 rfl) ?_
    refine lv_iload_n hx hb dX11_copyRow_10 rfl (lv_at hl 1 rfl) ?_
    refine lv_iload_n hx hb dX11_copyRow_11 rfl (lv_at hl 3 rfl) ?_
    refine lv_imul hx hb dX11_copyRow_12 ?_
    refine lv_iload hx hb dX11_copyRow_13 (lv_at hl 4 rfl) ?_
    refine lv_iadd hx hb dX11_copyRow_15 ?_
    refine lv_aload_n hx hb dX11_copyRow_16 rfl (lv_at hl 0 rfl) ?_
    refine lv_iload_n hx hb dX11_copyRow_17 rfl (lv_at hl 1 rfl) ?_
    refine lv_iload_n hx hb dX11_copyRow_18 rfl (lv_at hl 2 rfl) ?_
    refine lv_imul hx hb dX11_copyRow_19 ?_
    refine lv_iload hx hb dX11_copyRow_20 (lv_at hl 4 rfl) ?_
    refine lv_iadd hx hb dX11_copyRow_22 ?_
    refine mld_7 zc hK hM hw.1 dX11_copyRow_23 ?_
    have hw := hw.2
    refine lv_topi (fun v_1 ev_1 => ?_)
    have hw := hw v_1 ev_1
    refine mst_7 zc hK hM hS hw.1 dX11_copyRow_24 (fun a_evenings_1 H locs ea_evenings_1 hM hS => ?_)
    have hw := hw.2 a_evenings_1 ea_evenings_1
    obtain ⟨v_2, ev_2⟩ : ∃ y : Int32, y = x4 + (1 : Int32) := ⟨_, rfl⟩
    have hw := hw v_2 ev_2
    refine lv_iinc (v := v_2) (k := 4) (lv' := [(4, .int v_2), (0, .ref (q + 7)), (1, .int x1), (2, .int x2), (3, .int x3)]) hx hb dX11_copyRow_25 hl rfl (by rw [ev_2]; rfl) (by decide) rfl (fun ls hl => ?_)
    refine lv_goto (tgt := 3) hx hb dX11_copyRow_28 (by decide) ?_
    exact hw _ _ _ (lv_sub hl [1, 2, 3, 4, 0] rfl) hM hS
set_option maxRecDepth 20000 in
theorem t_m_copyRow_7_0 {p : Program} {l : Launch} {e : Env} {s : State} {m : MethodId} {args : Array Value} {below : List Frame} {meth : Method} {c : Code} {E : zE} {q : Nat} {f_code : Int32} {a_tape : Nat → Int32} {a_size : Nat → Int32} {a_fault : Nat → Int32} {a_faultPlace : Nat → Int32} {a_many : Nat → Int32} {a_lands : Nat → Int32} {a_evenings : Nat → Int32} {a_sights : Nat → Int32} {a_choirs : Nat → Int32} {f_reached : Int32} {f_length : Int32} {f_begins : Int32} {f_sort : Int32} {f_value : Int32} {f_word : Int64} {f_wrongAt : Int32} {f_laterFault : Int32} {f_laterPlace : Int32} {a_told : Nat → Int32} {a_read : Nat → Int32} {f_farHut : Int32} {f_farSinger : Int32} {f_good : Int32} {f_land : Int32} {f_huts : Int32} {f_singers : Int32} {f_evening : Int32} {a_at : Nat → Int32} {a_knows : Nat → Int32} {a_climbed : Nat → Int32} {a_snow : Nat → Int32} {a_level : Nat → Int32} {f_begun : Int32} {f_minute : Int32} {f_avalanches : Int32} {a_run : Nat → Int32} {a_covers : Nat → Int32} {a_routes : Nat → Int32} {a_longest : Nat → Int32} {a_steep : Nat → Int32} {a_laid : Nat → Int32} {a_far : Nat → Int32} {f_sight : Int32} {a_runs : Nat → Int32} {f_choir : Int32} {f_voices : Int32} {a_rest : Nat → Int64} {a_wins : Nat → Int32} {f_seed : Int32} {a_other : Nat → Int32} {a_kept : Nat → Int32} {post : (Nat → Int32) → Prop} {x1 : Int32} {x2 : Int32} {x3 : Int32} {ls : Array Slot} {H : Heap} {locs : List Loc}
    (zc : zC p s m args meth c cX11_copyRow 5 RX11 none)
    (hK : zK E s)
    (hM : mW E q f_code a_tape a_size a_fault a_faultPlace a_many a_lands a_evenings a_sights a_choirs f_reached f_length f_begins f_sort f_value f_word f_wrongAt f_laterFault f_laterPlace a_told a_read f_farHut f_farSinger f_good f_land f_huts f_singers f_evening a_at a_knows a_climbed a_snow a_level f_begun f_minute f_avalanches a_run a_covers a_routes a_longest a_steep a_laid a_far f_sight a_runs f_choir f_voices a_rest a_wins f_seed a_other a_kept H)
    (hS : va_S (mA q) s.heap H locs)
    (hl : lv_has ls 5 [(0, .ref (q + 7)), (1, .int x1), (2, .int x2), (3, .int x3)])
    (hw : q_m_copyRow_7_0 a_evenings x1 x2 x3 post) :
    W p l e rm_m_copyRow_7 s m args below meth c H locs 0 0 (MQ below (zQv (S := (Nat → Int32)) (fun u => post u) (fun u H => mW E q f_code a_tape a_size a_fault a_faultPlace a_many a_lands u a_sights a_choirs f_reached f_length f_begins f_sort f_value f_word f_wrongAt f_laterFault f_laterPlace a_told a_read f_farHut f_farSinger f_good f_land f_huts f_singers f_evening a_at a_knows a_climbed a_snow a_level f_begun f_minute f_avalanches a_run a_covers a_routes a_longest a_steep a_laid a_far f_sight a_runs f_choir f_voices a_rest a_wins f_seed a_other a_kept H) (mA q)) args s 0 0 (mA q)) (F0 m 0 ls []) := by
  have hx := zc.1
  have hb := zc.2.1
  refine lv_iconst (v := (0 : Int32)) hx hb dX11_copyRow_0 (by decide) ?_
  refine lv_istore (lv' := [(4, .int (0 : Int32)), (0, .ref (q + 7)), (1, .int x1), (2, .int x2), (3, .int x3)]) hx hb dX11_copyRow_1 hl (by decide) rfl (fun ls hl => ?_)
  exact t_m_copyRow_7_3 zc hK hM hS  (lv_sub hl [1, 2, 3, 4, 0] rfl) hw
set_option maxRecDepth 20000 in
theorem c_m_copyRow_7 (l : Launch) {E : zE} {q : Nat} {f_code : Int32} {a_tape : Nat → Int32} {a_size : Nat → Int32} {a_fault : Nat → Int32} {a_faultPlace : Nat → Int32} {a_many : Nat → Int32} {a_lands : Nat → Int32} {a_evenings : Nat → Int32} {a_sights : Nat → Int32} {a_choirs : Nat → Int32} {f_reached : Int32} {f_length : Int32} {f_begins : Int32} {f_sort : Int32} {f_value : Int32} {f_word : Int64} {f_wrongAt : Int32} {f_laterFault : Int32} {f_laterPlace : Int32} {a_told : Nat → Int32} {a_read : Nat → Int32} {f_farHut : Int32} {f_farSinger : Int32} {f_good : Int32} {f_land : Int32} {f_huts : Int32} {f_singers : Int32} {f_evening : Int32} {a_at : Nat → Int32} {a_knows : Nat → Int32} {a_climbed : Nat → Int32} {a_snow : Nat → Int32} {a_level : Nat → Int32} {f_begun : Int32} {f_minute : Int32} {f_avalanches : Int32} {a_run : Nat → Int32} {a_covers : Nat → Int32} {a_routes : Nat → Int32} {a_longest : Nat → Int32} {a_steep : Nat → Int32} {a_laid : Nat → Int32} {a_far : Nat → Int32} {f_sight : Int32} {a_runs : Nat → Int32} {f_choir : Int32} {f_voices : Int32} {a_rest : Nat → Int64} {a_wins : Nat → Int32} {f_seed : Int32} {a_other : Nat → Int32} {a_kept : Nat → Int32} {x1 : Int32} {x2 : Int32} {x3 : Int32} {post : (Nat → Int32) → Prop} (hw : q_m_copyRow_7_0 a_evenings x1 x2 x3 post) : Met l yX11_copyRow (Cond.code yX11_copyRow cX11_copyRow 5 none :: zb) rm_m_copyRow_7 (va_Pc [.ref (q + 7), .int x1, .int x2, .int x3] (fun U => mW E q f_code a_tape a_size a_fault a_faultPlace a_many a_lands a_evenings a_sights a_choirs f_reached f_length f_begins f_sort f_value f_word f_wrongAt f_laterFault f_laterPlace a_told a_read f_farHut f_farSinger f_good f_land f_huts f_singers f_evening a_at a_knows a_climbed a_snow a_level f_begun f_minute f_avalanches a_run a_covers a_routes a_longest a_steep a_laid a_far f_sight a_runs f_choir f_voices a_rest a_wins f_seed a_other a_kept U.heap ∧ zK E U)) (zQv (S := (Nat → Int32)) (fun u => post u) (fun u H => mW E q f_code a_tape a_size a_fault a_faultPlace a_many a_lands u a_sights a_choirs f_reached f_length f_begins f_sort f_value f_word f_wrongAt f_laterFault f_laterPlace a_told a_read f_farHut f_farSinger f_good f_land f_huts f_singers f_evening a_at a_knows a_climbed a_snow a_level f_begun f_minute f_avalanches a_run a_covers a_routes a_longest a_steep a_laid a_far f_sight a_runs f_choir f_voices a_rest a_wins f_seed a_other a_kept H) (mA q)) 0 0 (mA q) := by
  refine Met.ofW (cc := cX11_copyRow) (maxL := 5) (ret := none) (by decide) rfl ?_
  intro p e s m args below meth c s₁ B hml hv
  obtain ⟨rfl, hM, hK⟩ := hv
  have zc := zc_of B hml
  have hl := lv_entry ([.ref (q + 7), .int x1, .int x2, .int x3]) (n := 5) (Nat.le_of_ble_eq_true rfl)
  rw [lg_entry_eq]
  generalize (lg_sl ([.ref (q + 7), .int x1, .int x2, .int x3]) ++ List.replicate (5 - (lg_sl ([.ref (q + 7), .int x1, .int x2, .int x3])).length) Slot.unset).toArray = ls at hl ⊢
  have hl : lv_has ls 5 [(0, .ref (q + 7)), (1, .int x1), (2, .int x2), (3, .int x3)] := hl
  exact t_m_copyRow_7_0 zc hK hM va_S.rf (lv_sub hl [0, 1, 2, 3] rfl) hw
-- m_copyRow_8
abbrev rm_m_copyRow_8 : Room := { frames := 0, cells := 0, slots := 0, locals := 0 }
def q_m_copyRow_8_3 (a_sights : Nat → Int32) (x1 : Int32) (x2 : Int32) (x3 : Int32) (x4 : Int32) (post : (Nat → Int32) → Prop) : Prop :=
  ∀ P3 : Int32 → (Nat → Int32) → Prop, (∀ (x4 : Int32) (a_sights : Nat → Int32), ((x1 ≤ x4 → (post a_sights)) ∧ (¬ x1 ≤ x4 → (vp_in ((x1 * x2) + x4) 248 ∧ (∀ v_1 : Int32, v_1 = (a_sights (Int32.toNatClampNeg ((x1 * x2) + x4))) → (vp_in ((x1 * x3) + x4) 248 ∧ (∀ a_sights_1 : Nat → Int32, a_sights_1 = upd a_sights (Int32.toNatClampNeg ((x1 * x3) + x4)) v_1 → (∀ v_2 : Int32, v_2 = x4 + (1 : Int32) → (P3 v_2 a_sights_1)))))))) → P3 x4 a_sights) → P3 x4 a_sights
def q_m_copyRow_8_0 (a_sights : Nat → Int32) (x1 : Int32) (x2 : Int32) (x3 : Int32) (post : (Nat → Int32) → Prop) : Prop :=
  q_m_copyRow_8_3 a_sights x1 x2 x3 (0 : Int32) post
set_option maxRecDepth 20000 in
theorem t_m_copyRow_8_3 {p : Program} {l : Launch} {e : Env} {s : State} {m : MethodId} {args : Array Value} {below : List Frame} {meth : Method} {c : Code} {E : zE} {q : Nat} {f_code : Int32} {a_tape : Nat → Int32} {a_size : Nat → Int32} {a_fault : Nat → Int32} {a_faultPlace : Nat → Int32} {a_many : Nat → Int32} {a_lands : Nat → Int32} {a_evenings : Nat → Int32} {a_sights : Nat → Int32} {a_choirs : Nat → Int32} {f_reached : Int32} {f_length : Int32} {f_begins : Int32} {f_sort : Int32} {f_value : Int32} {f_word : Int64} {f_wrongAt : Int32} {f_laterFault : Int32} {f_laterPlace : Int32} {a_told : Nat → Int32} {a_read : Nat → Int32} {f_farHut : Int32} {f_farSinger : Int32} {f_good : Int32} {f_land : Int32} {f_huts : Int32} {f_singers : Int32} {f_evening : Int32} {a_at : Nat → Int32} {a_knows : Nat → Int32} {a_climbed : Nat → Int32} {a_snow : Nat → Int32} {a_level : Nat → Int32} {f_begun : Int32} {f_minute : Int32} {f_avalanches : Int32} {a_run : Nat → Int32} {a_covers : Nat → Int32} {a_routes : Nat → Int32} {a_longest : Nat → Int32} {a_steep : Nat → Int32} {a_laid : Nat → Int32} {a_far : Nat → Int32} {f_sight : Int32} {a_runs : Nat → Int32} {f_choir : Int32} {f_voices : Int32} {a_rest : Nat → Int64} {a_wins : Nat → Int32} {f_seed : Int32} {a_other : Nat → Int32} {a_kept : Nat → Int32} {post : (Nat → Int32) → Prop} {x1 : Int32} {x2 : Int32} {x3 : Int32} {x4 : Int32} {ls : Array Slot} {H : Heap} {locs : List Loc}
    (zc : zC p s m args meth c cX11_copyRow 5 RX11 none)
    (hK : zK E s)
    (hM : mW E q f_code a_tape a_size a_fault a_faultPlace a_many a_lands a_evenings a_sights a_choirs f_reached f_length f_begins f_sort f_value f_word f_wrongAt f_laterFault f_laterPlace a_told a_read f_farHut f_farSinger f_good f_land f_huts f_singers f_evening a_at a_knows a_climbed a_snow a_level f_begun f_minute f_avalanches a_run a_covers a_routes a_longest a_steep a_laid a_far f_sight a_runs f_choir f_voices a_rest a_wins f_seed a_other a_kept H)
    (hS : va_S (mA q) s.heap H locs)
    (hl : lv_has ls 5 [(0, .ref (q + 8)), (1, .int x1), (2, .int x2), (3, .int x3), (4, .int x4)])
    (hw : q_m_copyRow_8_3 a_sights x1 x2 x3 x4 post) :
    W p l e rm_m_copyRow_8 s m args below meth c H locs 0 0 (MQ below (zQv (S := (Nat → Int32)) (fun u => post u) (fun u H => mW E q f_code a_tape a_size a_fault a_faultPlace a_many a_lands a_evenings u a_choirs f_reached f_length f_begins f_sort f_value f_word f_wrongAt f_laterFault f_laterPlace a_told a_read f_farHut f_farSinger f_good f_land f_huts f_singers f_evening a_at a_knows a_climbed a_snow a_level f_begun f_minute f_avalanches a_run a_covers a_routes a_longest a_steep a_laid a_far f_sight a_runs f_choir f_voices a_rest a_wins f_seed a_other a_kept H) (mA q)) args s 0 0 (mA q)) (F0 m 3 ls []) := by
  have hx := zc.1
  have hb := zc.2.1
  refine hw (fun x4 a_sights => ∀ (H : Heap) (locs : List Loc) (ls : Array Slot), lv_has ls 5 [(0, .ref (q + 8)), (1, .int x1), (2, .int x2), (3, .int x3), (4, .int x4)] → mW E q f_code a_tape a_size a_fault a_faultPlace a_many a_lands a_evenings a_sights a_choirs f_reached f_length f_begins f_sort f_value f_word f_wrongAt f_laterFault f_laterPlace a_told a_read f_farHut f_farSinger f_good f_land f_huts f_singers f_evening a_at a_knows a_climbed a_snow a_level f_begun f_minute f_avalanches a_run a_covers a_routes a_longest a_steep a_laid a_far f_sight a_runs f_choir f_voices a_rest a_wins f_seed a_other a_kept H → va_S (mA q) s.heap H locs → W p l e rm_m_copyRow_8 s m args below meth c H locs 0 0 (MQ below (zQv (S := (Nat → Int32)) (fun u => post u) (fun u H => mW E q f_code a_tape a_size a_fault a_faultPlace a_many a_lands a_evenings u a_choirs f_reached f_length f_begins f_sort f_value f_word f_wrongAt f_laterFault f_laterPlace a_told a_read f_farHut f_farSinger f_good f_land f_huts f_singers f_evening a_at a_knows a_climbed a_snow a_level f_begun f_minute f_avalanches a_run a_covers a_routes a_longest a_steep a_laid a_far f_sight a_runs f_choir f_voices a_rest a_wins f_seed a_other a_kept H) (mA q)) args s 0 0 (mA q)) (F0 m 3 ls [])) ?_ _ _ _ hl hM hS
  intro x4 a_sights hw H locs ls hl hM hS
  refine lv_iload hx hb dX11_copyRow_3 (lv_at hl 4 rfl) ?_
  refine lv_iload_n hx hb dX11_copyRow_5 rfl (lv_at hl 1 rfl) ?_
  refine lv_icmp_ge (tgt := 31) hx hb dX11_copyRow_6 (by decide) (fun hc => ?_) (fun hc => ?_)
  · have hw := hw.1 hc
    exact zret_vw a_sights zc hS hw hM dX11_copyRow_31
  · have hw := hw.2 hc
    refine lv_aload_n hx hb dX11_copyRow_9 rfl (lv_at hl 0 rfl) ?_
    refine lv_iload_n hx hb dX11_copyRow_10 rfl (lv_at hl 1 rfl) ?_
    refine lv_iload_n hx hb dX11_copyRow_11 rfl (lv_at hl 3 rfl) ?_
    refine lv_imul hx hb dX11_copyRow_12 ?_
    refine lv_iload hx hb dX11_copyRow_13 (lv_at hl 4 rfl) ?_
    refine lv_iadd hx hb dX11_copyRow_15 ?_
    refine lv_aload_n hx hb dX11_copyRow_16 rfl (lv_at hl 0 rfl) ?_
    refine lv_iload_n hx hb dX11_copyRow_17 rfl (lv_at hl 1 rfl) ?_
    refine lv_iload_n hx hb dX11_copyRow_18 rfl (lv_at hl 2 rfl) ?_
    refine lv_imul hx hb dX11_copyRow_19 ?_
    refine lv_iload hx hb dX11_copyRow_20 (lv_at hl 4 rfl) ?_
    refine lv_iadd hx hb dX11_copyRow_22 ?_
    refine mld_8 zc hK hM hw.1 dX11_copyRow_23 ?_
    have hw := hw.2
    refine lv_topi (fun v_1 ev_1 => ?_)
    have hw := hw v_1 ev_1
    refine mst_8 zc hK hM hS hw.1 dX11_copyRow_24 (fun a_sights_1 H locs ea_sights_1 hM hS => ?_)
    have hw := hw.2 a_sights_1 ea_sights_1
    obtain ⟨v_2, ev_2⟩ : ∃ y : Int32, y = x4 + (1 : Int32) := ⟨_, rfl⟩
    have hw := hw v_2 ev_2
    refine lv_iinc (v := v_2) (k := 4) (lv' := [(4, .int v_2), (0, .ref (q + 8)), (1, .int x1), (2, .int x2), (3, .int x3)]) hx hb dX11_copyRow_25 hl rfl (by rw [ev_2]; rfl) (by decide) rfl (fun ls hl => ?_)
    refine lv_goto (tgt := 3) hx hb dX11_copyRow_28 (by decide) ?_
    exact hw _ _ _ (lv_sub hl [1, 2, 3, 4, 0] rfl) hM hS
set_option maxRecDepth 20000 in
theorem t_m_copyRow_8_0 {p : Program} {l : Launch} {e : Env} {s : State} {m : MethodId} {args : Array Value} {below : List Frame} {meth : Method} {c : Code} {E : zE} {q : Nat} {f_code : Int32} {a_tape : Nat → Int32} {a_size : Nat → Int32} {a_fault : Nat → Int32} {a_faultPlace : Nat → Int32} {a_many : Nat → Int32} {a_lands : Nat → Int32} {a_evenings : Nat → Int32} {a_sights : Nat → Int32} {a_choirs : Nat → Int32} {f_reached : Int32} {f_length : Int32} {f_begins : Int32} {f_sort : Int32} {f_value : Int32} {f_word : Int64} {f_wrongAt : Int32} {f_laterFault : Int32} {f_laterPlace : Int32} {a_told : Nat → Int32} {a_read : Nat → Int32} {f_farHut : Int32} {f_farSinger : Int32} {f_good : Int32} {f_land : Int32} {f_huts : Int32} {f_singers : Int32} {f_evening : Int32} {a_at : Nat → Int32} {a_knows : Nat → Int32} {a_climbed : Nat → Int32} {a_snow : Nat → Int32} {a_level : Nat → Int32} {f_begun : Int32} {f_minute : Int32} {f_avalanches : Int32} {a_run : Nat → Int32} {a_covers : Nat → Int32} {a_routes : Nat → Int32} {a_longest : Nat → Int32} {a_steep : Nat → Int32} {a_laid : Nat → Int32} {a_far : Nat → Int32} {f_sight : Int32} {a_runs : Nat → Int32} {f_choir : Int32} {f_voices : Int32} {a_rest : Nat → Int64} {a_wins : Nat → Int32} {f_seed : Int32} {a_other : Nat → Int32} {a_kept : Nat → Int32} {post : (Nat → Int32) → Prop} {x1 : Int32} {x2 : Int32} {x3 : Int32} {ls : Array Slot} {H : Heap} {locs : List Loc}
    (zc : zC p s m args meth c cX11_copyRow 5 RX11 none)
    (hK : zK E s)
    (hM : mW E q f_code a_tape a_size a_fault a_faultPlace a_many a_lands a_evenings a_sights a_choirs f_reached f_length f_begins f_sort f_value f_word f_wrongAt f_laterFault f_laterPlace a_told a_read f_farHut f_farSinger f_good f_land f_huts f_singers f_evening a_at a_knows a_climbed a_snow a_level f_begun f_minute f_avalanches a_run a_covers a_routes a_longest a_steep a_laid a_far f_sight a_runs f_choir f_voices a_rest a_wins f_seed a_other a_kept H)
    (hS : va_S (mA q) s.heap H locs)
    (hl : lv_has ls 5 [(0, .ref (q + 8)), (1, .int x1), (2, .int x2), (3, .int x3)])
    (hw : q_m_copyRow_8_0 a_sights x1 x2 x3 post) :
    W p l e rm_m_copyRow_8 s m args below meth c H locs 0 0 (MQ below (zQv (S := (Nat → Int32)) (fun u => post u) (fun u H => mW E q f_code a_tape a_size a_fault a_faultPlace a_many a_lands a_evenings u a_choirs f_reached f_length f_begins f_sort f_value f_word f_wrongAt f_laterFault f_laterPlace a_told a_read f_farHut f_farSinger f_good f_land f_huts f_singers f_evening a_at a_knows a_climbed a_snow a_level f_begun f_minute f_avalanches a_run a_covers a_routes a_longest a_steep a_laid a_far f_sight a_runs f_choir f_voices a_rest a_wins f_seed a_other a_kept H) (mA q)) args s 0 0 (mA q)) (F0 m 0 ls []) := by
  have hx := zc.1
  have hb := zc.2.1
  refine lv_iconst (v := (0 : Int32)) hx hb dX11_copyRow_0 (by decide) ?_
  refine lv_istore (lv' := [(4, .int (0 : Int32)), (0, .ref (q + 8)), (1, .int x1), (2, .int x2), (3, .int x3)]) hx hb dX11_copyRow_1 hl (by decide) rfl (fun ls hl => ?_)
  exact t_m_copyRow_8_3 zc hK hM hS  (lv_sub hl [1, 2, 3, 4, 0] rfl) hw
set_option maxRecDepth 20000 in
theorem c_m_copyRow_8 (l : Launch) {E : zE} {q : Nat} {f_code : Int32} {a_tape : Nat → Int32} {a_size : Nat → Int32} {a_fault : Nat → Int32} {a_faultPlace : Nat → Int32} {a_many : Nat → Int32} {a_lands : Nat → Int32} {a_evenings : Nat → Int32} {a_sights : Nat → Int32} {a_choirs : Nat → Int32} {f_reached : Int32} {f_length : Int32} {f_begins : Int32} {f_sort : Int32} {f_value : Int32} {f_word : Int64} {f_wrongAt : Int32} {f_laterFault : Int32} {f_laterPlace : Int32} {a_told : Nat → Int32} {a_read : Nat → Int32} {f_farHut : Int32} {f_farSinger : Int32} {f_good : Int32} {f_land : Int32} {f_huts : Int32} {f_singers : Int32} {f_evening : Int32} {a_at : Nat → Int32} {a_knows : Nat → Int32} {a_climbed : Nat → Int32} {a_snow : Nat → Int32} {a_level : Nat → Int32} {f_begun : Int32} {f_minute : Int32} {f_avalanches : Int32} {a_run : Nat → Int32} {a_covers : Nat → Int32} {a_routes : Nat → Int32} {a_longest : Nat → Int32} {a_steep : Nat → Int32} {a_laid : Nat → Int32} {a_far : Nat → Int32} {f_sight : Int32} {a_runs : Nat → Int32} {f_choir : Int32} {f_voices : Int32} {a_rest : Nat → Int64} {a_wins : Nat → Int32} {f_seed : Int32} {a_other : Nat → Int32} {a_kept : Nat → Int32} {x1 : Int32} {x2 : Int32} {x3 : Int32} {post : (Nat → Int32) → Prop} (hw : q_m_copyRow_8_0 a_sights x1 x2 x3 post) : Met l yX11_copyRow (Cond.code yX11_copyRow cX11_copyRow 5 none :: zb) rm_m_copyRow_8 (va_Pc [.ref (q + 8), .int x1, .int x2, .int x3] (fun U => mW E q f_code a_tape a_size a_fault a_faultPlace a_many a_lands a_evenings a_sights a_choirs f_reached f_length f_begins f_sort f_value f_word f_wrongAt f_laterFault f_laterPlace a_told a_read f_farHut f_farSinger f_good f_land f_huts f_singers f_evening a_at a_knows a_climbed a_snow a_level f_begun f_minute f_avalanches a_run a_covers a_routes a_longest a_steep a_laid a_far f_sight a_runs f_choir f_voices a_rest a_wins f_seed a_other a_kept U.heap ∧ zK E U)) (zQv (S := (Nat → Int32)) (fun u => post u) (fun u H => mW E q f_code a_tape a_size a_fault a_faultPlace a_many a_lands a_evenings u a_choirs f_reached f_length f_begins f_sort f_value f_word f_wrongAt f_laterFault f_laterPlace a_told a_read f_farHut f_farSinger f_good f_land f_huts f_singers f_evening a_at a_knows a_climbed a_snow a_level f_begun f_minute f_avalanches a_run a_covers a_routes a_longest a_steep a_laid a_far f_sight a_runs f_choir f_voices a_rest a_wins f_seed a_other a_kept H) (mA q)) 0 0 (mA q) := by
  refine Met.ofW (cc := cX11_copyRow) (maxL := 5) (ret := none) (by decide) rfl ?_
  intro p e s m args below meth c s₁ B hml hv
  obtain ⟨rfl, hM, hK⟩ := hv
  have zc := zc_of B hml
  have hl := lv_entry ([.ref (q + 8), .int x1, .int x2, .int x3]) (n := 5) (Nat.le_of_ble_eq_true rfl)
  rw [lg_entry_eq]
  generalize (lg_sl ([.ref (q + 8), .int x1, .int x2, .int x3]) ++ List.replicate (5 - (lg_sl ([.ref (q + 8), .int x1, .int x2, .int x3])).length) Slot.unset).toArray = ls at hl ⊢
  have hl : lv_has ls 5 [(0, .ref (q + 8)), (1, .int x1), (2, .int x2), (3, .int x3)] := hl
  exact t_m_copyRow_8_0 zc hK hM va_S.rf (lv_sub hl [0, 1, 2, 3] rfl) hw
-- m_copyRow_9
abbrev rm_m_copyRow_9 : Room := { frames := 0, cells := 0, slots := 0, locals := 0 }
def q_m_copyRow_9_3 (a_choirs : Nat → Int32) (x1 : Int32) (x2 : Int32) (x3 : Int32) (x4 : Int32) (post : (Nat → Int32) → Prop) : Prop :=
  ∀ P3 : Int32 → (Nat → Int32) → Prop, (∀ (x4 : Int32) (a_choirs : Nat → Int32), ((x1 ≤ x4 → (post a_choirs)) ∧ (¬ x1 ≤ x4 → (vp_in ((x1 * x2) + x4) 160 ∧ (∀ v_1 : Int32, v_1 = (a_choirs (Int32.toNatClampNeg ((x1 * x2) + x4))) → (vp_in ((x1 * x3) + x4) 160 ∧ (∀ a_choirs_1 : Nat → Int32, a_choirs_1 = upd a_choirs (Int32.toNatClampNeg ((x1 * x3) + x4)) v_1 → (∀ v_2 : Int32, v_2 = x4 + (1 : Int32) → (P3 v_2 a_choirs_1)))))))) → P3 x4 a_choirs) → P3 x4 a_choirs
def q_m_copyRow_9_0 (a_choirs : Nat → Int32) (x1 : Int32) (x2 : Int32) (x3 : Int32) (post : (Nat → Int32) → Prop) : Prop :=
  q_m_copyRow_9_3 a_choirs x1 x2 x3 (0 : Int32) post
set_option maxRecDepth 20000 in
theorem t_m_copyRow_9_3 {p : Program} {l : Launch} {e : Env} {s : State} {m : MethodId} {args : Array Value} {below : List Frame} {meth : Method} {c : Code} {E : zE} {q : Nat} {f_code : Int32} {a_tape : Nat → Int32} {a_size : Nat → Int32} {a_fault : Nat → Int32} {a_faultPlace : Nat → Int32} {a_many : Nat → Int32} {a_lands : Nat → Int32} {a_evenings : Nat → Int32} {a_sights : Nat → Int32} {a_choirs : Nat → Int32} {f_reached : Int32} {f_length : Int32} {f_begins : Int32} {f_sort : Int32} {f_value : Int32} {f_word : Int64} {f_wrongAt : Int32} {f_laterFault : Int32} {f_laterPlace : Int32} {a_told : Nat → Int32} {a_read : Nat → Int32} {f_farHut : Int32} {f_farSinger : Int32} {f_good : Int32} {f_land : Int32} {f_huts : Int32} {f_singers : Int32} {f_evening : Int32} {a_at : Nat → Int32} {a_knows : Nat → Int32} {a_climbed : Nat → Int32} {a_snow : Nat → Int32} {a_level : Nat → Int32} {f_begun : Int32} {f_minute : Int32} {f_avalanches : Int32} {a_run : Nat → Int32} {a_covers : Nat → Int32} {a_routes : Nat → Int32} {a_longest : Nat → Int32} {a_steep : Nat → Int32} {a_laid : Nat → Int32} {a_far : Nat → Int32} {f_sight : Int32} {a_runs : Nat → Int32} {f_choir : Int32} {f_voices : Int32} {a_rest : Nat → Int64} {a_wins : Nat → Int32} {f_seed : Int32} {a_other : Nat → Int32} {a_kept : Nat → Int32} {post : (Nat → Int32) → Prop} {x1 : Int32} {x2 : Int32} {x3 : Int32} {x4 : Int32} {ls : Array Slot} {H : Heap} {locs : List Loc}
    (zc : zC p s m args meth c cX11_copyRow 5 RX11 none)
    (hK : zK E s)
    (hM : mW E q f_code a_tape a_size a_fault a_faultPlace a_many a_lands a_evenings a_sights a_choirs f_reached f_length f_begins f_sort f_value f_word f_wrongAt f_laterFault f_laterPlace a_told a_read f_farHut f_farSinger f_good f_land f_huts f_singers f_evening a_at a_knows a_climbed a_snow a_level f_begun f_minute f_avalanches a_run a_covers a_routes a_longest a_steep a_laid a_far f_sight a_runs f_choir f_voices a_rest a_wins f_seed a_other a_kept H)
    (hS : va_S (mA q) s.heap H locs)
    (hl : lv_has ls 5 [(0, .ref (q + 9)), (1, .int x1), (2, .int x2), (3, .int x3), (4, .int x4)])
    (hw : q_m_copyRow_9_3 a_choirs x1 x2 x3 x4 post) :
    W p l e rm_m_copyRow_9 s m args below meth c H locs 0 0 (MQ below (zQv (S := (Nat → Int32)) (fun u => post u) (fun u H => mW E q f_code a_tape a_size a_fault a_faultPlace a_many a_lands a_evenings a_sights u f_reached f_length f_begins f_sort f_value f_word f_wrongAt f_laterFault f_laterPlace a_told a_read f_farHut f_farSinger f_good f_land f_huts f_singers f_evening a_at a_knows a_climbed a_snow a_level f_begun f_minute f_avalanches a_run a_covers a_routes a_longest a_steep a_laid a_far f_sight a_runs f_choir f_voices a_rest a_wins f_seed a_other a_kept H) (mA q)) args s 0 0 (mA q)) (F0 m 3 ls []) := by
  have hx := zc.1
  have hb := zc.2.1
  refine hw (fun x4 a_choirs => ∀ (H : Heap) (locs : List Loc) (ls : Array Slot), lv_has ls 5 [(0, .ref (q + 9)), (1, .int x1), (2, .int x2), (3, .int x3), (4, .int x4)] → mW E q f_code a_tape a_size a_fault a_faultPlace a_many a_lands a_evenings a_sights a_choirs f_reached f_length f_begins f_sort f_value f_word f_wrongAt f_laterFault f_laterPlace a_told a_read f_farHut f_farSinger f_good f_land f_huts f_singers f_evening a_at a_knows a_climbed a_snow a_level f_begun f_minute f_avalanches a_run a_covers a_routes a_longest a_steep a_laid a_far f_sight a_runs f_choir f_voices a_rest a_wins f_seed a_other a_kept H → va_S (mA q) s.heap H locs → W p l e rm_m_copyRow_9 s m args below meth c H locs 0 0 (MQ below (zQv (S := (Nat → Int32)) (fun u => post u) (fun u H => mW E q f_code a_tape a_size a_fault a_faultPlace a_many a_lands a_evenings a_sights u f_reached f_length f_begins f_sort f_value f_word f_wrongAt f_laterFault f_laterPlace a_told a_read f_farHut f_farSinger f_good f_land f_huts f_singers f_evening a_at a_knows a_climbed a_snow a_level f_begun f_minute f_avalanches a_run a_covers a_routes a_longest a_steep a_laid a_far f_sight a_runs f_choir f_voices a_rest a_wins f_seed a_other a_kept H) (mA q)) args s 0 0 (mA q)) (F0 m 3 ls [])) ?_ _ _ _ hl hM hS
  intro x4 a_choirs hw H locs ls hl hM hS
  refine lv_iload hx hb dX11_copyRow_3 (lv_at hl 4 rfl) ?_
  refine lv_iload_n hx hb dX11_copyRow_5 rfl (lv_at hl 1 rfl) ?_
  refine lv_icmp_ge (tgt := 31) hx hb dX11_copyRow_6 (by decide) (fun hc => ?_) (fun hc => ?_)
  · have hw := hw.1 hc
    exact zret_vw a_choirs zc hS hw hM dX11_copyRow_31
  · have hw := hw.2 hc
    refine lv_aload_n hx hb dX11_copyRow_9 rfl (lv_at hl 0 rfl) ?_
    refine lv_iload_n hx hb dX11_copyRow_10 rfl (lv_at hl 1 rfl) ?_
    refine lv_iload_n hx hb dX11_copyRow_11 rfl (lv_at hl 3 rfl) ?_
    refine lv_imul hx hb dX11_copyRow_12 ?_
    refine lv_iload hx hb dX11_copyRow_13 (lv_at hl 4 rfl) ?_
    refine lv_iadd hx hb dX11_copyRow_15 ?_
    refine lv_aload_n hx hb dX11_copyRow_16 rfl (lv_at hl 0 rfl) ?_
    refine lv_iload_n hx hb dX11_copyRow_17 rfl (lv_at hl 1 rfl) ?_
    refine lv_iload_n hx hb dX11_copyRow_18 rfl (lv_at hl 2 rfl) ?_
    refine lv_imul hx hb dX11_copyRow_19 ?_
    refine lv_iload hx hb dX11_copyRow_20 (lv_at hl 4 rfl) ?_
    refine lv_iadd hx hb dX11_copyRow_22 ?_
    refine mld_9 zc hK hM hw.1 dX11_copyRow_23 ?_
    have hw := hw.2
    refine lv_topi (fun v_1 ev_1 => ?_)
    have hw := hw v_1 ev_1
    refine mst_9 zc hK hM hS hw.1 dX11_copyRow_24 (fun a_choirs_1 H locs ea_choirs_1 hM hS => ?_)
    have hw := hw.2 a_choirs_1 ea_choirs_1
    obtain ⟨v_2, ev_2⟩ : ∃ y : Int32, y = x4 + (1 : Int32) := ⟨_, rfl⟩
    have hw := hw v_2 ev_2
    refine lv_iinc (v := v_2) (k := 4) (lv' := [(4, .int v_2), (0, .ref (q + 9)), (1, .int x1), (2, .int x2), (3, .int x3)]) hx hb dX11_copyRow_25 hl rfl (by rw [ev_2]; rfl) (by decide) rfl (fun ls hl => ?_)
    refine lv_goto (tgt := 3) hx hb dX11_copyRow_28 (by decide) ?_
    exact hw _ _ _ (lv_sub hl [1, 2, 3, 4, 0] rfl) hM hS
set_option maxRecDepth 20000 in
theorem t_m_copyRow_9_0 {p : Program} {l : Launch} {e : Env} {s : State} {m : MethodId} {args : Array Value} {below : List Frame} {meth : Method} {c : Code} {E : zE} {q : Nat} {f_code : Int32} {a_tape : Nat → Int32} {a_size : Nat → Int32} {a_fault : Nat → Int32} {a_faultPlace : Nat → Int32} {a_many : Nat → Int32} {a_lands : Nat → Int32} {a_evenings : Nat → Int32} {a_sights : Nat → Int32} {a_choirs : Nat → Int32} {f_reached : Int32} {f_length : Int32} {f_begins : Int32} {f_sort : Int32} {f_value : Int32} {f_word : Int64} {f_wrongAt : Int32} {f_laterFault : Int32} {f_laterPlace : Int32} {a_told : Nat → Int32} {a_read : Nat → Int32} {f_farHut : Int32} {f_farSinger : Int32} {f_good : Int32} {f_land : Int32} {f_huts : Int32} {f_singers : Int32} {f_evening : Int32} {a_at : Nat → Int32} {a_knows : Nat → Int32} {a_climbed : Nat → Int32} {a_snow : Nat → Int32} {a_level : Nat → Int32} {f_begun : Int32} {f_minute : Int32} {f_avalanches : Int32} {a_run : Nat → Int32} {a_covers : Nat → Int32} {a_routes : Nat → Int32} {a_longest : Nat → Int32} {a_steep : Nat → Int32} {a_laid : Nat → Int32} {a_far : Nat → Int32} {f_sight : Int32} {a_runs : Nat → Int32} {f_choir : Int32} {f_voices : Int32} {a_rest : Nat → Int64} {a_wins : Nat → Int32} {f_seed : Int32} {a_other : Nat → Int32} {a_kept : Nat → Int32} {post : (Nat → Int32) → Prop} {x1 : Int32} {x2 : Int32} {x3 : Int32} {ls : Array Slot} {H : Heap} {locs : List Loc}
    (zc : zC p s m args meth c cX11_copyRow 5 RX11 none)
    (hK : zK E s)
    (hM : mW E q f_code a_tape a_size a_fault a_faultPlace a_many a_lands a_evenings a_sights a_choirs f_reached f_length f_begins f_sort f_value f_word f_wrongAt f_laterFault f_laterPlace a_told a_read f_farHut f_farSinger f_good f_land f_huts f_singers f_evening a_at a_knows a_climbed a_snow a_level f_begun f_minute f_avalanches a_run a_covers a_routes a_longest a_steep a_laid a_far f_sight a_runs f_choir f_voices a_rest a_wins f_seed a_other a_kept H)
    (hS : va_S (mA q) s.heap H locs)
    (hl : lv_has ls 5 [(0, .ref (q + 9)), (1, .int x1), (2, .int x2), (3, .int x3)])
    (hw : q_m_copyRow_9_0 a_choirs x1 x2 x3 post) :
    W p l e rm_m_copyRow_9 s m args below meth c H locs 0 0 (MQ below (zQv (S := (Nat → Int32)) (fun u => post u) (fun u H => mW E q f_code a_tape a_size a_fault a_faultPlace a_many a_lands a_evenings a_sights u f_reached f_length f_begins f_sort f_value f_word f_wrongAt f_laterFault f_laterPlace a_told a_read f_farHut f_farSinger f_good f_land f_huts f_singers f_evening a_at a_knows a_climbed a_snow a_level f_begun f_minute f_avalanches a_run a_covers a_routes a_longest a_steep a_laid a_far f_sight a_runs f_choir f_voices a_rest a_wins f_seed a_other a_kept H) (mA q)) args s 0 0 (mA q)) (F0 m 0 ls []) := by
  have hx := zc.1
  have hb := zc.2.1
  refine lv_iconst (v := (0 : Int32)) hx hb dX11_copyRow_0 (by decide) ?_
  refine lv_istore (lv' := [(4, .int (0 : Int32)), (0, .ref (q + 9)), (1, .int x1), (2, .int x2), (3, .int x3)]) hx hb dX11_copyRow_1 hl (by decide) rfl (fun ls hl => ?_)
  exact t_m_copyRow_9_3 zc hK hM hS  (lv_sub hl [1, 2, 3, 4, 0] rfl) hw
set_option maxRecDepth 20000 in
theorem c_m_copyRow_9 (l : Launch) {E : zE} {q : Nat} {f_code : Int32} {a_tape : Nat → Int32} {a_size : Nat → Int32} {a_fault : Nat → Int32} {a_faultPlace : Nat → Int32} {a_many : Nat → Int32} {a_lands : Nat → Int32} {a_evenings : Nat → Int32} {a_sights : Nat → Int32} {a_choirs : Nat → Int32} {f_reached : Int32} {f_length : Int32} {f_begins : Int32} {f_sort : Int32} {f_value : Int32} {f_word : Int64} {f_wrongAt : Int32} {f_laterFault : Int32} {f_laterPlace : Int32} {a_told : Nat → Int32} {a_read : Nat → Int32} {f_farHut : Int32} {f_farSinger : Int32} {f_good : Int32} {f_land : Int32} {f_huts : Int32} {f_singers : Int32} {f_evening : Int32} {a_at : Nat → Int32} {a_knows : Nat → Int32} {a_climbed : Nat → Int32} {a_snow : Nat → Int32} {a_level : Nat → Int32} {f_begun : Int32} {f_minute : Int32} {f_avalanches : Int32} {a_run : Nat → Int32} {a_covers : Nat → Int32} {a_routes : Nat → Int32} {a_longest : Nat → Int32} {a_steep : Nat → Int32} {a_laid : Nat → Int32} {a_far : Nat → Int32} {f_sight : Int32} {a_runs : Nat → Int32} {f_choir : Int32} {f_voices : Int32} {a_rest : Nat → Int64} {a_wins : Nat → Int32} {f_seed : Int32} {a_other : Nat → Int32} {a_kept : Nat → Int32} {x1 : Int32} {x2 : Int32} {x3 : Int32} {post : (Nat → Int32) → Prop} (hw : q_m_copyRow_9_0 a_choirs x1 x2 x3 post) : Met l yX11_copyRow (Cond.code yX11_copyRow cX11_copyRow 5 none :: zb) rm_m_copyRow_9 (va_Pc [.ref (q + 9), .int x1, .int x2, .int x3] (fun U => mW E q f_code a_tape a_size a_fault a_faultPlace a_many a_lands a_evenings a_sights a_choirs f_reached f_length f_begins f_sort f_value f_word f_wrongAt f_laterFault f_laterPlace a_told a_read f_farHut f_farSinger f_good f_land f_huts f_singers f_evening a_at a_knows a_climbed a_snow a_level f_begun f_minute f_avalanches a_run a_covers a_routes a_longest a_steep a_laid a_far f_sight a_runs f_choir f_voices a_rest a_wins f_seed a_other a_kept U.heap ∧ zK E U)) (zQv (S := (Nat → Int32)) (fun u => post u) (fun u H => mW E q f_code a_tape a_size a_fault a_faultPlace a_many a_lands a_evenings a_sights u f_reached f_length f_begins f_sort f_value f_word f_wrongAt f_laterFault f_laterPlace a_told a_read f_farHut f_farSinger f_good f_land f_huts f_singers f_evening a_at a_knows a_climbed a_snow a_level f_begun f_minute f_avalanches a_run a_covers a_routes a_longest a_steep a_laid a_far f_sight a_runs f_choir f_voices a_rest a_wins f_seed a_other a_kept H) (mA q)) 0 0 (mA q) := by
  refine Met.ofW (cc := cX11_copyRow) (maxL := 5) (ret := none) (by decide) rfl ?_
  intro p e s m args below meth c s₁ B hml hv
  obtain ⟨rfl, hM, hK⟩ := hv
  have zc := zc_of B hml
  have hl := lv_entry ([.ref (q + 9), .int x1, .int x2, .int x3]) (n := 5) (Nat.le_of_ble_eq_true rfl)
  rw [lg_entry_eq]
  generalize (lg_sl ([.ref (q + 9), .int x1, .int x2, .int x3]) ++ List.replicate (5 - (lg_sl ([.ref (q + 9), .int x1, .int x2, .int x3])).length) Slot.unset).toArray = ls at hl ⊢
  have hl : lv_has ls 5 [(0, .ref (q + 9)), (1, .int x1), (2, .int x2), (3, .int x3)] := hl
  exact t_m_copyRow_9_0 zc hK hM va_S.rf (lv_sub hl [0, 1, 2, 3] rfl) hw
-- m_copyAll
abbrev rm_m_copyAll : Room := { frames := 1, cells := 0, slots := 0, locals := 24 }
def q_m_copyAll_2 (a_tape : Nat → Int32) (a_size : Nat → Int32) (a_fault : Nat → Int32) (a_faultPlace : Nat → Int32) (a_many : Nat → Int32) (a_lands : Nat → Int32) (a_evenings : Nat → Int32) (a_sights : Nat → Int32) (a_choirs : Nat → Int32) (x1 : Int32) (x2 : Int32) (x3 : Int32) (post : (Nat → Int32) → (Nat → Int32) → (Nat → Int32) → (Nat → Int32) → (Nat → Int32) → (Nat → Int32) → (Nat → Int32) → (Nat → Int32) → (Nat → Int32) → Prop) : Prop :=
  ∀ P2 : Int32 → (Nat → Int32) → Prop, (∀ (x3 : Int32) (a_tape : Nat → Int32), (((600 : Int32) ≤ x3 → (q_m_copyRow_2_0 a_size (1 : Int32) x1 x2 (fun a_size_1 => q_m_copyRow_3_0 a_fault (1 : Int32) x1 x2 (fun a_fault_1 => q_m_copyRow_4_0 a_faultPlace (1 : Int32) x1 x2 (fun a_faultPlace_1 => q_m_copyRow_5_0 a_many (4 : Int32) x1 x2 (fun a_many_1 => q_m_copyRow_6_0 a_lands (264 : Int32) x1 x2 (fun a_lands_1 => q_m_copyRow_7_0 a_evenings (242 : Int32) x1 x2 (fun a_evenings_1 => q_m_copyRow_8_0 a_sights (62 : Int32) x1 x2 (fun a_sights_1 => q_m_copyRow_9_0 a_choirs (40 : Int32) x1 x2 (fun a_choirs_1 => post a_tape a_size_1 a_fault_1 a_faultPlace_1 a_many_1 a_lands_1 a_evenings_1 a_sights_1 a_choirs_1)))))))))) ∧ (¬ (600 : Int32) ≤ x3 → (vp_in (((600 : Int32) * x1) + x3) 2400 ∧ (∀ v_1 : Int32, v_1 = (a_tape (Int32.toNatClampNeg (((600 : Int32) * x1) + x3))) → (vp_in (((600 : Int32) * x2) + x3) 2400 ∧ (∀ a_tape_1 : Nat → Int32, a_tape_1 = upd a_tape (Int32.toNatClampNeg (((600 : Int32) * x2) + x3)) (vp_nar .byte v_1) → (∀ v_2 : Int32, v_2 = x3 + (1 : Int32) → (P2 v_2 a_tape_1)))))))) → P2 x3 a_tape) → P2 x3 a_tape
def q_m_copyAll_0 (a_tape : Nat → Int32) (a_size : Nat → Int32) (a_fault : Nat → Int32) (a_faultPlace : Nat → Int32) (a_many : Nat → Int32) (a_lands : Nat → Int32) (a_evenings : Nat → Int32) (a_sights : Nat → Int32) (a_choirs : Nat → Int32) (x1 : Int32) (x2 : Int32) (post : (Nat → Int32) → (Nat → Int32) → (Nat → Int32) → (Nat → Int32) → (Nat → Int32) → (Nat → Int32) → (Nat → Int32) → (Nat → Int32) → (Nat → Int32) → Prop) : Prop :=
  q_m_copyAll_2 a_tape a_size a_fault a_faultPlace a_many a_lands a_evenings a_sights a_choirs x1 x2 (0 : Int32) post
set_option maxRecDepth 20000 in
theorem t_m_copyAll_2 {p : Program} {l : Launch} {e : Env} {s : State} {m : MethodId} {args : Array Value} {below : List Frame} {meth : Method} {c : Code} {E : zE} {q : Nat} {f_code : Int32} {a_tape : Nat → Int32} {a_size : Nat → Int32} {a_fault : Nat → Int32} {a_faultPlace : Nat → Int32} {a_many : Nat → Int32} {a_lands : Nat → Int32} {a_evenings : Nat → Int32} {a_sights : Nat → Int32} {a_choirs : Nat → Int32} {f_reached : Int32} {f_length : Int32} {f_begins : Int32} {f_sort : Int32} {f_value : Int32} {f_word : Int64} {f_wrongAt : Int32} {f_laterFault : Int32} {f_laterPlace : Int32} {a_told : Nat → Int32} {a_read : Nat → Int32} {f_farHut : Int32} {f_farSinger : Int32} {f_good : Int32} {f_land : Int32} {f_huts : Int32} {f_singers : Int32} {f_evening : Int32} {a_at : Nat → Int32} {a_knows : Nat → Int32} {a_climbed : Nat → Int32} {a_snow : Nat → Int32} {a_level : Nat → Int32} {f_begun : Int32} {f_minute : Int32} {f_avalanches : Int32} {a_run : Nat → Int32} {a_covers : Nat → Int32} {a_routes : Nat → Int32} {a_longest : Nat → Int32} {a_steep : Nat → Int32} {a_laid : Nat → Int32} {a_far : Nat → Int32} {f_sight : Int32} {a_runs : Nat → Int32} {f_choir : Int32} {f_voices : Int32} {a_rest : Nat → Int64} {a_wins : Nat → Int32} {f_seed : Int32} {a_other : Nat → Int32} {a_kept : Nat → Int32} {post : (Nat → Int32) → (Nat → Int32) → (Nat → Int32) → (Nat → Int32) → (Nat → Int32) → (Nat → Int32) → (Nat → Int32) → (Nat → Int32) → (Nat → Int32) → Prop} {x1 : Int32} {x2 : Int32} {x3 : Int32} {ls : Array Slot} {H : Heap} {locs : List Loc}
    (zc : zC p s m args meth c cX11_copyAll 4 RX11 none)
    (hK : zK E s)
    (hM : mW E q f_code a_tape a_size a_fault a_faultPlace a_many a_lands a_evenings a_sights a_choirs f_reached f_length f_begins f_sort f_value f_word f_wrongAt f_laterFault f_laterPlace a_told a_read f_farHut f_farSinger f_good f_land f_huts f_singers f_evening a_at a_knows a_climbed a_snow a_level f_begun f_minute f_avalanches a_run a_covers a_routes a_longest a_steep a_laid a_far f_sight a_runs f_choir f_voices a_rest a_wins f_seed a_other a_kept H)
    (hS : va_S (mA q) s.heap H locs)
    (hl : lv_has ls 4 [(0, .ref q), (1, .int x1), (2, .int x2), (3, .int x3)])
    (hw : q_m_copyAll_2 a_tape a_size a_fault a_faultPlace a_many a_lands a_evenings a_sights a_choirs x1 x2 x3 post) :
    W p l e rm_m_copyAll s m args below meth c H locs 0 0 (MQ below (zQv (S := (Nat → Int32) × (Nat → Int32) × (Nat → Int32) × (Nat → Int32) × (Nat → Int32) × (Nat → Int32) × (Nat → Int32) × (Nat → Int32) × (Nat → Int32)) (fun u => post u.1 u.2.1 u.2.2.1 u.2.2.2.1 u.2.2.2.2.1 u.2.2.2.2.2.1 u.2.2.2.2.2.2.1 u.2.2.2.2.2.2.2.1 u.2.2.2.2.2.2.2.2) (fun u H => mW E q f_code u.1 u.2.1 u.2.2.1 u.2.2.2.1 u.2.2.2.2.1 u.2.2.2.2.2.1 u.2.2.2.2.2.2.1 u.2.2.2.2.2.2.2.1 u.2.2.2.2.2.2.2.2 f_reached f_length f_begins f_sort f_value f_word f_wrongAt f_laterFault f_laterPlace a_told a_read f_farHut f_farSinger f_good f_land f_huts f_singers f_evening a_at a_knows a_climbed a_snow a_level f_begun f_minute f_avalanches a_run a_covers a_routes a_longest a_steep a_laid a_far f_sight a_runs f_choir f_voices a_rest a_wins f_seed a_other a_kept H) (mA q)) args s 0 0 (mA q)) (F0 m 2 ls []) := by
  have hx := zc.1
  have hb := zc.2.1
  refine hw (fun x3 a_tape => ∀ (H : Heap) (locs : List Loc) (ls : Array Slot), lv_has ls 4 [(0, .ref q), (1, .int x1), (2, .int x2), (3, .int x3)] → mW E q f_code a_tape a_size a_fault a_faultPlace a_many a_lands a_evenings a_sights a_choirs f_reached f_length f_begins f_sort f_value f_word f_wrongAt f_laterFault f_laterPlace a_told a_read f_farHut f_farSinger f_good f_land f_huts f_singers f_evening a_at a_knows a_climbed a_snow a_level f_begun f_minute f_avalanches a_run a_covers a_routes a_longest a_steep a_laid a_far f_sight a_runs f_choir f_voices a_rest a_wins f_seed a_other a_kept H → va_S (mA q) s.heap H locs → W p l e rm_m_copyAll s m args below meth c H locs 0 0 (MQ below (zQv (S := (Nat → Int32) × (Nat → Int32) × (Nat → Int32) × (Nat → Int32) × (Nat → Int32) × (Nat → Int32) × (Nat → Int32) × (Nat → Int32) × (Nat → Int32)) (fun u => post u.1 u.2.1 u.2.2.1 u.2.2.2.1 u.2.2.2.2.1 u.2.2.2.2.2.1 u.2.2.2.2.2.2.1 u.2.2.2.2.2.2.2.1 u.2.2.2.2.2.2.2.2) (fun u H => mW E q f_code u.1 u.2.1 u.2.2.1 u.2.2.2.1 u.2.2.2.2.1 u.2.2.2.2.2.1 u.2.2.2.2.2.2.1 u.2.2.2.2.2.2.2.1 u.2.2.2.2.2.2.2.2 f_reached f_length f_begins f_sort f_value f_word f_wrongAt f_laterFault f_laterPlace a_told a_read f_farHut f_farSinger f_good f_land f_huts f_singers f_evening a_at a_knows a_climbed a_snow a_level f_begun f_minute f_avalanches a_run a_covers a_routes a_longest a_steep a_laid a_far f_sight a_runs f_choir f_voices a_rest a_wins f_seed a_other a_kept H) (mA q)) args s 0 0 (mA q)) (F0 m 2 ls [])) ?_ _ _ _ hl hM hS
  intro x3 a_tape hw H locs ls hl hM hS
  refine lv_iload_n hx hb dX11_copyAll_2 rfl (lv_at hl 3 rfl) ?_
  refine lv_sipush (v := (600 : Int32)) hx hb dX11_copyAll_3 (by decide) ?_
  refine lv_icmp_ge (tgt := 39) hx hb dX11_copyAll_6 (by decide) (fun hc => ?_) (fun hc => ?_)
  · have hw := hw.1 hc
    refine lv_aload_n hx hb dX11_copyAll_39 rfl (lv_at hl 0 rfl) ?_
    refine mg_11_13_0 zc hK hM dX11_copyAll_40 ?_
    refine lv_iconst (v := (1 : Int32)) hx hb dX11_copyAll_43 (by decide) ?_
    refine lv_iload_n hx hb dX11_copyAll_44 rfl (lv_at hl 1 rfl) ?_
    refine lv_iload_n hx hb dX11_copyAll_45 rfl (lv_at hl 2 rfl) ?_
    refine zSw_v [.ref (q + 2), .int (1 : Int32), .int x1, .int x2] [] zc ky_X11_copyRow kz_X11_copyRow km_11_105 (c_m_copyRow_2 l hw) (mPreS hK hM) hS rfl rfl hl.1 (Nat.le_of_ble_eq_true rfl) ⟨rfl, rfl⟩ ⟨Nat.le_of_ble_eq_true rfl, Nat.le_of_ble_eq_true rfl⟩ ⟨(Nat.zero_le _), (Nat.zero_le _)⟩ dX11_copyAll_46 (fun a_size_1 H locs hw hM hS => ?_)
    refine lv_aload_n hx hb dX11_copyAll_49 rfl (lv_at hl 0 rfl) ?_
    refine mg_11_17_0 zc hK hM dX11_copyAll_50 ?_
    refine lv_iconst (v := (1 : Int32)) hx hb dX11_copyAll_53 (by decide) ?_
    refine lv_iload_n hx hb dX11_copyAll_54 rfl (lv_at hl 1 rfl) ?_
    refine lv_iload_n hx hb dX11_copyAll_55 rfl (lv_at hl 2 rfl) ?_
    refine zSw_v [.ref (q + 3), .int (1 : Int32), .int x1, .int x2] [] zc ky_X11_copyRow kz_X11_copyRow km_11_105 (c_m_copyRow_3 l hw) (mPreS hK hM) hS rfl rfl hl.1 (Nat.le_of_ble_eq_true rfl) ⟨rfl, rfl⟩ ⟨Nat.le_of_ble_eq_true rfl, Nat.le_of_ble_eq_true rfl⟩ ⟨(Nat.zero_le _), (Nat.zero_le _)⟩ dX11_copyAll_56 (fun a_fault_1 H locs hw hM hS => ?_)
    refine lv_aload_n hx hb dX11_copyAll_59 rfl (lv_at hl 0 rfl) ?_
    refine mg_11_20_0 zc hK hM dX11_copyAll_60 ?_
    refine lv_iconst (v := (1 : Int32)) hx hb dX11_copyAll_63 (by decide) ?_
    refine lv_iload_n hx hb dX11_copyAll_64 rfl (lv_at hl 1 rfl) ?_
    refine lv_iload_n hx hb dX11_copyAll_65 rfl (lv_at hl 2 rfl) ?_
    refine zSw_v [.ref (q + 4), .int (1 : Int32), .int x1, .int x2] [] zc ky_X11_copyRow kz_X11_copyRow km_11_105 (c_m_copyRow_4 l hw) (mPreS hK hM) hS rfl rfl hl.1 (Nat.le_of_ble_eq_true rfl) ⟨rfl, rfl⟩ ⟨Nat.le_of_ble_eq_true rfl, Nat.le_of_ble_eq_true rfl⟩ ⟨(Nat.zero_le _), (Nat.zero_le _)⟩ dX11_copyAll_66 (fun a_faultPlace_1 H locs hw hM hS => ?_)
    refine lv_aload_n hx hb dX11_copyAll_69 rfl (lv_at hl 0 rfl) ?_
    refine mg_11_23_0 zc hK hM dX11_copyAll_70 ?_
    refine lv_iconst (v := (4 : Int32)) hx hb dX11_copyAll_73 (by decide) ?_
    refine lv_iload_n hx hb dX11_copyAll_74 rfl (lv_at hl 1 rfl) ?_
    refine lv_iload_n hx hb dX11_copyAll_75 rfl (lv_at hl 2 rfl) ?_
    refine zSw_v [.ref (q + 5), .int (4 : Int32), .int x1, .int x2] [] zc ky_X11_copyRow kz_X11_copyRow km_11_105 (c_m_copyRow_5 l hw) (mPreS hK hM) hS rfl rfl hl.1 (Nat.le_of_ble_eq_true rfl) ⟨rfl, rfl⟩ ⟨Nat.le_of_ble_eq_true rfl, Nat.le_of_ble_eq_true rfl⟩ ⟨(Nat.zero_le _), (Nat.zero_le _)⟩ dX11_copyAll_76 (fun a_many_1 H locs hw hM hS => ?_)
    refine lv_aload_n hx hb dX11_copyAll_79 rfl (lv_at hl 0 rfl) ?_
    refine mg_11_26_0 zc hK hM dX11_copyAll_80 ?_
    refine lv_sipush (v := (264 : Int32)) hx hb dX11_copyAll_83 (by decide) ?_
    refine lv_iload_n hx hb dX11_copyAll_86 rfl (lv_at hl 1 rfl) ?_
    refine lv_iload_n hx hb dX11_copyAll_87 rfl (lv_at hl 2 rfl) ?_
    refine zSw_v [.ref (q + 6), .int (264 : Int32), .int x1, .int x2] [] zc ky_X11_copyRow kz_X11_copyRow km_11_105 (c_m_copyRow_6 l hw) (mPreS hK hM) hS rfl rfl hl.1 (Nat.le_of_ble_eq_true rfl) ⟨rfl, rfl⟩ ⟨Nat.le_of_ble_eq_true rfl, Nat.le_of_ble_eq_true rfl⟩ ⟨(Nat.zero_le _), (Nat.zero_le _)⟩ dX11_copyAll_88 (fun a_lands_1 H locs hw hM hS => ?_)
    refine lv_aload_n hx hb dX11_copyAll_91 rfl (lv_at hl 0 rfl) ?_
    refine mg_11_29_0 zc hK hM dX11_copyAll_92 ?_
    refine lv_sipush (v := (242 : Int32)) hx hb dX11_copyAll_95 (by decide) ?_
    refine lv_iload_n hx hb dX11_copyAll_98 rfl (lv_at hl 1 rfl) ?_
    refine lv_iload_n hx hb dX11_copyAll_99 rfl (lv_at hl 2 rfl) ?_
    refine zSw_v [.ref (q + 7), .int (242 : Int32), .int x1, .int x2] [] zc ky_X11_copyRow kz_X11_copyRow km_11_105 (c_m_copyRow_7 l hw) (mPreS hK hM) hS rfl rfl hl.1 (Nat.le_of_ble_eq_true rfl) ⟨rfl, rfl⟩ ⟨Nat.le_of_ble_eq_true rfl, Nat.le_of_ble_eq_true rfl⟩ ⟨(Nat.zero_le _), (Nat.zero_le _)⟩ dX11_copyAll_100 (fun a_evenings_1 H locs hw hM hS => ?_)
    refine lv_aload_n hx hb dX11_copyAll_103 rfl (lv_at hl 0 rfl) ?_
    refine mg_11_32_0 zc hK hM dX11_copyAll_104 ?_
    refine lv_bipush (v := (62 : Int32)) hx hb dX11_copyAll_107 (by decide) ?_
    refine lv_iload_n hx hb dX11_copyAll_109 rfl (lv_at hl 1 rfl) ?_
    refine lv_iload_n hx hb dX11_copyAll_110 rfl (lv_at hl 2 rfl) ?_
    refine zSw_v [.ref (q + 8), .int (62 : Int32), .int x1, .int x2] [] zc ky_X11_copyRow kz_X11_copyRow km_11_105 (c_m_copyRow_8 l hw) (mPreS hK hM) hS rfl rfl hl.1 (Nat.le_of_ble_eq_true rfl) ⟨rfl, rfl⟩ ⟨Nat.le_of_ble_eq_true rfl, Nat.le_of_ble_eq_true rfl⟩ ⟨(Nat.zero_le _), (Nat.zero_le _)⟩ dX11_copyAll_111 (fun a_sights_1 H locs hw hM hS => ?_)
    refine lv_aload_n hx hb dX11_copyAll_114 rfl (lv_at hl 0 rfl) ?_
    refine mg_11_35_0 zc hK hM dX11_copyAll_115 ?_
    refine lv_bipush (v := (40 : Int32)) hx hb dX11_copyAll_118 (by decide) ?_
    refine lv_iload_n hx hb dX11_copyAll_120 rfl (lv_at hl 1 rfl) ?_
    refine lv_iload_n hx hb dX11_copyAll_121 rfl (lv_at hl 2 rfl) ?_
    refine zSw_v [.ref (q + 9), .int (40 : Int32), .int x1, .int x2] [] zc ky_X11_copyRow kz_X11_copyRow km_11_105 (c_m_copyRow_9 l hw) (mPreS hK hM) hS rfl rfl hl.1 (Nat.le_of_ble_eq_true rfl) ⟨rfl, rfl⟩ ⟨Nat.le_of_ble_eq_true rfl, Nat.le_of_ble_eq_true rfl⟩ ⟨(Nat.zero_le _), (Nat.zero_le _)⟩ dX11_copyAll_122 (fun a_choirs_1 H locs hw hM hS => ?_)
    exact zret_vw ⟨a_tape, a_size_1, a_fault_1, a_faultPlace_1, a_many_1, a_lands_1, a_evenings_1, a_sights_1, a_choirs_1⟩ zc hS hw hM dX11_copyAll_125
  · have hw := hw.2 hc
    refine lv_aload_n hx hb dX11_copyAll_9 rfl (lv_at hl 0 rfl) ?_
    refine mg_11_7_0 zc hK hM dX11_copyAll_10 ?_
    refine lv_sipush (v := (600 : Int32)) hx hb dX11_copyAll_13 (by decide) ?_
    refine lv_iload_n hx hb dX11_copyAll_16 rfl (lv_at hl 2 rfl) ?_
    refine lv_imul hx hb dX11_copyAll_17 ?_
    refine lv_iload_n hx hb dX11_copyAll_18 rfl (lv_at hl 3 rfl) ?_
    refine lv_iadd hx hb dX11_copyAll_19 ?_
    refine lv_aload_n hx hb dX11_copyAll_20 rfl (lv_at hl 0 rfl) ?_
    refine mg_11_7_0 zc hK hM dX11_copyAll_21 ?_
    refine lv_sipush (v := (600 : Int32)) hx hb dX11_copyAll_24 (by decide) ?_
    refine lv_iload_n hx hb dX11_copyAll_27 rfl (lv_at hl 1 rfl) ?_
    refine lv_imul hx hb dX11_copyAll_28 ?_
    refine lv_iload_n hx hb dX11_copyAll_29 rfl (lv_at hl 3 rfl) ?_
    refine lv_iadd hx hb dX11_copyAll_30 ?_
    refine mld_1 zc hK hM hw.1 dX11_copyAll_31 ?_
    have hw := hw.2
    refine lv_topi (fun v_1 ev_1 => ?_)
    have hw := hw v_1 ev_1
    refine mst_1 zc hK hM hS hw.1 dX11_copyAll_32 (fun a_tape_1 H locs ea_tape_1 hM hS => ?_)
    have hw := hw.2 a_tape_1 ea_tape_1
    obtain ⟨v_2, ev_2⟩ : ∃ y : Int32, y = x3 + (1 : Int32) := ⟨_, rfl⟩
    have hw := hw v_2 ev_2
    refine lv_iinc (v := v_2) (k := 3) (lv' := [(3, .int v_2), (0, .ref q), (1, .int x1), (2, .int x2)]) hx hb dX11_copyAll_33 hl rfl (by rw [ev_2]; rfl) (by decide) rfl (fun ls hl => ?_)
    refine lv_goto (tgt := 2) hx hb dX11_copyAll_36 (by decide) ?_
    exact hw _ _ _ (lv_sub hl [1, 2, 3, 0] rfl) hM hS
set_option maxRecDepth 20000 in
theorem t_m_copyAll_0 {p : Program} {l : Launch} {e : Env} {s : State} {m : MethodId} {args : Array Value} {below : List Frame} {meth : Method} {c : Code} {E : zE} {q : Nat} {f_code : Int32} {a_tape : Nat → Int32} {a_size : Nat → Int32} {a_fault : Nat → Int32} {a_faultPlace : Nat → Int32} {a_many : Nat → Int32} {a_lands : Nat → Int32} {a_evenings : Nat → Int32} {a_sights : Nat → Int32} {a_choirs : Nat → Int32} {f_reached : Int32} {f_length : Int32} {f_begins : Int32} {f_sort : Int32} {f_value : Int32} {f_word : Int64} {f_wrongAt : Int32} {f_laterFault : Int32} {f_laterPlace : Int32} {a_told : Nat → Int32} {a_read : Nat → Int32} {f_farHut : Int32} {f_farSinger : Int32} {f_good : Int32} {f_land : Int32} {f_huts : Int32} {f_singers : Int32} {f_evening : Int32} {a_at : Nat → Int32} {a_knows : Nat → Int32} {a_climbed : Nat → Int32} {a_snow : Nat → Int32} {a_level : Nat → Int32} {f_begun : Int32} {f_minute : Int32} {f_avalanches : Int32} {a_run : Nat → Int32} {a_covers : Nat → Int32} {a_routes : Nat → Int32} {a_longest : Nat → Int32} {a_steep : Nat → Int32} {a_laid : Nat → Int32} {a_far : Nat → Int32} {f_sight : Int32} {a_runs : Nat → Int32} {f_choir : Int32} {f_voices : Int32} {a_rest : Nat → Int64} {a_wins : Nat → Int32} {f_seed : Int32} {a_other : Nat → Int32} {a_kept : Nat → Int32} {post : (Nat → Int32) → (Nat → Int32) → (Nat → Int32) → (Nat → Int32) → (Nat → Int32) → (Nat → Int32) → (Nat → Int32) → (Nat → Int32) → (Nat → Int32) → Prop} {x1 : Int32} {x2 : Int32} {ls : Array Slot} {H : Heap} {locs : List Loc}
    (zc : zC p s m args meth c cX11_copyAll 4 RX11 none)
    (hK : zK E s)
    (hM : mW E q f_code a_tape a_size a_fault a_faultPlace a_many a_lands a_evenings a_sights a_choirs f_reached f_length f_begins f_sort f_value f_word f_wrongAt f_laterFault f_laterPlace a_told a_read f_farHut f_farSinger f_good f_land f_huts f_singers f_evening a_at a_knows a_climbed a_snow a_level f_begun f_minute f_avalanches a_run a_covers a_routes a_longest a_steep a_laid a_far f_sight a_runs f_choir f_voices a_rest a_wins f_seed a_other a_kept H)
    (hS : va_S (mA q) s.heap H locs)
    (hl : lv_has ls 4 [(0, .ref q), (1, .int x1), (2, .int x2)])
    (hw : q_m_copyAll_0 a_tape a_size a_fault a_faultPlace a_many a_lands a_evenings a_sights a_choirs x1 x2 post) :
    W p l e rm_m_copyAll s m args below meth c H locs 0 0 (MQ below (zQv (S := (Nat → Int32) × (Nat → Int32) × (Nat → Int32) × (Nat → Int32) × (Nat → Int32) × (Nat → Int32) × (Nat → Int32) × (Nat → Int32) × (Nat → Int32)) (fun u => post u.1 u.2.1 u.2.2.1 u.2.2.2.1 u.2.2.2.2.1 u.2.2.2.2.2.1 u.2.2.2.2.2.2.1 u.2.2.2.2.2.2.2.1 u.2.2.2.2.2.2.2.2) (fun u H => mW E q f_code u.1 u.2.1 u.2.2.1 u.2.2.2.1 u.2.2.2.2.1 u.2.2.2.2.2.1 u.2.2.2.2.2.2.1 u.2.2.2.2.2.2.2.1 u.2.2.2.2.2.2.2.2 f_reached f_length f_begins f_sort f_value f_word f_wrongAt f_laterFault f_laterPlace a_told a_read f_farHut f_farSinger f_good f_land f_huts f_singers f_evening a_at a_knows a_climbed a_snow a_level f_begun f_minute f_avalanches a_run a_covers a_routes a_longest a_steep a_laid a_far f_sight a_runs f_choir f_voices a_rest a_wins f_seed a_other a_kept H) (mA q)) args s 0 0 (mA q)) (F0 m 0 ls []) := by
  have hx := zc.1
  have hb := zc.2.1
  refine lv_iconst (v := (0 : Int32)) hx hb dX11_copyAll_0 (by decide) ?_
  refine lv_istore_n (lv' := [(3, .int (0 : Int32)), (0, .ref q), (1, .int x1), (2, .int x2)]) hx hb dX11_copyAll_1 rfl hl (by decide) rfl (fun ls hl => ?_)
  exact t_m_copyAll_2 zc hK hM hS  (lv_sub hl [1, 2, 3, 0] rfl) hw
set_option maxRecDepth 20000 in
theorem c_m_copyAll (l : Launch) {E : zE} {q : Nat} {f_code : Int32} {a_tape : Nat → Int32} {a_size : Nat → Int32} {a_fault : Nat → Int32} {a_faultPlace : Nat → Int32} {a_many : Nat → Int32} {a_lands : Nat → Int32} {a_evenings : Nat → Int32} {a_sights : Nat → Int32} {a_choirs : Nat → Int32} {f_reached : Int32} {f_length : Int32} {f_begins : Int32} {f_sort : Int32} {f_value : Int32} {f_word : Int64} {f_wrongAt : Int32} {f_laterFault : Int32} {f_laterPlace : Int32} {a_told : Nat → Int32} {a_read : Nat → Int32} {f_farHut : Int32} {f_farSinger : Int32} {f_good : Int32} {f_land : Int32} {f_huts : Int32} {f_singers : Int32} {f_evening : Int32} {a_at : Nat → Int32} {a_knows : Nat → Int32} {a_climbed : Nat → Int32} {a_snow : Nat → Int32} {a_level : Nat → Int32} {f_begun : Int32} {f_minute : Int32} {f_avalanches : Int32} {a_run : Nat → Int32} {a_covers : Nat → Int32} {a_routes : Nat → Int32} {a_longest : Nat → Int32} {a_steep : Nat → Int32} {a_laid : Nat → Int32} {a_far : Nat → Int32} {f_sight : Int32} {a_runs : Nat → Int32} {f_choir : Int32} {f_voices : Int32} {a_rest : Nat → Int64} {a_wins : Nat → Int32} {f_seed : Int32} {a_other : Nat → Int32} {a_kept : Nat → Int32} {x1 : Int32} {x2 : Int32} {post : (Nat → Int32) → (Nat → Int32) → (Nat → Int32) → (Nat → Int32) → (Nat → Int32) → (Nat → Int32) → (Nat → Int32) → (Nat → Int32) → (Nat → Int32) → Prop} (hw : q_m_copyAll_0 a_tape a_size a_fault a_faultPlace a_many a_lands a_evenings a_sights a_choirs x1 x2 post) : Met l yX11_copyAll (Cond.code yX11_copyAll cX11_copyAll 4 none :: zb) rm_m_copyAll (va_Pc [.ref q, .int x1, .int x2] (fun U => mW E q f_code a_tape a_size a_fault a_faultPlace a_many a_lands a_evenings a_sights a_choirs f_reached f_length f_begins f_sort f_value f_word f_wrongAt f_laterFault f_laterPlace a_told a_read f_farHut f_farSinger f_good f_land f_huts f_singers f_evening a_at a_knows a_climbed a_snow a_level f_begun f_minute f_avalanches a_run a_covers a_routes a_longest a_steep a_laid a_far f_sight a_runs f_choir f_voices a_rest a_wins f_seed a_other a_kept U.heap ∧ zK E U)) (zQv (S := (Nat → Int32) × (Nat → Int32) × (Nat → Int32) × (Nat → Int32) × (Nat → Int32) × (Nat → Int32) × (Nat → Int32) × (Nat → Int32) × (Nat → Int32)) (fun u => post u.1 u.2.1 u.2.2.1 u.2.2.2.1 u.2.2.2.2.1 u.2.2.2.2.2.1 u.2.2.2.2.2.2.1 u.2.2.2.2.2.2.2.1 u.2.2.2.2.2.2.2.2) (fun u H => mW E q f_code u.1 u.2.1 u.2.2.1 u.2.2.2.1 u.2.2.2.2.1 u.2.2.2.2.2.1 u.2.2.2.2.2.2.1 u.2.2.2.2.2.2.2.1 u.2.2.2.2.2.2.2.2 f_reached f_length f_begins f_sort f_value f_word f_wrongAt f_laterFault f_laterPlace a_told a_read f_farHut f_farSinger f_good f_land f_huts f_singers f_evening a_at a_knows a_climbed a_snow a_level f_begun f_minute f_avalanches a_run a_covers a_routes a_longest a_steep a_laid a_far f_sight a_runs f_choir f_voices a_rest a_wins f_seed a_other a_kept H) (mA q)) 0 0 (mA q) := by
  refine Met.ofW (cc := cX11_copyAll) (maxL := 4) (ret := none) (by decide) rfl ?_
  intro p e s m args below meth c s₁ B hml hv
  obtain ⟨rfl, hM, hK⟩ := hv
  have zc := zc_of B hml
  have hl := lv_entry ([.ref q, .int x1, .int x2]) (n := 4) (Nat.le_of_ble_eq_true rfl)
  rw [lg_entry_eq]
  generalize (lg_sl ([.ref q, .int x1, .int x2]) ++ List.replicate (4 - (lg_sl ([.ref q, .int x1, .int x2])).length) Slot.unset).toArray = ls at hl ⊢
  have hl : lv_has ls 4 [(0, .ref q), (1, .int x1), (2, .int x2)] := hl
  exact t_m_copyAll_0 zc hK hM va_S.rf (lv_sub hl [0, 1, 2] rfl) hw
-- m_is
abbrev rm_m_is : Room := { frames := 1, cells := 0, slots := 0, locals := 22 }
def q_m_is_0 (a_many : Nat → Int32) (x1 : Int32) (x2 : Int32) (post : Int32 → Prop) : Prop :=
  vp_in x1 16 ∧ (q_m_in_0 x2 (0 : Int32) ((a_many (Int32.toNatClampNeg x1)) - (1 : Int32)) (fun r_1 => narrow .boolean (.int r_1) = .int r_1 ∧ post r_1))
set_option maxRecDepth 20000 in
theorem t_m_is_0 {p : Program} {l : Launch} {e : Env} {s : State} {m : MethodId} {args : Array Value} {below : List Frame} {meth : Method} {c : Code} {E : zE} {q : Nat} {f_code : Int32} {a_tape : Nat → Int32} {a_size : Nat → Int32} {a_fault : Nat → Int32} {a_faultPlace : Nat → Int32} {a_many : Nat → Int32} {a_lands : Nat → Int32} {a_evenings : Nat → Int32} {a_sights : Nat → Int32} {a_choirs : Nat → Int32} {f_reached : Int32} {f_length : Int32} {f_begins : Int32} {f_sort : Int32} {f_value : Int32} {f_word : Int64} {f_wrongAt : Int32} {f_laterFault : Int32} {f_laterPlace : Int32} {a_told : Nat → Int32} {a_read : Nat → Int32} {f_farHut : Int32} {f_farSinger : Int32} {f_good : Int32} {f_land : Int32} {f_huts : Int32} {f_singers : Int32} {f_evening : Int32} {a_at : Nat → Int32} {a_knows : Nat → Int32} {a_climbed : Nat → Int32} {a_snow : Nat → Int32} {a_level : Nat → Int32} {f_begun : Int32} {f_minute : Int32} {f_avalanches : Int32} {a_run : Nat → Int32} {a_covers : Nat → Int32} {a_routes : Nat → Int32} {a_longest : Nat → Int32} {a_steep : Nat → Int32} {a_laid : Nat → Int32} {a_far : Nat → Int32} {f_sight : Int32} {a_runs : Nat → Int32} {f_choir : Int32} {f_voices : Int32} {a_rest : Nat → Int64} {a_wins : Nat → Int32} {f_seed : Int32} {a_other : Nat → Int32} {a_kept : Nat → Int32} {post : Int32 → Prop} {x1 : Int32} {x2 : Int32} {ls : Array Slot}
    (zc : zC p s m args meth c cX11_is 3 RX11 (some .boolean))
    (hK : zK E s)
    (hM : mW E q f_code a_tape a_size a_fault a_faultPlace a_many a_lands a_evenings a_sights a_choirs f_reached f_length f_begins f_sort f_value f_word f_wrongAt f_laterFault f_laterPlace a_told a_read f_farHut f_farSinger f_good f_land f_huts f_singers f_evening a_at a_knows a_climbed a_snow a_level f_begun f_minute f_avalanches a_run a_covers a_routes a_longest a_steep a_laid a_far f_sight a_runs f_choir f_voices a_rest a_wins f_seed a_other a_kept s.heap)
    (hl : lv_has ls 3 [(0, .ref q), (1, .int x1), (2, .int x2)])
    (hw : q_m_is_0 a_many x1 x2 post) :
    W p l e rm_m_is s m args below meth c s.heap [] 0 0 (MQ below (vp_Si post) args s 0 0 (fun _ => False)) (F0 m 0 ls []) := by
  have hx := zc.1
  have hb := zc.2.1
  refine lv_iload_n hx hb dX11_is_0 rfl (lv_at hl 2 rfl) ?_
  refine lv_iconst (v := (0 : Int32)) hx hb dX11_is_1 (by decide) ?_
  refine lv_aload_n hx hb dX11_is_2 rfl (lv_at hl 0 rfl) ?_
  refine mg_11_23_0 zc hK hM dX11_is_3 ?_
  refine lv_iload_n hx hb dX11_is_6 rfl (lv_at hl 1 rfl) ?_
  refine mld_5 zc hK hM hw.1 dX11_is_7 ?_
  have hw := hw.2
  refine lv_iconst (v := (1 : Int32)) hx hb dX11_is_8 (by decide) ?_
  refine lv_isub hx hb dX11_is_9 ?_
  refine zS_i [.int x2, .int (0 : Int32), .int ((a_many (Int32.toNatClampNeg x1)) - (1 : Int32))] [] zc ky_X11_in kz_X11_in km_11_109 (c_m_in l hw) (zPre0 _) rfl rfl hl.1 (Nat.le_of_ble_eq_true rfl) ⟨rfl, rfl⟩ ⟨Nat.le_of_ble_eq_true rfl, Nat.le_of_ble_eq_true rfl⟩ ⟨(Nat.zero_le _), (Nat.zero_le _)⟩ dX11_is_10 (fun r_1 hw => ?_)
  exact zret_z zc hw.1 hw.2 dX11_is_13
set_option maxRecDepth 20000 in
theorem c_m_is (l : Launch) {E : zE} {q : Nat} {f_code : Int32} {a_tape : Nat → Int32} {a_size : Nat → Int32} {a_fault : Nat → Int32} {a_faultPlace : Nat → Int32} {a_many : Nat → Int32} {a_lands : Nat → Int32} {a_evenings : Nat → Int32} {a_sights : Nat → Int32} {a_choirs : Nat → Int32} {f_reached : Int32} {f_length : Int32} {f_begins : Int32} {f_sort : Int32} {f_value : Int32} {f_word : Int64} {f_wrongAt : Int32} {f_laterFault : Int32} {f_laterPlace : Int32} {a_told : Nat → Int32} {a_read : Nat → Int32} {f_farHut : Int32} {f_farSinger : Int32} {f_good : Int32} {f_land : Int32} {f_huts : Int32} {f_singers : Int32} {f_evening : Int32} {a_at : Nat → Int32} {a_knows : Nat → Int32} {a_climbed : Nat → Int32} {a_snow : Nat → Int32} {a_level : Nat → Int32} {f_begun : Int32} {f_minute : Int32} {f_avalanches : Int32} {a_run : Nat → Int32} {a_covers : Nat → Int32} {a_routes : Nat → Int32} {a_longest : Nat → Int32} {a_steep : Nat → Int32} {a_laid : Nat → Int32} {a_far : Nat → Int32} {f_sight : Int32} {a_runs : Nat → Int32} {f_choir : Int32} {f_voices : Int32} {a_rest : Nat → Int64} {a_wins : Nat → Int32} {f_seed : Int32} {a_other : Nat → Int32} {a_kept : Nat → Int32} {x1 : Int32} {x2 : Int32} {post : Int32 → Prop} (hw : q_m_is_0 a_many x1 x2 post) : Met l yX11_is (Cond.code yX11_is cX11_is 3 (some .boolean) :: zb) rm_m_is (va_Pc [.ref q, .int x1, .int x2] (fun U => mW E q f_code a_tape a_size a_fault a_faultPlace a_many a_lands a_evenings a_sights a_choirs f_reached f_length f_begins f_sort f_value f_word f_wrongAt f_laterFault f_laterPlace a_told a_read f_farHut f_farSinger f_good f_land f_huts f_singers f_evening a_at a_knows a_climbed a_snow a_level f_begun f_minute f_avalanches a_run a_covers a_routes a_longest a_steep a_laid a_far f_sight a_runs f_choir f_voices a_rest a_wins f_seed a_other a_kept U.heap ∧ zK E U)) (vp_Si post) 0 0 (fun _ => False) := by
  refine Met.ofW (cc := cX11_is) (maxL := 3) (ret := (some .boolean)) (by decide) rfl ?_
  intro p e s m args below meth c s₁ B hml hv
  obtain ⟨rfl, hM, hK⟩ := hv
  have zc := zc_of B hml
  have hl := lv_entry ([.ref q, .int x1, .int x2]) (n := 3) (Nat.le_of_ble_eq_true rfl)
  rw [lg_entry_eq]
  generalize (lg_sl ([.ref q, .int x1, .int x2]) ++ List.replicate (3 - (lg_sl ([.ref q, .int x1, .int x2])).length) Slot.unset).toArray = ls at hl ⊢
  have hl : lv_has ls 3 [(0, .ref q), (1, .int x1), (2, .int x2)] := hl
  exact t_m_is_0 zc hK hM (lv_sub hl [0, 1, 2] rfl) hw
-- m_four
abbrev rm_m_four : Room := { frames := 0, cells := 0, slots := 0, locals := 0 }
def q_m_four_3 (a_tape : Nat → Int32) (a_size : Nat → Int32) (x1 : Int32) (x2 : Int32) (post : (Nat → Int32) → (Nat → Int32) → Prop) : Prop :=
  ∀ P3 : Int32 → (Nat → Int32) → (Nat → Int32) → Prop, (∀ (x2 : Int32) (a_tape : Nat → Int32) (a_size : Nat → Int32), ((x2 < 0 → (post a_tape a_size)) ∧ (¬ x2 < 0 → (∀ v_1 : Int32, v_1 = (Int32.toInt8 (x1 >>> (x2 &&& 31))).toInt32 → (vp_in (a_size (Int32.toNatClampNeg (0 : Int32))) 2400 ∧ (∀ a_tape_1 : Nat → Int32, a_tape_1 = upd a_tape (Int32.toNatClampNeg (a_size (Int32.toNatClampNeg (0 : Int32)))) (vp_nar .byte v_1) → (∀ v_2 : Int32, v_2 = ((a_size (Int32.toNatClampNeg (0 : Int32))) + (1 : Int32)) → (∀ a_size_1 : Nat → Int32, a_size_1 = upd a_size (Int32.toNatClampNeg (0 : Int32)) v_2 → (∀ v_3 : Int32, v_3 = x2 + (-8 : Int32) → (P3 v_3 a_tape_1 a_size_1))))))))) → P3 x2 a_tape a_size) → P3 x2 a_tape a_size
def q_m_four_0 (a_tape : Nat → Int32) (a_size : Nat → Int32) (x1 : Int32) (post : (Nat → Int32) → (Nat → Int32) → Prop) : Prop :=
  q_m_four_3 a_tape a_size x1 (24 : Int32) post
set_option maxRecDepth 20000 in
theorem t_m_four_3 {p : Program} {l : Launch} {e : Env} {s : State} {m : MethodId} {args : Array Value} {below : List Frame} {meth : Method} {c : Code} {E : zE} {q : Nat} {f_code : Int32} {a_tape : Nat → Int32} {a_size : Nat → Int32} {a_fault : Nat → Int32} {a_faultPlace : Nat → Int32} {a_many : Nat → Int32} {a_lands : Nat → Int32} {a_evenings : Nat → Int32} {a_sights : Nat → Int32} {a_choirs : Nat → Int32} {f_reached : Int32} {f_length : Int32} {f_begins : Int32} {f_sort : Int32} {f_value : Int32} {f_word : Int64} {f_wrongAt : Int32} {f_laterFault : Int32} {f_laterPlace : Int32} {a_told : Nat → Int32} {a_read : Nat → Int32} {f_farHut : Int32} {f_farSinger : Int32} {f_good : Int32} {f_land : Int32} {f_huts : Int32} {f_singers : Int32} {f_evening : Int32} {a_at : Nat → Int32} {a_knows : Nat → Int32} {a_climbed : Nat → Int32} {a_snow : Nat → Int32} {a_level : Nat → Int32} {f_begun : Int32} {f_minute : Int32} {f_avalanches : Int32} {a_run : Nat → Int32} {a_covers : Nat → Int32} {a_routes : Nat → Int32} {a_longest : Nat → Int32} {a_steep : Nat → Int32} {a_laid : Nat → Int32} {a_far : Nat → Int32} {f_sight : Int32} {a_runs : Nat → Int32} {f_choir : Int32} {f_voices : Int32} {a_rest : Nat → Int64} {a_wins : Nat → Int32} {f_seed : Int32} {a_other : Nat → Int32} {a_kept : Nat → Int32} {post : (Nat → Int32) → (Nat → Int32) → Prop} {x1 : Int32} {x2 : Int32} {ls : Array Slot} {H : Heap} {locs : List Loc}
    (zc : zC p s m args meth c cX11_four 3 RX11 none)
    (hK : zK E s)
    (hM : mW E q f_code a_tape a_size a_fault a_faultPlace a_many a_lands a_evenings a_sights a_choirs f_reached f_length f_begins f_sort f_value f_word f_wrongAt f_laterFault f_laterPlace a_told a_read f_farHut f_farSinger f_good f_land f_huts f_singers f_evening a_at a_knows a_climbed a_snow a_level f_begun f_minute f_avalanches a_run a_covers a_routes a_longest a_steep a_laid a_far f_sight a_runs f_choir f_voices a_rest a_wins f_seed a_other a_kept H)
    (hS : va_S (mA q) s.heap H locs)
    (hl : lv_has ls 3 [(0, .ref q), (1, .int x1), (2, .int x2)])
    (hw : q_m_four_3 a_tape a_size x1 x2 post) :
    W p l e rm_m_four s m args below meth c H locs 0 0 (MQ below (zQv (S := (Nat → Int32) × (Nat → Int32)) (fun u => post u.1 u.2) (fun u H => mW E q f_code u.1 u.2 a_fault a_faultPlace a_many a_lands a_evenings a_sights a_choirs f_reached f_length f_begins f_sort f_value f_word f_wrongAt f_laterFault f_laterPlace a_told a_read f_farHut f_farSinger f_good f_land f_huts f_singers f_evening a_at a_knows a_climbed a_snow a_level f_begun f_minute f_avalanches a_run a_covers a_routes a_longest a_steep a_laid a_far f_sight a_runs f_choir f_voices a_rest a_wins f_seed a_other a_kept H) (mA q)) args s 0 0 (mA q)) (F0 m 3 ls []) := by
  have hx := zc.1
  have hb := zc.2.1
  refine hw (fun x2 a_tape a_size => ∀ (H : Heap) (locs : List Loc) (ls : Array Slot), lv_has ls 3 [(0, .ref q), (1, .int x1), (2, .int x2)] → mW E q f_code a_tape a_size a_fault a_faultPlace a_many a_lands a_evenings a_sights a_choirs f_reached f_length f_begins f_sort f_value f_word f_wrongAt f_laterFault f_laterPlace a_told a_read f_farHut f_farSinger f_good f_land f_huts f_singers f_evening a_at a_knows a_climbed a_snow a_level f_begun f_minute f_avalanches a_run a_covers a_routes a_longest a_steep a_laid a_far f_sight a_runs f_choir f_voices a_rest a_wins f_seed a_other a_kept H → va_S (mA q) s.heap H locs → W p l e rm_m_four s m args below meth c H locs 0 0 (MQ below (zQv (S := (Nat → Int32) × (Nat → Int32)) (fun u => post u.1 u.2) (fun u H => mW E q f_code u.1 u.2 a_fault a_faultPlace a_many a_lands a_evenings a_sights a_choirs f_reached f_length f_begins f_sort f_value f_word f_wrongAt f_laterFault f_laterPlace a_told a_read f_farHut f_farSinger f_good f_land f_huts f_singers f_evening a_at a_knows a_climbed a_snow a_level f_begun f_minute f_avalanches a_run a_covers a_routes a_longest a_steep a_laid a_far f_sight a_runs f_choir f_voices a_rest a_wins f_seed a_other a_kept H) (mA q)) args s 0 0 (mA q)) (F0 m 3 ls [])) ?_ _ _ _ hl hM hS
  intro x2 a_tape a_size hw H locs ls hl hM hS
  refine lv_iload_n hx hb dX11_four_3 rfl (lv_at hl 2 rfl) ?_
  refine lv_if_lt (tgt := 38) hx hb dX11_four_4 (by decide) (fun hc => ?_) (fun hc => ?_)
  · have hw := hw.1 hc
    exact zret_vw ⟨a_tape, a_size⟩ zc hS hw hM dX11_four_38
  · have hw := hw.2 hc
    refine lv_aload_n hx hb dX11_four_7 rfl (lv_at hl 0 rfl) ?_
    refine mg_11_7_0 zc hK hM dX11_four_8 ?_
    refine lv_aload_n hx hb dX11_four_11 rfl (lv_at hl 0 rfl) ?_
    refine mg_11_13_0 zc hK hM dX11_four_12 ?_
    refine lv_iconst (v := (0 : Int32)) hx hb dX11_four_15 (by decide) ?_
    refine mld_2 zc hK hM (by unfold vp_in; decide) dX11_four_16 ?_
    refine lv_iload_n hx hb dX11_four_17 rfl (lv_at hl 1 rfl) ?_
    refine lv_iload_n hx hb dX11_four_18 rfl (lv_at hl 2 rfl) ?_
    refine lv_ishr hx hb dX11_four_19 ?_
    refine lv_i2b hx hb dX11_four_20 rfl ?_
    refine lv_topi (fun v_1 ev_1 => ?_)
    have hw := hw v_1 ev_1
    refine mst_1 zc hK hM hS hw.1 dX11_four_21 (fun a_tape_1 H locs ea_tape_1 hM hS => ?_)
    have hw := hw.2 a_tape_1 ea_tape_1
    refine lv_aload_n hx hb dX11_four_22 rfl (lv_at hl 0 rfl) ?_
    refine mg_11_13_0 zc hK hM dX11_four_23 ?_
    refine lv_iconst (v := (0 : Int32)) hx hb dX11_four_26 (by decide) ?_
    refine lv_dup2_11 hx hb dX11_four_27 rfl rfl ?_
    refine mld_2 zc hK hM (by unfold vp_in; decide) dX11_four_28 ?_
    refine lv_iconst (v := (1 : Int32)) hx hb dX11_four_29 (by decide) ?_
    refine lv_iadd hx hb dX11_four_30 ?_
    refine lv_topi (fun v_2 ev_2 => ?_)
    have hw := hw v_2 ev_2
    refine mst_2 zc hK hM hS (by unfold vp_in; decide) dX11_four_31 (fun a_size_1 H locs ea_size_1 hM hS => ?_)
    have hw := hw a_size_1 ea_size_1
    obtain ⟨v_3, ev_3⟩ : ∃ y : Int32, y = x2 + (-8 : Int32) := ⟨_, rfl⟩
    have hw := hw v_3 ev_3
    refine lv_iinc (v := v_3) (k := 2) (lv' := [(2, .int v_3), (0, .ref q), (1, .int x1)]) hx hb dX11_four_32 hl rfl (by rw [ev_3]; rfl) (by decide) rfl (fun ls hl => ?_)
    refine lv_goto (tgt := 3) hx hb dX11_four_35 (by decide) ?_
    exact hw _ _ _ (lv_sub hl [1, 2, 0] rfl) hM hS
set_option maxRecDepth 20000 in
theorem t_m_four_0 {p : Program} {l : Launch} {e : Env} {s : State} {m : MethodId} {args : Array Value} {below : List Frame} {meth : Method} {c : Code} {E : zE} {q : Nat} {f_code : Int32} {a_tape : Nat → Int32} {a_size : Nat → Int32} {a_fault : Nat → Int32} {a_faultPlace : Nat → Int32} {a_many : Nat → Int32} {a_lands : Nat → Int32} {a_evenings : Nat → Int32} {a_sights : Nat → Int32} {a_choirs : Nat → Int32} {f_reached : Int32} {f_length : Int32} {f_begins : Int32} {f_sort : Int32} {f_value : Int32} {f_word : Int64} {f_wrongAt : Int32} {f_laterFault : Int32} {f_laterPlace : Int32} {a_told : Nat → Int32} {a_read : Nat → Int32} {f_farHut : Int32} {f_farSinger : Int32} {f_good : Int32} {f_land : Int32} {f_huts : Int32} {f_singers : Int32} {f_evening : Int32} {a_at : Nat → Int32} {a_knows : Nat → Int32} {a_climbed : Nat → Int32} {a_snow : Nat → Int32} {a_level : Nat → Int32} {f_begun : Int32} {f_minute : Int32} {f_avalanches : Int32} {a_run : Nat → Int32} {a_covers : Nat → Int32} {a_routes : Nat → Int32} {a_longest : Nat → Int32} {a_steep : Nat → Int32} {a_laid : Nat → Int32} {a_far : Nat → Int32} {f_sight : Int32} {a_runs : Nat → Int32} {f_choir : Int32} {f_voices : Int32} {a_rest : Nat → Int64} {a_wins : Nat → Int32} {f_seed : Int32} {a_other : Nat → Int32} {a_kept : Nat → Int32} {post : (Nat → Int32) → (Nat → Int32) → Prop} {x1 : Int32} {ls : Array Slot} {H : Heap} {locs : List Loc}
    (zc : zC p s m args meth c cX11_four 3 RX11 none)
    (hK : zK E s)
    (hM : mW E q f_code a_tape a_size a_fault a_faultPlace a_many a_lands a_evenings a_sights a_choirs f_reached f_length f_begins f_sort f_value f_word f_wrongAt f_laterFault f_laterPlace a_told a_read f_farHut f_farSinger f_good f_land f_huts f_singers f_evening a_at a_knows a_climbed a_snow a_level f_begun f_minute f_avalanches a_run a_covers a_routes a_longest a_steep a_laid a_far f_sight a_runs f_choir f_voices a_rest a_wins f_seed a_other a_kept H)
    (hS : va_S (mA q) s.heap H locs)
    (hl : lv_has ls 3 [(0, .ref q), (1, .int x1)])
    (hw : q_m_four_0 a_tape a_size x1 post) :
    W p l e rm_m_four s m args below meth c H locs 0 0 (MQ below (zQv (S := (Nat → Int32) × (Nat → Int32)) (fun u => post u.1 u.2) (fun u H => mW E q f_code u.1 u.2 a_fault a_faultPlace a_many a_lands a_evenings a_sights a_choirs f_reached f_length f_begins f_sort f_value f_word f_wrongAt f_laterFault f_laterPlace a_told a_read f_farHut f_farSinger f_good f_land f_huts f_singers f_evening a_at a_knows a_climbed a_snow a_level f_begun f_minute f_avalanches a_run a_covers a_routes a_longest a_steep a_laid a_far f_sight a_runs f_choir f_voices a_rest a_wins f_seed a_other a_kept H) (mA q)) args s 0 0 (mA q)) (F0 m 0 ls []) := by
  have hx := zc.1
  have hb := zc.2.1
  refine lv_bipush (v := (24 : Int32)) hx hb dX11_four_0 (by decide) ?_
  refine lv_istore_n (lv' := [(2, .int (24 : Int32)), (0, .ref q), (1, .int x1)]) hx hb dX11_four_2 rfl hl (by decide) rfl (fun ls hl => ?_)
  exact t_m_four_3 zc hK hM hS  (lv_sub hl [1, 2, 0] rfl) hw
set_option maxRecDepth 20000 in
theorem c_m_four (l : Launch) {E : zE} {q : Nat} {f_code : Int32} {a_tape : Nat → Int32} {a_size : Nat → Int32} {a_fault : Nat → Int32} {a_faultPlace : Nat → Int32} {a_many : Nat → Int32} {a_lands : Nat → Int32} {a_evenings : Nat → Int32} {a_sights : Nat → Int32} {a_choirs : Nat → Int32} {f_reached : Int32} {f_length : Int32} {f_begins : Int32} {f_sort : Int32} {f_value : Int32} {f_word : Int64} {f_wrongAt : Int32} {f_laterFault : Int32} {f_laterPlace : Int32} {a_told : Nat → Int32} {a_read : Nat → Int32} {f_farHut : Int32} {f_farSinger : Int32} {f_good : Int32} {f_land : Int32} {f_huts : Int32} {f_singers : Int32} {f_evening : Int32} {a_at : Nat → Int32} {a_knows : Nat → Int32} {a_climbed : Nat → Int32} {a_snow : Nat → Int32} {a_level : Nat → Int32} {f_begun : Int32} {f_minute : Int32} {f_avalanches : Int32} {a_run : Nat → Int32} {a_covers : Nat → Int32} {a_routes : Nat → Int32} {a_longest : Nat → Int32} {a_steep : Nat → Int32} {a_laid : Nat → Int32} {a_far : Nat → Int32} {f_sight : Int32} {a_runs : Nat → Int32} {f_choir : Int32} {f_voices : Int32} {a_rest : Nat → Int64} {a_wins : Nat → Int32} {f_seed : Int32} {a_other : Nat → Int32} {a_kept : Nat → Int32} {x1 : Int32} {post : (Nat → Int32) → (Nat → Int32) → Prop} (hw : q_m_four_0 a_tape a_size x1 post) : Met l yX11_four (Cond.code yX11_four cX11_four 3 none :: zb) rm_m_four (va_Pc [.ref q, .int x1] (fun U => mW E q f_code a_tape a_size a_fault a_faultPlace a_many a_lands a_evenings a_sights a_choirs f_reached f_length f_begins f_sort f_value f_word f_wrongAt f_laterFault f_laterPlace a_told a_read f_farHut f_farSinger f_good f_land f_huts f_singers f_evening a_at a_knows a_climbed a_snow a_level f_begun f_minute f_avalanches a_run a_covers a_routes a_longest a_steep a_laid a_far f_sight a_runs f_choir f_voices a_rest a_wins f_seed a_other a_kept U.heap ∧ zK E U)) (zQv (S := (Nat → Int32) × (Nat → Int32)) (fun u => post u.1 u.2) (fun u H => mW E q f_code u.1 u.2 a_fault a_faultPlace a_many a_lands a_evenings a_sights a_choirs f_reached f_length f_begins f_sort f_value f_word f_wrongAt f_laterFault f_laterPlace a_told a_read f_farHut f_farSinger f_good f_land f_huts f_singers f_evening a_at a_knows a_climbed a_snow a_level f_begun f_minute f_avalanches a_run a_covers a_routes a_longest a_steep a_laid a_far f_sight a_runs f_choir f_voices a_rest a_wins f_seed a_other a_kept H) (mA q)) 0 0 (mA q) := by
  refine Met.ofW (cc := cX11_four) (maxL := 3) (ret := none) (by decide) rfl ?_
  intro p e s m args below meth c s₁ B hml hv
  obtain ⟨rfl, hM, hK⟩ := hv
  have zc := zc_of B hml
  have hl := lv_entry ([.ref q, .int x1]) (n := 3) (Nat.le_of_ble_eq_true rfl)
  rw [lg_entry_eq]
  generalize (lg_sl ([.ref q, .int x1]) ++ List.replicate (3 - (lg_sl ([.ref q, .int x1])).length) Slot.unset).toArray = ls at hl ⊢
  have hl : lv_has ls 3 [(0, .ref q), (1, .int x1)] := hl
  exact t_m_four_0 zc hK hM va_S.rf (lv_sub hl [0, 1] rfl) hw
-- m_feed
abbrev rm_m_feed : Room := { frames := 1, cells := 0, slots := 0, locals := 22 }
def q_m_feed_0 (f_code : Int32) (a_tape : Nat → Int32) (a_size : Nat → Int32) (x1 : Int32) (x2 : Int32) (x3 : Int32) (x4 : Int32) (x5 : Int32) (post : Int32 → (Int32) → (Nat → Int32) → (Nat → Int32) → Prop) : Prop :=
  (((a_size (Int32.toNatClampNeg (0 : Int32))) + (20 : Int32)) ≤ (600 : Int32) → (q_m_four_0 a_tape a_size x1 (fun a_tape_1 a_size_1 => q_m_four_0 a_tape_1 a_size_1 x2 (fun a_tape_2 a_size_2 => q_m_four_0 a_tape_2 a_size_2 x3 (fun a_tape_3 a_size_3 => q_m_four_0 a_tape_3 a_size_3 x4 (fun a_tape_4 a_size_4 => q_m_four_0 a_tape_4 a_size_4 x5 (fun a_tape_5 a_size_5 => post (a_size_5 (Int32.toNatClampNeg (0 : Int32))) (0 : Int32) a_tape_5 a_size_5))))))) ∧ (¬ ((a_size (Int32.toNatClampNeg (0 : Int32))) + (20 : Int32)) ≤ (600 : Int32) → (post (-1 : Int32) (0 : Int32) a_tape a_size))
set_option maxRecDepth 20000 in
theorem t_m_feed_0 {p : Program} {l : Launch} {e : Env} {s : State} {m : MethodId} {args : Array Value} {below : List Frame} {meth : Method} {c : Code} {E : zE} {q : Nat} {f_code : Int32} {a_tape : Nat → Int32} {a_size : Nat → Int32} {a_fault : Nat → Int32} {a_faultPlace : Nat → Int32} {a_many : Nat → Int32} {a_lands : Nat → Int32} {a_evenings : Nat → Int32} {a_sights : Nat → Int32} {a_choirs : Nat → Int32} {f_reached : Int32} {f_length : Int32} {f_begins : Int32} {f_sort : Int32} {f_value : Int32} {f_word : Int64} {f_wrongAt : Int32} {f_laterFault : Int32} {f_laterPlace : Int32} {a_told : Nat → Int32} {a_read : Nat → Int32} {f_farHut : Int32} {f_farSinger : Int32} {f_good : Int32} {f_land : Int32} {f_huts : Int32} {f_singers : Int32} {f_evening : Int32} {a_at : Nat → Int32} {a_knows : Nat → Int32} {a_climbed : Nat → Int32} {a_snow : Nat → Int32} {a_level : Nat → Int32} {f_begun : Int32} {f_minute : Int32} {f_avalanches : Int32} {a_run : Nat → Int32} {a_covers : Nat → Int32} {a_routes : Nat → Int32} {a_longest : Nat → Int32} {a_steep : Nat → Int32} {a_laid : Nat → Int32} {a_far : Nat → Int32} {f_sight : Int32} {a_runs : Nat → Int32} {f_choir : Int32} {f_voices : Int32} {a_rest : Nat → Int64} {a_wins : Nat → Int32} {f_seed : Int32} {a_other : Nat → Int32} {a_kept : Nat → Int32} {post : Int32 → (Int32) → (Nat → Int32) → (Nat → Int32) → Prop} {x1 : Int32} {x2 : Int32} {x3 : Int32} {x4 : Int32} {x5 : Int32} {ls : Array Slot} {H : Heap} {locs : List Loc}
    (zc : zC p s m args meth c cX11_feed 6 RX11 (some .int))
    (hK : zK E s)
    (hM : mW E q f_code a_tape a_size a_fault a_faultPlace a_many a_lands a_evenings a_sights a_choirs f_reached f_length f_begins f_sort f_value f_word f_wrongAt f_laterFault f_laterPlace a_told a_read f_farHut f_farSinger f_good f_land f_huts f_singers f_evening a_at a_knows a_climbed a_snow a_level f_begun f_minute f_avalanches a_run a_covers a_routes a_longest a_steep a_laid a_far f_sight a_runs f_choir f_voices a_rest a_wins f_seed a_other a_kept H)
    (hS : va_S (mA q) s.heap H locs)
    (hl : lv_has ls 6 [(0, .ref q), (1, .int x1), (2, .int x2), (3, .int x3), (4, .int x4), (5, .int x5)])
    (hw : q_m_feed_0 f_code a_tape a_size x1 x2 x3 x4 x5 post) :
    W p l e rm_m_feed s m args below meth c H locs 0 0 (MQ below (zQi (S := (Int32) × (Nat → Int32) × (Nat → Int32)) (fun r u => post r u.1 u.2.1 u.2.2) (fun u H => mW E q u.1 u.2.1 u.2.2 a_fault a_faultPlace a_many a_lands a_evenings a_sights a_choirs f_reached f_length f_begins f_sort f_value f_word f_wrongAt f_laterFault f_laterPlace a_told a_read f_farHut f_farSinger f_good f_land f_huts f_singers f_evening a_at a_knows a_climbed a_snow a_level f_begun f_minute f_avalanches a_run a_covers a_routes a_longest a_steep a_laid a_far f_sight a_runs f_choir f_voices a_rest a_wins f_seed a_other a_kept H) (mA q)) args s 0 0 (mA q)) (F0 m 0 ls []) := by
  have hx := zc.1
  have hb := zc.2.1
  refine lv_aload_n hx hb dX11_feed_0 rfl (lv_at hl 0 rfl) ?_
  refine lv_iconst (v := (0 : Int32)) hx hb dX11_feed_1 (by decide) ?_
  refine mp_11_97_0 zc hK hM hS dX11_feed_2 (fun H locs hM hS => ?_)
  refine lv_aload_n hx hb dX11_feed_5 rfl (lv_at hl 0 rfl) ?_
  refine mg_11_13_0 zc hK hM dX11_feed_6 ?_
  refine lv_iconst (v := (0 : Int32)) hx hb dX11_feed_9 (by decide) ?_
  refine mld_2 zc hK hM (by unfold vp_in; decide) dX11_feed_10 ?_
  refine lv_bipush (v := (20 : Int32)) hx hb dX11_feed_11 (by decide) ?_
  refine lv_iadd hx hb dX11_feed_13 ?_
  refine lv_sipush (v := (600 : Int32)) hx hb dX11_feed_14 (by decide) ?_
  refine lv_icmp_le (tgt := 22) hx hb dX11_feed_17 (by decide) (fun hc => ?_) (fun hc => ?_)
  · have hw := hw.1 hc
    refine lv_aload_n hx hb dX11_feed_22 rfl (lv_at hl 0 rfl) ?_
    refine lv_iload_n hx hb dX11_feed_23 rfl (lv_at hl 1 rfl) ?_
    refine zVw_v [.int x1] [] zc ky_X11_four kz_X11_four km_11_113 (c_m_four l hw) (mPreV0 hK hM) hS rfl rfl hl.1 (Nat.le_of_ble_eq_true rfl) ⟨rfl, rfl⟩ ⟨Nat.le_of_ble_eq_true rfl, Nat.le_of_ble_eq_true rfl⟩ ⟨(Nat.zero_le _), (Nat.zero_le _)⟩ dX11_feed_24 (fun u H locs hw hM hS => ?_)
    obtain ⟨a_tape_1, a_size_1⟩ := u
    refine lv_aload_n hx hb dX11_feed_27 rfl (lv_at hl 0 rfl) ?_
    refine lv_iload_n hx hb dX11_feed_28 rfl (lv_at hl 2 rfl) ?_
    refine zVw_v [.int x2] [] zc ky_X11_four kz_X11_four km_11_113 (c_m_four l hw) (mPreV0 hK hM) hS rfl rfl hl.1 (Nat.le_of_ble_eq_true rfl) ⟨rfl, rfl⟩ ⟨Nat.le_of_ble_eq_true rfl, Nat.le_of_ble_eq_true rfl⟩ ⟨(Nat.zero_le _), (Nat.zero_le _)⟩ dX11_feed_29 (fun u H locs hw hM hS => ?_)
    obtain ⟨a_tape_2, a_size_2⟩ := u
    refine lv_aload_n hx hb dX11_feed_32 rfl (lv_at hl 0 rfl) ?_
    refine lv_iload_n hx hb dX11_feed_33 rfl (lv_at hl 3 rfl) ?_
    refine zVw_v [.int x3] [] zc ky_X11_four kz_X11_four km_11_113 (c_m_four l hw) (mPreV0 hK hM) hS rfl rfl hl.1 (Nat.le_of_ble_eq_true rfl) ⟨rfl, rfl⟩ ⟨Nat.le_of_ble_eq_true rfl, Nat.le_of_ble_eq_true rfl⟩ ⟨(Nat.zero_le _), (Nat.zero_le _)⟩ dX11_feed_34 (fun u H locs hw hM hS => ?_)
    obtain ⟨a_tape_3, a_size_3⟩ := u
    refine lv_aload_n hx hb dX11_feed_37 rfl (lv_at hl 0 rfl) ?_
    refine lv_iload hx hb dX11_feed_38 (lv_at hl 4 rfl) ?_
    refine zVw_v [.int x4] [] zc ky_X11_four kz_X11_four km_11_113 (c_m_four l hw) (mPreV0 hK hM) hS rfl rfl hl.1 (Nat.le_of_ble_eq_true rfl) ⟨rfl, rfl⟩ ⟨Nat.le_of_ble_eq_true rfl, Nat.le_of_ble_eq_true rfl⟩ ⟨(Nat.zero_le _), (Nat.zero_le _)⟩ dX11_feed_40 (fun u H locs hw hM hS => ?_)
    obtain ⟨a_tape_4, a_size_4⟩ := u
    refine lv_aload_n hx hb dX11_feed_43 rfl (lv_at hl 0 rfl) ?_
    refine lv_iload hx hb dX11_feed_44 (lv_at hl 5 rfl) ?_
    refine zVw_v [.int x5] [] zc ky_X11_four kz_X11_four km_11_113 (c_m_four l hw) (mPreV0 hK hM) hS rfl rfl hl.1 (Nat.le_of_ble_eq_true rfl) ⟨rfl, rfl⟩ ⟨Nat.le_of_ble_eq_true rfl, Nat.le_of_ble_eq_true rfl⟩ ⟨(Nat.zero_le _), (Nat.zero_le _)⟩ dX11_feed_46 (fun u H locs hw hM hS => ?_)
    obtain ⟨a_tape_5, a_size_5⟩ := u
    refine lv_aload_n hx hb dX11_feed_49 rfl (lv_at hl 0 rfl) ?_
    refine mg_11_13_0 zc hK hM dX11_feed_50 ?_
    refine lv_iconst (v := (0 : Int32)) hx hb dX11_feed_53 (by decide) ?_
    refine mld_2 zc hK hM (by unfold vp_in; decide) dX11_feed_54 ?_
    exact zret_iw ⟨(0 : Int32), a_tape_5, a_size_5⟩ zc hS hw hM dX11_feed_55
  · have hw := hw.2 hc
    refine lv_iconst (v := (-1 : Int32)) hx hb dX11_feed_20 (by decide) ?_
    exact zret_iw ⟨(0 : Int32), a_tape, a_size⟩ zc hS hw hM dX11_feed_21
set_option maxRecDepth 20000 in
theorem c_m_feed (l : Launch) {E : zE} {q : Nat} {f_code : Int32} {a_tape : Nat → Int32} {a_size : Nat → Int32} {a_fault : Nat → Int32} {a_faultPlace : Nat → Int32} {a_many : Nat → Int32} {a_lands : Nat → Int32} {a_evenings : Nat → Int32} {a_sights : Nat → Int32} {a_choirs : Nat → Int32} {f_reached : Int32} {f_length : Int32} {f_begins : Int32} {f_sort : Int32} {f_value : Int32} {f_word : Int64} {f_wrongAt : Int32} {f_laterFault : Int32} {f_laterPlace : Int32} {a_told : Nat → Int32} {a_read : Nat → Int32} {f_farHut : Int32} {f_farSinger : Int32} {f_good : Int32} {f_land : Int32} {f_huts : Int32} {f_singers : Int32} {f_evening : Int32} {a_at : Nat → Int32} {a_knows : Nat → Int32} {a_climbed : Nat → Int32} {a_snow : Nat → Int32} {a_level : Nat → Int32} {f_begun : Int32} {f_minute : Int32} {f_avalanches : Int32} {a_run : Nat → Int32} {a_covers : Nat → Int32} {a_routes : Nat → Int32} {a_longest : Nat → Int32} {a_steep : Nat → Int32} {a_laid : Nat → Int32} {a_far : Nat → Int32} {f_sight : Int32} {a_runs : Nat → Int32} {f_choir : Int32} {f_voices : Int32} {a_rest : Nat → Int64} {a_wins : Nat → Int32} {f_seed : Int32} {a_other : Nat → Int32} {a_kept : Nat → Int32} {x1 : Int32} {x2 : Int32} {x3 : Int32} {x4 : Int32} {x5 : Int32} {post : Int32 → (Int32) → (Nat → Int32) → (Nat → Int32) → Prop} (hw : q_m_feed_0 f_code a_tape a_size x1 x2 x3 x4 x5 post) : Met l yX11_feed (Cond.code yX11_feed cX11_feed 6 (some .int) :: zb) rm_m_feed (va_Pc [.ref q, .int x1, .int x2, .int x3, .int x4, .int x5] (fun U => mW E q f_code a_tape a_size a_fault a_faultPlace a_many a_lands a_evenings a_sights a_choirs f_reached f_length f_begins f_sort f_value f_word f_wrongAt f_laterFault f_laterPlace a_told a_read f_farHut f_farSinger f_good f_land f_huts f_singers f_evening a_at a_knows a_climbed a_snow a_level f_begun f_minute f_avalanches a_run a_covers a_routes a_longest a_steep a_laid a_far f_sight a_runs f_choir f_voices a_rest a_wins f_seed a_other a_kept U.heap ∧ zK E U)) (zQi (S := (Int32) × (Nat → Int32) × (Nat → Int32)) (fun r u => post r u.1 u.2.1 u.2.2) (fun u H => mW E q u.1 u.2.1 u.2.2 a_fault a_faultPlace a_many a_lands a_evenings a_sights a_choirs f_reached f_length f_begins f_sort f_value f_word f_wrongAt f_laterFault f_laterPlace a_told a_read f_farHut f_farSinger f_good f_land f_huts f_singers f_evening a_at a_knows a_climbed a_snow a_level f_begun f_minute f_avalanches a_run a_covers a_routes a_longest a_steep a_laid a_far f_sight a_runs f_choir f_voices a_rest a_wins f_seed a_other a_kept H) (mA q)) 0 0 (mA q) := by
  refine Met.ofW (cc := cX11_feed) (maxL := 6) (ret := (some .int)) (by decide) rfl ?_
  intro p e s m args below meth c s₁ B hml hv
  obtain ⟨rfl, hM, hK⟩ := hv
  have zc := zc_of B hml
  have hl := lv_entry ([.ref q, .int x1, .int x2, .int x3, .int x4, .int x5]) (n := 6) (Nat.le_of_ble_eq_true rfl)
  rw [lg_entry_eq]
  generalize (lg_sl ([.ref q, .int x1, .int x2, .int x3, .int x4, .int x5]) ++ List.replicate (6 - (lg_sl ([.ref q, .int x1, .int x2, .int x3, .int x4, .int x5])).length) Slot.unset).toArray = ls at hl ⊢
  have hl : lv_has ls 6 [(0, .ref q), (1, .int x1), (2, .int x2), (3, .int x3), (4, .int x4), (5, .int x5)] := hl
  exact t_m_feed_0 zc hK hM va_S.rf (lv_sub hl [0, 1, 2, 3, 4, 5] rfl) hw
