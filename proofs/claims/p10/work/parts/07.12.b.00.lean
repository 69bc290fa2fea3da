-- wb_X8_firstTake
abbrev rm_wb_X8_firstTake : Room := { frames := 0, cells := 0, slots := 0, locals := 0 }
def q_wb_X8_firstTake_22 (a_less : Nat → Int32) (a_full : Nat → Int32) (x1 : Int32) (x2 : Int32) (x3 : Int32) (x4 : Int32) (post : Int32 → Prop) : Prop :=
  ∀ P22 : Int32 → Prop, (∀ (x4 : Int32), ((x1 ≤ 0 → (post (-1 : Int32))) ∧ (¬ x1 ≤ 0 → ((x3 < x4 → (post (-1 : Int32))) ∧ (¬ x3 < x4 → ((x2 < x4 → (post (-1 : Int32))) ∧ (¬ x2 < x4 → (vp_in (x2 - x4) 61 ∧ ((¬ (a_less (Int32.toNatClampNeg (x2 - x4))) = (-1 : Int32) → (∀ v_1 : Int32, v_1 = x4 + (1 : Int32) → (P22 v_1))) ∧ ((a_less (Int32.toNatClampNeg (x2 - x4))) = (-1 : Int32) → (post ((10 : Int32) + x4))))))))))) → P22 x4) → P22 x4
def q_wb_X8_firstTake_19 (a_less : Nat → Int32) (a_full : Nat → Int32) (x1 : Int32) (x2 : Int32) (x3 : Int32) (post : Int32 → Prop) : Prop :=
  q_wb_X8_firstTake_22 a_less a_full x1 x2 x3 (1 : Int32) post
def q_wb_X8_firstTake_0 (a_less : Nat → Int32) (a_full : Nat → Int32) (x1 : Int32) (x2 : Int32) (x3 : Int32) (post : Int32 → Prop) : Prop :=
  (x2 < (2 : Int32) → (q_wb_X8_firstTake_19 a_less a_full x1 x2 x3 post)) ∧ (¬ x2 < (2 : Int32) → (vp_in (x2 - (2 : Int32)) 61 ∧ ((¬ (a_full (Int32.toNatClampNeg (x2 - (2 : Int32)))) = (-1 : Int32) → (q_wb_X8_firstTake_19 a_less a_full x1 x2 x3 post)) ∧ ((a_full (Int32.toNatClampNeg (x2 - (2 : Int32)))) = (-1 : Int32) → (post (2 : Int32))))))
set_option maxRecDepth 20000 in
theorem t_wb_X8_firstTake_22 {p : Program} {l : Launch} {e : Env} {s : State} {m : MethodId} {args : Array Value} {below : List Frame} {meth : Method} {c : Code} {E : zE} {qb : Nat} {a_less : Nat → Int32} {a_full : Nat → Int32} {post : Int32 → Prop} {x1 : Int32} {x2 : Int32} {x3 : Int32} {x4 : Int32} {ls : Array Slot}
    (zc : zC p s m args meth c cX8_firstTake 5 RX8 (some .int))
    (hK : zK E s)
    (hM : wbW E qb a_less a_full s.heap)
    (hl : lv_has ls 5 [(0, .ref qb), (1, .int x1), (2, .int x2), (3, .int x3), (4, .int x4)])
    (hw : q_wb_X8_firstTake_22 a_less a_full x1 x2 x3 x4 post) :
    W p l e rm_wb_X8_firstTake s m args below meth c s.heap [] 0 0 (MQ below (vp_Si post) args s 0 0 (fun _ => False)) (F0 m 22 ls []) := by
  have hx := zc.1
  have hb := zc.2.1
  refine hw (fun x4 => ∀ (ls : Array Slot), lv_has ls 5 [(0, .ref qb), (1, .int x1), (2, .int x2), (3, .int x3), (4, .int x4)] → W p l e rm_wb_X8_firstTake s m args below meth c s.heap [] 0 0 (MQ below (vp_Si post) args s 0 0 (fun _ => False)) (F0 m 22 ls [])) ?_ _ hl
  intro x4 hw ls hl
  refine lv_iload_n hx hb dX8_firstTake_22 rfl (lv_at hl 1 rfl) ?_
  refine lv_if_le (tgt := 63) hx hb dX8_firstTake_23 (by decide) (fun hc => ?_) (fun hc => ?_)
  · have hw := hw.1 hc
    refine lv_iconst (v := (-1 : Int32)) hx hb dX8_firstTake_63 (by decide) ?_
    exact zret_i zc hw dX8_firstTake_64
  · have hw := hw.2 hc
    refine lv_iload hx hb dX8_firstTake_26 (lv_at hl 4 rfl) ?_
    refine lv_iload_n hx hb dX8_firstTake_28 rfl (lv_at hl 3 rfl) ?_
    refine lv_icmp_gt (tgt := 63) hx hb dX8_firstTake_29 (by decide) (fun hc => ?_) (fun hc => ?_)
    · have hw := hw.1 hc
      refine lv_iconst (v := (-1 : Int32)) hx hb dX8_firstTake_63 (by decide) ?_
      exact zret_i zc hw dX8_firstTake_64
    · have hw := hw.2 hc
      refine lv_iload hx hb dX8_firstTake_32 (lv_at hl 4 rfl) ?_
      refine lv_iload_n hx hb dX8_firstTake_34 rfl (lv_at hl 2 rfl) ?_
      refine lv_icmp_gt (tgt := 63) hx hb dX8_firstTake_35 (by decide) (fun hc => ?_) (fun hc => ?_)
      · have hw := hw.1 hc
        refine lv_iconst (v := (-1 : Int32)) hx hb dX8_firstTake_63 (by decide) ?_
        exact zret_i zc hw dX8_firstTake_64
      · have hw := hw.2 hc
        refine lv_aload_n hx hb dX8_firstTake_38 rfl (lv_at hl 0 rfl) ?_
        refine wbg_8_9_0 zc hK hM dX8_firstTake_39 ?_
        refine lv_iload_n hx hb dX8_firstTake_42 rfl (lv_at hl 2 rfl) ?_
        refine lv_iload hx hb dX8_firstTake_43 (lv_at hl 4 rfl) ?_
        refine lv_isub hx hb dX8_firstTake_45 ?_
        refine wbld_1 zc hK hM hw.1 dX8_firstTake_46 ?_
        have hw := hw.2
        refine lv_iconst (v := (-1 : Int32)) hx hb dX8_firstTake_47 (by decide) ?_
        refine lv_icmp_ne (tgt := 57) hx hb dX8_firstTake_48 (by decide) (fun hc => ?_) (fun hc => ?_)
        · have hw := hw.1 hc
          obtain ⟨v_1, ev_1⟩ : ∃ y : Int32, y = x4 + (1 : Int32) := ⟨_, rfl⟩
          have hw := hw v_1 ev_1
          refine lv_iinc (v := v_1) (k := 4) (lv' := [(4, .int v_1), (0, .ref qb), (1, .int x1), (2, .int x2), (3, .int x3)]) hx hb dX8_firstTake_57 hl rfl (by rw [ev_1]; rfl) (by decide) rfl (fun ls hl => ?_)
          refine lv_goto (tgt := 22) hx hb dX8_firstTake_60 (by decide) ?_
          exact hw _ (lv_sub hl [1, 2, 3, 4, 0] rfl)
        · have hw := hw.2 hc
          refine lv_bipush (v := (10 : Int32)) hx hb dX8_firstTake_51 (by decide) ?_
          refine lv_iload hx hb dX8_firstTake_53 (lv_at hl 4 rfl) ?_
          refine lv_iadd hx hb dX8_firstTake_55 ?_
          exact zret_i zc hw dX8_firstTake_56
set_option maxRecDepth 20000 in
theorem t_wb_X8_firstTake_19 {p : Program} {l : Launch} {e : Env} {s : State} {m : MethodId} {args : Array Value} {below : List Frame} {meth : Method} {c : Code} {E : zE} {qb : Nat} {a_less : Nat → Int32} {a_full : Nat → Int32} {post : Int32 → Prop} {x1 : Int32} {x2 : Int32} {x3 : Int32} {ls : Array Slot}
    (zc : zC p s m args meth c cX8_firstTake 5 RX8 (some .int))
    (hK : zK E s)
    (hM : wbW E qb a_less a_full s.heap)
    (hl : lv_has ls 5 [(0, .ref qb), (1, .int x1), (2, .int x2), (3, .int x3)])
    (hw : q_wb_X8_firstTake_19 a_less a_full x1 x2 x3 post) :
    W p l e rm_wb_X8_firstTake s m args below meth c s.heap [] 0 0 (MQ below (vp_Si post) args s 0 0 (fun _ => False)) (F0 m 19 ls []) := by
  have hx := zc.1
  have hb := zc.2.1
  refine lv_iconst (v := (1 : Int32)) hx hb dX8_firstTake_19 (by decide) ?_
  refine lv_istore (lv' := [(4, .int (1 : Int32)), (0, .ref qb), (1, .int x1), (2, .int x2), (3, .int x3)]) hx hb dX8_firstTake_20 hl (by decide) rfl (fun ls hl => ?_)
  exact t_wb_X8_firstTake_22 zc hK hM  (lv_sub hl [1, 2, 3, 4, 0] rfl) hw
set_option maxRecDepth 20000 in
theorem t_wb_X8_firstTake_0 {p : Program} {l : Launch} {e : Env} {s : State} {m : MethodId} {args : Array Value} {below : List Frame} {meth : Method} {c : Code} {E : zE} {qb : Nat} {a_less : Nat → Int32} {a_full : Nat → Int32} {post : Int32 → Prop} {x1 : Int32} {x2 : Int32} {x3 : Int32} {ls : Array Slot}
    (zc : zC p s m args meth c cX8_firstTake 5 RX8 (some .int))
    (hK : zK E s)
    (hM : wbW E qb a_less a_full s.heap)
    (hl : lv_has ls 5 [(0, .ref qb), (1, .int x1), (2, .int x2), (3, .int x3)])
    (hw : q_wb_X8_firstTake_0 a_less a_full x1 x2 x3 post) :
    W p l e rm_wb_X8_firstTake s m args below meth c s.heap [] 0 0 (MQ below (vp_Si post) args s 0 0 (fun _ => False)) (F0 m 0 ls []) := by
  have hx := zc.1
  have hb := zc.2.1
  refine lv_iload_n hx hb dX8_firstTake_0 rfl (lv_at hl 2 rfl) ?_
  refine lv_iconst (v := (2 : Int32)) hx hb dX8_firstTake_1 (by decide) ?_
  refine lv_icmp_lt (tgt := 19) hx hb dX8_firstTake_2 (by decide) (fun hc => ?_) (fun hc => ?_)
  · have hw := hw.1 hc
    exact t_wb_X8_firstTake_19 zc hK hM  (lv_sub hl [0, 1, 2, 3] rfl) hw
  · have hw := hw.2 hc
    refine lv_aload_n hx hb dX8_firstTake_5 rfl (lv_at hl 0 rfl) ?_
    refine wbg_8_15_0 zc hK hM dX8_firstTake_6 ?_
    refine lv_iload_n hx hb dX8_firstTake_9 rfl (lv_at hl 2 rfl) ?_
    refine lv_iconst (v := (2 : Int32)) hx hb dX8_firstTake_10 (by decide) ?_
    refine lv_isub hx hb dX8_firstTake_11 ?_
    refine wbld_2 zc hK hM hw.1 dX8_firstTake_12 ?_
    have hw := hw.2
    refine lv_iconst (v := (-1 : Int32)) hx hb dX8_firstTake_13 (by decide) ?_
    refine lv_icmp_ne (tgt := 19) hx hb dX8_firstTake_14 (by decide) (fun hc => ?_) (fun hc => ?_)
    · have hw := hw.1 hc
      exact t_wb_X8_firstTake_19 zc hK hM  (lv_sub hl [0, 1, 2, 3] rfl) hw
    · have hw := hw.2 hc
      refine lv_iconst (v := (2 : Int32)) hx hb dX8_firstTake_17 (by decide) ?_
      exact zret_i zc hw dX8_firstTake_18
set_option maxRecDepth 20000 in
theorem c_wb_X8_firstTake (l : Launch) {E : zE} {qb : Nat} {a_less : Nat → Int32} {a_full : Nat → Int32} {x1 : Int32} {x2 : Int32} {x3 : Int32} {post : Int32 → Prop} (hw : q_wb_X8_firstTake_0 a_less a_full x1 x2 x3 post) : Met l yX8_firstTake (Cond.code yX8_firstTake cX8_firstTake 5 (some .int) :: zb) rm_wb_X8_firstTake (va_Pc [.ref qb, .int x1, .int x2, .int x3] (fun U => wbW E qb a_less a_full U.heap ∧ zK E U)) (vp_Si post) 0 0 (fun _ => False) := by
  refine Met.ofW (cc := cX8_firstTake) (maxL := 5) (ret := (some .int)) (by decide) rfl ?_
  intro p e s m args below meth c s₁ B hml hv
  obtain ⟨rfl, hM, hK⟩ := hv
  have zc := zc_of B hml
  have hl := lv_entry ([.ref qb, .int x1, .int x2, .int x3]) (n := 5) (Nat.le_of_ble_eq_true rfl)
  rw [lg_entry_eq]
  generalize (lg_sl ([.ref qb, .int x1, .int x2, .int x3]) ++ List.replicate (5 - (lg_sl ([.ref qb, .int x1, .int x2, .int x3])).length) Slot.unset).toArray = ls at hl ⊢
  have hl : lv_has ls 5 [(0, .ref qb), (1, .int x1), (2, .int x2), (3, .int x3)] := hl
  exact t_wb_X8_firstTake_0 zc hK hM (lv_sub hl [0, 1, 2, 3] rfl) hw
-- wb_X8_lay
abbrev rm_wb_X8_lay : Room := { frames := 1, cells := 0, slots := 0, locals := 40 }
def q_wb_X8_lay_28 (P3 : Int32 → (Nat → Int32) → (Nat → Int32) → Prop) (a_less : Nat → Int32) (a_full : Nat → Int32) (x1 : Int32) (x2 : Int32) (x3 : Int32) (x4 : Int32) (x5 : Int32) (post : (Nat → Int32) → (Nat → Int32) → Prop) : Prop :=
  ∀ P28 : Int32 → (Nat → Int32) → Prop, (∀ (x5 : Int32) (a_full : Nat → Int32), ((x2 < x5 → (∀ v_1 : Int32, v_1 = x4 + (1 : Int32) → (P3 v_1 a_less a_full))) ∧ (¬ x2 < x5 → (q_wb_X8_firstTake_0 a_less a_full x4 x5 x3 (fun r_1 => vp_in x5 61 ∧ (∀ a_full_1 : Nat → Int32, a_full_1 = upd a_full (Int32.toNatClampNeg x5) r_1 → (∀ v_2 : Int32, v_2 = x5 + (1 : Int32) → (P28 v_2 a_full_1))))))) → P28 x5 a_full) → P28 x5 a_full
def q_wb_X8_lay_3 (a_less : Nat → Int32) (a_full : Nat → Int32) (x1 : Int32) (x2 : Int32) (x3 : Int32) (x4 : Int32) (post : (Nat → Int32) → (Nat → Int32) → Prop) : Prop :=
  ∀ P3 : Int32 → (Nat → Int32) → (Nat → Int32) → Prop, (∀ (x4 : Int32) (a_less : Nat → Int32) (a_full : Nat → Int32), ((x1 < x4 → (post a_less a_full)) ∧ (¬ x1 < x4 → ((¬ (x2 + (1 : Int32)) < 0) ∧ ((Int32.toNatClampNeg (0 : Int32) + Int32.toNatClampNeg (x2 + (1 : Int32)) ≤ 61) ∧ ((Int32.toNatClampNeg (0 : Int32) + Int32.toNatClampNeg (x2 + (1 : Int32)) ≤ 61) ∧ (∀ a_less_1 : Nat → Int32, a_less_1 = va_cpy a_full a_less (Int32.toNatClampNeg (0 : Int32)) (Int32.toNatClampNeg (0 : Int32)) (Int32.toNatClampNeg (x2 + (1 : Int32))) → (q_wb_X8_lay_28 P3 a_less_1 a_full x1 x2 x3 x4 (0 : Int32) post))))))) → P3 x4 a_less a_full) → P3 x4 a_less a_full
def q_wb_X8_lay_0 (a_less : Nat → Int32) (a_full : Nat → Int32) (x1 : Int32) (x2 : Int32) (x3 : Int32) (post : (Nat → Int32) → (Nat → Int32) → Prop) : Prop :=
  q_wb_X8_lay_3 a_less a_full x1 x2 x3 (0 : Int32) post
set_option maxRecDepth 20000 in
theorem t_wb_X8_lay_28 {p : Program} {l : Launch} {e : Env} {s : State} {m : MethodId} {args : Array Value} {below : List Frame} {meth : Method} {c : Code} {E : zE} {qb : Nat} {a_less : Nat → Int32} {a_full : Nat → Int32} {P3 : Int32 → (Nat → Int32) → (Nat → Int32) → Prop} {post : (Nat → Int32) → (Nat → Int32) → Prop} {x1 : Int32} {x2 : Int32} {x3 : Int32} {x4 : Int32} {x5 : Int32} {ls : Array Slot} {H : Heap} {locs : List Loc}
    (zc : zC p s m args meth c cX8_lay 6 RX8 none)
    (hK : zK E s)
    (hM : wbW E qb a_less a_full H)
    (hS : va_S (wbA qb) s.heap H locs)
    (hP3 : ∀ (x4 : Int32) (a_less : Nat → Int32) (a_full : Nat → Int32) (H : Heap) (locs : List Loc) (ls : Array Slot), P3 x4 a_less a_full → lv_has ls 6 [(0, .ref qb), (1, .int x1), (2, .int x2), (3, .int x3), (4, .int x4)] → wbW E qb a_less a_full H → va_S (wbA qb) s.heap H locs → W p l e rm_wb_X8_lay s m args below meth c H locs 0 0 (MQ below (zQv (S := (Nat → Int32) × (Nat → Int32)) (fun u => post u.1 u.2) (fun u H => wbW E qb u.1 u.2 H) (wbA qb)) args s 0 0 (wbA qb)) (F0 m 3 ls []))
    (hl : lv_has ls 6 [(0, .ref qb), (1, .int x1), (2, .int x2), (3, .int x3), (4, .int x4), (5, .int x5)])
    (hw : q_wb_X8_lay_28 P3 a_less a_full x1 x2 x3 x4 x5 post) :
    W p l e rm_wb_X8_lay s m args below meth c H locs 0 0 (MQ below (zQv (S := (Nat → Int32) × (Nat → Int32)) (fun u => post u.1 u.2) (fun u H => wbW E qb u.1 u.2 H) (wbA qb)) args s 0 0 (wbA qb)) (F0 m 28 ls []) := by
  have hx := zc.1
  have hb := zc.2.1
  refine hw (fun x5 a_full => ∀ (H : Heap) (locs : List Loc) (ls : Array Slot), lv_has ls 6 [(0, .ref qb), (1, .int x1), (2, .int x2), (3, .int x3), (4, .int x4), (5, .int x5)] → wbW E qb a_less a_full H → va_S (wbA qb) s.heap H locs → W p l e rm_wb_X8_lay s m args below meth c H locs 0 0 (MQ below (zQv (S := (Nat → Int32) × (Nat → Int32)) (fun u => post u.1 u.2) (fun u H => wbW E qb u.1 u.2 H) (wbA qb)) args s 0 0 (wbA qb)) (F0 m 28 ls [])) ?_ _ _ _ hl hM hS
  intro x5 a_full hw H locs ls hl hM hS
  refine lv_iload hx hb dX8_lay_28 (lv_at hl 5 rfl) ?_
  refine lv_iload_n hx hb dX8_lay_30 rfl (lv_at hl 2 rfl) ?_
  refine lv_icmp_gt (tgt := 56) hx hb dX8_lay_31 (by decide) (fun hc => ?_) (fun hc => ?_)
  · have hw := hw.1 hc
    obtain ⟨v_1, ev_1⟩ : ∃ y : Int32, y = x4 + (1 : Int32) := ⟨_, rfl⟩
    have hw := hw v_1 ev_1
    refine lv_iinc (v := v_1) (k := 4) (lv' := [(4, .int v_1), (0, .ref qb), (1, .int x1), (2, .int x2), (3, .int x3), (5, .int x5)]) hx hb dX8_lay_56 hl rfl (by rw [ev_1]; rfl) (by decide) rfl (fun ls hl => ?_)
    refine lv_goto (tgt := 3) hx hb dX8_lay_59 (by decide) ?_
    exact hP3 _ _ _ _ _ _ hw (lv_sub hl [1, 2, 3, 4, 0] rfl) hM hS
  · have hw := hw.2 hc
    refine lv_aload_n hx hb dX8_lay_34 rfl (lv_at hl 0 rfl) ?_
    refine wbg_8_15_0 zc hK hM dX8_lay_35 ?_
    refine lv_iload hx hb dX8_lay_38 (lv_at hl 5 rfl) ?_
    refine lv_aload_n hx hb dX8_lay_40 rfl (lv_at hl 0 rfl) ?_
    refine lv_iload hx hb dX8_lay_41 (lv_at hl 4 rfl) ?_
    refine lv_iload hx hb dX8_lay_43 (lv_at hl 5 rfl) ?_
    refine lv_iload_n hx hb dX8_lay_45 rfl (lv_at hl 3 rfl) ?_
    refine zV_i [.int x4, .int x5, .int x3] [.int x5, .ref (qb + 2)] zc ky_X8_firstTake kz_X8_firstTake km_8_24 (c_wb_X8_firstTake l hw) (wbPreV0 hK hM) rfl rfl hl.1 (Nat.le_of_ble_eq_true rfl) ⟨rfl, rfl⟩ ⟨Nat.le_of_ble_eq_true rfl, Nat.le_of_ble_eq_true rfl⟩ ⟨(Nat.zero_le _), (Nat.zero_le _)⟩ dX8_lay_46 (fun r_1 hw => ?_)
    refine wbst_2 zc hK hM hS hw.1 dX8_lay_49 (fun a_full_1 H locs ea_full_1 hM hS => ?_)
    have hw := hw.2 a_full_1 ea_full_1
    obtain ⟨v_2, ev_2⟩ : ∃ y : Int32, y = x5 + (1 : Int32) := ⟨_, rfl⟩
    have hw := hw v_2 ev_2
    refine lv_iinc (v := v_2) (k := 5) (lv' := [(5, .int v_2), (0, .ref qb), (1, .int x1), (2, .int x2), (3, .int x3), (4, .int x4)]) hx hb dX8_lay_50 hl rfl (by rw [ev_2]; rfl) (by decide) rfl (fun ls hl => ?_)
    refine lv_goto (tgt := 28) hx hb dX8_lay_53 (by decide) ?_
    exact hw _ _ _ (lv_sub hl [1, 2, 3, 4, 5, 0] rfl) hM hS
set_option maxRecDepth 20000 in
theorem t_wb_X8_lay_3 {p : Program} {l : Launch} {e : Env} {s : State} {m : MethodId} {args : Array Value} {below : List Frame} {meth : Method} {c : Code} {E : zE} {qb : Nat} {a_less : Nat → Int32} {a_full : Nat → Int32} {post : (Nat → Int32) → (Nat → Int32) → Prop} {x1 : Int32} {x2 : Int32} {x3 : Int32} {x4 : Int32} {ls : Array Slot} {H : Heap} {locs : List Loc}
    (zc : zC p s m args meth c cX8_lay 6 RX8 none)
    (hK : zK E s)
    (hM : wbW E qb a_less a_full H)
    (hS : va_S (wbA qb) s.heap H locs)
    (hl : lv_has ls 6 [(0, .ref qb), (1, .int x1), (2, .int x2), (3, .int x3), (4, .int x4)])
    (hw : q_wb_X8_lay_3 a_less a_full x1 x2 x3 x4 post) :
    W p l e rm_wb_X8_lay s m args below meth c H locs 0 0 (MQ below (zQv (S := (Nat → Int32) × (Nat → Int32)) (fun u => post u.1 u.2) (fun u H => wbW E qb u.1 u.2 H) (wbA qb)) args s 0 0 (wbA qb)) (F0 m 3 ls []) := by
  have hx := zc.1
  have hb := zc.2.1
  refine hw (fun x4 a_less a_full => ∀ (H : Heap) (locs : List Loc) (ls : Array Slot), lv_has ls 6 [(0, .ref qb), (1, .int x1), (2, .int x2), (3, .int x3), (4, .int x4)] → wbW E qb a_less a_full H → va_S (wbA qb) s.heap H locs → W p l e rm_wb_X8_lay s m args below meth c H locs 0 0 (MQ below (zQv (S := (Nat → Int32) × (Nat → Int32)) (fun u => post u.1 u.2) (fun u H => wbW E qb u.1 u.2 H) (wbA qb)) args s 0 0 (wbA qb)) (F0 m 3 ls [])) ?_ _ _ _ hl hM hS
  intro x4 a_less a_full hw H locs ls hl hM hS
  refine lv_iload hx hb dX8_lay_3 (lv_at hl 4 rfl) ?_
  refine lv_iload_n hx hb dX8_lay_5 rfl (lv_at hl 1 rfl) ?_
  refine lv_icmp_gt (tgt := 62) hx hb dX8_lay_6 (by decide) (fun hc => ?_) (fun hc => ?_)
  · have hw := hw.1 hc
    exact zret_vw ⟨a_less, a_full⟩ zc hS hw hM dX8_lay_62
  · have hw := hw.2 hc
    refine lv_aload_n hx hb dX8_lay_9 rfl (lv_at hl 0 rfl) ?_
    refine wbg_8_15_0 zc hK hM dX8_lay_10 ?_
    refine lv_iconst (v := (0 : Int32)) hx hb dX8_lay_13 (by decide) ?_
    refine lv_aload_n hx hb dX8_lay_14 rfl (lv_at hl 0 rfl) ?_
    refine wbg_8_9_0 zc hK hM dX8_lay_15 ?_
    refine lv_iconst (v := (0 : Int32)) hx hb dX8_lay_18 (by decide) ?_
    refine lv_iload_n hx hb dX8_lay_19 rfl (lv_at hl 2 rfl) ?_
    refine lv_iconst (v := (1 : Int32)) hx hb dX8_lay_20 (by decide) ?_
    refine lv_iadd hx hb dX8_lay_21 ?_
    have hs1 := hw.1
    have hw := hw.2
    have hs2 := hw.1
    have hw := hw.2
    have hs3 := hw.1
    have hw := hw.2
    refine wbcp_2_1 zc hK hM hS hl.1 (zc.2.2.2.2.1 _ km_8_18) (by decide) (by decide) hs1 hs2 hs3 (fun _ _ => rfl) (by decide) (by decide) dX8_lay_22 (fun a_less_1 H locs ea_less_1 hM hS => ?_)
    have hw := hw a_less_1 ea_less_1
    refine lv_iconst (v := (0 : Int32)) hx hb dX8_lay_25 (by decide) ?_
    refine lv_istore (lv' := [(5, .int (0 : Int32)), (0, .ref qb), (1, .int x1), (2, .int x2), (3, .int x3), (4, .int x4)]) hx hb dX8_lay_26 hl (by decide) rfl (fun ls hl => ?_)
    exact t_wb_X8_lay_28 zc hK hM hS (fun _ _ _ H locs ls h hl hM hS => h H locs ls hl hM hS) (lv_sub hl [1, 2, 3, 4, 5, 0] rfl) hw
set_option maxRecDepth 20000 in
theorem t_wb_X8_lay_0 {p : Program} {l : Launch} {e : Env} {s : State} {m : MethodId} {args : Array Value} {below : List Frame} {meth : Method} {c : Code} {E : zE} {qb : Nat} {a_less : Nat → Int32} {a_full : Nat → Int32} {post : (Nat → Int32) → (Nat → Int32) → Prop} {x1 : Int32} {x2 : Int32} {x3 : Int32} {ls : Array Slot} {H : Heap} {locs : List Loc}
    (zc : zC p s m args meth c cX8_lay 6 RX8 none)
    (hK : zK E s)
    (hM : wbW E qb a_less a_full H)
    (hS : va_S (wbA qb) s.heap H locs)
    (hl : lv_has ls 6 [(0, .ref qb), (1, .int x1), (2, .int x2), (3, .int x3)])
    (hw : q_wb_X8_lay_0 a_less a_full x1 x2 x3 post) :
    W p l e rm_wb_X8_lay s m args below meth c H locs 0 0 (MQ below (zQv (S := (Nat → Int32) × (Nat → Int32)) (fun u => post u.1 u.2) (fun u H => wbW E qb u.1 u.2 H) (wbA qb)) args s 0 0 (wbA qb)) (F0 m 0 ls []) := by
  have hx := zc.1
  have hb := zc.2.1
  refine lv_iconst (v := (0 : Int32)) hx hb dX8_lay_0 (by decide) ?_
  refine lv_istore (lv' := [(4, .int (0 : Int32)), (0, .ref qb), (1, .int x1), (2, .int x2), (3, .int x3)]) hx hb dX8_lay_1 hl (by decide) rfl (fun ls hl => ?_)
  exact t_wb_X8_lay_3 zc hK hM hS  (lv_sub hl [1, 2, 3, 4, 0] rfl) hw
set_option maxRecDepth 20000 in
theorem c_wb_X8_lay (l : Launch) {E : zE} {qb : Nat} {a_less : Nat → Int32} {a_full : Nat → Int32} {x1 : Int32} {x2 : Int32} {x3 : Int32} {post : (Nat → Int32) → (Nat → Int32) → Prop} (hw : q_wb_X8_lay_0 a_less a_full x1 x2 x3 post) : Met l yX8_lay (Cond.code yX8_lay cX8_lay 6 none :: zb) rm_wb_X8_lay (va_Pc [.ref qb, .int x1, .int x2, .int x3] (fun U => wbW E qb a_less a_full U.heap ∧ zK E U)) (zQv (S := (Nat → Int32) × (Nat → Int32)) (fun u => post u.1 u.2) (fun u H => wbW E qb u.1 u.2 H) (wbA qb)) 0 0 (wbA qb) := by
  refine Met.ofW (cc := cX8_lay) (maxL := 6) (ret := none) (by decide) rfl ?_
  intro p e s m args below meth c s₁ B hml hv
  obtain ⟨rfl, hM, hK⟩ := hv
  have zc := zc_of B hml
  have hl := lv_entry ([.ref qb, .int x1, .int x2, .int x3]) (n := 6) (Nat.le_of_ble_eq_true rfl)
  rw [lg_entry_eq]
  generalize (lg_sl ([.ref qb, .int x1, .int x2, .int x3]) ++ List.replicate (6 - (lg_sl ([.ref qb, .int x1, .int x2, .int x3])).length) Slot.unset).toArray = ls at hl ⊢
  have hl : lv_has ls 6 [(0, .ref qb), (1, .int x1), (2, .int x2), (3, .int x3)] := hl
  exact t_wb_X8_lay_0 zc hK hM va_S.rf (lv_sub hl [0, 1, 2, 3] rfl) hw
