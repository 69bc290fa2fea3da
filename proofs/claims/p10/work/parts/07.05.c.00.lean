-- wc_X0_longestFall
abbrev rm_wc_X0_longestFall : Room := { frames := 1, cells := 0, slots := 0, locals := 40 }
def q_wc_X0_longestFall_42 (P6 : Int32 → Int32 → Int32 → Prop) (f_voices : Int32) (a_heights : Nat → Int32) (x1 : Int32) (x3 : Int32) (y0 : Int32) (post : Int32 → Prop) : Prop :=
  ∀ v_1 : Int32, v_1 = (if x1 < y0 then y0 else x1) → (∀ v_2 : Int32, v_2 = x3 + (1 : Int32) → (P6 v_1 y0 v_2))
def q_wc_X0_longestFall_41 (P6 : Int32 → Int32 → Int32 → Prop) (f_voices : Int32) (a_heights : Nat → Int32) (x1 : Int32) (x3 : Int32) (post : Int32 → Prop) : Prop :=
  q_wc_X0_longestFall_42 P6 f_voices a_heights x1 x3 (1 : Int32) post
def q_wc_X0_longestFall_6 (f_voices : Int32) (a_heights : Nat → Int32) (x1 : Int32) (x2 : Int32) (x3 : Int32) (post : Int32 → Prop) : Prop :=
  ∀ P6 : Int32 → Int32 → Int32 → Prop, (∀ (x1 : Int32) (x2 : Int32) (x3 : Int32), ((f_voices ≤ x3 → (post x1)) ∧ (¬ f_voices ≤ x3 → ((x3 ≤ 0 → (q_wc_X0_longestFall_41 P6 f_voices a_heights x1 x3 post)) ∧ (¬ x3 ≤ 0 → (vp_in x3 9 ∧ (vp_in (x3 - (1 : Int32)) 9 ∧ (((a_heights (Int32.toNatClampNeg (x3 - (1 : Int32)))) ≤ (a_heights (Int32.toNatClampNeg x3)) → (q_wc_X0_longestFall_41 P6 f_voices a_heights x1 x3 post)) ∧ (¬ (a_heights (Int32.toNatClampNeg (x3 - (1 : Int32)))) ≤ (a_heights (Int32.toNatClampNeg x3)) → (q_wc_X0_longestFall_42 P6 f_voices a_heights x1 x3 (x2 + (1 : Int32)) post))))))))) → P6 x1 x2 x3) → P6 x1 x2 x3
def q_wc_X0_longestFall_0 (f_voices : Int32) (a_heights : Nat → Int32) (post : Int32 → Prop) : Prop :=
  q_wc_X0_longestFall_6 f_voices a_heights (0 : Int32) (0 : Int32) (0 : Int32) post
set_option maxRecDepth 20000 in
theorem t_wc_X0_longestFall_42 {p : Program} {l : Launch} {e : Env} {s : State} {m : MethodId} {args : Array Value} {below : List Frame} {meth : Method} {c : Code} {E : zE} {qc : Nat} {f_voices : Int32} {f_step : Int32} {a_parts : Nat → Int32} {a_heights : Nat → Int32} {P6 : Int32 → Int32 → Int32 → Prop} {post : Int32 → Prop} {x1 : Int32} {x3 : Int32} {y0 : Int32} {ls : Array Slot}
    (zc : zC p s m args meth c cX0_longestFall 4 RX0 (some .int))
    (hK : zK E s)
    (hM : wcW E qc f_voices f_step a_parts a_heights s.heap)
    (hP6 : ∀ (x1 : Int32) (x2 : Int32) (x3 : Int32) (ls : Array Slot), P6 x1 x2 x3 → lv_has ls 4 [(0, .ref qc), (1, .int x1), (2, .int x2), (3, .int x3)] → W p l e rm_wc_X0_longestFall s m args below meth c s.heap [] 0 0 (MQ below (vp_Si post) args s 0 0 (fun _ => False)) (F0 m 6 ls []))
    (hl : lv_has ls 4 [(0, .ref qc), (1, .int x1), (3, .int x3)])
    (hw : q_wc_X0_longestFall_42 P6 f_voices a_heights x1 x3 y0 post) :
    W p l e rm_wc_X0_longestFall s m args below meth c s.heap [] 0 0 (MQ below (vp_Si post) args s 0 0 (fun _ => False)) (F0 m 42 ls [.int y0]) := by
  have hx := zc.1
  have hb := zc.2.1
  refine lv_istore_n (lv' := [(2, .int y0), (0, .ref qc), (1, .int x1), (3, .int x3)]) hx hb dX0_longestFall_42 rfl hl (by decide) rfl (fun ls hl => ?_)
  refine lv_iload_n hx hb dX0_longestFall_43 rfl (lv_at hl 2 rfl) ?_
  refine lv_iload_n hx hb dX0_longestFall_44 rfl (lv_at hl 0 rfl) ?_
  refine va_mmax hx hb (zc.2.2.1.trans hl.1.symm) zc.2.2.2.1 (zc.2.2.2.2.1 _ km_0_31) (zc.2.2.2.2.1 _ k_mmaxs) (zc.2.2.2.2.1 _ k_mini) (zc.2.2.2.2.1 _ k_mmaxc) (Nat.le_of_ble_eq_true rfl) (Nat.le_of_ble_eq_true rfl) (Nat.zero_le _) (Nat.zero_le _) dX0_longestFall_45 ?_
  refine lv_topi (fun v_1 ev_1 => ?_)
  have hw := hw v_1 ev_1
  refine lv_istore_n (lv' := [(1, .int v_1), (2, .int y0), (0, .ref qc), (3, .int x3)]) hx hb dX0_longestFall_48 rfl hl (by decide) rfl (fun ls hl => ?_)
  obtain ⟨v_2, ev_2⟩ : ∃ y : Int32, y = x3 + (1 : Int32) := ⟨_, rfl⟩
  have hw := hw v_2 ev_2
  refine lv_iinc (v := v_2) (k := 3) (lv' := [(3, .int v_2), (1, .int v_1), (2, .int y0), (0, .ref qc)]) hx hb dX0_longestFall_49 hl rfl (by rw [ev_2]; rfl) (by decide) rfl (fun ls hl => ?_)
  refine lv_goto (tgt := 6) hx hb dX0_longestFall_52 (by decide) ?_
  exact hP6 _ _ _ _ hw (lv_sub hl [3, 1, 2, 0] rfl)
set_option maxRecDepth 20000 in
theorem t_wc_X0_longestFall_41 {p : Program} {l : Launch} {e : Env} {s : State} {m : MethodId} {args : Array Value} {below : List Frame} {meth : Method} {c : Code} {E : zE} {qc : Nat} {f_voices : Int32} {f_step : Int32} {a_parts : Nat → Int32} {a_heights : Nat → Int32} {P6 : Int32 → Int32 → Int32 → Prop} {post : Int32 → Prop} {x1 : Int32} {x3 : Int32} {ls : Array Slot}
    (zc : zC p s m args meth c cX0_longestFall 4 RX0 (some .int))
    (hK : zK E s)
    (hM : wcW E qc f_voices f_step a_parts a_heights s.heap)
    (hP6 : ∀ (x1 : Int32) (x2 : Int32) (x3 : Int32) (ls : Array Slot), P6 x1 x2 x3 → lv_has ls 4 [(0, .ref qc), (1, .int x1), (2, .int x2), (3, .int x3)] → W p l e rm_wc_X0_longestFall s m args below meth c s.heap [] 0 0 (MQ below (vp_Si post) args s 0 0 (fun _ => False)) (F0 m 6 ls []))
    (hl : lv_has ls 4 [(0, .ref qc), (1, .int x1), (3, .int x3)])
    (hw : q_wc_X0_longestFall_41 P6 f_voices a_heights x1 x3 post) :
    W p l e rm_wc_X0_longestFall s m args below meth c s.heap [] 0 0 (MQ below (vp_Si post) args s 0 0 (fun _ => False)) (F0 m 41 ls []) := by
  have hx := zc.1
  have hb := zc.2.1
  refine lv_iconst (v := (1 : Int32)) hx hb dX0_longestFall_41 (by decide) ?_
  exact t_wc_X0_longestFall_42 zc hK hM hP6 (lv_sub hl [0, 1, 2] rfl) hw
set_option maxRecDepth 20000 in
theorem t_wc_X0_longestFall_6 {p : Program} {l : Launch} {e : Env} {s : State} {m : MethodId} {args : Array Value} {below : List Frame} {meth : Method} {c : Code} {E : zE} {qc : Nat} {f_voices : Int32} {f_step : Int32} {a_parts : Nat → Int32} {a_heights : Nat → Int32} {post : Int32 → Prop} {x1 : Int32} {x2 : Int32} {x3 : Int32} {ls : Array Slot}
    (zc : zC p s m args meth c cX0_longestFall 4 RX0 (some .int))
    (hK : zK E s)
    (hM : wcW E qc f_voices f_step a_parts a_heights s.heap)
    (hl : lv_has ls 4 [(0, .ref qc), (1, .int x1), (2, .int x2), (3, .int x3)])
    (hw : q_wc_X0_longestFall_6 f_voices a_heights x1 x2 x3 post) :
    W p l e rm_wc_X0_longestFall s m args below meth c s.heap [] 0 0 (MQ below (vp_Si post) args s 0 0 (fun _ => False)) (F0 m 6 ls []) := by
  have hx := zc.1
  have hb := zc.2.1
  refine hw (fun x1 x2 x3 => ∀ (ls : Array Slot), lv_has ls 4 [(0, .ref qc), (1, .int x1), (2, .int x2), (3, .int x3)] → W p l e rm_wc_X0_longestFall s m args below meth c s.heap [] 0 0 (MQ below (vp_Si post) args s 0 0 (fun _ => False)) (F0 m 6 ls [])) ?_ _ hl
  intro x1 x2 x3 hw ls hl
  refine lv_iload_n hx hb dX0_longestFall_6 rfl (lv_at hl 3 rfl) ?_
  refine lv_aload_n hx hb dX0_longestFall_7 rfl (lv_at hl 0 rfl) ?_
  refine wcg_0_18_0 zc hK hM dX0_longestFall_8 ?_
  refine lv_icmp_ge (tgt := 55) hx hb dX0_longestFall_11 (by decide) (fun hc => ?_) (fun hc => ?_)
  · have hw := hw.1 hc
    refine lv_iload_n hx hb dX0_longestFall_55 rfl (lv_at hl 1 rfl) ?_
    exact zret_i zc hw dX0_longestFall_56
  · have hw := hw.2 hc
    refine lv_iload_n hx hb dX0_longestFall_14 rfl (lv_at hl 3 rfl) ?_
    refine lv_if_le (tgt := 41) hx hb dX0_longestFall_15 (by decide) (fun hc => ?_) (fun hc => ?_)
    · have hw := hw.1 hc
      exact t_wc_X0_longestFall_41 zc hK hM (fun _ _ _ ls h hl => h ls hl) (lv_sub hl [0, 1, 3] rfl) hw
    · have hw := hw.2 hc
      refine lv_aload_n hx hb dX0_longestFall_18 rfl (lv_at hl 0 rfl) ?_
      refine wcg_0_15_0 zc hK hM dX0_longestFall_19 ?_
      refine lv_iload_n hx hb dX0_longestFall_22 rfl (lv_at hl 3 rfl) ?_
      refine wcld_2 zc hK hM hw.1 dX0_longestFall_23 ?_
      have hw := hw.2
      refine lv_aload_n hx hb dX0_longestFall_24 rfl (lv_at hl 0 rfl) ?_
      refine wcg_0_15_0 zc hK hM dX0_longestFall_25 ?_
      refine lv_iload_n hx hb dX0_longestFall_28 rfl (lv_at hl 3 rfl) ?_
      refine lv_iconst (v := (1 : Int32)) hx hb dX0_longestFall_29 (by decide) ?_
      refine lv_isub hx hb dX0_longestFall_30 ?_
      refine wcld_2 zc hK hM hw.1 dX0_longestFall_31 ?_
      have hw := hw.2
      refine lv_icmp_ge (tgt := 41) hx hb dX0_longestFall_32 (by decide) (fun hc => ?_) (fun hc => ?_)
      · have hw := hw.1 hc
        exact t_wc_X0_longestFall_41 zc hK hM (fun _ _ _ ls h hl => h ls hl) (lv_sub hl [0, 1, 3] rfl) hw
      · have hw := hw.2 hc
        refine lv_iload_n hx hb dX0_longestFall_35 rfl (lv_at hl 2 rfl) ?_
        refine lv_iconst (v := (1 : Int32)) hx hb dX0_longestFall_36 (by decide) ?_
        refine lv_iadd hx hb dX0_longestFall_37 ?_
        refine lv_goto (tgt := 42) hx hb dX0_longestFall_38 (by decide) ?_
        exact t_wc_X0_longestFall_42 zc hK hM (fun _ _ _ ls h hl => h ls hl) (lv_sub hl [0, 1, 3] rfl) hw
set_option maxRecDepth 20000 in
theorem t_wc_X0_longestFall_0 {p : Program} {l : Launch} {e : Env} {s : State} {m : MethodId} {args : Array Value} {below : List Frame} {meth : Method} {c : Code} {E : zE} {qc : Nat} {f_voices : Int32} {f_step : Int32} {a_parts : Nat → Int32} {a_heights : Nat → Int32} {post : Int32 → Prop} {ls : Array Slot}
    (zc : zC p s m args meth c cX0_longestFall 4 RX0 (some .int))
    (hK : zK E s)
    (hM : wcW E qc f_voices f_step a_parts a_heights s.heap)
    (hl : lv_has ls 4 [(0, .ref qc)])
    (hw : q_wc_X0_longestFall_0 f_voices a_heights post) :
    W p l e rm_wc_X0_longestFall s m args below meth c s.heap [] 0 0 (MQ below (vp_Si post) args s 0 0 (fun _ => False)) (F0 m 0 ls []) := by
  have hx := zc.1
  have hb := zc.2.1
  refine lv_iconst (v := (0 : Int32)) hx hb dX0_longestFall_0 (by decide) ?_
  refine lv_istore_n (lv' := [(1, .int (0 : Int32)), (0, .ref qc)]) hx hb dX0_longestFall_1 rfl hl (by decide) rfl (fun ls hl => ?_)
  refine lv_iconst (v := (0 : Int32)) hx hb dX0_longestFall_2 (by decide) ?_
  refine lv_istore_n (lv' := [(2, .int (0 : Int32)), (1, .int (0 : Int32)), (0, .ref qc)]) hx hb dX0_longestFall_3 rfl hl (by decide) rfl (fun ls hl => ?_)
  refine lv_iconst (v := (0 : Int32)) hx hb dX0_longestFall_4 (by decide) ?_
  refine lv_istore_n (lv' := [(3, .int (0 : Int32)), (2, .int (0 : Int32)), (1, .int (0 : Int32)), (0, .ref qc)]) hx hb dX0_longestFall_5 rfl hl (by decide) rfl (fun ls hl => ?_)
  exact t_wc_X0_longestFall_6 zc hK hM  (lv_sub hl [3, 2, 1, 0] rfl) hw
set_option maxRecDepth 20000 in
theorem c_wc_X0_longestFall (l : Launch) {E : zE} {qc : Nat} {f_voices : Int32} {f_step : Int32} {a_parts : Nat → Int32} {a_heights : Nat → Int32} {post : Int32 → Prop} (hw : q_wc_X0_longestFall_0 f_voices a_heights post) : Met l yX0_longestFall (Cond.code yX0_longestFall cX0_longestFall 4 (some .int) :: zb) rm_wc_X0_longestFall (va_Pc [.ref qc] (fun U => wcW E qc f_voices f_step a_parts a_heights U.heap ∧ zK E U)) (vp_Si post) 0 0 (fun _ => False) := by
  refine Met.ofW (cc := cX0_longestFall) (maxL := 4) (ret := (some .int)) (by decide) rfl ?_
  intro p e s m args below meth c s₁ B hml hv
  obtain ⟨rfl, hM, hK⟩ := hv
  have zc := zc_of B hml
  have hl := lv_entry ([.ref qc]) (n := 4) (Nat.le_of_ble_eq_true rfl)
  rw [lg_entry_eq]
  generalize (lg_sl ([.ref qc]) ++ List.replicate (4 - (lg_sl ([.ref qc])).length) Slot.unset).toArray = ls at hl ⊢
  have hl : lv_has ls 4 [(0, .ref qc)] := hl
  exact t_wc_X0_longestFall_0 zc hK hM (lv_sub hl [0] rfl) hw
-- wc_X0_look
abbrev rm_wc_X0_look : Room := { frames := 2, cells := 0, slots := 0, locals := 63 }
def q_wc_X0_look_56 (f_voices : Int32) (f_step : Int32) (a_parts : Nat → Int32) (a_heights : Nat → Int32) (x1 : Int32) (post : Int32 → Prop) : Prop :=
  (x1 < (20 : Int32) → (post (-1 : Int32))) ∧ (¬ x1 < (20 : Int32) → ((((20 : Int32) + f_voices) ≤ x1 → (post (-1 : Int32))) ∧ (¬ ((20 : Int32) + f_voices) ≤ x1 → (vp_in (x1 - (20 : Int32)) 9 ∧ (post (a_heights (Int32.toNatClampNeg (x1 - (20 : Int32)))))))))
def q_wc_X0_look_0 (f_voices : Int32) (f_step : Int32) (a_parts : Nat → Int32) (a_heights : Nat → Int32) (x1 : Int32) (post : Int32 → Prop) : Prop :=
  (¬ x1 = 0 → ((¬ x1 = (1 : Int32) → ((¬ x1 = (3 : Int32) → ((x1 < (10 : Int32) → (q_wc_X0_look_56 f_voices f_step a_parts a_heights x1 post)) ∧ (¬ x1 < (10 : Int32) → ((((10 : Int32) + f_voices) ≤ x1 → (q_wc_X0_look_56 f_voices f_step a_parts a_heights x1 post)) ∧ (¬ ((10 : Int32) + f_voices) ≤ x1 → (vp_in (x1 - (10 : Int32)) 9 ∧ (post (a_parts (Int32.toNatClampNeg (x1 - (10 : Int32))))))))))) ∧ (x1 = (3 : Int32) → (q_wc_X0_longestFall_0 f_voices a_heights (fun r_1 => post r_1))))) ∧ (x1 = (1 : Int32) → (post f_step)))) ∧ (x1 = 0 → (post f_voices))
set_option maxRecDepth 20000 in
theorem t_wc_X0_look_56 {p : Program} {l : Launch} {e : Env} {s : State} {m : MethodId} {args : Array Value} {below : List Frame} {meth : Method} {c : Code} {E : zE} {qc : Nat} {f_voices : Int32} {f_step : Int32} {a_parts : Nat → Int32} {a_heights : Nat → Int32} {post : Int32 → Prop} {x1 : Int32} {ls : Array Slot}
    (zc : zC p s m args meth c cX0_look 2 RX0 (some .int))
    (hK : zK E s)
    (hM : wcW E qc f_voices f_step a_parts a_heights s.heap)
    (hl : lv_has ls 2 [(0, .ref qc), (1, .int x1)])
    (hw : q_wc_X0_look_56 f_voices f_step a_parts a_heights x1 post) :
    W p l e rm_wc_X0_look s m args below meth c s.heap [] 0 0 (MQ below (vp_Si post) args s 0 0 (fun _ => False)) (F0 m 56 ls []) := by
  have hx := zc.1
  have hb := zc.2.1
  refine lv_iload_n hx hb dX0_look_56 rfl (lv_at hl 1 rfl) ?_
  refine lv_bipush (v := (20 : Int32)) hx hb dX0_look_57 (by decide) ?_
  refine lv_icmp_lt (tgt := 85) hx hb dX0_look_59 (by decide) (fun hc => ?_) (fun hc => ?_)
  · have hw := hw.1 hc
    refine lv_iconst (v := (-1 : Int32)) hx hb dX0_look_85 (by decide) ?_
    exact zret_i zc hw dX0_look_86
  · have hw := hw.2 hc
    refine lv_iload_n hx hb dX0_look_62 rfl (lv_at hl 1 rfl) ?_
    refine lv_bipush (v := (20 : Int32)) hx hb dX0_look_63 (by decide) ?_
    refine lv_aload_n hx hb dX0_look_65 rfl (lv_at hl 0 rfl) ?_
    refine wcg_0_18_0 zc hK hM dX0_look_66 ?_
    refine lv_iadd hx hb dX0_look_69 ?_
    refine lv_icmp_ge (tgt := 85) hx hb dX0_look_70 (by decide) (fun hc => ?_) (fun hc => ?_)
    · have hw := hw.1 hc
      refine lv_iconst (v := (-1 : Int32)) hx hb dX0_look_85 (by decide) ?_
      exact zret_i zc hw dX0_look_86
    · have hw := hw.2 hc
      refine lv_aload_n hx hb dX0_look_73 rfl (lv_at hl 0 rfl) ?_
      refine wcg_0_15_0 zc hK hM dX0_look_74 ?_
      refine lv_iload_n hx hb dX0_look_77 rfl (lv_at hl 1 rfl) ?_
      refine lv_bipush (v := (20 : Int32)) hx hb dX0_look_78 (by decide) ?_
      refine lv_isub hx hb dX0_look_80 ?_
      refine wcld_2 zc hK hM hw.1 dX0_look_81 ?_
      have hw := hw.2
      refine lv_goto (tgt := 86) hx hb dX0_look_82 (by decide) ?_
      exact zret_i zc hw dX0_look_86
set_option maxRecDepth 20000 in
theorem t_wc_X0_look_0 {p : Program} {l : Launch} {e : Env} {s : State} {m : MethodId} {args : Array Value} {below : List Frame} {meth : Method} {c : Code} {E : zE} {qc : Nat} {f_voices : Int32} {f_step : Int32} {a_parts : Nat → Int32} {a_heights : Nat → Int32} {post : Int32 → Prop} {x1 : Int32} {ls : Array Slot}
    (zc : zC p s m args meth c cX0_look 2 RX0 (some .int))
    (hK : zK E s)
    (hM : wcW E qc f_voices f_step a_parts a_heights s.heap)
    (hl : lv_has ls 2 [(0, .ref qc), (1, .int x1)])
    (hw : q_wc_X0_look_0 f_voices f_step a_parts a_heights x1 post) :
    W p l e rm_wc_X0_look s m args below meth c s.heap [] 0 0 (MQ below (vp_Si post) args s 0 0 (fun _ => False)) (F0 m 0 ls []) := by
  have hx := zc.1
  have hb := zc.2.1
  refine lv_iload_n hx hb dX0_look_0 rfl (lv_at hl 1 rfl) ?_
  refine lv_if_ne (tgt := 9) hx hb dX0_look_1 (by decide) (fun hc => ?_) (fun hc => ?_)
  · have hw := hw.1 hc
    refine lv_iload_n hx hb dX0_look_9 rfl (lv_at hl 1 rfl) ?_
    refine lv_iconst (v := (1 : Int32)) hx hb dX0_look_10 (by decide) ?_
    refine lv_icmp_ne (tgt := 19) hx hb dX0_look_11 (by decide) (fun hc => ?_) (fun hc => ?_)
    · have hw := hw.1 hc
      refine lv_iload_n hx hb dX0_look_19 rfl (lv_at hl 1 rfl) ?_
      refine lv_iconst (v := (3 : Int32)) hx hb dX0_look_20 (by decide) ?_
      refine lv_icmp_ne (tgt := 29) hx hb dX0_look_21 (by decide) (fun hc => ?_) (fun hc => ?_)
      · have hw := hw.1 hc
        refine lv_iload_n hx hb dX0_look_29 rfl (lv_at hl 1 rfl) ?_
        refine lv_bipush (v := (10 : Int32)) hx hb dX0_look_30 (by decide) ?_
        refine lv_icmp_lt (tgt := 56) hx hb dX0_look_32 (by decide) (fun hc => ?_) (fun hc => ?_)
        · have hw := hw.1 hc
          exact t_wc_X0_look_56 zc hK hM  (lv_sub hl [0, 1] rfl) hw
        · have hw := hw.2 hc
          refine lv_iload_n hx hb dX0_look_35 rfl (lv_at hl 1 rfl) ?_
          refine lv_bipush (v := (10 : Int32)) hx hb dX0_look_36 (by decide) ?_
          refine lv_aload_n hx hb dX0_look_38 rfl (lv_at hl 0 rfl) ?_
          refine wcg_0_18_0 zc hK hM dX0_look_39 ?_
          refine lv_iadd hx hb dX0_look_42 ?_
          refine lv_icmp_ge (tgt := 56) hx hb dX0_look_43 (by decide) (fun hc => ?_) (fun hc => ?_)
          · have hw := hw.1 hc
            exact t_wc_X0_look_56 zc hK hM  (lv_sub hl [0, 1] rfl) hw
          · have hw := hw.2 hc
            refine lv_aload_n hx hb dX0_look_46 rfl (lv_at hl 0 rfl) ?_
            refine wcg_0_9_0 zc hK hM dX0_look_47 ?_
            refine lv_iload_n hx hb dX0_look_50 rfl (lv_at hl 1 rfl) ?_
            refine lv_bipush (v := (10 : Int32)) hx hb dX0_look_51 (by decide) ?_
            refine lv_isub hx hb dX0_look_53 ?_
            refine wcld_1 zc hK hM hw.1 dX0_look_54 ?_
            have hw := hw.2
            exact zret_i zc hw dX0_look_55
      · have hw := hw.2 hc
        refine lv_aload_n hx hb dX0_look_24 rfl (lv_at hl 0 rfl) ?_
        refine zV_i [] [] zc ky_X0_longestFall kz_X0_longestFall km_0_37 (c_wc_X0_longestFall l hw) (wcPreV0 hK hM) rfl rfl hl.1 (Nat.le_of_ble_eq_true rfl) ⟨rfl, rfl⟩ ⟨Nat.le_of_ble_eq_true rfl, Nat.le_of_ble_eq_true rfl⟩ ⟨(Nat.zero_le _), (Nat.zero_le _)⟩ dX0_look_25 (fun r_1 hw => ?_)
        exact zret_i zc hw dX0_look_28
    · have hw := hw.2 hc
      refine lv_aload_n hx hb dX0_look_14 rfl (lv_at hl 0 rfl) ?_
      refine wcg_0_22_0 zc hK hM dX0_look_15 ?_
      exact zret_i zc hw dX0_look_18
  · have hw := hw.2 hc
    refine lv_aload_n hx hb dX0_look_4 rfl (lv_at hl 0 rfl) ?_
    refine wcg_0_18_0 zc hK hM dX0_look_5 ?_
    exact zret_i zc hw dX0_look_8
set_option maxRecDepth 20000 in
theorem c_wc_X0_look (l : Launch) {E : zE} {qc : Nat} {f_voices : Int32} {f_step : Int32} {a_parts : Nat → Int32} {a_heights : Nat → Int32} {x1 : Int32} {post : Int32 → Prop} (hw : q_wc_X0_look_0 f_voices f_step a_parts a_heights x1 post) : Met l yX0_look (Cond.code yX0_look cX0_look 2 (some .int) :: zb) rm_wc_X0_look (va_Pc [.ref qc, .int x1] (fun U => wcW E qc f_voices f_step a_parts a_heights U.heap ∧ zK E U)) (vp_Si post) 0 0 (fun _ => False) := by
  refine Met.ofW (cc := cX0_look) (maxL := 2) (ret := (some .int)) (by decide) rfl ?_
  intro p e s m args below meth c s₁ B hml hv
  obtain ⟨rfl, hM, hK⟩ := hv
  have zc := zc_of B hml
  have hl := lv_entry ([.ref qc, .int x1]) (n := 2) (Nat.le_of_ble_eq_true rfl)
  rw [lg_entry_eq]
  generalize (lg_sl ([.ref qc, .int x1]) ++ List.replicate (2 - (lg_sl ([.ref qc, .int x1])).length) Slot.unset).toArray = ls at hl ⊢
  have hl : lv_has ls 2 [(0, .ref qc), (1, .int x1)] := hl
  exact t_wc_X0_look_0 zc hK hM (lv_sub hl [0, 1] rfl) hw
