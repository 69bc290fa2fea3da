-- wv_X1_look
abbrev rm_wv_X1_look : Room := { frames := 0, cells := 0, slots := 0, locals := 0 }
def q_wv_X1_look_0 (a_kinds : Nat → Int32) (a_firsts : Nat → Int32) (a_seconds : Nat → Int32) (x1 : Int32) (x2 : Int32) (post : Int32 → Prop) : Prop :=
  (x2.toInt < 0 ∨ 2 < x2.toInt → (post (-2 : Int32))) ∧ (x2 = (0 : Int32) → (vp_in x1 40 ∧ (post (a_kinds (Int32.toNatClampNeg x1))))) ∧ (x2 = (1 : Int32) → (vp_in x1 40 ∧ (post (a_firsts (Int32.toNatClampNeg x1))))) ∧ (x2 = (2 : Int32) → (vp_in x1 40 ∧ (post (a_seconds (Int32.toNatClampNeg x1)))))
set_option maxRecDepth 20000 in
theorem t_wv_X1_look_0 {p : Program} {l : Launch} {e : Env} {s : State} {m : MethodId} {args : Array Value} {below : List Frame} {meth : Method} {c : Code} {E : zE} {qv : Nat} {f_deeds : Int32} {a_kinds : Nat → Int32} {a_firsts : Nat → Int32} {a_seconds : Nat → Int32} {post : Int32 → Prop} {x1 : Int32} {x2 : Int32} {ls : Array Slot}
    (zc : zC p s m args meth c cX1_look 3 RX1 (some .int))
    (hK : zK E s)
    (hM : wvW E qv f_deeds a_kinds a_firsts a_seconds s.heap)
    (hl : lv_has ls 3 [(0, .ref qv), (1, .int x1), (2, .int x2)])
    (hw : q_wv_X1_look_0 a_kinds a_firsts a_seconds x1 x2 post) :
    W p l e rm_wv_X1_look s m args below meth c s.heap [] 0 0 (MQ below (vp_Si post) args s 0 0 (fun _ => False)) (F0 m 0 ls []) := by
  have hx := zc.1
  have hb := zc.2.1
  refine lv_iload_n hx hb dX1_look_0 rfl (lv_at hl 2 rfl) ?_
  by_cases hc : x2.toInt < 0 ∨ 2 < x2.toInt
  · have hw := hw.1 hc
    refine lv_tableOut (tgt := 49) hx hb dX1_look_1 hc (by decide) ?_
    refine lv_bipush (v := (-2 : Int32)) hx hb dX1_look_49 (by decide) ?_
    exact zret_i zc hw dX1_look_51
  have hin := zsw hc
  by_cases hc0 : x2 = (0 : Int32)
  · have hw := hw.2.1 hc0
    refine lv_tableIn (tgt := 28) hx hb dX1_look_1 (by rw [hc0]; decide) (by rw [hc0]; decide) (by rw [hc0]; rfl) (by decide) ?_
    refine lv_aload_n hx hb dX1_look_28 rfl (lv_at hl 0 rfl) ?_
    refine wvg_1_9_0 zc hK hM dX1_look_29 ?_
    refine lv_iload_n hx hb dX1_look_32 rfl (lv_at hl 1 rfl) ?_
    refine wvld_1 zc hK hM hw.1 dX1_look_33 ?_
    have hw := hw.2
    exact zret_i zc hw dX1_look_34
  by_cases hc1 : x2 = (1 : Int32)
  · have hw := hw.2.2.1 hc1
    refine lv_tableIn (tgt := 35) hx hb dX1_look_1 (by rw [hc1]; decide) (by rw [hc1]; decide) (by rw [hc1]; rfl) (by decide) ?_
    refine lv_aload_n hx hb dX1_look_35 rfl (lv_at hl 0 rfl) ?_
    refine wvg_1_15_0 zc hK hM dX1_look_36 ?_
    refine lv_iload_n hx hb dX1_look_39 rfl (lv_at hl 1 rfl) ?_
    refine wvld_2 zc hK hM hw.1 dX1_look_40 ?_
    have hw := hw.2
    exact zret_i zc hw dX1_look_41
  by_cases hc2 : x2 = (2 : Int32)
  · have hw := hw.2.2.2 hc2
    refine lv_tableIn (tgt := 42) hx hb dX1_look_1 (by rw [hc2]; decide) (by rw [hc2]; decide) (by rw [hc2]; rfl) (by decide) ?_
    refine lv_aload_n hx hb dX1_look_42 rfl (lv_at hl 0 rfl) ?_
    refine wvg_1_18_0 zc hK hM dX1_look_43 ?_
    refine lv_iload_n hx hb dX1_look_46 rfl (lv_at hl 1 rfl) ?_
    refine wvld_3 zc hK hM hw.1 dX1_look_47 ?_
    have hw := hw.2
    exact zret_i zc hw dX1_look_48
  exact absurd hin (by have h0 := zne hc0; have h1 := zne hc1; have h2 := zne hc2; simp at *; omega)
set_option maxRecDepth 20000 in
theorem c_wv_X1_look (l : Launch) {E : zE} {qv : Nat} {f_deeds : Int32} {a_kinds : Nat → Int32} {a_firsts : Nat → Int32} {a_seconds : Nat → Int32} {x1 : Int32} {x2 : Int32} {post : Int32 → Prop} (hw : q_wv_X1_look_0 a_kinds a_firsts a_seconds x1 x2 post) : Met l yX1_look (Cond.code yX1_look cX1_look 3 (some .int) :: zb) rm_wv_X1_look (va_Pc [.ref qv, .int x1, .int x2] (fun U => wvW E qv f_deeds a_kinds a_firsts a_seconds U.heap ∧ zK E U)) (vp_Si post) 0 0 (fun _ => False) := by
  refine Met.ofW (cc := cX1_look) (maxL := 3) (ret := (some .int)) (by decide) rfl ?_
  intro p e s m args below meth c s₁ B hml hv
  obtain ⟨rfl, hM, hK⟩ := hv
  have zc := zc_of B hml
  have hl := lv_entry ([.ref qv, .int x1, .int x2]) (n := 3) (Nat.le_of_ble_eq_true rfl)
  rw [lg_entry_eq]
  generalize (lg_sl ([.ref qv, .int x1, .int x2]) ++ List.replicate (3 - (lg_sl ([.ref qv, .int x1, .int x2])).length) Slot.unset).toArray = ls at hl ⊢
  have hl : lv_has ls 3 [(0, .ref qv), (1, .int x1), (2, .int x2)] := hl
  exact t_wv_X1_look_0 zc hK hM (lv_sub hl [0, 1, 2] rfl) hw
