-- ws_X6_staysWithin
abbrev rm_ws_X6_staysWithin : Room := { frames := 0, cells := 0, slots := 0, locals := 0 }
def q_ws_X6_staysWithin_2 (f_facts : Int32) (a_huts : Nat → Int32) (x1 : Int32) (x2 : Int32) (post : Int32 → Prop) : Prop :=
  ∀ P2 : Int32 → Prop, (∀ (x2 : Int32), ((f_facts ≤ x2 → (post (1 : Int32))) ∧ (¬ f_facts ≤ x2 → (vp_in x2 10 ∧ (((a_huts (Int32.toNatClampNeg x2)) < x1 → (∀ v_1 : Int32, v_1 = x2 + (1 : Int32) → (P2 v_1))) ∧ (¬ (a_huts (Int32.toNatClampNeg x2)) < x1 → (post (0 : Int32))))))) → P2 x2) → P2 x2
def q_ws_X6_staysWithin_0 (f_facts : Int32) (a_huts : Nat → Int32) (x1 : Int32) (post : Int32 → Prop) : Prop :=
  q_ws_X6_staysWithin_2 f_facts a_huts x1 (0 : Int32) post
set_option maxRecDepth 20000 in
theorem t_ws_X6_staysWithin_2 {p : Program} {l : Launch} {e : Env} {s : State} {m : MethodId} {args : Array Value} {below : List Frame} {meth : Method} {c : Code} {E : zE} {qs : Nat} {f_facts : Int32} {a_heard : Nat → Int32} {a_huts : Nat → Int32} {a_minutes : Nat → Int32} {post : Int32 → Prop} {x1 : Int32} {x2 : Int32} {ls : Array Slot}
    (zc : zC p s m args meth c cX6_staysWithin 3 RX6 (some .boolean))
    (hK : zK E s)
    (hM : wsW E qs f_facts a_heard a_huts a_minutes s.heap)
    (hl : lv_has ls 3 [(0, .ref qs), (1, .int x1), (2, .int x2)])
    (hw : q_ws_X6_staysWithin_2 f_facts a_huts x1 x2 post) :
    W p l e rm_ws_X6_staysWithin s m args below meth c s.heap [] 0 0 (MQ below (vp_Si post) args s 0 0 (fun _ => False)) (F0 m 2 ls []) := by
  have hx := zc.1
  have hb := zc.2.1
  refine hw (fun x2 => ∀ (ls : Array Slot), lv_has ls 3 [(0, .ref qs), (1, .int x1), (2, .int x2)] → W p l e rm_ws_X6_staysWithin s m args below meth c s.heap [] 0 0 (MQ below (vp_Si post) args s 0 0 (fun _ => False)) (F0 m 2 ls [])) ?_ _ hl
  intro x2 hw ls hl
  refine lv_iload_n hx hb dX6_staysWithin_2 rfl (lv_at hl 2 rfl) ?_
  refine lv_aload_n hx hb dX6_staysWithin_3 rfl (lv_at hl 0 rfl) ?_
  refine wsg_6_21_0 zc hK hM dX6_staysWithin_4 ?_
  refine lv_icmp_ge (tgt := 28) hx hb dX6_staysWithin_7 (by decide) (fun hc => ?_) (fun hc => ?_)
  · have hw := hw.1 hc
    refine lv_iconst (v := (1 : Int32)) hx hb dX6_staysWithin_28 (by decide) ?_
    exact zret_z zc rfl hw dX6_staysWithin_29
  · have hw := hw.2 hc
    refine lv_aload_n hx hb dX6_staysWithin_10 rfl (lv_at hl 0 rfl) ?_
    refine wsg_6_15_0 zc hK hM dX6_staysWithin_11 ?_
    refine lv_iload_n hx hb dX6_staysWithin_14 rfl (lv_at hl 2 rfl) ?_
    refine wsld_2 zc hK hM hw.1 dX6_staysWithin_15 ?_
    have hw := hw.2
    refine lv_iload_n hx hb dX6_staysWithin_16 rfl (lv_at hl 1 rfl) ?_
    refine lv_icmp_lt (tgt := 22) hx hb dX6_staysWithin_17 (by decide) (fun hc => ?_) (fun hc => ?_)
    · have hw := hw.1 hc
      obtain ⟨v_1, ev_1⟩ : ∃ y : Int32, y = x2 + (1 : Int32) := ⟨_, rfl⟩
      have hw := hw v_1 ev_1
      refine lv_iinc (v := v_1) (k := 2) (lv' := [(2, .int v_1), (0, .ref qs), (1, .int x1)]) hx hb dX6_staysWithin_22 hl rfl (by rw [ev_1]; rfl) (by decide) rfl (fun ls hl => ?_)
      refine lv_goto (tgt := 2) hx hb dX6_staysWithin_25 (by decide) ?_
      exact hw _ (lv_sub hl [1, 2, 0] rfl)
    · have hw := hw.2 hc
      refine lv_iconst (v := (0 : Int32)) hx hb dX6_staysWithin_20 (by decide) ?_
      exact zret_z zc rfl hw dX6_staysWithin_21
set_option maxRecDepth 20000 in
theorem t_ws_X6_staysWithin_0 {p : Program} {l : Launch} {e : Env} {s : State} {m : MethodId} {args : Array Value} {below : List Frame} {meth : Method} {c : Code} {E : zE} {qs : Nat} {f_facts : Int32} {a_heard : Nat → Int32} {a_huts : Nat → Int32} {a_minutes : Nat → Int32} {post : Int32 → Prop} {x1 : Int32} {ls : Array Slot}
    (zc : zC p s m args meth c cX6_staysWithin 3 RX6 (some .boolean))
    (hK : zK E s)
    (hM : wsW E qs f_facts a_heard a_huts a_minutes s.heap)
    (hl : lv_has ls 3 [(0, .ref qs), (1, .int x1)])
    (hw : q_ws_X6_staysWithin_0 f_facts a_huts x1 post) :
    W p l e rm_ws_X6_staysWithin s m args below meth c s.heap [] 0 0 (MQ below (vp_Si post) args s 0 0 (fun _ => False)) (F0 m 0 ls []) := by
  have hx := zc.1
  have hb := zc.2.1
  refine lv_iconst (v := (0 : Int32)) hx hb dX6_staysWithin_0 (by decide) ?_
  refine lv_istore_n (lv' := [(2, .int (0 : Int32)), (0, .ref qs), (1, .int x1)]) hx hb dX6_staysWithin_1 rfl hl (by decide) rfl (fun ls hl => ?_)
  exact t_ws_X6_staysWithin_2 zc hK hM  (lv_sub hl [1, 2, 0] rfl) hw
set_option maxRecDepth 20000 in
theorem c_ws_X6_staysWithin (l : Launch) {E : zE} {qs : Nat} {f_facts : Int32} {a_heard : Nat → Int32} {a_huts : Nat → Int32} {a_minutes : Nat → Int32} {x1 : Int32} {post : Int32 → Prop} (hw : q_ws_X6_staysWithin_0 f_facts a_huts x1 post) : Met l yX6_staysWithin (Cond.code yX6_staysWithin cX6_staysWithin 3 (some .boolean) :: zb) rm_ws_X6_staysWithin (va_Pc [.ref qs, .int x1] (fun U => wsW E qs f_facts a_heard a_huts a_minutes U.heap ∧ zK E U)) (vp_Si post) 0 0 (fun _ => False) := by
  refine Met.ofW (cc := cX6_staysWithin) (maxL := 3) (ret := (some .boolean)) (by decide) rfl ?_
  intro p e s m args below meth c s₁ B hml hv
  obtain ⟨rfl, hM, hK⟩ := hv
  have zc := zc_of B hml
  have hl := lv_entry ([.ref qs, .int x1]) (n := 3) (Nat.le_of_ble_eq_true rfl)
  rw [lg_entry_eq]
  generalize (lg_sl ([.ref qs, .int x1]) ++ List.replicate (3 - (lg_sl ([.ref qs, .int x1])).length) Slot.unset).toArray = ls at hl ⊢
  have hl : lv_has ls 3 [(0, .ref qs), (1, .int x1)] := hl
  exact t_ws_X6_staysWithin_0 zc hK hM (lv_sub hl [0, 1] rfl) hw
-- ws_X6_look
abbrev rm_ws_X6_look : Room := { frames := 0, cells := 0, slots := 0, locals := 0 }
def q_ws_X6_look_0 (a_heard : Nat → Int32) (a_huts : Nat → Int32) (a_minutes : Nat → Int32) (x1 : Int32) (x2 : Int32) (post : Int32 → Prop) : Prop :=
  (x2.toInt < 0 ∨ 2 < x2.toInt → (post (-2 : Int32))) ∧ (x2 = (0 : Int32) → (vp_in x1 10 ∧ (post (a_heard (Int32.toNatClampNeg x1))))) ∧ (x2 = (1 : Int32) → (vp_in x1 10 ∧ (post (a_huts (Int32.toNatClampNeg x1))))) ∧ (x2 = (2 : Int32) → (vp_in x1 10 ∧ (post (a_minutes (Int32.toNatClampNeg x1)))))
set_option maxRecDepth 20000 in
theorem t_ws_X6_look_0 {p : Program} {l : Launch} {e : Env} {s : State} {m : MethodId} {args : Array Value} {below : List Frame} {meth : Method} {c : Code} {E : zE} {qs : Nat} {f_facts : Int32} {a_heard : Nat → Int32} {a_huts : Nat → Int32} {a_minutes : Nat → Int32} {post : Int32 → Prop} {x1 : Int32} {x2 : Int32} {ls : Array Slot}
    (zc : zC p s m args meth c cX6_look 3 RX6 (some .int))
    (hK : zK E s)
    (hM : wsW E qs f_facts a_heard a_huts a_minutes s.heap)
    (hl : lv_has ls 3 [(0, .ref qs), (1, .int x1), (2, .int x2)])
    (hw : q_ws_X6_look_0 a_heard a_huts a_minutes x1 x2 post) :
    W p l e rm_ws_X6_look s m args below meth c s.heap [] 0 0 (MQ below (vp_Si post) args s 0 0 (fun _ => False)) (F0 m 0 ls []) := by
  have hx := zc.1
  have hb := zc.2.1
  refine lv_iload_n hx hb dX6_look_0 rfl (lv_at hl 2 rfl) ?_
  by_cases hc : x2.toInt < 0 ∨ 2 < x2.toInt
  · have hw := hw.1 hc
    refine lv_tableOut (tgt := 49) hx hb dX6_look_1 hc (by decide) ?_
    refine lv_bipush (v := (-2 : Int32)) hx hb dX6_look_49 (by decide) ?_
    exact zret_i zc hw dX6_look_51
  have hin := zsw hc
  by_cases hc0 : x2 = (0 : Int32)
  · have hw := hw.2.1 hc0
    refine lv_tableIn (tgt := 28) hx hb dX6_look_1 (by rw [hc0]; decide) (by rw [hc0]; decide) (by rw [hc0]; rfl) (by decide) ?_
    refine lv_aload_n hx hb dX6_look_28 rfl (lv_at hl 0 rfl) ?_
    refine wsg_6_9_0 zc hK hM dX6_look_29 ?_
    refine lv_iload_n hx hb dX6_look_32 rfl (lv_at hl 1 rfl) ?_
    refine wsld_1 zc hK hM hw.1 dX6_look_33 ?_
    have hw := hw.2
    exact zret_i zc hw dX6_look_34
  by_cases hc1 : x2 = (1 : Int32)
  · have hw := hw.2.2.1 hc1
    refine lv_tableIn (tgt := 35) hx hb dX6_look_1 (by rw [hc1]; decide) (by rw [hc1]; decide) (by rw [hc1]; rfl) (by decide) ?_
    refine lv_aload_n hx hb dX6_look_35 rfl (lv_at hl 0 rfl) ?_
    refine wsg_6_15_0 zc hK hM dX6_look_36 ?_
    refine lv_iload_n hx hb dX6_look_39 rfl (lv_at hl 1 rfl) ?_
    refine wsld_2 zc hK hM hw.1 dX6_look_40 ?_
    have hw := hw.2
    exact zret_i zc hw dX6_look_41
  by_cases hc2 : x2 = (2 : Int32)
  · have hw := hw.2.2.2 hc2
    refine lv_tableIn (tgt := 42) hx hb dX6_look_1 (by rw [hc2]; decide) (by rw [hc2]; decide) (by rw [hc2]; rfl) (by decide) ?_
    refine lv_aload_n hx hb dX6_look_42 rfl (lv_at hl 0 rfl) ?_
    refine wsg_6_18_0 zc hK hM dX6_look_43 ?_
    refine lv_iload_n hx hb dX6_look_46 rfl (lv_at hl 1 rfl) ?_
    refine wsld_3 zc hK hM hw.1 dX6_look_47 ?_
    have hw := hw.2
    exact zret_i zc hw dX6_look_48
  exact absurd hin (by have h0 := zne hc0; have h1 := zne hc1; have h2 := zne hc2; simp at *; omega)
set_option maxRecDepth 20000 in
theorem c_ws_X6_look (l : Launch) {E : zE} {qs : Nat} {f_facts : Int32} {a_heard : Nat → Int32} {a_huts : Nat → Int32} {a_minutes : Nat → Int32} {x1 : Int32} {x2 : Int32} {post : Int32 → Prop} (hw : q_ws_X6_look_0 a_heard a_huts a_minutes x1 x2 post) : Met l yX6_look (Cond.code yX6_look cX6_look 3 (some .int) :: zb) rm_ws_X6_look (va_Pc [.ref qs, .int x1, .int x2] (fun U => wsW E qs f_facts a_heard a_huts a_minutes U.heap ∧ zK E U)) (vp_Si post) 0 0 (fun _ => False) := by
  refine Met.ofW (cc := cX6_look) (maxL := 3) (ret := (some .int)) (by decide) rfl ?_
  intro p e s m args below meth c s₁ B hml hv
  obtain ⟨rfl, hM, hK⟩ := hv
  have zc := zc_of B hml
  have hl := lv_entry ([.ref qs, .int x1, .int x2]) (n := 3) (Nat.le_of_ble_eq_true rfl)
  rw [lg_entry_eq]
  generalize (lg_sl ([.ref qs, .int x1, .int x2]) ++ List.replicate (3 - (lg_sl ([.ref qs, .int x1, .int x2])).length) Slot.unset).toArray = ls at hl ⊢
  have hl : lv_has ls 3 [(0, .ref qs), (1, .int x1), (2, .int x2)] := hl
  exact t_ws_X6_look_0 zc hK hM (lv_sub hl [0, 1, 2] rfl) hw
