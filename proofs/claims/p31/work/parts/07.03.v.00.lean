section
-- wv_X1_look
abbrev rm_wv_X1_look : Room := { frames := 0, cells := 0, slots := 0, locals := 0 }
def q_wv_X1_look_0 (a_kinds : Nat → Int32) (a_firsts : Nat → Int32) (a_seconds : Nat → Int32) (x1 : Int32) (x2 : Int32) (post : Int32 → Prop) : Prop :=
  (x2.toInt < 0 ∨ 2 < x2.toInt → (post (-2 : Int32))) ∧ (x2 = (0 : Int32) → (vp_in x1 40 ∧ (post (a_kinds (Int32.toNatClampNeg x1))))) ∧ (x2 = (1 : Int32) → (vp_in x1 40 ∧ (post (a_firsts (Int32.toNatClampNeg x1))))) ∧ (x2 = (2 : Int32) → (vp_in x1 40 ∧ (post (a_seconds (Int32.toNatClampNeg x1)))))
set_option maxRecDepth 20000 in
theorem t_wv_X1_look_0 {p : Program} {l : Launch} {e : Env} {s : State} {m : MethodId} {args : Array Value} {below : List Frame} {meth : Method} {c : Code} {E : zE} {qv : Nat} {f_deeds : Int32} {a_kinds : Nat → Int32} {a_firsts : Nat → Int32} {a_seconds : Nat → Int32} {post : Int32 → Prop} {x1 : Int32} {x2 : Int32} {ls : Array Slot}
    (zc : zC p s m args meth c cX1_look 3 RX1 (some .int))
    (hK : zK E s)
    (hM : wvW E qv f_deeds a_kinds a_firsts a_seconds s.heap)
    (hl : lv_has ls 3 [(0, .ref qv), (1, .int x1), (2, .int x2)])
    (hw : q_wv_X1_look_0 a_kinds a_firsts a_seconds x1 x2 post) :
    W p l e rm_wv_X1_look s m args below meth c s.heap [] 0 0 (MQ below (vp_Si post) args s 0 0 (fun _ => False)) (F0 m 0 ls []) := by
  have hx := zc.1
  have hb := zc.2.1
  refine lv_iload_n hx hb dX1_look_0 rfl (lv_at hl 2 rfl) ?_
  by_cases hc : x2.toInt < 0 ∨ 2 < x2.toInt
  · have hw := hw.1 hc
    refine lv_tableOut (tgt := 49) hx hb dX1_look_1 hc (by decide) ?_
    refine lv_bipush (v := (-2 : Int32)) hx hb dX1_look_49 (by decide) ?_
    exact zret_i zc hw dX1_look_51
  have hin := zsw hc
  by_cases hc0 : x2 = (0 : Int32)
  · have hw := hw.2.1 hc0
    refine lv_tableIn (tgt := 28) hx hb dX1_look_1 (by rw [hc0]; decide) (by rw [hc0]; decide) (by rw [hc0]; rfl) (by decide) ?_
    refine lv_aload_n hx hb dX1_look_28 rfl (lv_at hl 0 rfl) ?_
    refine wvg_1_9_0 zc hK hM dX1_look_29 ?_
    refine lv_iload_n hx hb dX1_look_32 rfl (lv_at hl 1 rfl) ?_
    refine wvld_1 zc hK hM hw.1 dX1_look_33 ?_
    have hw := hw.2
    exact zret_i zc hw dX1_look_34
  by_cases hc1 : x2 = (1 : Int32)
  · have hw := hw.2.2.1 hc1
    refine lv_tableIn (tgt := 35) hx hb dX1_look_1 (by rw [hc1]; decide) (by rw [hc1]; decide) (by rw [hc1]; rfl) (by decide) ?_
    refine lv_aload_n hx hb dX1_look_35 rfl (lv_at hl 0 rfl) ?_
    refine wvg_1_15_0 zc hK hM dX1_look_36 ?_
    refine lv_iload_n hx hb dX1_look_39 rfl (lv_at hl 1 rfl) ?_
    refine wvld_2 zc hK hM hw.1 dX1_look_40 ?_
    have hw := hw.2
    exact zret_i zc hw dX1_look_41
  by_cases hc2 : x2 = (2 : Int32)
  · have hw := hw.2.2.2 hc2
    refine lv_tableIn (tgt := 42) hx hb dX1_look_1 (by rw [hc2]; decide) (by rw [hc2]; decide) (by rw [hc2]; rfl) (by decide) ?_
    refine lv_aload_n hx hb dX1_look_42 rfl (lv_at hl 0 rfl) ?_
    refine wvg_1_18_0 zc hK hM dX1_look_43 ?_
    refine lv_iload_n hx hb dX1_look_46 rfl (lv_at hl 1 rfl) ?_
    refine wvld_3 zc hK hM hw.1 dX1_look_47 ?_
    have hw := hw.2
    exact zret_i zc hw dX1_look_48
  exact absurd hin (by have h0 := zne hc0; have h1 := zne hc1; have h2 := zne hc2; simp at *; omega)
set_option maxRecDepth 20000 in
theorem c_wv_X1_look (l : Launch) {E : zE} {qv : Nat} {f_deeds : Int32} {a_kinds : Nat → Int32} {a_firsts : Nat → Int32} {a_seconds : Nat → Int32} {x1 : Int32} {x2 : Int32} {post : Int32 → Prop} (hw : q_wv_X1_look_0 a_kinds a_firsts a_seconds x1 x2 post) : Met l yX1_look (Cond.code yX1_look cX1_look 3 (some .int) :: zb) rm_wv_X1_look (va_Pc [.ref qv, .int x1, .int x2] (fun U => wvW E qv f_deeds a_kinds a_firsts a_seconds U.heap ∧ zK E U)) (vp_Si post) 0 0 (fun _ => False) := by
  refine Met.ofW (cc := cX1_look) (maxL := 3) (ret := (some .int)) (by decide) rfl ?_
  intro p e s m args below meth c s₁ B hml hv
  obtain ⟨rfl, hM, hK⟩ := hv
  have zc := zc_of B hml
  have hl := lv_entry ([.ref qv, .int x1, .int x2]) (n := 3) (Nat.le_of_ble_eq_true rfl)
  rw [lg_entry_eq]
  generalize (lg_sl ([.ref qv, .int x1, .int x2]) ++ List.replicate (3 - (lg_sl ([.ref qv, .int x1, .int x2])).length) Slot.unset).toArray = ls at hl ⊢
  have hl : lv_has ls 3 [(0, .ref qv), (1, .int x1), (2, .int x2)] := hl
  exact t_wv_X1_look_0 zc hK hM (lv_sub hl [0, 1, 2] rfl) hw
end
section
-- ws_X6_staysWithin
abbrev rm_ws_X6_staysWithin : Room := { frames := 0, cells := 0, slots := 0, locals := 0 }
def q_ws_X6_staysWithin_2 (f_facts : Int32) (a_huts : Nat → Int32) (x1 : Int32) (x2 : Int32) (post : Int32 → Prop) : Prop :=
  ∀ P2 : Int32 → Prop, (∀ (x2 : Int32), ((f_facts ≤ x2 → (post (1 : Int32))) ∧ (¬ f_facts ≤ x2 → (vp_in x2 10 ∧ (((a_huts (Int32.toNatClampNeg x2)) < x1 → (∀ v_1 : Int32, v_1 = x2 + (1 : Int32) → (P2 v_1))) ∧ (¬ (a_huts (Int32.toNatClampNeg x2)) < x1 → (post (0 : Int32))))))) → P2 x2) → P2 x2
def q_ws_X6_staysWithin_0 (f_facts : Int32) (a_huts : Nat → Int32) (x1 : Int32) (post : Int32 → Prop) : Prop :=
  q_ws_X6_staysWithin_2 f_facts a_huts x1 (0 : Int32) post
set_option maxRecDepth 20000 in
theorem t_ws_X6_staysWithin_2 {p : Program} {l : Launch} {e : Env} {s : State} {m : MethodId} {args : Array Value} {below : List Frame} {meth : Method} {c : Code} {E : zE} {qs : Nat} {f_facts : Int32} {a_heard : Nat → Int32} {a_huts : Nat → Int32} {a_minutes : Nat → Int32} {post : Int32 → Prop} {x1 : Int32} {x2 : Int32} {ls : Array Slot}
    (zc : zC p s m args meth c cX6_staysWithin 3 RX6 (some .boolean))
    (hK : zK E s)
    (hM : wsW E qs f_facts a_heard a_huts a_minutes s.heap)
    (hl : lv_has ls 3 [(0, .ref qs), (1, .int x1), (2, .int x2)])
    (hw : q_ws_X6_staysWithin_2 f_facts a_huts x1 x2 post) :
    W p l e rm_ws_X6_staysWithin s m args below meth c s.heap [] 0 0 (MQ below (vp_Si post) args s 0 0 (fun _ => False)) (F0 m 2 ls []) := by
  have hx := zc.1
  have hb := zc.2.1
  refine hw (fun x2 => ∀ (ls : Array Slot), lv_has ls 3 [(0, .ref qs), (1, .int x1), (2, .int x2)] → W p l e rm_ws_X6_staysWithin s m args below meth c s.heap [] 0 0 (MQ below (vp_Si post) args s 0 0 (fun _ => False)) (F0 m 2 ls [])) ?_ _ hl
  intro x2 hw ls hl
  refine lv_iload_n hx hb dX6_staysWithin_2 rfl (lv_at hl 2 rfl) ?_
  refine lv_aload_n hx hb dX6_staysWithin_3 rfl (lv_at hl 0 rfl) ?_
  refine wsg_6_21_0 zc hK hM dX6_staysWithin_4 ?_
  refine lv_icmp_ge (tgt := 28) hx hb dX6_staysWithin_7 (by decide) (fun hc => ?_) (fun hc => ?_)
  · have hw := hw.1 hc
    refine lv_iconst (v := (1 : Int32)) hx hb dX6_staysWithin_28 (by decide) ?_
    exact zret_z zc rfl hw dX6_staysWithin_29
  · have hw := hw.2 hc
    refine lv_aload_n hx hb dX6_staysWithin_10 rfl (lv_at hl 0 rfl) ?_
    refine wsg_6_15_0 zc hK hM dX6_staysWithin_11 ?_
    refine lv_iload_n hx hb dX6_staysWithin_14 rfl (lv_at hl 2 rfl) ?_
    refine wsld_2 zc hK hM hw.1 dX6_staysWithin_15 ?_
    have hw := hw.2
    refine lv_iload_n hx hb dX6_staysWithin_16 rfl (lv_at hl 1 rfl) ?_
    refine lv_icmp_lt (tgt := 22) hx hb dX6_staysWithin_17 (by decide) (fun hc => ?_) (fun hc => ?_)
    · have hw := hw.1 hc
      obtain ⟨v_1, ev_1⟩ : ∃ y : Int32, y = x2 + (1 : Int32) := ⟨_, rfl⟩
      have hw := hw v_1 ev_1
      refine lv_iinc (v := v_1) (k := 2) (lv' := [(2, .int v_1), (0, .ref qs), (1, .int x1)]) hx hb dX6_staysWithin_22 hl rfl (by rw [ev_1]; rfl) (by decide) rfl (fun ls hl => ?_)
      refine lv_goto (tgt := 2) hx hb dX6_staysWithin_25 (by decide) ?_
      exact hw _ (lv_sub hl [1, 2, 0] rfl)
    · have hw := hw.2 hc
      refine lv_iconst (v := (0 : Int32)) hx hb dX6_staysWithin_20 (by decide) ?_
      exact zret_z zc rfl hw dX6_staysWithin_21
set_option maxRecDepth 20000 in
theorem t_ws_X6_staysWithin_0 {p : Program} {l : Launch} {e : Env} {s : State} {m : MethodId} {args : Array Value} {below : List Frame} {meth : Method} {c : Code} {E : zE} {qs : Nat} {f_facts : Int32} {a_heard : Nat → Int32} {a_huts : Nat → Int32} {a_minutes : Nat → Int32} {post : Int32 → Prop} {x1 : Int32} {ls : Array Slot}
    (zc : zC p s m args meth c cX6_staysWithin 3 RX6 (some .boolean))
    (hK : zK E s)
    (hM : wsW E qs f_facts a_heard a_huts a_minutes s.heap)
    (hl : lv_has ls 3 [(0, .ref qs), (1, .int x1)])
    (hw : q_ws_X6_staysWithin_0 f_facts a_huts x1 post) :
    W p l e rm_ws_X6_staysWithin s m args below meth c s.heap [] 0 0 (MQ below (vp_Si post) args s 0 0 (fun _ => False)) (F0 m 0 ls []) := by
  have hx := zc.1
  have hb := zc.2.1
  refine lv_iconst (v := (0 : Int32)) hx hb dX6_staysWithin_0 (by decide) ?_
  refine lv_istore_n (lv' := [(2, .int (0 : Int32)), (0, .ref qs), (1, .int x1)]) hx hb dX6_staysWithin_1 rfl hl (by decide) rfl (fun ls hl => ?_)
  exact t_ws_X6_staysWithin_2 zc hK hM  (lv_sub hl [1, 2, 0] rfl) hw
set_option maxRecDepth 20000 in
theorem c_ws_X6_staysWithin (l : Launch) {E : zE} {qs : Nat} {f_facts : Int32} {a_heard : Nat → Int32} {a_huts : Nat → Int32} {a_minutes : Nat → Int32} {x1 : Int32} {post : Int32 → Prop} (hw : q_ws_X6_staysWithin_0 f_facts a_huts x1 post) : Met l yX6_staysWithin (Cond.code yX6_staysWithin cX6_staysWithin 3 (some .boolean) :: zb) rm_ws_X6_staysWithin (va_Pc [.ref qs, .int x1] (fun U => wsW E qs f_facts a_heard a_huts a_minutes U.heap ∧ zK E U)) (vp_Si post) 0 0 (fun _ => False) := by
  refine Met.ofW (cc := cX6_staysWithin) (maxL := 3) (ret := (some .boolean)) (by decide) rfl ?_
  intro p e s m args below meth c s₁ B hml hv
  obtain ⟨rfl, hM, hK⟩ := hv
  have zc := zc_of B hml
  have hl := lv_entry ([.ref qs, .int x1]) (n := 3) (Nat.le_of_ble_eq_true rfl)
  rw [lg_entry_eq]
  generalize (lg_sl ([.ref qs, .int x1]) ++ List.replicate (3 - (lg_sl ([.ref qs, .int x1])).length) Slot.unset).toArray = ls at hl ⊢
  have hl : lv_has ls 3 [(0, .ref qs), (1, .int x1)] := hl
  exact t_ws_X6_staysWithin_0 zc hK hM (lv_sub hl [0, 1] rfl) hw
-- ws_X6_look
abbrev rm_ws_X6_look : Room := { frames := 0, cells := 0, slots := 0, locals := 0 }
def q_ws_X6_look_0 (a_heard : Nat → Int32) (a_huts : Nat → Int32) (a_minutes : Nat → Int32) (x1 : Int32) (x2 : Int32) (post : Int32 → Prop) : Prop :=
  (x2.toInt < 0 ∨ 2 < x2.toInt → (post (-2 : Int32))) ∧ (x2 = (0 : Int32) → (vp_in x1 10 ∧ (post (a_heard (Int32.toNatClampNeg x1))))) ∧ (x2 = (1 : Int32) → (vp_in x1 10 ∧ (post (a_huts (Int32.toNatClampNeg x1))))) ∧ (x2 = (2 : Int32) → (vp_in x1 10 ∧ (post (a_minutes (Int32.toNatClampNeg x1)))))
set_option maxRecDepth 20000 in
theorem t_ws_X6_look_0 {p : Program} {l : Launch} {e : Env} {s : State} {m : MethodId} {args : Array Value} {below : List Frame} {meth : Method} {c : Code} {E : zE} {qs : Nat} {f_facts : Int32} {a_heard : Nat → Int32} {a_huts : Nat → Int32} {a_minutes : Nat → Int32} {post : Int32 → Prop} {x1 : Int32} {x2 : Int32} {ls : Array Slot}
    (zc : zC p s m args meth c cX6_look 3 RX6 (some .int))
    (hK : zK E s)
    (hM : wsW E qs f_facts a_heard a_huts a_minutes s.heap)
    (hl : lv_has ls 3 [(0, .ref qs), (1, .int x1), (2, .int x2)])
    (hw : q_ws_X6_look_0 a_heard a_huts a_minutes x1 x2 post) :
    W p l e rm_ws_X6_look s m args below meth c s.heap [] 0 0 (MQ below (vp_Si post) args s 0 0 (fun _ => False)) (F0 m 0 ls []) := by
  have hx := zc.1
  have hb := zc.2.1
  refine lv_iload_n hx hb dX6_look_0 rfl (lv_at hl 2 rfl) ?_
  by_cases hc : x2.toInt < 0 ∨ 2 < x2.toInt
  · have hw := hw.1 hc
    refine lv_tableOut (tgt := 49) hx hb dX6_look_1 hc (by decide) ?_
    refine lv_bipush (v := (-2 : Int32)) hx hb dX6_look_49 (by decide) ?_
    exact zret_i zc hw dX6_look_51
  have hin := zsw hc
  by_cases hc0 : x2 = (0 : Int32)
  · have hw := hw.2.1 hc0
    refine lv_tableIn (tgt := 28) hx hb dX6_look_1 (by rw [hc0]; decide) (by rw [hc0]; decide) (by rw [hc0]; rfl) (by decide) ?_
    refine lv_aload_n hx hb dX6_look_28 rfl (lv_at hl 0 rfl) ?_
    refine wsg_6_9_0 zc hK hM dX6_look_29 ?_
    refine lv_iload_n hx hb dX6_look_32 rfl (lv_at hl 1 rfl) ?_
    refine wsld_1 zc hK hM hw.1 dX6_look_33 ?_
    have hw := hw.2
    exact zret_i zc hw dX6_look_34
  by_cases hc1 : x2 = (1 : Int32)
  · have hw := hw.2.2.1 hc1
    refine lv_tableIn (tgt := 35) hx hb dX6_look_1 (by rw [hc1]; decide) (by rw [hc1]; decide) (by rw [hc1]; rfl) (by decide) ?_
    refine lv_aload_n hx hb dX6_look_35 rfl (lv_at hl 0 rfl) ?_
    refine wsg_6_15_0 zc hK hM dX6_look_36 ?_
    refine lv_iload_n hx hb dX6_look_39 rfl (lv_at hl 1 rfl) ?_
    refine wsld_2 zc hK hM hw.1 dX6_look_40 ?_
    have hw := hw.2
    exact zret_i zc hw dX6_look_41
  by_cases hc2 : x2 = (2 : Int32)
  · have hw := hw.2.2.2 hc2
    refine lv_tableIn (tgt := 42) hx hb dX6_look_1 (by rw [hc2]; decide) (by rw [hc2]; decide) (by rw [hc2]; rfl) (by decide) ?_
    refine lv_aload_n hx hb dX6_look_42 rfl (lv_at hl 0 rfl) ?_
    refine wsg_6_18_0 zc hK hM dX6_look_43 ?_
    refine lv_iload_n hx hb dX6_look_46 rfl (lv_at hl 1 rfl) ?_
    refine wsld_3 zc hK hM hw.1 dX6_look_47 ?_
    have hw := hw.2
    exact zret_i zc hw dX6_look_48
  exact absurd hin (by have h0 := zne hc0; have h1 := zne hc1; have h2 := zne hc2; simp at *; omega)
set_option maxRecDepth 20000 in
theorem c_ws_X6_look (l : Launch) {E : zE} {qs : Nat} {f_facts : Int32} {a_heard : Nat → Int32} {a_huts : Nat → Int32} {a_minutes : Nat → Int32} {x1 : Int32} {x2 : Int32} {post : Int32 → Prop} (hw : q_ws_X6_look_0 a_heard a_huts a_minutes x1 x2 post) : Met l yX6_look (Cond.code yX6_look cX6_look 3 (some .int) :: zb) rm_ws_X6_look (va_Pc [.ref qs, .int x1, .int x2] (fun U => wsW E qs f_facts a_heard a_huts a_minutes U.heap ∧ zK E U)) (vp_Si post) 0 0 (fun _ => False) := by
  refine Met.ofW (cc := cX6_look) (maxL := 3) (ret := (some .int)) (by decide) rfl ?_
  intro p e s m args below meth c s₁ B hml hv
  obtain ⟨rfl, hM, hK⟩ := hv
  have zc := zc_of B hml
  have hl := lv_entry ([.ref qs, .int x1, .int x2]) (n := 3) (Nat.le_of_ble_eq_true rfl)
  rw [lg_entry_eq]
  generalize (lg_sl ([.ref qs, .int x1, .int x2]) ++ List.replicate (3 - (lg_sl ([.ref qs, .int x1, .int x2])).length) Slot.unset).toArray = ls at hl ⊢
  have hl : lv_has ls 3 [(0, .ref qs), (1, .int x1), (2, .int x2)] := hl
  exact t_ws_X6_look_0 zc hK hM (lv_sub hl [0, 1, 2] rfl) hw
end
section
-- wc_X0_longestFall
abbrev rm_wc_X0_longestFall : Room := { frames := 1, cells := 0, slots := 0, locals := 40 }
def q_wc_X0_longestFall_42 (P6 : Int32 → Int32 → Int32 → Prop) (f_voices : Int32) (a_heights : Nat → Int32) (x1 : Int32) (x3 : Int32) (y0 : Int32) (post : Int32 → Prop) : Prop :=
  ∀ v_1 : Int32, v_1 = (if x1 < y0 then y0 else x1) → (∀ v_2 : Int32, v_2 = x3 + (1 : Int32) → (P6 v_1 y0 v_2))
def q_wc_X0_longestFall_41 (P6 : Int32 → Int32 → Int32 → Prop) (f_voices : Int32) (a_heights : Nat → Int32) (x1 : Int32) (x3 : Int32) (post : Int32 → Prop) : Prop :=
  q_wc_X0_longestFall_42 P6 f_voices a_heights x1 x3 (1 : Int32) post
def q_wc_X0_longestFall_6 (f_voices : Int32) (a_heights : Nat → Int32) (x1 : Int32) (x2 : Int32) (x3 : Int32) (post : Int32 → Prop) : Prop :=
  ∀ P6 : Int32 → Int32 → Int32 → Prop, (∀ (x1 : Int32) (x2 : Int32) (x3 : Int32), ((f_voices ≤ x3 → (post x1)) ∧ (¬ f_voices ≤ x3 → ((x3 ≤ 0 → (q_wc_X0_longestFall_41 P6 f_voices a_heights x1 x3 post)) ∧ (¬ x3 ≤ 0 → (vp_in x3 9 ∧ (vp_in (x3 - (1 : Int32)) 9 ∧ (((a_heights (Int32.toNatClampNeg (x3 - (1 : Int32)))) ≤ (a_heights (Int32.toNatClampNeg x3)) → (q_wc_X0_longestFall_41 P6 f_voices a_heights x1 x3 post)) ∧ (¬ (a_heights (Int32.toNatClampNeg (x3 - (1 : Int32)))) ≤ (a_heights (Int32.toNatClampNeg x3)) → (q_wc_X0_longestFall_42 P6 f_voices a_heights x1 x3 (x2 + (1 : Int32)) post))))))))) → P6 x1 x2 x3) → P6 x1 x2 x3
def q_wc_X0_longestFall_0 (f_voices : Int32) (a_heights : Nat → Int32) (post : Int32 → Prop) : Prop :=
  q_wc_X0_longestFall_6 f_voices a_heights (0 : Int32) (0 : Int32) (0 : Int32) post
set_option maxRecDepth 20000 in
theorem t_wc_X0_longestFall_42 {p : Program} {l : Launch} {e : Env} {s : State} {m : MethodId} {args : Array Value} {below : List Frame} {meth : Method} {c : Code} {E : zE} {qc : Nat} {f_voices : Int32} {f_step : Int32} {a_parts : Nat → Int32} {a_heights : Nat → Int32} {P6 : Int32 → Int32 → Int32 → Prop} {post : Int32 → Prop} {x1 : Int32} {x3 : Int32} {y0 : Int32} {ls : Array Slot}
    (zc : zC p s m args meth c cX0_longestFall 4 RX0 (some .int))
    (hK : zK E s)
    (hM : wcW E qc f_voices f_step a_parts a_heights s.heap)
    (hP6 : ∀ (x1 : Int32) (x2 : Int32) (x3 : Int32) (ls : Array Slot), P6 x1 x2 x3 → lv_has ls 4 [(0, .ref qc), (1, .int x1), (2, .int x2), (3, .int x3)] → W p l e rm_wc_X0_longestFall s m args below meth c s.heap [] 0 0 (MQ below (vp_Si post) args s 0 0 (fun _ => False)) (F0 m 6 ls []))
    (hl : lv_has ls 4 [(0, .ref qc), (1, .int x1), (3, .int x3)])
    (hw : q_wc_X0_longestFall_42 P6 f_voices a_heights x1 x3 y0 post) :
    W p l e rm_wc_X0_longestFall s m args below meth c s.heap [] 0 0 (MQ below (vp_Si post) args s 0 0 (fun _ => False)) (F0 m 42 ls [.int y0]) := by
  have hx := zc.1
  have hb := zc.2.1
  refine lv_istore_n (lv' := [(2, .int y0), (0, .ref qc), (1, .int x1), (3, .int x3)]) hx hb dX0_longestFall_42 rfl hl (by decide) rfl (fun ls hl => ?_)
  refine lv_iload_n hx hb dX0_longestFall_43 rfl (lv_at hl 2 rfl) ?_
  refine lv_iload_n hx hb dX0_longestFall_44 rfl (lv_at hl 0 rfl) ?_
  refine va_mmax hx hb (zc.2.2.1.trans hl.1.symm) zc.2.2.2.1 (zc.2.2.2.2.1 _ km_0_31) (zc.2.2.2.2.1 _ k_mmaxs) (zc.2.2.2.2.1 _ k_mini) (zc.2.2.2.2.1 _ k_mmaxc) (Nat.le_of_ble_eq_true rfl) (Nat.le_of_ble_eq_true rfl) (Nat.zero_le _) (Nat.zero_le _) dX0_longestFall_45 ?_
  refine lv_topi (fun v_1 ev_1 => ?_)
  have hw := hw v_1 ev_1
  refine lv_istore_n (lv' := [(1, .int v_1), (2, .int y0), (0, .ref qc), (3, .int x3)]) hx hb dX0_longestFall_48 rfl hl (by decide) rfl (fun ls hl => ?_)
  obtain ⟨v_2, ev_2⟩ : ∃ y : Int32, y = x3 + (1 : Int32) := ⟨_, rfl⟩
  have hw := hw v_2 ev_2
  refine lv_iinc (v := v_2) (k := 3) (lv' := [(3, .int v_2), (1, .int v_1), (2, .int y0), (0, .ref qc)]) hx hb dX0_longestFall_49 hl rfl (by rw [ev_2]; rfl) (by decide) rfl (fun ls hl => ?_)
  refine lv_goto (tgt := 6) hx hb dX0_longestFall_52 (by decide) ?_
  exact hP6 _ _ _ _ hw (lv_sub hl [3, 1, 2, 0] rfl)
set_option maxRecDepth 20000 in
theorem t_wc_X0_longestFall_41 {p : Program} {l : Launch} {e : Env} {s : State} {m : MethodId} {args : Array Value} {below : List Frame} {meth : Method} {c : Code} {E : zE} {qc : Nat} {f_voices : Int32} {f_step : Int32} {a_parts : Nat → Int32} {a_heights : Nat → Int32} {P6 : Int32 → Int32 → Int32 → Prop} {post : Int32 → Prop} {x1 : Int32} {x3 : Int32} {ls : Array Slot}
    (zc : zC p s m args meth c cX0_longestFall 4 RX0 (some .int))
    (hK : zK E s)
    (hM : wcW E qc f_voices f_step a_parts a_heights s.heap)
    (hP6 : ∀ (x1 : Int32) (x2 : Int32) (x3 : Int32) (ls : Array Slot), P6 x1 x2 x3 → lv_has ls 4 [(0, .ref qc), (1, .int x1), (2, .int x2), (3, .int x3)] → W p l e rm_wc_X0_longestFall s m args below meth c s.heap [] 0 0 (MQ below (vp_Si post) args s 0 0 (fun _ => False)) (F0 m 6 ls []))
    (hl : lv_has ls 4 [(0, .ref qc), (1, .int x1), (3, .int x3)])
    (hw : q_wc_X0_longestFall_41 P6 f_voices a_heights x1 x3 post) :
    W p l e rm_wc_X0_longestFall s m args below meth c s.heap [] 0 0 (MQ below (vp_Si post) args s 0 0 (fun _ => False)) (F0 m 41 ls []) := by
  have hx := zc.1
  have hb := zc.2.1
  refine lv_iconst (v := (1 : Int32)) hx hb dX0_longestFall_41 (by decide) ?_
  exact t_wc_X0_longestFall_42 zc hK hM hP6 (lv_sub hl [0, 1, 2] rfl) hw
set_option maxRecDepth 20000 in
theorem t_wc_X0_longestFall_6 {p : Program} {l : Launch} {e : Env} {s : State} {m : MethodId} {args : Array Value} {below : List Frame} {meth : Method} {c : Code} {E : zE} {qc : Nat} {f_voices : Int32} {f_step : Int32} {a_parts : Nat → Int32} {a_heights : Nat → Int32} {post : Int32 → Prop} {x1 : Int32} {x2 : Int32} {x3 : Int32} {ls : Array Slot}
    (zc : zC p s m args meth c cX0_longestFall 4 RX0 (some .int))
    (hK : zK E s)
    (hM : wcW E qc f_voices f_step a_parts a_heights s.heap)
    (hl : lv_has ls 4 [(0, .ref qc), (1, .int x1), (2, .int x2), (3, .int x3)])
    (hw : q_wc_X0_longestFall_6 f_voices a_heights x1 x2 x3 post) :
    W p l e rm_wc_X0_longestFall s m args below meth c s.heap [] 0 0 (MQ below (vp_Si post) args s 0 0 (fun _ => False)) (F0 m 6 ls []) := by
  have hx := zc.1
  have hb := zc.2.1
  refine hw (fun x1 x2 x3 => ∀ (ls : Array Slot), lv_has ls 4 [(0, .ref qc), (1, .int x1), (2, .int x2), (3, .int x3)] → W p l e rm_wc_X0_longestFall s m args below meth c s.heap [] 0 0 (MQ below (vp_Si post) args s 0 0 (fun _ => False)) (F0 m 6 ls [])) ?_ _ hl
  intro x1 x2 x3 hw ls hl
  refine lv_iload_n hx hb dX0_longestFall_6 rfl (lv_at hl 3 rfl) ?_
  refine lv_aload_n hx hb dX0_longestFall_7 rfl (lv_at hl 0 rfl) ?_
  refine wcg_0_18_0 zc hK hM dX0_longestFall_8 ?_
  refine lv_icmp_ge (tgt := 55) hx hb dX0_longestFall_11 (by decide) (fun hc => ?_) (fun hc => ?_)
  · have hw := hw.1 hc
    refine lv_iload_n hx hb dX0_longestFall_55 rfl (lv_at hl 1 rfl) ?_
    exact zret_i zc hw dX0_longestFall_56
  · have hw := hw.2 hc
    refine lv_iload_n hx hb dX0_longestFall_14 rfl (lv_at hl 3 rfl) ?_
    refine lv_if_le (tgt := 41) hx hb dX0_longestFall_15 (by decide) (fun hc => ?_) (fun hc => ?_)
    · have hw := hw.1 hc
      exact t_wc_X0_longestFall_41 zc hK hM (fun _ _ _ ls h hl => h ls hl) (lv_sub hl [0, 1, 3] rfl) hw
    · have hw := hw.2 hc
      refine lv_aload_n hx hb dX0_longestFall_18 rfl (lv_at hl 0 rfl) ?_
      refine wcg_0_15_0 zc hK hM dX0_longestFall_19 ?_
      refine lv_iload_n hx hb dX0_longestFall_22 rfl (lv_at hl 3 rfl) ?_
      refine wcld_2 zc hK hM hw.1 dX0_longestFall_23 ?_
      have hw := hw.2
      refine lv_aload_n hx hb dX0_longestFall_24 rfl (lv_at hl 0 rfl) ?_
      refine wcg_0_15_0 zc hK hM dX0_longestFall_25 ?_
      refine lv_iload_n hx hb dX0_longestFall_28 rfl (lv_at hl 3 rfl) ?_
      refine lv_iconst (v := (1 : Int32)) hx hb dX0_longestFall_29 (by decide) ?_
      refine lv_isub hx hb dX0_longestFall_30 ?_
      refine wcld_2 zc hK hM hw.1 dX0_longestFall_31 ?_
      have hw := hw.2
      refine lv_icmp_ge (tgt := 41) hx hb dX0_longestFall_32 (by decide) (fun hc => ?_) (fun hc => ?_)
      · have hw := hw.1 hc
        exact t_wc_X0_longestFall_41 zc hK hM (fun _ _ _ ls h hl => h ls hl) (lv_sub hl [0, 1, 3] rfl) hw
      · have hw := hw.2 hc
        refine lv_iload_n hx hb dX0_longestFall_35 rfl (lv_at hl 2 rfl) ?_
        refine lv_iconst (v := (1 : Int32)) hx hb dX0_longestFall_36 (by decide) ?_
        refine lv_iadd hx hb dX0_longestFall_37 ?_
        refine lv_goto (tgt := 42) hx hb dX0_longestFall_38 (by decide) ?_
        exact t_wc_X0_longestFall_42 zc hK hM (fun _ _ _ ls h hl => h ls hl) (lv_sub hl [0, 1, 3] rfl) hw
set_option maxRecDepth 20000 in
theorem t_wc_X0_longestFall_0 {p : Program} {l : Launch} {e : Env} {s : State} {m : MethodId} {args : Array Value} {below : List Frame} {meth : Method} {c : Code} {E : zE} {qc : Nat} {f_voices : Int32} {f_step : Int32} {a_parts : Nat → Int32} {a_heights : Nat → Int32} {post : Int32 → Prop} {ls : Array Slot}
    (zc : zC p s m args meth c cX0_longestFall 4 RX0 (some .int))
    (hK : zK E s)
    (hM : wcW E qc f_voices f_step a_parts a_heights s.heap)
    (hl : lv_has ls 4 [(0, .ref qc)])
    (hw : q_wc_X0_longestFall_0 f_voices a_heights post) :
    W p l e rm_wc_X0_longestFall s m args below meth c s.heap [] 0 0 (MQ below (vp_Si post) args s 0 0 (fun _ => False)) (F0 m 0 ls []) := by
  have hx := zc.1
  have hb := zc.2.1
  refine lv_iconst (v := (0 : Int32)) hx hb dX0_longestFall_0 (by decide) ?_
  refine lv_istore_n (lv' := [(1, .int (0 : Int32)), (0, .ref qc)]) hx hb dX0_longestFall_1 rfl hl (by decide) rfl (fun ls hl => ?_)
  refine lv_iconst (v := (0 : Int32)) hx hb dX0_longestFall_2 (by decide) ?_
  refine lv_istore_n (lv' := [(2, .int (0 : Int32)), (1, .int (0 : Int32)), (0, .ref qc)]) hx hb dX0_longestFall_3 rfl hl (by decide) rfl (fun ls hl => ?_)
  refine lv_iconst (v := (0 : Int32)) hx hb dX0_longestFall_4 (by decide) ?_
  refine lv_istore_n (lv' := [(3, .int (0 : Int32)), (2, .int (0 : Int32)), (1, .int (0 : Int32)), (0, .ref qc)]) hx hb dX0_longestFall_5 rfl hl (by decide) rfl (fun ls hl => ?_)
  exact t_wc_X0_longestFall_6 zc hK hM  (lv_sub hl [3, 2, 1, 0] rfl) hw
set_option maxRecDepth 20000 in
theorem c_wc_X0_longestFall (l : Launch) {E : zE} {qc : Nat} {f_voices : Int32} {f_step : Int32} {a_parts : Nat → Int32} {a_heights : Nat → Int32} {post : Int32 → Prop} (hw : q_wc_X0_longestFall_0 f_voices a_heights post) : Met l yX0_longestFall (Cond.code yX0_longestFall cX0_longestFall 4 (some .int) :: zb) rm_wc_X0_longestFall (va_Pc [.ref qc] (fun U => wcW E qc f_voices f_step a_parts a_heights U.heap ∧ zK E U)) (vp_Si post) 0 0 (fun _ => False) := by
  refine Met.ofW (cc := cX0_longestFall) (maxL := 4) (ret := (some .int)) (by decide) rfl ?_
  intro p e s m args below meth c s₁ B hml hv
  obtain ⟨rfl, hM, hK⟩ := hv
  have zc := zc_of B hml
  have hl := lv_entry ([.ref qc]) (n := 4) (Nat.le_of_ble_eq_true rfl)
  rw [lg_entry_eq]
  generalize (lg_sl ([.ref qc]) ++ List.replicate (4 - (lg_sl ([.ref qc])).length) Slot.unset).toArray = ls at hl ⊢
  have hl : lv_has ls 4 [(0, .ref qc)] := hl
  exact t_wc_X0_longestFall_0 zc hK hM (lv_sub hl [0] rfl) hw
-- wc_X0_look
abbrev rm_wc_X0_look : Room := { frames := 2, cells := 0, slots := 0, locals := 63 }
def q_wc_X0_look_56 (f_voices : Int32) (f_step : Int32) (a_parts : Nat → Int32) (a_heights : Nat → Int32) (x1 : Int32) (post : Int32 → Prop) : Prop :=
  (x1 < (20 : Int32) → (post (-1 : Int32))) ∧ (¬ x1 < (20 : Int32) → ((((20 : Int32) + f_voices) ≤ x1 → (post (-1 : Int32))) ∧ (¬ ((20 : Int32) + f_voices) ≤ x1 → (vp_in (x1 - (20 : Int32)) 9 ∧ (post (a_heights (Int32.toNatClampNeg (x1 - (20 : Int32)))))))))
def q_wc_X0_look_0 (f_voices : Int32) (f_step : Int32) (a_parts : Nat → Int32) (a_heights : Nat → Int32) (x1 : Int32) (post : Int32 → Prop) : Prop :=
  (¬ x1 = 0 → ((¬ x1 = (1 : Int32) → ((¬ x1 = (3 : Int32) → ((x1 < (10 : Int32) → (q_wc_X0_look_56 f_voices f_step a_parts a_heights x1 post)) ∧ (¬ x1 < (10 : Int32) → ((((10 : Int32) + f_voices) ≤ x1 → (q_wc_X0_look_56 f_voices f_step a_parts a_heights x1 post)) ∧ (¬ ((10 : Int32) + f_voices) ≤ x1 → (vp_in (x1 - (10 : Int32)) 9 ∧ (post (a_parts (Int32.toNatClampNeg (x1 - (10 : Int32))))))))))) ∧ (x1 = (3 : Int32) → (q_wc_X0_longestFall_0 f_voices a_heights (fun r_1 => post r_1))))) ∧ (x1 = (1 : Int32) → (post f_step)))) ∧ (x1 = 0 → (post f_voices))
set_option maxRecDepth 20000 in
theorem t_wc_X0_look_56 {p : Program} {l : Launch} {e : Env} {s : State} {m : MethodId} {args : Array Value} {below : List Frame} {meth : Method} {c : Code} {E : zE} {qc : Nat} {f_voices : Int32} {f_step : Int32} {a_parts : Nat → Int32} {a_heights : Nat → Int32} {post : Int32 → Prop} {x1 : Int32} {ls : Array Slot}
    (zc : zC p s m args meth c cX0_look 2 RX0 (some .int))
    (hK : zK E s)
    (hM : wcW E qc f_voices f_step a_parts a_heights s.heap)
    (hl : lv_has ls 2 [(0, .ref qc), (1, .int x1)])
    (hw : q_wc_X0_look_56 f_voices f_step a_parts a_heights x1 post) :
    W p l e rm_wc_X0_look s m args below meth c s.heap [] 0 0 (MQ below (vp_Si post) args s 0 0 (fun _ => False)) (F0 m 56 ls []) := by
  have hx := zc.1
  have hb := zc.2.1
  refine lv_iload_n hx hb dX0_look_56 rfl (lv_at hl 1 rfl) ?_
  refine lv_bipush (v := (20 : Int32)) hx hb dX0_look_57 (by decide) ?_
  refine lv_icmp_lt (tgt := 85) hx hb dX0_look_59 (by decide) (fun hc => ?_) (fun hc => ?_)
  · have hw := hw.1 hc
    refine lv_iconst (v := (-1 : Int32)) hx hb dX0_look_85 (by decide) ?_
    exact zret_i zc hw dX0_look_86
  · have hw := hw.2 hc
    refine lv_iload_n hx hb dX0_look_62 rfl (lv_at hl 1 rfl) ?_
    refine lv_bipush (v := (20 : Int32)) hx hb dX0_look_63 (by decide) ?_
    refine lv_aload_n hx hb dX0_look_65 rfl (lv_at hl 0 rfl) ?_
    refine wcg_0_18_0 zc hK hM dX0_look_66 ?_
    refine lv_iadd hx hb dX0_look_69 ?_
    refine lv_icmp_ge (tgt := 85) hx hb dX0_look_70 (by decide) (fun hc => ?_) (fun hc => ?_)
    · have hw := hw.1 hc
      refine lv_iconst (v := (-1 : Int32)) hx hb dX0_look_85 (by decide) ?_
      exact zret_i zc hw dX0_look_86
    · have hw := hw.2 hc
      refine lv_aload_n hx hb dX0_look_73 rfl (lv_at hl 0 rfl) ?_
      refine wcg_0_15_0 zc hK hM dX0_look_74 ?_
      refine lv_iload_n hx hb dX0_look_77 rfl (lv_at hl 1 rfl) ?_
      refine lv_bipush (v := (20 : Int32)) hx hb dX0_look_78 (by decide) ?_
      refine lv_isub hx hb dX0_look_80 ?_
      refine wcld_2 zc hK hM hw.1 dX0_look_81 ?_
      have hw := hw.2
      refine lv_goto (tgt := 86) hx hb dX0_look_82 (by decide) ?_
      exact zret_i zc hw dX0_look_86
set_option maxRecDepth 20000 in
theorem t_wc_X0_look_0 {p : Program} {l : Launch} {e : Env} {s : State} {m : MethodId} {args : Array Value} {below : List Frame} {meth : Method} {c : Code} {E : zE} {qc : Nat} {f_voices : Int32} {f_step : Int32} {a_parts : Nat → Int32} {a_heights : Nat → Int32} {post : Int32 → Prop} {x1 : Int32} {ls : Array Slot}
    (zc : zC p s m args meth c cX0_look 2 RX0 (some .int))
    (hK : zK E s)
    (hM : wcW E qc f_voices f_step a_parts a_heights s.heap)
    (hl : lv_has ls 2 [(0, .ref qc), (1, .int x1)])
    (hw : q_wc_X0_look_0 f_voices f_step a_parts a_heights x1 post) :
    W p l e rm_wc_X0_look s m args below meth c s.heap [] 0 0 (MQ below (vp_Si post) args s 0 0 (fun _ => False)) (F0 m 0 ls []) := by
  have hx := zc.1
  have hb := zc.2.1
  refine lv_iload_n hx hb dX0_look_0 rfl (lv_at hl 1 rfl) ?_
  refine lv_if_ne (tgt := 9) hx hb dX0_look_1 (by decide) (fun hc => ?_) (fun hc => ?_)
  · have hw := hw.1 hc
    refine lv_iload_n hx hb dX0_look_9 rfl (lv_at hl 1 rfl) ?_
    refine lv_iconst (v := (1 : Int32)) hx hb dX0_look_10 (by decide) ?_
    refine lv_icmp_ne (tgt := 19) hx hb dX0_look_11 (by decide) (fun hc => ?_) (fun hc => ?_)
    · have hw := hw.1 hc
      refine lv_iload_n hx hb dX0_look_19 rfl (lv_at hl 1 rfl) ?_
      refine lv_iconst (v := (3 : Int32)) hx hb dX0_look_20 (by decide) ?_
      refine lv_icmp_ne (tgt := 29) hx hb dX0_look_21 (by decide) (fun hc => ?_) (fun hc => ?_)
      · have hw := hw.1 hc
        refine lv_iload_n hx hb dX0_look_29 rfl (lv_at hl 1 rfl) ?_
        refine lv_bipush (v := (10 : Int32)) hx hb dX0_look_30 (by decide) ?_
        refine lv_icmp_lt (tgt := 56) hx hb dX0_look_32 (by decide) (fun hc => ?_) (fun hc => ?_)
        · have hw := hw.1 hc
          exact t_wc_X0_look_56 zc hK hM  (lv_sub hl [0, 1] rfl) hw
        · have hw := hw.2 hc
          refine lv_iload_n hx hb dX0_look_35 rfl (lv_at hl 1 rfl) ?_
          refine lv_bipush (v := (10 : Int32)) hx hb dX0_look_36 (by decide) ?_
          refine lv_aload_n hx hb dX0_look_38 rfl (lv_at hl 0 rfl) ?_
          refine wcg_0_18_0 zc hK hM dX0_look_39 ?_
          refine lv_iadd hx hb dX0_look_42 ?_
          refine lv_icmp_ge (tgt := 56) hx hb dX0_look_43 (by decide) (fun hc => ?_) (fun hc => ?_)
          · have hw := hw.1 hc
            exact t_wc_X0_look_56 zc hK hM  (lv_sub hl [0, 1] rfl) hw
          · have hw := hw.2 hc
            refine lv_aload_n hx hb dX0_look_46 rfl (lv_at hl 0 rfl) ?_
            refine wcg_0_9_0 zc hK hM dX0_look_47 ?_
            refine lv_iload_n hx hb dX0_look_50 rfl (lv_at hl 1 rfl) ?_
            refine lv_bipush (v := (10 : Int32)) hx hb dX0_look_51 (by decide) ?_
            refine lv_isub hx hb dX0_look_53 ?_
            refine wcld_1 zc hK hM hw.1 dX0_look_54 ?_
            have hw := hw.2
            exact zret_i zc hw dX0_look_55
      · have hw := hw.2 hc
        refine lv_aload_n hx hb dX0_look_24 rfl (lv_at hl 0 rfl) ?_
        refine zV_i [] [] zc ky_X0_longestFall kz_X0_longestFall km_0_37 (c_wc_X0_longestFall l hw) (wcPreV0 hK hM) rfl rfl hl.1 (Nat.le_of_ble_eq_true rfl) ⟨rfl, rfl⟩ ⟨Nat.le_of_ble_eq_true rfl, Nat.le_of_ble_eq_true rfl⟩ ⟨(Nat.zero_le _), (Nat.zero_le _)⟩ dX0_look_25 (fun r_1 hw => ?_)
        exact zret_i zc hw dX0_look_28
    · have hw := hw.2 hc
      refine lv_aload_n hx hb dX0_look_14 rfl (lv_at hl 0 rfl) ?_
      refine wcg_0_22_0 zc hK hM dX0_look_15 ?_
      exact zret_i zc hw dX0_look_18
  · have hw := hw.2 hc
    refine lv_aload_n hx hb dX0_look_4 rfl (lv_at hl 0 rfl) ?_
    refine wcg_0_18_0 zc hK hM dX0_look_5 ?_
    exact zret_i zc hw dX0_look_8
set_option maxRecDepth 20000 in
theorem c_wc_X0_look (l : Launch) {E : zE} {qc : Nat} {f_voices : Int32} {f_step : Int32} {a_parts : Nat → Int32} {a_heights : Nat → Int32} {x1 : Int32} {post : Int32 → Prop} (hw : q_wc_X0_look_0 f_voices f_step a_parts a_heights x1 post) : Met l yX0_look (Cond.code yX0_look cX0_look 2 (some .int) :: zb) rm_wc_X0_look (va_Pc [.ref qc, .int x1] (fun U => wcW E qc f_voices f_step a_parts a_heights U.heap ∧ zK E U)) (vp_Si post) 0 0 (fun _ => False) := by
  refine Met.ofW (cc := cX0_look) (maxL := 2) (ret := (some .int)) (by decide) rfl ?_
  intro p e s m args below meth c s₁ B hml hv
  obtain ⟨rfl, hM, hK⟩ := hv
  have zc := zc_of B hml
  have hl := lv_entry ([.ref qc, .int x1]) (n := 2) (Nat.le_of_ble_eq_true rfl)
  rw [lg_entry_eq]
  generalize (lg_sl ([.ref qc, .int x1]) ++ List.replicate (2 - (lg_sl ([.ref qc, .int x1])).length) Slot.unset).toArray = ls at hl ⊢
  have hl : lv_has ls 2 [(0, .ref qc), (1, .int x1)] := hl
  exact t_wc_X0_look_0 zc hK hM (lv_sub hl [0, 1] rfl) hw
end
section
-- wll_X2_copyFrom_9
abbrev rm_wll_X2_copyFrom_9 : Room := { frames := 1, cells := 0, slots := 0, locals := 40 }
def q_wll_X2_copyFrom_9_0 (f_huts : Int32) (f_singers : Int32) (f_villages : Int32) (f_dams : Int32) (f_echoes : Int32) (f_deep : Int32) (f_slide : Int32) (a_heights : Nat → Int32) (a_ladders : Nat → Int32) (a_minutes : Nat → Int32) (a_echoFrom : Nat → Int32) (a_echoTo : Nat → Int32) (a_homes : Nat → Int32) (a_talls : Nat → Int32) (a_known : Nat → Int32) (of_huts : Int32) (of_singers : Int32) (of_villages : Int32) (of_dams : Int32) (of_echoes : Int32) (of_deep : Int32) (of_slide : Int32) (oa_heights : Nat → Int32) (oa_ladders : Nat → Int32) (oa_minutes : Nat → Int32) (oa_echoFrom : Nat → Int32) (oa_echoTo : Nat → Int32) (oa_homes : Nat → Int32) (oa_talls : Nat → Int32) (oa_known : Nat → Int32) (post : (Int32) → (Int32) → (Int32) → (Int32) → (Int32) → (Int32) → (Int32) → (Nat → Int32) → (Nat → Int32) → (Nat → Int32) → (Nat → Int32) → (Nat → Int32) → (Nat → Int32) → (Nat → Int32) → (Nat → Int32) → Prop) : Prop :=
  ∀ a_heights_1 : Nat → Int32, a_heights_1 = va_cpy oa_heights a_heights (Int32.toNatClampNeg (0 : Int32)) (Int32.toNatClampNeg (0 : Int32)) (Int32.toNatClampNeg (9 : Int32)) → (∀ a_ladders_1 : Nat → Int32, a_ladders_1 = va_cpy oa_ladders a_ladders (Int32.toNatClampNeg (0 : Int32)) (Int32.toNatClampNeg (0 : Int32)) (Int32.toNatClampNeg (9 : Int32)) → (∀ a_minutes_1 : Nat → Int32, a_minutes_1 = va_cpy oa_minutes a_minutes (Int32.toNatClampNeg (0 : Int32)) (Int32.toNatClampNeg (0 : Int32)) (Int32.toNatClampNeg (81 : Int32)) → (∀ a_echoFrom_1 : Nat → Int32, a_echoFrom_1 = va_cpy oa_echoFrom a_echoFrom (Int32.toNatClampNeg (0 : Int32)) (Int32.toNatClampNeg (0 : Int32)) (Int32.toNatClampNeg (4 : Int32)) → (∀ a_echoTo_1 : Nat → Int32, a_echoTo_1 = va_cpy oa_echoTo a_echoTo (Int32.toNatClampNeg (0 : Int32)) (Int32.toNatClampNeg (0 : Int32)) (Int32.toNatClampNeg (4 : Int32)) → (∀ a_homes_1 : Nat → Int32, a_homes_1 = va_cpy oa_homes a_homes (Int32.toNatClampNeg (0 : Int32)) (Int32.toNatClampNeg (0 : Int32)) (Int32.toNatClampNeg (6 : Int32)) → (∀ a_talls_1 : Nat → Int32, a_talls_1 = va_cpy oa_talls a_talls (Int32.toNatClampNeg (0 : Int32)) (Int32.toNatClampNeg (0 : Int32)) (Int32.toNatClampNeg (6 : Int32)) → (∀ a_known_1 : Nat → Int32, a_known_1 = va_cpy oa_known a_known (Int32.toNatClampNeg (0 : Int32)) (Int32.toNatClampNeg (0 : Int32)) (Int32.toNatClampNeg (6 : Int32)) → (post of_huts of_singers of_villages of_dams of_echoes of_deep of_slide a_heights_1 a_ladders_1 a_minutes_1 a_echoFrom_1 a_echoTo_1 a_homes_1 a_talls_1 a_known_1))))))))
set_option maxRecDepth 20000 in
theorem t_wll_X2_copyFrom_9_0 {p : Program} {l : Launch} {e : Env} {s : State} {m : MethodId} {args : Array Value} {below : List Frame} {meth : Method} {c : Code} {E : zE} {ql qm : Nat} {f_huts : Int32} {f_singers : Int32} {f_villages : Int32} {f_dams : Int32} {f_echoes : Int32} {f_deep : Int32} {f_slide : Int32} {a_heights : Nat → Int32} {a_ladders : Nat → Int32} {a_minutes : Nat → Int32} {a_echoFrom : Nat → Int32} {a_echoTo : Nat → Int32} {a_homes : Nat → Int32} {a_talls : Nat → Int32} {a_known : Nat → Int32} {of_huts : Int32} {of_singers : Int32} {of_villages : Int32} {of_dams : Int32} {of_echoes : Int32} {of_deep : Int32} {of_slide : Int32} {oa_heights : Nat → Int32} {oa_ladders : Nat → Int32} {oa_minutes : Nat → Int32} {oa_echoFrom : Nat → Int32} {oa_echoTo : Nat → Int32} {oa_homes : Nat → Int32} {oa_talls : Nat → Int32} {oa_known : Nat → Int32} {post : (Int32) → (Int32) → (Int32) → (Int32) → (Int32) → (Int32) → (Int32) → (Nat → Int32) → (Nat → Int32) → (Nat → Int32) → (Nat → Int32) → (Nat → Int32) → (Nat → Int32) → (Nat → Int32) → (Nat → Int32) → Prop} {ls : Array Slot} {H : Heap} {locs : List Loc}
    (zc : zC p s m args meth c cX2_copyFrom 2 RX2 none)
    (hK : zK E s)
    (hM : wllW E ql qm f_huts f_singers f_villages f_dams f_echoes f_deep f_slide a_heights a_ladders a_minutes a_echoFrom a_echoTo a_homes a_talls a_known of_huts of_singers of_villages of_dams of_echoes of_deep of_slide oa_heights oa_ladders oa_minutes oa_echoFrom oa_echoTo oa_homes oa_talls oa_known H)
    (hS : va_S (wllA ql qm) s.heap H locs)
    (hl : lv_has ls 2 [(0, .ref ql), (1, .ref qm)])
    (hw : q_wll_X2_copyFrom_9_0 f_huts f_singers f_villages f_dams f_echoes f_deep f_slide a_heights a_ladders a_minutes a_echoFrom a_echoTo a_homes a_talls a_known of_huts of_singers of_villages of_dams of_echoes of_deep of_slide oa_heights oa_ladders oa_minutes oa_echoFrom oa_echoTo oa_homes oa_talls oa_known post) :
    W p l e rm_wll_X2_copyFrom_9 s m args below meth c H locs 0 0 (MQ below (zQv (S := (Int32) × (Int32) × (Int32) × (Int32) × (Int32) × (Int32) × (Int32) × (Nat → Int32) × (Nat → Int32) × (Nat → Int32) × (Nat → Int32) × (Nat → Int32) × (Nat → Int32) × (Nat → Int32) × (Nat → Int32)) (fun u => post u.1 u.2.1 u.2.2.1 u.2.2.2.1 u.2.2.2.2.1 u.2.2.2.2.2.1 u.2.2.2.2.2.2.1 u.2.2.2.2.2.2.2.1 u.2.2.2.2.2.2.2.2.1 u.2.2.2.2.2.2.2.2.2.1 u.2.2.2.2.2.2.2.2.2.2.1 u.2.2.2.2.2.2.2.2.2.2.2.1 u.2.2.2.2.2.2.2.2.2.2.2.2.1 u.2.2.2.2.2.2.2.2.2.2.2.2.2.1 u.2.2.2.2.2.2.2.2.2.2.2.2.2.2) (fun u H => wllW E ql qm u.1 u.2.1 u.2.2.1 u.2.2.2.1 u.2.2.2.2.1 u.2.2.2.2.2.1 u.2.2.2.2.2.2.1 u.2.2.2.2.2.2.2.1 u.2.2.2.2.2.2.2.2.1 u.2.2.2.2.2.2.2.2.2.1 u.2.2.2.2.2.2.2.2.2.2.1 u.2.2.2.2.2.2.2.2.2.2.2.1 u.2.2.2.2.2.2.2.2.2.2.2.2.1 u.2.2.2.2.2.2.2.2.2.2.2.2.2.1 u.2.2.2.2.2.2.2.2.2.2.2.2.2.2 of_huts of_singers of_villages of_dams of_echoes of_deep of_slide oa_heights oa_ladders oa_minutes oa_echoFrom oa_echoTo oa_homes oa_talls oa_known H) (wllA ql qm)) args s 0 0 (wllA ql qm)) (F0 m 0 ls []) := by
  have hx := zc.1
  have hb := zc.2.1
  refine lv_aload_n hx hb dX2_copyFrom_0 rfl (lv_at hl 0 rfl) ?_
  refine lv_aload_n hx hb dX2_copyFrom_1 rfl (lv_at hl 1 rfl) ?_
  refine wllg_2_43_9 zc hK hM dX2_copyFrom_2 ?_
  refine wllp_2_43_0 zc hK hM hS dX2_copyFrom_5 (fun H locs hM hS => ?_)
  refine lv_aload_n hx hb dX2_copyFrom_8 rfl (lv_at hl 0 rfl) ?_
  refine lv_aload_n hx hb dX2_copyFrom_9 rfl (lv_at hl 1 rfl) ?_
  refine wllg_2_46_9 zc hK hM dX2_copyFrom_10 ?_
  refine wllp_2_46_0 zc hK hM hS dX2_copyFrom_13 (fun H locs hM hS => ?_)
  refine lv_aload_n hx hb dX2_copyFrom_16 rfl (lv_at hl 0 rfl) ?_
  refine lv_aload_n hx hb dX2_copyFrom_17 rfl (lv_at hl 1 rfl) ?_
  refine wllg_2_49_9 zc hK hM dX2_copyFrom_18 ?_
  refine wllp_2_49_0 zc hK hM hS dX2_copyFrom_21 (fun H locs hM hS => ?_)
  refine lv_aload_n hx hb dX2_copyFrom_24 rfl (lv_at hl 0 rfl) ?_
  refine lv_aload_n hx hb dX2_copyFrom_25 rfl (lv_at hl 1 rfl) ?_
  refine wllg_2_52_9 zc hK hM dX2_copyFrom_26 ?_
  refine wllp_2_52_0 zc hK hM hS dX2_copyFrom_29 (fun H locs hM hS => ?_)
  refine lv_aload_n hx hb dX2_copyFrom_32 rfl (lv_at hl 0 rfl) ?_
  refine lv_aload_n hx hb dX2_copyFrom_33 rfl (lv_at hl 1 rfl) ?_
  refine wllg_2_55_9 zc hK hM dX2_copyFrom_34 ?_
  refine wllp_2_55_0 zc hK hM hS dX2_copyFrom_37 (fun H locs hM hS => ?_)
  refine lv_aload_n hx hb dX2_copyFrom_40 rfl (lv_at hl 0 rfl) ?_
  refine lv_aload_n hx hb dX2_copyFrom_41 rfl (lv_at hl 1 rfl) ?_
  refine wllg_2_9_9 zc hK hM dX2_copyFrom_42 ?_
  refine wllp_2_9_0 zc hK hM hS dX2_copyFrom_45 (fun H locs hM hS => ?_)
  refine lv_aload_n hx hb dX2_copyFrom_48 rfl (lv_at hl 0 rfl) ?_
  refine lv_aload_n hx hb dX2_copyFrom_49 rfl (lv_at hl 1 rfl) ?_
  refine wllg_2_15_9 zc hK hM dX2_copyFrom_50 ?_
  refine wllp_2_15_0 zc hK hM hS dX2_copyFrom_53 (fun H locs hM hS => ?_)
  refine lv_aload_n hx hb dX2_copyFrom_56 rfl (lv_at hl 1 rfl) ?_
  refine wllg_2_18_9 zc hK hM dX2_copyFrom_57 ?_
  refine lv_iconst (v := (0 : Int32)) hx hb dX2_copyFrom_60 (by decide) ?_
  refine lv_aload_n hx hb dX2_copyFrom_61 rfl (lv_at hl 0 rfl) ?_
  refine wllg_2_18_0 zc hK hM dX2_copyFrom_62 ?_
  refine lv_iconst (v := (0 : Int32)) hx hb dX2_copyFrom_65 (by decide) ?_
  refine lv_bipush (v := (9 : Int32)) hx hb dX2_copyFrom_66 (by decide) ?_
  refine wllcp_10_1 zc hK hM hS hl.1 (zc.2.2.2.2.1 _ km_2_64) (by decide) (by decide) (by decide) (by decide) (by decide) (fun _ _ => rfl) (by decide) (by decide) dX2_copyFrom_68 (fun a_heights_1 H locs ea_heights_1 hM hS => ?_)
  have hw := hw a_heights_1 ea_heights_1
  refine lv_aload_n hx hb dX2_copyFrom_71 rfl (lv_at hl 1 rfl) ?_
  refine wllg_2_22_9 zc hK hM dX2_copyFrom_72 ?_
  refine lv_iconst (v := (0 : Int32)) hx hb dX2_copyFrom_75 (by decide) ?_
  refine lv_aload_n hx hb dX2_copyFrom_76 rfl (lv_at hl 0 rfl) ?_
  refine wllg_2_22_0 zc hK hM dX2_copyFrom_77 ?_
  refine lv_iconst (v := (0 : Int32)) hx hb dX2_copyFrom_80 (by decide) ?_
  refine lv_bipush (v := (9 : Int32)) hx hb dX2_copyFrom_81 (by decide) ?_
  refine wllcp_11_2 zc hK hM hS hl.1 (zc.2.2.2.2.1 _ km_2_64) (by decide) (by decide) (by decide) (by decide) (by decide) (fun _ _ => rfl) (by decide) (by decide) dX2_copyFrom_83 (fun a_ladders_1 H locs ea_ladders_1 hM hS => ?_)
  have hw := hw a_ladders_1 ea_ladders_1
  refine lv_aload_n hx hb dX2_copyFrom_86 rfl (lv_at hl 1 rfl) ?_
  refine wllg_2_25_9 zc hK hM dX2_copyFrom_87 ?_
  refine lv_iconst (v := (0 : Int32)) hx hb dX2_copyFrom_90 (by decide) ?_
  refine lv_aload_n hx hb dX2_copyFrom_91 rfl (lv_at hl 0 rfl) ?_
  refine wllg_2_25_0 zc hK hM dX2_copyFrom_92 ?_
  refine lv_iconst (v := (0 : Int32)) hx hb dX2_copyFrom_95 (by decide) ?_
  refine lv_bipush (v := (81 : Int32)) hx hb dX2_copyFrom_96 (by decide) ?_
  refine wllcp_12_3 zc hK hM hS hl.1 (zc.2.2.2.2.1 _ km_2_64) (by decide) (by decide) (by decide) (by decide) (by decide) (fun _ _ => rfl) (by decide) (by decide) dX2_copyFrom_98 (fun a_minutes_1 H locs ea_minutes_1 hM hS => ?_)
  have hw := hw a_minutes_1 ea_minutes_1
  refine lv_aload_n hx hb dX2_copyFrom_101 rfl (lv_at hl 1 rfl) ?_
  refine wllg_2_28_9 zc hK hM dX2_copyFrom_102 ?_
  refine lv_iconst (v := (0 : Int32)) hx hb dX2_copyFrom_105 (by decide) ?_
  refine lv_aload_n hx hb dX2_copyFrom_106 rfl (lv_at hl 0 rfl) ?_
  refine wllg_2_28_0 zc hK hM dX2_copyFrom_107 ?_
  refine lv_iconst (v := (0 : Int32)) hx hb dX2_copyFrom_110 (by decide) ?_
  refine lv_iconst (v := (4 : Int32)) hx hb dX2_copyFrom_111 (by decide) ?_
  refine wllcp_13_4 zc hK hM hS hl.1 (zc.2.2.2.2.1 _ km_2_64) (by decide) (by decide) (by decide) (by decide) (by decide) (fun _ _ => rfl) (by decide) (by decide) dX2_copyFrom_112 (fun a_echoFrom_1 H locs ea_echoFrom_1 hM hS => ?_)
  have hw := hw a_echoFrom_1 ea_echoFrom_1
  refine lv_aload_n hx hb dX2_copyFrom_115 rfl (lv_at hl 1 rfl) ?_
  refine wllg_2_31_9 zc hK hM dX2_copyFrom_116 ?_
  refine lv_iconst (v := (0 : Int32)) hx hb dX2_copyFrom_119 (by decide) ?_
  refine lv_aload_n hx hb dX2_copyFrom_120 rfl (lv_at hl 0 rfl) ?_
  refine wllg_2_31_0 zc hK hM dX2_copyFrom_121 ?_
  refine lv_iconst (v := (0 : Int32)) hx hb dX2_copyFrom_124 (by decide) ?_
  refine lv_iconst (v := (4 : Int32)) hx hb dX2_copyFrom_125 (by decide) ?_
  refine wllcp_14_5 zc hK hM hS hl.1 (zc.2.2.2.2.1 _ km_2_64) (by decide) (by decide) (by decide) (by decide) (by decide) (fun _ _ => rfl) (by decide) (by decide) dX2_copyFrom_126 (fun a_echoTo_1 H locs ea_echoTo_1 hM hS => ?_)
  have hw := hw a_echoTo_1 ea_echoTo_1
  refine lv_aload_n hx hb dX2_copyFrom_129 rfl (lv_at hl 1 rfl) ?_
  refine wllg_2_34_9 zc hK hM dX2_copyFrom_130 ?_
  refine lv_iconst (v := (0 : Int32)) hx hb dX2_copyFrom_133 (by decide) ?_
  refine lv_aload_n hx hb dX2_copyFrom_134 rfl (lv_at hl 0 rfl) ?_
  refine wllg_2_34_0 zc hK hM dX2_copyFrom_135 ?_
  refine lv_iconst (v := (0 : Int32)) hx hb dX2_copyFrom_138 (by decide) ?_
  refine lv_bipush (v := (6 : Int32)) hx hb dX2_copyFrom_139 (by decide) ?_
  refine wllcp_15_6 zc hK hM hS hl.1 (zc.2.2.2.2.1 _ km_2_64) (by decide) (by decide) (by decide) (by decide) (by decide) (fun _ _ => rfl) (by decide) (by decide) dX2_copyFrom_141 (fun a_homes_1 H locs ea_homes_1 hM hS => ?_)
  have hw := hw a_homes_1 ea_homes_1
  refine lv_aload_n hx hb dX2_copyFrom_144 rfl (lv_at hl 1 rfl) ?_
  refine wllg_2_37_9 zc hK hM dX2_copyFrom_145 ?_
  refine lv_iconst (v := (0 : Int32)) hx hb dX2_copyFrom_148 (by decide) ?_
  refine lv_aload_n hx hb dX2_copyFrom_149 rfl (lv_at hl 0 rfl) ?_
  refine wllg_2_37_0 zc hK hM dX2_copyFrom_150 ?_
  refine lv_iconst (v := (0 : Int32)) hx hb dX2_copyFrom_153 (by decide) ?_
  refine lv_bipush (v := (6 : Int32)) hx hb dX2_copyFrom_154 (by decide) ?_
  refine wllcp_16_7 zc hK hM hS hl.1 (zc.2.2.2.2.1 _ km_2_64) (by decide) (by decide) (by decide) (by decide) (by decide) (fun _ _ => rfl) (by decide) (by decide) dX2_copyFrom_156 (fun a_talls_1 H locs ea_talls_1 hM hS => ?_)
  have hw := hw a_talls_1 ea_talls_1
  refine lv_aload_n hx hb dX2_copyFrom_159 rfl (lv_at hl 1 rfl) ?_
  refine wllg_2_40_9 zc hK hM dX2_copyFrom_160 ?_
  refine lv_iconst (v := (0 : Int32)) hx hb dX2_copyFrom_163 (by decide) ?_
  refine lv_aload_n hx hb dX2_copyFrom_164 rfl (lv_at hl 0 rfl) ?_
  refine wllg_2_40_0 zc hK hM dX2_copyFrom_165 ?_
  refine lv_iconst (v := (0 : Int32)) hx hb dX2_copyFrom_168 (by decide) ?_
  refine lv_bipush (v := (6 : Int32)) hx hb dX2_copyFrom_169 (by decide) ?_
  refine wllcp_17_8 zc hK hM hS hl.1 (zc.2.2.2.2.1 _ km_2_64) (by decide) (by decide) (by decide) (by decide) (by decide) (fun _ _ => rfl) (by decide) (by decide) dX2_copyFrom_171 (fun a_known_1 H locs ea_known_1 hM hS => ?_)
  have hw := hw a_known_1 ea_known_1
  exact zret_vw ⟨of_huts, of_singers, of_villages, of_dams, of_echoes, of_deep, of_slide, a_heights_1, a_ladders_1, a_minutes_1, a_echoFrom_1, a_echoTo_1, a_homes_1, a_talls_1, a_known_1⟩ zc hS hw hM dX2_copyFrom_174
set_option maxRecDepth 20000 in
theorem c_wll_X2_copyFrom_9 (l : Launch) {E : zE} {ql qm : Nat} {f_huts : Int32} {f_singers : Int32} {f_villages : Int32} {f_dams : Int32} {f_echoes : Int32} {f_deep : Int32} {f_slide : Int32} {a_heights : Nat → Int32} {a_ladders : Nat → Int32} {a_minutes : Nat → Int32} {a_echoFrom : Nat → Int32} {a_echoTo : Nat → Int32} {a_homes : Nat → Int32} {a_talls : Nat → Int32} {a_known : Nat → Int32} {of_huts : Int32} {of_singers : Int32} {of_villages : Int32} {of_dams : Int32} {of_echoes : Int32} {of_deep : Int32} {of_slide : Int32} {oa_heights : Nat → Int32} {oa_ladders : Nat → Int32} {oa_minutes : Nat → Int32} {oa_echoFrom : Nat → Int32} {oa_echoTo : Nat → Int32} {oa_homes : Nat → Int32} {oa_talls : Nat → Int32} {oa_known : Nat → Int32} {post : (Int32) → (Int32) → (Int32) → (Int32) → (Int32) → (Int32) → (Int32) → (Nat → Int32) → (Nat → Int32) → (Nat → Int32) → (Nat → Int32) → (Nat → Int32) → (Nat → Int32) → (Nat → Int32) → (Nat → Int32) → Prop} (hw : q_wll_X2_copyFrom_9_0 f_huts f_singers f_villages f_dams f_echoes f_deep f_slide a_heights a_ladders a_minutes a_echoFrom a_echoTo a_homes a_talls a_known of_huts of_singers of_villages of_dams of_echoes of_deep of_slide oa_heights oa_ladders oa_minutes oa_echoFrom oa_echoTo oa_homes oa_talls oa_known post) : Met l yX2_copyFrom (Cond.code yX2_copyFrom cX2_copyFrom 2 none :: zb) rm_wll_X2_copyFrom_9 (va_Pc [.ref ql, .ref qm] (fun U => wllW E ql qm f_huts f_singers f_villages f_dams f_echoes f_deep f_slide a_heights a_ladders a_minutes a_echoFrom a_echoTo a_homes a_talls a_known of_huts of_singers of_villages of_dams of_echoes of_deep of_slide oa_heights oa_ladders oa_minutes oa_echoFrom oa_echoTo oa_homes oa_talls oa_known U.heap ∧ zK E U)) (zQv (S := (Int32) × (Int32) × (Int32) × (Int32) × (Int32) × (Int32) × (Int32) × (Nat → Int32) × (Nat → Int32) × (Nat → Int32) × (Nat → Int32) × (Nat → Int32) × (Nat → Int32) × (Nat → Int32) × (Nat → Int32)) (fun u => post u.1 u.2.1 u.2.2.1 u.2.2.2.1 u.2.2.2.2.1 u.2.2.2.2.2.1 u.2.2.2.2.2.2.1 u.2.2.2.2.2.2.2.1 u.2.2.2.2.2.2.2.2.1 u.2.2.2.2.2.2.2.2.2.1 u.2.2.2.2.2.2.2.2.2.2.1 u.2.2.2.2.2.2.2.2.2.2.2.1 u.2.2.2.2.2.2.2.2.2.2.2.2.1 u.2.2.2.2.2.2.2.2.2.2.2.2.2.1 u.2.2.2.2.2.2.2.2.2.2.2.2.2.2) (fun u H => wllW E ql qm u.1 u.2.1 u.2.2.1 u.2.2.2.1 u.2.2.2.2.1 u.2.2.2.2.2.1 u.2.2.2.2.2.2.1 u.2.2.2.2.2.2.2.1 u.2.2.2.2.2.2.2.2.1 u.2.2.2.2.2.2.2.2.2.1 u.2.2.2.2.2.2.2.2.2.2.1 u.2.2.2.2.2.2.2.2.2.2.2.1 u.2.2.2.2.2.2.2.2.2.2.2.2.1 u.2.2.2.2.2.2.2.2.2.2.2.2.2.1 u.2.2.2.2.2.2.2.2.2.2.2.2.2.2 of_huts of_singers of_villages of_dams of_echoes of_deep of_slide oa_heights oa_ladders oa_minutes oa_echoFrom oa_echoTo oa_homes oa_talls oa_known H) (wllA ql qm)) 0 0 (wllA ql qm) := by
  refine Met.ofW (cc := cX2_copyFrom) (maxL := 2) (ret := none) (by decide) rfl ?_
  intro p e s m args below meth c s₁ B hml hv
  obtain ⟨rfl, hM, hK⟩ := hv
  have zc := zc_of B hml
  have hl := lv_entry ([.ref ql, .ref qm]) (n := 2) (Nat.le_of_ble_eq_true rfl)
  rw [lg_entry_eq]
  generalize (lg_sl ([.ref ql, .ref qm]) ++ List.replicate (2 - (lg_sl ([.ref ql, .ref qm])).length) Slot.unset).toArray = ls at hl ⊢
  have hl : lv_has ls 2 [(0, .ref ql), (1, .ref qm)] := hl
  exact t_wll_X2_copyFrom_9_0 zc hK hM va_S.rf (lv_sub hl [0, 1] rfl) hw
end
section
-- wvv_X1_copyFrom_4
abbrev rm_wvv_X1_copyFrom_4 : Room := { frames := 1, cells := 0, slots := 0, locals := 40 }
def q_wvv_X1_copyFrom_4_0 (f_deeds : Int32) (a_kinds : Nat → Int32) (a_firsts : Nat → Int32) (a_seconds : Nat → Int32) (of_deeds : Int32) (oa_kinds : Nat → Int32) (oa_firsts : Nat → Int32) (oa_seconds : Nat → Int32) (post : (Int32) → (Nat → Int32) → (Nat → Int32) → (Nat → Int32) → Prop) : Prop :=
  (¬ of_deeds < 0) ∧ ((Int32.toNatClampNeg (0 : Int32) + Int32.toNatClampNeg of_deeds ≤ 40) ∧ ((Int32.toNatClampNeg (0 : Int32) + Int32.toNatClampNeg of_deeds ≤ 40) ∧ (∀ a_kinds_1 : Nat → Int32, a_kinds_1 = va_cpy oa_kinds a_kinds (Int32.toNatClampNeg (0 : Int32)) (Int32.toNatClampNeg (0 : Int32)) (Int32.toNatClampNeg of_deeds) → ((¬ of_deeds < 0) ∧ ((Int32.toNatClampNeg (0 : Int32) + Int32.toNatClampNeg of_deeds ≤ 40) ∧ ((Int32.toNatClampNeg (0 : Int32) + Int32.toNatClampNeg of_deeds ≤ 40) ∧ (∀ a_firsts_1 : Nat → Int32, a_firsts_1 = va_cpy oa_firsts a_firsts (Int32.toNatClampNeg (0 : Int32)) (Int32.toNatClampNeg (0 : Int32)) (Int32.toNatClampNeg of_deeds) → ((¬ of_deeds < 0) ∧ ((Int32.toNatClampNeg (0 : Int32) + Int32.toNatClampNeg of_deeds ≤ 40) ∧ ((Int32.toNatClampNeg (0 : Int32) + Int32.toNatClampNeg of_deeds ≤ 40) ∧ (∀ a_seconds_1 : Nat → Int32, a_seconds_1 = va_cpy oa_seconds a_seconds (Int32.toNatClampNeg (0 : Int32)) (Int32.toNatClampNeg (0 : Int32)) (Int32.toNatClampNeg of_deeds) → (post of_deeds a_kinds_1 a_firsts_1 a_seconds_1))))))))))))
set_option maxRecDepth 20000 in
theorem t_wvv_X1_copyFrom_4_0 {p : Program} {l : Launch} {e : Env} {s : State} {m : MethodId} {args : Array Value} {below : List Frame} {meth : Method} {c : Code} {E : zE} {qv qw : Nat} {f_deeds : Int32} {a_kinds : Nat → Int32} {a_firsts : Nat → Int32} {a_seconds : Nat → Int32} {of_deeds : Int32} {oa_kinds : Nat → Int32} {oa_firsts : Nat → Int32} {oa_seconds : Nat → Int32} {post : (Int32) → (Nat → Int32) → (Nat → Int32) → (Nat → Int32) → Prop} {ls : Array Slot} {H : Heap} {locs : List Loc}
    (zc : zC p s m args meth c cX1_copyFrom 2 RX1 none)
    (hK : zK E s)
    (hM : wvvW E qv qw f_deeds a_kinds a_firsts a_seconds of_deeds oa_kinds oa_firsts oa_seconds H)
    (hS : va_S (wvvA qv qw) s.heap H locs)
    (hl : lv_has ls 2 [(0, .ref qv), (1, .ref qw)])
    (hw : q_wvv_X1_copyFrom_4_0 f_deeds a_kinds a_firsts a_seconds of_deeds oa_kinds oa_firsts oa_seconds post) :
    W p l e rm_wvv_X1_copyFrom_4 s m args below meth c H locs 0 0 (MQ below (zQv (S := (Int32) × (Nat → Int32) × (Nat → Int32) × (Nat → Int32)) (fun u => post u.1 u.2.1 u.2.2.1 u.2.2.2) (fun u H => wvvW E qv qw u.1 u.2.1 u.2.2.1 u.2.2.2 of_deeds oa_kinds oa_firsts oa_seconds H) (wvvA qv qw)) args s 0 0 (wvvA qv qw)) (F0 m 0 ls []) := by
  have hx := zc.1
  have hb := zc.2.1
  refine lv_aload_n hx hb dX1_copyFrom_0 rfl (lv_at hl 0 rfl) ?_
  refine lv_aload_n hx hb dX1_copyFrom_1 rfl (lv_at hl 1 rfl) ?_
  refine wvvg_1_21_4 zc hK hM dX1_copyFrom_2 ?_
  refine wvvp_1_21_0 zc hK hM hS dX1_copyFrom_5 (fun H locs hM hS => ?_)
  refine lv_aload_n hx hb dX1_copyFrom_8 rfl (lv_at hl 1 rfl) ?_
  refine wvvg_1_9_4 zc hK hM dX1_copyFrom_9 ?_
  refine lv_iconst (v := (0 : Int32)) hx hb dX1_copyFrom_12 (by decide) ?_
  refine lv_aload_n hx hb dX1_copyFrom_13 rfl (lv_at hl 0 rfl) ?_
  refine wvvg_1_9_0 zc hK hM dX1_copyFrom_14 ?_
  refine lv_iconst (v := (0 : Int32)) hx hb dX1_copyFrom_17 (by decide) ?_
  refine lv_aload_n hx hb dX1_copyFrom_18 rfl (lv_at hl 0 rfl) ?_
  refine wvvg_1_21_0 zc hK hM dX1_copyFrom_19 ?_
  have hs1 := hw.1
  have hw := hw.2
  have hs2 := hw.1
  have hw := hw.2
  have hs3 := hw.1
  have hw := hw.2
  refine wvvcp_5_1 zc hK hM hS hl.1 (zc.2.2.2.2.1 _ km_1_25) (by decide) (by decide) hs1 hs2 hs3 (fun _ _ => rfl) (by decide) (by decide) dX1_copyFrom_22 (fun a_kinds_1 H locs ea_kinds_1 hM hS => ?_)
  have hw := hw a_kinds_1 ea_kinds_1
  refine lv_aload_n hx hb dX1_copyFrom_25 rfl (lv_at hl 1 rfl) ?_
  refine wvvg_1_15_4 zc hK hM dX1_copyFrom_26 ?_
  refine lv_iconst (v := (0 : Int32)) hx hb dX1_copyFrom_29 (by decide) ?_
  refine lv_aload_n hx hb dX1_copyFrom_30 rfl (lv_at hl 0 rfl) ?_
  refine wvvg_1_15_0 zc hK hM dX1_copyFrom_31 ?_
  refine lv_iconst (v := (0 : Int32)) hx hb dX1_copyFrom_34 (by decide) ?_
  refine lv_aload_n hx hb dX1_copyFrom_35 rfl (lv_at hl 0 rfl) ?_
  refine wvvg_1_21_0 zc hK hM dX1_copyFrom_36 ?_
  have hs4 := hw.1
  have hw := hw.2
  have hs5 := hw.1
  have hw := hw.2
  have hs6 := hw.1
  have hw := hw.2
  refine wvvcp_6_2 zc hK hM hS hl.1 (zc.2.2.2.2.1 _ km_1_25) (by decide) (by decide) hs4 hs5 hs6 (fun _ _ => rfl) (by decide) (by decide) dX1_copyFrom_39 (fun a_firsts_1 H locs ea_firsts_1 hM hS => ?_)
  have hw := hw a_firsts_1 ea_firsts_1
  refine lv_aload_n hx hb dX1_copyFrom_42 rfl (lv_at hl 1 rfl) ?_
  refine wvvg_1_18_4 zc hK hM dX1_copyFrom_43 ?_
  refine lv_iconst (v := (0 : Int32)) hx hb dX1_copyFrom_46 (by decide) ?_
  refine lv_aload_n hx hb dX1_copyFrom_47 rfl (lv_at hl 0 rfl) ?_
  refine wvvg_1_18_0 zc hK hM dX1_copyFrom_48 ?_
  refine lv_iconst (v := (0 : Int32)) hx hb dX1_copyFrom_51 (by decide) ?_
  refine lv_aload_n hx hb dX1_copyFrom_52 rfl (lv_at hl 0 rfl) ?_
  refine wvvg_1_21_0 zc hK hM dX1_copyFrom_53 ?_
  have hs7 := hw.1
  have hw := hw.2
  have hs8 := hw.1
  have hw := hw.2
  have hs9 := hw.1
  have hw := hw.2
  refine wvvcp_7_3 zc hK hM hS hl.1 (zc.2.2.2.2.1 _ km_1_25) (by decide) (by decide) hs7 hs8 hs9 (fun _ _ => rfl) (by decide) (by decide) dX1_copyFrom_56 (fun a_seconds_1 H locs ea_seconds_1 hM hS => ?_)
  have hw := hw a_seconds_1 ea_seconds_1
  exact zret_vw ⟨of_deeds, a_kinds_1, a_firsts_1, a_seconds_1⟩ zc hS hw hM dX1_copyFrom_59
set_option maxRecDepth 20000 in
theorem c_wvv_X1_copyFrom_4 (l : Launch) {E : zE} {qv qw : Nat} {f_deeds : Int32} {a_kinds : Nat → Int32} {a_firsts : Nat → Int32} {a_seconds : Nat → Int32} {of_deeds : Int32} {oa_kinds : Nat → Int32} {oa_firsts : Nat → Int32} {oa_seconds : Nat → Int32} {post : (Int32) → (Nat → Int32) → (Nat → Int32) → (Nat → Int32) → Prop} (hw : q_wvv_X1_copyFrom_4_0 f_deeds a_kinds a_firsts a_seconds of_deeds oa_kinds oa_firsts oa_seconds post) : Met l yX1_copyFrom (Cond.code yX1_copyFrom cX1_copyFrom 2 none :: zb) rm_wvv_X1_copyFrom_4 (va_Pc [.ref qv, .ref qw] (fun U => wvvW E qv qw f_deeds a_kinds a_firsts a_seconds of_deeds oa_kinds oa_firsts oa_seconds U.heap ∧ zK E U)) (zQv (S := (Int32) × (Nat → Int32) × (Nat → Int32) × (Nat → Int32)) (fun u => post u.1 u.2.1 u.2.2.1 u.2.2.2) (fun u H => wvvW E qv qw u.1 u.2.1 u.2.2.1 u.2.2.2 of_deeds oa_kinds oa_firsts oa_seconds H) (wvvA qv qw)) 0 0 (wvvA qv qw) := by
  refine Met.ofW (cc := cX1_copyFrom) (maxL := 2) (ret := none) (by decide) rfl ?_
  intro p e s m args below meth c s₁ B hml hv
  obtain ⟨rfl, hM, hK⟩ := hv
  have zc := zc_of B hml
  have hl := lv_entry ([.ref qv, .ref qw]) (n := 2) (Nat.le_of_ble_eq_true rfl)
  rw [lg_entry_eq]
  generalize (lg_sl ([.ref qv, .ref qw]) ++ List.replicate (2 - (lg_sl ([.ref qv, .ref qw])).length) Slot.unset).toArray = ls at hl ⊢
  have hl : lv_has ls 2 [(0, .ref qv), (1, .ref qw)] := hl
  exact t_wvv_X1_copyFrom_4_0 zc hK hM va_S.rf (lv_sub hl [0, 1] rfl) hw
end
section
-- wss_X6_copyFrom_4
abbrev rm_wss_X6_copyFrom_4 : Room := { frames := 1, cells := 0, slots := 0, locals := 40 }
def q_wss_X6_copyFrom_4_0 (f_facts : Int32) (a_heard : Nat → Int32) (a_huts : Nat → Int32) (a_minutes : Nat → Int32) (of_facts : Int32) (oa_heard : Nat → Int32) (oa_huts : Nat → Int32) (oa_minutes : Nat → Int32) (post : (Int32) → (Nat → Int32) → (Nat → Int32) → (Nat → Int32) → Prop) : Prop :=
  (¬ of_facts < 0) ∧ ((Int32.toNatClampNeg (0 : Int32) + Int32.toNatClampNeg of_facts ≤ 10) ∧ ((Int32.toNatClampNeg (0 : Int32) + Int32.toNatClampNeg of_facts ≤ 10) ∧ (∀ a_heard_1 : Nat → Int32, a_heard_1 = va_cpy oa_heard a_heard (Int32.toNatClampNeg (0 : Int32)) (Int32.toNatClampNeg (0 : Int32)) (Int32.toNatClampNeg of_facts) → ((¬ of_facts < 0) ∧ ((Int32.toNatClampNeg (0 : Int32) + Int32.toNatClampNeg of_facts ≤ 10) ∧ ((Int32.toNatClampNeg (0 : Int32) + Int32.toNatClampNeg of_facts ≤ 10) ∧ (∀ a_huts_1 : Nat → Int32, a_huts_1 = va_cpy oa_huts a_huts (Int32.toNatClampNeg (0 : Int32)) (Int32.toNatClampNeg (0 : Int32)) (Int32.toNatClampNeg of_facts) → ((¬ of_facts < 0) ∧ ((Int32.toNatClampNeg (0 : Int32) + Int32.toNatClampNeg of_facts ≤ 10) ∧ ((Int32.toNatClampNeg (0 : Int32) + Int32.toNatClampNeg of_facts ≤ 10) ∧ (∀ a_minutes_1 : Nat → Int32, a_minutes_1 = va_cpy oa_minutes a_minutes (Int32.toNatClampNeg (0 : Int32)) (Int32.toNatClampNeg (0 : Int32)) (Int32.toNatClampNeg of_facts) → (post of_facts a_heard_1 a_huts_1 a_minutes_1))))))))))))
set_option maxRecDepth 20000 in
theorem t_wss_X6_copyFrom_4_0 {p : Program} {l : Launch} {e : Env} {s : State} {m : MethodId} {args : Array Value} {below : List Frame} {meth : Method} {c : Code} {E : zE} {qs qt : Nat} {f_facts : Int32} {a_heard : Nat → Int32} {a_huts : Nat → Int32} {a_minutes : Nat → Int32} {of_facts : Int32} {oa_heard : Nat → Int32} {oa_huts : Nat → Int32} {oa_minutes : Nat → Int32} {post : (Int32) → (Nat → Int32) → (Nat → Int32) → (Nat → Int32) → Prop} {ls : Array Slot} {H : Heap} {locs : List Loc}
    (zc : zC p s m args meth c cX6_copyFrom 2 RX6 none)
    (hK : zK E s)
    (hM : wssW E qs qt f_facts a_heard a_huts a_minutes of_facts oa_heard oa_huts oa_minutes H)
    (hS : va_S (wssA qs qt) s.heap H locs)
    (hl : lv_has ls 2 [(0, .ref qs), (1, .ref qt)])
    (hw : q_wss_X6_copyFrom_4_0 f_facts a_heard a_huts a_minutes of_facts oa_heard oa_huts oa_minutes post) :
    W p l e rm_wss_X6_copyFrom_4 s m args below meth c H locs 0 0 (MQ below (zQv (S := (Int32) × (Nat → Int32) × (Nat → Int32) × (Nat → Int32)) (fun u => post u.1 u.2.1 u.2.2.1 u.2.2.2) (fun u H => wssW E qs qt u.1 u.2.1 u.2.2.1 u.2.2.2 of_facts oa_heard oa_huts oa_minutes H) (wssA qs qt)) args s 0 0 (wssA qs qt)) (F0 m 0 ls []) := by
  have hx := zc.1
  have hb := zc.2.1
  refine lv_aload_n hx hb dX6_copyFrom_0 rfl (lv_at hl 0 rfl) ?_
  refine lv_aload_n hx hb dX6_copyFrom_1 rfl (lv_at hl 1 rfl) ?_
  refine wssg_6_21_4 zc hK hM dX6_copyFrom_2 ?_
  refine wssp_6_21_0 zc hK hM hS dX6_copyFrom_5 (fun H locs hM hS => ?_)
  refine lv_aload_n hx hb dX6_copyFrom_8 rfl (lv_at hl 1 rfl) ?_
  refine wssg_6_9_4 zc hK hM dX6_copyFrom_9 ?_
  refine lv_iconst (v := (0 : Int32)) hx hb dX6_copyFrom_12 (by decide) ?_
  refine lv_aload_n hx hb dX6_copyFrom_13 rfl (lv_at hl 0 rfl) ?_
  refine wssg_6_9_0 zc hK hM dX6_copyFrom_14 ?_
  refine lv_iconst (v := (0 : Int32)) hx hb dX6_copyFrom_17 (by decide) ?_
  refine lv_aload_n hx hb dX6_copyFrom_18 rfl (lv_at hl 0 rfl) ?_
  refine wssg_6_21_0 zc hK hM dX6_copyFrom_19 ?_
  have hs1 := hw.1
  have hw := hw.2
  have hs2 := hw.1
  have hw := hw.2
  have hs3 := hw.1
  have hw := hw.2
  refine wsscp_5_1 zc hK hM hS hl.1 (zc.2.2.2.2.1 _ km_6_25) (by decide) (by decide) hs1 hs2 hs3 (fun _ _ => rfl) (by decide) (by decide) dX6_copyFrom_22 (fun a_heard_1 H locs ea_heard_1 hM hS => ?_)
  have hw := hw a_heard_1 ea_heard_1
  refine lv_aload_n hx hb dX6_copyFrom_25 rfl (lv_at hl 1 rfl) ?_
  refine wssg_6_15_4 zc hK hM dX6_copyFrom_26 ?_
  refine lv_iconst (v := (0 : Int32)) hx hb dX6_copyFrom_29 (by decide) ?_
  refine lv_aload_n hx hb dX6_copyFrom_30 rfl (lv_at hl 0 rfl) ?_
  refine wssg_6_15_0 zc hK hM dX6_copyFrom_31 ?_
  refine lv_iconst (v := (0 : Int32)) hx hb dX6_copyFrom_34 (by decide) ?_
  refine lv_aload_n hx hb dX6_copyFrom_35 rfl (lv_at hl 0 rfl) ?_
  refine wssg_6_21_0 zc hK hM dX6_copyFrom_36 ?_
  have hs4 := hw.1
  have hw := hw.2
  have hs5 := hw.1
  have hw := hw.2
  have hs6 := hw.1
  have hw := hw.2
  refine wsscp_6_2 zc hK hM hS hl.1 (zc.2.2.2.2.1 _ km_6_25) (by decide) (by decide) hs4 hs5 hs6 (fun _ _ => rfl) (by decide) (by decide) dX6_copyFrom_39 (fun a_huts_1 H locs ea_huts_1 hM hS => ?_)
  have hw := hw a_huts_1 ea_huts_1
  refine lv_aload_n hx hb dX6_copyFrom_42 rfl (lv_at hl 1 rfl) ?_
  refine wssg_6_18_4 zc hK hM dX6_copyFrom_43 ?_
  refine lv_iconst (v := (0 : Int32)) hx hb dX6_copyFrom_46 (by decide) ?_
  refine lv_aload_n hx hb dX6_copyFrom_47 rfl (lv_at hl 0 rfl) ?_
  refine wssg_6_18_0 zc hK hM dX6_copyFrom_48 ?_
  refine lv_iconst (v := (0 : Int32)) hx hb dX6_copyFrom_51 (by decide) ?_
  refine lv_aload_n hx hb dX6_copyFrom_52 rfl (lv_at hl 0 rfl) ?_
  refine wssg_6_21_0 zc hK hM dX6_copyFrom_53 ?_
  have hs7 := hw.1
  have hw := hw.2
  have hs8 := hw.1
  have hw := hw.2
  have hs9 := hw.1
  have hw := hw.2
  refine wsscp_7_3 zc hK hM hS hl.1 (zc.2.2.2.2.1 _ km_6_25) (by decide) (by decide) hs7 hs8 hs9 (fun _ _ => rfl) (by decide) (by decide) dX6_copyFrom_56 (fun a_minutes_1 H locs ea_minutes_1 hM hS => ?_)
  have hw := hw a_minutes_1 ea_minutes_1
  exact zret_vw ⟨of_facts, a_heard_1, a_huts_1, a_minutes_1⟩ zc hS hw hM dX6_copyFrom_59
set_option maxRecDepth 20000 in
theorem c_wss_X6_copyFrom_4 (l : Launch) {E : zE} {qs qt : Nat} {f_facts : Int32} {a_heard : Nat → Int32} {a_huts : Nat → Int32} {a_minutes : Nat → Int32} {of_facts : Int32} {oa_heard : Nat → Int32} {oa_huts : Nat → Int32} {oa_minutes : Nat → Int32} {post : (Int32) → (Nat → Int32) → (Nat → Int32) → (Nat → Int32) → Prop} (hw : q_wss_X6_copyFrom_4_0 f_facts a_heard a_huts a_minutes of_facts oa_heard oa_huts oa_minutes post) : Met l yX6_copyFrom (Cond.code yX6_copyFrom cX6_copyFrom 2 none :: zb) rm_wss_X6_copyFrom_4 (va_Pc [.ref qs, .ref qt] (fun U => wssW E qs qt f_facts a_heard a_huts a_minutes of_facts oa_heard oa_huts oa_minutes U.heap ∧ zK E U)) (zQv (S := (Int32) × (Nat → Int32) × (Nat → Int32) × (Nat → Int32)) (fun u => post u.1 u.2.1 u.2.2.1 u.2.2.2) (fun u H => wssW E qs qt u.1 u.2.1 u.2.2.1 u.2.2.2 of_facts oa_heard oa_huts oa_minutes H) (wssA qs qt)) 0 0 (wssA qs qt) := by
  refine Met.ofW (cc := cX6_copyFrom) (maxL := 2) (ret := none) (by decide) rfl ?_
  intro p e s m args below meth c s₁ B hml hv
  obtain ⟨rfl, hM, hK⟩ := hv
  have zc := zc_of B hml
  have hl := lv_entry ([.ref qs, .ref qt]) (n := 2) (Nat.le_of_ble_eq_true rfl)
  rw [lg_entry_eq]
  generalize (lg_sl ([.ref qs, .ref qt]) ++ List.replicate (2 - (lg_sl ([.ref qs, .ref qt])).length) Slot.unset).toArray = ls at hl ⊢
  have hl : lv_has ls 2 [(0, .ref qs), (1, .ref qt)] := hl
  exact t_wss_X6_copyFrom_4_0 zc hK hM va_S.rf (lv_sub hl [0, 1] rfl) hw
end
section
-- wcc_X0_copyFrom_3
abbrev rm_wcc_X0_copyFrom_3 : Room := { frames := 1, cells := 0, slots := 0, locals := 40 }
def q_wcc_X0_copyFrom_3_0 (f_voices : Int32) (f_step : Int32) (a_parts : Nat → Int32) (a_heights : Nat → Int32) (of_voices : Int32) (of_step : Int32) (oa_parts : Nat → Int32) (oa_heights : Nat → Int32) (post : (Int32) → (Int32) → (Nat → Int32) → (Nat → Int32) → Prop) : Prop :=
  (¬ of_voices < 0) ∧ ((Int32.toNatClampNeg (0 : Int32) + Int32.toNatClampNeg of_voices ≤ 9) ∧ ((Int32.toNatClampNeg (0 : Int32) + Int32.toNatClampNeg of_voices ≤ 9) ∧ (∀ a_parts_1 : Nat → Int32, a_parts_1 = va_cpy oa_parts a_parts (Int32.toNatClampNeg (0 : Int32)) (Int32.toNatClampNeg (0 : Int32)) (Int32.toNatClampNeg of_voices) → ((¬ of_voices < 0) ∧ ((Int32.toNatClampNeg (0 : Int32) + Int32.toNatClampNeg of_voices ≤ 9) ∧ ((Int32.toNatClampNeg (0 : Int32) + Int32.toNatClampNeg of_voices ≤ 9) ∧ (∀ a_heights_1 : Nat → Int32, a_heights_1 = va_cpy oa_heights a_heights (Int32.toNatClampNeg (0 : Int32)) (Int32.toNatClampNeg (0 : Int32)) (Int32.toNatClampNeg of_voices) → (post of_voices of_step a_parts_1 a_heights_1))))))))
set_option maxRecDepth 20000 in
theorem t_wcc_X0_copyFrom_3_0 {p : Program} {l : Launch} {e : Env} {s : State} {m : MethodId} {args : Array Value} {below : List Frame} {meth : Method} {c : Code} {E : zE} {qc qd : Nat} {f_voices : Int32} {f_step : Int32} {a_parts : Nat → Int32} {a_heights : Nat → Int32} {of_voices : Int32} {of_step : Int32} {oa_parts : Nat → Int32} {oa_heights : Nat → Int32} {post : (Int32) → (Int32) → (Nat → Int32) → (Nat → Int32) → Prop} {ls : Array Slot} {H : Heap} {locs : List Loc}
    (zc : zC p s m args meth c cX0_copyFrom 2 RX0 none)
    (hK : zK E s)
    (hM : wccW E qc qd f_voices f_step a_parts a_heights of_voices of_step oa_parts oa_heights H)
    (hS : va_S (wccA qc qd) s.heap H locs)
    (hl : lv_has ls 2 [(0, .ref qc), (1, .ref qd)])
    (hw : q_wcc_X0_copyFrom_3_0 f_voices f_step a_parts a_heights of_voices of_step oa_parts oa_heights post) :
    W p l e rm_wcc_X0_copyFrom_3 s m args below meth c H locs 0 0 (MQ below (zQv (S := (Int32) × (Int32) × (Nat → Int32) × (Nat → Int32)) (fun u => post u.1 u.2.1 u.2.2.1 u.2.2.2) (fun u H => wccW E qc qd u.1 u.2.1 u.2.2.1 u.2.2.2 of_voices of_step oa_parts oa_heights H) (wccA qc qd)) args s 0 0 (wccA qc qd)) (F0 m 0 ls []) := by
  have hx := zc.1
  have hb := zc.2.1
  refine lv_aload_n hx hb dX0_copyFrom_0 rfl (lv_at hl 0 rfl) ?_
  refine lv_aload_n hx hb dX0_copyFrom_1 rfl (lv_at hl 1 rfl) ?_
  refine wccg_0_18_3 zc hK hM dX0_copyFrom_2 ?_
  refine wccp_0_18_0 zc hK hM hS dX0_copyFrom_5 (fun H locs hM hS => ?_)
  refine lv_aload_n hx hb dX0_copyFrom_8 rfl (lv_at hl 0 rfl) ?_
  refine lv_aload_n hx hb dX0_copyFrom_9 rfl (lv_at hl 1 rfl) ?_
  refine wccg_0_22_3 zc hK hM dX0_copyFrom_10 ?_
  refine wccp_0_22_0 zc hK hM hS dX0_copyFrom_13 (fun H locs hM hS => ?_)
  refine lv_aload_n hx hb dX0_copyFrom_16 rfl (lv_at hl 1 rfl) ?_
  refine wccg_0_9_3 zc hK hM dX0_copyFrom_17 ?_
  refine lv_iconst (v := (0 : Int32)) hx hb dX0_copyFrom_20 (by decide) ?_
  refine lv_aload_n hx hb dX0_copyFrom_21 rfl (lv_at hl 0 rfl) ?_
  refine wccg_0_9_0 zc hK hM dX0_copyFrom_22 ?_
  refine lv_iconst (v := (0 : Int32)) hx hb dX0_copyFrom_25 (by decide) ?_
  refine lv_aload_n hx hb dX0_copyFrom_26 rfl (lv_at hl 0 rfl) ?_
  refine wccg_0_18_0 zc hK hM dX0_copyFrom_27 ?_
  have hs1 := hw.1
  have hw := hw.2
  have hs2 := hw.1
  have hw := hw.2
  have hs3 := hw.1
  have hw := hw.2
  refine wcccp_4_1 zc hK hM hS hl.1 (zc.2.2.2.2.1 _ km_0_25) (by decide) (by decide) hs1 hs2 hs3 (fun _ _ => rfl) (by decide) (by decide) dX0_copyFrom_30 (fun a_parts_1 H locs ea_parts_1 hM hS => ?_)
  have hw := hw a_parts_1 ea_parts_1
  refine lv_aload_n hx hb dX0_copyFrom_33 rfl (lv_at hl 1 rfl) ?_
  refine wccg_0_15_3 zc hK hM dX0_copyFrom_34 ?_
  refine lv_iconst (v := (0 : Int32)) hx hb dX0_copyFrom_37 (by decide) ?_
  refine lv_aload_n hx hb dX0_copyFrom_38 rfl (lv_at hl 0 rfl) ?_
  refine wccg_0_15_0 zc hK hM dX0_copyFrom_39 ?_
  refine lv_iconst (v := (0 : Int32)) hx hb dX0_copyFrom_42 (by decide) ?_
  refine lv_aload_n hx hb dX0_copyFrom_43 rfl (lv_at hl 0 rfl) ?_
  refine wccg_0_18_0 zc hK hM dX0_copyFrom_44 ?_
  have hs4 := hw.1
  have hw := hw.2
  have hs5 := hw.1
  have hw := hw.2
  have hs6 := hw.1
  have hw := hw.2
  refine wcccp_5_2 zc hK hM hS hl.1 (zc.2.2.2.2.1 _ km_0_25) (by decide) (by decide) hs4 hs5 hs6 (fun _ _ => rfl) (by decide) (by decide) dX0_copyFrom_47 (fun a_heights_1 H locs ea_heights_1 hM hS => ?_)
  have hw := hw a_heights_1 ea_heights_1
  exact zret_vw ⟨of_voices, of_step, a_parts_1, a_heights_1⟩ zc hS hw hM dX0_copyFrom_50
set_option maxRecDepth 20000 in
theorem c_wcc_X0_copyFrom_3 (l : Launch) {E : zE} {qc qd : Nat} {f_voices : Int32} {f_step : Int32} {a_parts : Nat → Int32} {a_heights : Nat → Int32} {of_voices : Int32} {of_step : Int32} {oa_parts : Nat → Int32} {oa_heights : Nat → Int32} {post : (Int32) → (Int32) → (Nat → Int32) → (Nat → Int32) → Prop} (hw : q_wcc_X0_copyFrom_3_0 f_voices f_step a_parts a_heights of_voices of_step oa_parts oa_heights post) : Met l yX0_copyFrom (Cond.code yX0_copyFrom cX0_copyFrom 2 none :: zb) rm_wcc_X0_copyFrom_3 (va_Pc [.ref qc, .ref qd] (fun U => wccW E qc qd f_voices f_step a_parts a_heights of_voices of_step oa_parts oa_heights U.heap ∧ zK E U)) (zQv (S := (Int32) × (Int32) × (Nat → Int32) × (Nat → Int32)) (fun u => post u.1 u.2.1 u.2.2.1 u.2.2.2) (fun u H => wccW E qc qd u.1 u.2.1 u.2.2.1 u.2.2.2 of_voices of_step oa_parts oa_heights H) (wccA qc qd)) 0 0 (wccA qc qd) := by
  refine Met.ofW (cc := cX0_copyFrom) (maxL := 2) (ret := none) (by decide) rfl ?_
  intro p e s m args below meth c s₁ B hml hv
  obtain ⟨rfl, hM, hK⟩ := hv
  have zc := zc_of B hml
  have hl := lv_entry ([.ref qc, .ref qd]) (n := 2) (Nat.le_of_ble_eq_true rfl)
  rw [lg_entry_eq]
  generalize (lg_sl ([.ref qc, .ref qd]) ++ List.replicate (2 - (lg_sl ([.ref qc, .ref qd])).length) Slot.unset).toArray = ls at hl ⊢
  have hl : lv_has ls 2 [(0, .ref qc), (1, .ref qd)] := hl
  exact t_wcc_X0_copyFrom_3_0 zc hK hM va_S.rf (lv_sub hl [0, 1] rfl) hw
end
