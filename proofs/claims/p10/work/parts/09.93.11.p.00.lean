-- wp_X7_together_9_2
abbrev rm_wp_X7_together_9_2 : Room := { frames := 1, cells := 0, slots := 0, locals := 40 }
def q_wp_X7_together_9_2_59 (P11 : Int32 → Int32 → Int32 → Prop) (a_walked : Nat → Int32) (lf_huts : Int32) (x3 : Int32) (x4 : Int32) (x5 : Int32) (x6 : Int32) (x7 : Int32) (x8 : Int32) (post : Int32 → Prop) : Prop :=
  ∀ v_1 : Int32, v_1 = x8 + (1 : Int32) → (P11 x6 x7 v_1)
def q_wp_X7_together_9_2_11 (a_walked : Nat → Int32) (lf_huts : Int32) (x3 : Int32) (x4 : Int32) (x5 : Int32) (x6 : Int32) (x7 : Int32) (x8 : Int32) (post : Int32 → Prop) : Prop :=
  ∀ P11 : Int32 → Int32 → Int32 → Prop, (∀ (x6 : Int32) (x7 : Int32) (x8 : Int32), ((lf_huts ≤ x8 → ((x6 = (-1 : Int32) → (post x6)) ∧ (¬ x6 = (-1 : Int32) → ((x5 = 0 → (post x6)) ∧ (¬ x5 = 0 → (post x7)))))) ∧ (¬ lf_huts ≤ x8 → (vp_in ((x3 * (9 : Int32)) + x8) 81 ∧ (vp_in ((x4 * (9 : Int32)) + x8) 81 ∧ (∀ v_1 : Int32, v_1 = (if (a_walked (Int32.toNatClampNeg ((x3 * (9 : Int32)) + x8))) < (a_walked (Int32.toNatClampNeg ((x4 * (9 : Int32)) + x8))) then (a_walked (Int32.toNatClampNeg ((x4 * (9 : Int32)) + x8))) else (a_walked (Int32.toNatClampNeg ((x3 * (9 : Int32)) + x8)))) → ((x7 ≤ v_1 → (q_wp_X7_together_9_2_59 P11 a_walked lf_huts x3 x4 x5 x6 x7 x8 post)) ∧ (¬ x7 ≤ v_1 → (q_wp_X7_together_9_2_59 P11 a_walked lf_huts x3 x4 x5 x8 v_1 x8 post)))))))) → P11 x6 x7 x8) → P11 x6 x7 x8
def q_wp_X7_together_9_2_0 (a_walked : Nat → Int32) (lf_huts : Int32) (x3 : Int32) (x4 : Int32) (x5 : Int32) (post : Int32 → Prop) : Prop :=
  q_wp_X7_together_9_2_11 a_walked lf_huts x3 x4 x5 (-1 : Int32) (1000 : Int32) (0 : Int32) post
set_option maxRecDepth 20000 in
theorem t_wp_X7_together_9_2_59 {p : Program} {l : Launch} {e : Env} {s : State} {m : MethodId} {args : Array Value} {below : List Frame} {meth : Method} {c : Code} {E : zE} {qp ql qs : Nat} {a_heard : Nat → Int32} {a_walked : Nat → Int32} {a_total : Nat → Int32} {a_longest : Nat → Int32} {a_next : Nat → Int32} {a_cover : Nat → Int32} {a_now : Nat → Int32} {a_then : Nat → Int32} {lf_huts : Int32} {lf_singers : Int32} {lf_villages : Int32} {lf_dams : Int32} {lf_echoes : Int32} {lf_deep : Int32} {lf_slide : Int32} {la_heights : Nat → Int32} {la_ladders : Nat → Int32} {la_minutes : Nat → Int32} {la_echoFrom : Nat → Int32} {la_echoTo : Nat → Int32} {la_homes : Nat → Int32} {la_talls : Nat → Int32} {la_known : Nat → Int32} {sf_facts : Int32} {sa_heard : Nat → Int32} {sa_huts : Nat → Int32} {sa_minutes : Nat → Int32} {P11 : Int32 → Int32 → Int32 → Prop} {post : Int32 → Prop} {x3 : Int32} {x4 : Int32} {x5 : Int32} {x6 : Int32} {x7 : Int32} {x8 : Int32} {ls : Array Slot}
    (zc : zC p s m args meth c cX7_together 10 RX7 (some .int))
    (hK : zK E s)
    (hM : wpW E qp ql qs a_heard a_walked a_total a_longest a_next a_cover a_now a_then lf_huts lf_singers lf_villages lf_dams lf_echoes lf_deep lf_slide la_heights la_ladders la_minutes la_echoFrom la_echoTo la_homes la_talls la_known sf_facts sa_heard sa_huts sa_minutes s.heap)
    (hP11 : ∀ (x6 : Int32) (x7 : Int32) (x8 : Int32) (ls : Array Slot), P11 x6 x7 x8 → lv_has ls 10 [(1, .ref ql), (2, .ref (qp + 2)), (3, .int x3), (4, .int x4), (5, .int x5), (6, .int x6), (7, .int x7), (8, .int x8)] → W p l e rm_wp_X7_together_9_2 s m args below meth c s.heap [] 0 0 (MQ below (vp_Si post) args s 0 0 (fun _ => False)) (F0 m 11 ls []))
    (hl : lv_has ls 10 [(1, .ref ql), (2, .ref (qp + 2)), (3, .int x3), (4, .int x4), (5, .int x5), (6, .int x6), (7, .int x7), (8, .int x8)])
    (hw : q_wp_X7_together_9_2_59 P11 a_walked lf_huts x3 x4 x5 x6 x7 x8 post) :
    W p l e rm_wp_X7_together_9_2 s m args below meth c s.heap [] 0 0 (MQ below (vp_Si post) args s 0 0 (fun _ => False)) (F0 m 59 ls []) := by
  have hx := zc.1
  have hb := zc.2.1
  obtain ⟨v_1, ev_1⟩ : ∃ y : Int32, y = x8 + (1 : Int32) := ⟨_, rfl⟩
  have hw := hw v_1 ev_1
  refine lv_iinc (v := v_1) (k := 7) (lv' := [(8, .int v_1), (1, .ref ql), (2, .ref (qp + 2)), (3, .int x3), (4, .int x4), (5, .int x5), (6, .int x6), (7, .int x7)]) hx hb dX7_together_59 hl rfl (by rw [ev_1]; rfl) (by decide) rfl (fun ls hl => ?_)
  refine lv_goto (tgt := 11) hx hb dX7_together_62 (by decide) ?_
  exact hP11 _ _ _ _ hw (lv_sub hl [1, 2, 3, 4, 5, 6, 7, 0] rfl)
set_option maxRecDepth 20000 in
theorem t_wp_X7_together_9_2_11 {p : Program} {l : Launch} {e : Env} {s : State} {m : MethodId} {args : Array Value} {below : List Frame} {meth : Method} {c : Code} {E : zE} {qp ql qs : Nat} {a_heard : Nat → Int32} {a_walked : Nat → Int32} {a_total : Nat → Int32} {a_longest : Nat → Int32} {a_next : Nat → Int32} {a_cover : Nat → Int32} {a_now : Nat → Int32} {a_then : Nat → Int32} {lf_huts : Int32} {lf_singers : Int32} {lf_villages : Int32} {lf_dams : Int32} {lf_echoes : Int32} {lf_deep : Int32} {lf_slide : Int32} {la_heights : Nat → Int32} {la_ladders : Nat → Int32} {la_minutes : Nat → Int32} {la_echoFrom : Nat → Int32} {la_echoTo : Nat → Int32} {la_homes : Nat → Int32} {la_talls : Nat → Int32} {la_known : Nat → Int32} {sf_facts : Int32} {sa_heard : Nat → Int32} {sa_huts : Nat → Int32} {sa_minutes : Nat → Int32} {post : Int32 → Prop} {x3 : Int32} {x4 : Int32} {x5 : Int32} {x6 : Int32} {x7 : Int32} {x8 : Int32} {ls : Array Slot}
    (zc : zC p s m args meth c cX7_together 10 RX7 (some .int))
    (hK : zK E s)
    (hM : wpW E qp ql qs a_heard a_walked a_total a_longest a_next a_cover a_now a_then lf_huts lf_singers lf_villages lf_dams lf_echoes lf_deep lf_slide la_heights la_ladders la_minutes la_echoFrom la_echoTo la_homes la_talls la_known sf_facts sa_heard sa_huts sa_minutes s.heap)
    (hl : lv_has ls 10 [(1, .ref ql), (2, .ref (qp + 2)), (3, .int x3), (4, .int x4), (5, .int x5), (6, .int x6), (7, .int x7), (8, .int x8)])
    (hw : q_wp_X7_together_9_2_11 a_walked lf_huts x3 x4 x5 x6 x7 x8 post) :
    W p l e rm_wp_X7_together_9_2 s m args below meth c s.heap [] 0 0 (MQ below (vp_Si post) args s 0 0 (fun _ => False)) (F0 m 11 ls []) := by
  have hx := zc.1
  have hb := zc.2.1
  refine hw (fun x6 x7 x8 => ∀ (ls : Array Slot), lv_has ls 10 [(1, .ref ql), (2, .ref (qp + 2)), (3, .int x3), (4, .int x4), (5, .int x5), (6, .int x6), (7, .int x7), (8, .int x8)] → W p l e rm_wp_X7_together_9_2 s m args below meth c s.heap [] 0 0 (MQ below (vp_Si post) args s 0 0 (fun _ => False)) (F0 m 11 ls [])) ?_ _ hl
  intro x6 x7 x8 hw ls hl
  refine lv_iload hx hb dX7_together_11 (lv_at hl 7 rfl) ?_
  refine lv_aload_n hx hb dX7_together_13 rfl (lv_at hl 0 rfl) ?_
  refine wpg_7_42_9 zc hK hM dX7_together_14 ?_
  refine lv_icmp_ge (tgt := 65) hx hb dX7_together_17 (by decide) (fun hc => ?_) (fun hc => ?_)
  · have hw := hw.1 hc
    refine lv_iload hx hb dX7_together_65 (lv_at hl 5 rfl) ?_
    refine lv_iconst (v := (-1 : Int32)) hx hb dX7_together_67 (by decide) ?_
    refine lv_icmp_eq (tgt := 81) hx hb dX7_together_68 (by decide) (fun hc => ?_) (fun hc => ?_)
    · have hw := hw.1 hc
      refine lv_iload hx hb dX7_together_81 (lv_at hl 5 rfl) ?_
      exact zret_i zc hw dX7_together_83
    · have hw := hw.2 hc
      refine lv_iload hx hb dX7_together_71 (lv_at hl 4 rfl) ?_
      refine lv_if_eq (tgt := 81) hx hb dX7_together_73 (by decide) (fun hc => ?_) (fun hc => ?_)
      · have hw := hw.1 hc
        refine lv_iload hx hb dX7_together_81 (lv_at hl 5 rfl) ?_
        exact zret_i zc hw dX7_together_83
      · have hw := hw.2 hc
        refine lv_iload hx hb dX7_together_76 (lv_at hl 6 rfl) ?_
        refine lv_goto (tgt := 83) hx hb dX7_together_78 (by decide) ?_
        exact zret_i zc hw dX7_together_83
  · have hw := hw.2 hc
    refine lv_aload_n hx hb dX7_together_20 rfl (lv_at hl 1 rfl) ?_
    refine lv_iload_n hx hb dX7_together_21 rfl (lv_at hl 2 rfl) ?_
    refine lv_bipush (v := (9 : Int32)) hx hb dX7_together_22 (by decide) ?_
    refine lv_imul hx hb dX7_together_24 ?_
    refine lv_iload hx hb dX7_together_25 (lv_at hl 7 rfl) ?_
    refine lv_iadd hx hb dX7_together_27 ?_
    refine wpld_2 zc hK hM hw.1 dX7_together_28 ?_
    have hw := hw.2
    refine lv_aload_n hx hb dX7_together_29 rfl (lv_at hl 1 rfl) ?_
    refine lv_iload hx hb dX7_together_30 (lv_at hl 3 rfl) ?_
    refine lv_bipush (v := (9 : Int32)) hx hb dX7_together_32 (by decide) ?_
    refine lv_imul hx hb dX7_together_34 ?_
    refine lv_iload hx hb dX7_together_35 (lv_at hl 7 rfl) ?_
    refine lv_iadd hx hb dX7_together_37 ?_
    refine wpld_2 zc hK hM hw.1 dX7_together_38 ?_
    have hw := hw.2
    refine va_mmax hx hb (zc.2.2.1.trans hl.1.symm) zc.2.2.2.1 (zc.2.2.2.2.1 _ km_7_76) (zc.2.2.2.2.1 _ k_mmaxs) (zc.2.2.2.2.1 _ k_mini) (zc.2.2.2.2.1 _ k_mmaxc) (Nat.le_of_ble_eq_true rfl) (Nat.le_of_ble_eq_true rfl) (Nat.zero_le _) (Nat.zero_le _) dX7_together_39 ?_
    refine lv_topi (fun v_1 ev_1 => ?_)
    have hw := hw v_1 ev_1
    refine lv_istore (lv' := [(9, .int v_1), (1, .ref ql), (2, .ref (qp + 2)), (3, .int x3), (4, .int x4), (5, .int x5), (6, .int x6), (7, .int x7), (8, .int x8)]) hx hb dX7_together_42 hl (by decide) rfl (fun ls hl => ?_)
    refine lv_iload hx hb dX7_together_44 (lv_at hl 0 rfl) ?_
    refine lv_iload hx hb dX7_together_46 (lv_at hl 7 rfl) ?_
    refine lv_icmp_ge (tgt := 59) hx hb dX7_together_48 (by decide) (fun hc => ?_) (fun hc => ?_)
    · have hw := hw.1 hc
      exact t_wp_X7_together_9_2_59 zc hK hM (fun _ _ _ ls h hl => h ls hl) (lv_sub hl [1, 2, 3, 4, 5, 6, 7, 8] rfl) hw
    · have hw := hw.2 hc
      refine lv_iload hx hb dX7_together_51 (lv_at hl 8 rfl) ?_
      refine lv_istore (lv' := [(6, .int x8), (9, .int v_1), (1, .ref ql), (2, .ref (qp + 2)), (3, .int x3), (4, .int x4), (5, .int x5), (7, .int x7), (8, .int x8)]) hx hb dX7_together_53 hl (by decide) rfl (fun ls hl => ?_)
      refine lv_iload hx hb dX7_together_55 (lv_at hl 1 rfl) ?_
      refine lv_istore (lv' := [(7, .int v_1), (6, .int x8), (9, .int v_1), (1, .ref ql), (2, .ref (qp + 2)), (3, .int x3), (4, .int x4), (5, .int x5), (8, .int x8)]) hx hb dX7_together_57 hl (by decide) rfl (fun ls hl => ?_)
      exact t_wp_X7_together_9_2_59 zc hK hM (fun _ _ _ ls h hl => h ls hl) (lv_sub hl [3, 4, 5, 6, 7, 1, 0, 8] rfl) hw
set_option maxRecDepth 20000 in
theorem t_wp_X7_together_9_2_0 {p : Program} {l : Launch} {e : Env} {s : State} {m : MethodId} {args : Array Value} {below : List Frame} {meth : Method} {c : Code} {E : zE} {qp ql qs : Nat} {a_heard : Nat → Int32} {a_walked : Nat → Int32} {a_total : Nat → Int32} {a_longest : Nat → Int32} {a_next : Nat → Int32} {a_cover : Nat → Int32} {a_now : Nat → Int32} {a_then : Nat → Int32} {lf_huts : Int32} {lf_singers : Int32} {lf_villages : Int32} {lf_dams : Int32} {lf_echoes : Int32} {lf_deep : Int32} {lf_slide : Int32} {la_heights : Nat → Int32} {la_ladders : Nat → Int32} {la_minutes : Nat → Int32} {la_echoFrom : Nat → Int32} {la_echoTo : Nat → Int32} {la_homes : Nat → Int32} {la_talls : Nat → Int32} {la_known : Nat → Int32} {sf_facts : Int32} {sa_heard : Nat → Int32} {sa_huts : Nat → Int32} {sa_minutes : Nat → Int32} {post : Int32 → Prop} {x3 : Int32} {x4 : Int32} {x5 : Int32} {ls : Array Slot}
    (zc : zC p s m args meth c cX7_together 10 RX7 (some .int))
    (hK : zK E s)
    (hM : wpW E qp ql qs a_heard a_walked a_total a_longest a_next a_cover a_now a_then lf_huts lf_singers lf_villages lf_dams lf_echoes lf_deep lf_slide la_heights la_ladders la_minutes la_echoFrom la_echoTo la_homes la_talls la_known sf_facts sa_heard sa_huts sa_minutes s.heap)
    (hl : lv_has ls 10 [(1, .ref ql), (2, .ref (qp + 2)), (3, .int x3), (4, .int x4), (5, .int x5)])
    (hw : q_wp_X7_together_9_2_0 a_walked lf_huts x3 x4 x5 post) :
    W p l e rm_wp_X7_together_9_2 s m args below meth c s.heap [] 0 0 (MQ below (vp_Si post) args s 0 0 (fun _ => False)) (F0 m 0 ls []) := by
  have hx := zc.1
  have hb := zc.2.1
  refine lv_iconst (v := (-1 : Int32)) hx hb dX7_together_0 (by decide) ?_
  refine lv_istore (lv' := [(6, .int (-1 : Int32)), (1, .ref ql), (2, .ref (qp + 2)), (3, .int x3), (4, .int x4), (5, .int x5)]) hx hb dX7_together_1 hl (by decide) rfl (fun ls hl => ?_)
  refine lv_sipush (v := (1000 : Int32)) hx hb dX7_together_3 (by decide) ?_
  refine lv_istore (lv' := [(7, .int (1000 : Int32)), (6, .int (-1 : Int32)), (1, .ref ql), (2, .ref (qp + 2)), (3, .int x3), (4, .int x4), (5, .int x5)]) hx hb dX7_together_6 hl (by decide) rfl (fun ls hl => ?_)
  refine lv_iconst (v := (0 : Int32)) hx hb dX7_together_8 (by decide) ?_
  refine lv_istore (lv' := [(8, .int (0 : Int32)), (7, .int (1000 : Int32)), (6, .int (-1 : Int32)), (1, .ref ql), (2, .ref (qp + 2)), (3, .int x3), (4, .int x4), (5, .int x5)]) hx hb dX7_together_9 hl (by decide) rfl (fun ls hl => ?_)
  exact t_wp_X7_together_9_2_11 zc hK hM  (lv_sub hl [3, 4, 5, 6, 7, 2, 1, 0] rfl) hw
set_option maxRecDepth 20000 in
theorem c_wp_X7_together_9_2 (l : Launch) {E : zE} {qp ql qs : Nat} {a_heard : Nat → Int32} {a_walked : Nat → Int32} {a_total : Nat → Int32} {a_longest : Nat → Int32} {a_next : Nat → Int32} {a_cover : Nat → Int32} {a_now : Nat → Int32} {a_then : Nat → Int32} {lf_huts : Int32} {lf_singers : Int32} {lf_villages : Int32} {lf_dams : Int32} {lf_echoes : Int32} {lf_deep : Int32} {lf_slide : Int32} {la_heights : Nat → Int32} {la_ladders : Nat → Int32} {la_minutes : Nat → Int32} {la_echoFrom : Nat → Int32} {la_echoTo : Nat → Int32} {la_homes : Nat → Int32} {la_talls : Nat → Int32} {la_known : Nat → Int32} {sf_facts : Int32} {sa_heard : Nat → Int32} {sa_huts : Nat → Int32} {sa_minutes : Nat → Int32} {x3 : Int32} {x4 : Int32} {x5 : Int32} {post : Int32 → Prop} (hw : q_wp_X7_together_9_2_0 a_walked lf_huts x3 x4 x5 post) : Met l yX7_together (Cond.code yX7_together cX7_together 10 (some .int) :: zb) rm_wp_X7_together_9_2 (va_Pc [.ref qp, .ref ql, .ref (qp + 2), .int x3, .int x4, .int x5] (fun U => wpW E qp ql qs a_heard a_walked a_total a_longest a_next a_cover a_now a_then lf_huts lf_singers lf_villages lf_dams lf_echoes lf_deep lf_slide la_heights la_ladders la_minutes la_echoFrom la_echoTo la_homes la_talls la_known sf_facts sa_heard sa_huts sa_minutes U.heap ∧ zK E U)) (vp_Si post) 0 0 (fun _ => False) := by
  refine Met.ofW (cc := cX7_together) (maxL := 10) (ret := (some .int)) (by decide) rfl ?_
  intro p e s m args below meth c s₁ B hml hv
  obtain ⟨rfl, hM, hK⟩ := hv
  have zc := zc_of B hml
  have hl := lv_entry ([.ref qp, .ref ql, .ref (qp + 2), .int x3, .int x4, .int x5]) (n := 10) (Nat.le_of_ble_eq_true rfl)
  rw [lg_entry_eq]
  generalize (lg_sl ([.ref qp, .ref ql, .ref (qp + 2), .int x3, .int x4, .int x5]) ++ List.replicate (10 - (lg_sl ([.ref qp, .ref ql, .ref (qp + 2), .int x3, .int x4, .int x5])).length) Slot.unset).toArray = ls at hl ⊢
  have hl : lv_has ls 10 [(0, .ref qp), (1, .ref ql), (2, .ref (qp + 2)), (3, .int x3), (4, .int x4), (5, .int x5)] := hl
  exact t_wp_X7_together_9_2_0 zc hK hM (lv_sub hl [1, 2, 3, 4, 5] rfl) hw
-- wp_X7_together_9_1
abbrev rm_wp_X7_together_9_1 : Room := { frames := 1, cells := 0, slots := 0, locals := 40 }
def q_wp_X7_together_9_1_59 (P11 : Int32 → Int32 → Int32 → Prop) (a_heard : Nat → Int32) (lf_huts : Int32) (x3 : Int32) (x4 : Int32) (x5 : Int32) (x6 : Int32) (x7 : Int32) (x8 : Int32) (post : Int32 → Prop) : Prop :=
  ∀ v_1 : Int32, v_1 = x8 + (1 : Int32) → (P11 x6 x7 v_1)
def q_wp_X7_together_9_1_11 (a_heard : Nat → Int32) (lf_huts : Int32) (x3 : Int32) (x4 : Int32) (x5 : Int32) (x6 : Int32) (x7 : Int32) (x8 : Int32) (post : Int32 → Prop) : Prop :=
  ∀ P11 : Int32 → Int32 → Int32 → Prop, (∀ (x6 : Int32) (x7 : Int32) (x8 : Int32), ((lf_huts ≤ x8 → ((x6 = (-1 : Int32) → (post x6)) ∧ (¬ x6 = (-1 : Int32) → ((x5 = 0 → (post x6)) ∧ (¬ x5 = 0 → (post x7)))))) ∧ (¬ lf_huts ≤ x8 → (vp_in ((x3 * (9 : Int32)) + x8) 81 ∧ (vp_in ((x4 * (9 : Int32)) + x8) 81 ∧ (∀ v_1 : Int32, v_1 = (if (a_heard (Int32.toNatClampNeg ((x3 * (9 : Int32)) + x8))) < (a_heard (Int32.toNatClampNeg ((x4 * (9 : Int32)) + x8))) then (a_heard (Int32.toNatClampNeg ((x4 * (9 : Int32)) + x8))) else (a_heard (Int32.toNatClampNeg ((x3 * (9 : Int32)) + x8)))) → ((x7 ≤ v_1 → (q_wp_X7_together_9_1_59 P11 a_heard lf_huts x3 x4 x5 x6 x7 x8 post)) ∧ (¬ x7 ≤ v_1 → (q_wp_X7_together_9_1_59 P11 a_heard lf_huts x3 x4 x5 x8 v_1 x8 post)))))))) → P11 x6 x7 x8) → P11 x6 x7 x8
def q_wp_X7_together_9_1_0 (a_heard : Nat → Int32) (lf_huts : Int32) (x3 : Int32) (x4 : Int32) (x5 : Int32) (post : Int32 → Prop) : Prop :=
  q_wp_X7_together_9_1_11 a_heard lf_huts x3 x4 x5 (-1 : Int32) (1000 : Int32) (0 : Int32) post
set_option maxRecDepth 20000 in
theorem t_wp_X7_together_9_1_59 {p : Program} {l : Launch} {e : Env} {s : State} {m : MethodId} {args : Array Value} {below : List Frame} {meth : Method} {c : Code} {E : zE} {qp ql qs : Nat} {a_heard : Nat → Int32} {a_walked : Nat → Int32} {a_total : Nat → Int32} {a_longest : Nat → Int32} {a_next : Nat → Int32} {a_cover : Nat → Int32} {a_now : Nat → Int32} {a_then : Nat → Int32} {lf_huts : Int32} {lf_singers : Int32} {lf_villages : Int32} {lf_dams : Int32} {lf_echoes : Int32} {lf_deep : Int32} {lf_slide : Int32} {la_heights : Nat → Int32} {la_ladders : Nat → Int32} {la_minutes : Nat → Int32} {la_echoFrom : Nat → Int32} {la_echoTo : Nat → Int32} {la_homes : Nat → Int32} {la_talls : Nat → Int32} {la_known : Nat → Int32} {sf_facts : Int32} {sa_heard : Nat → Int32} {sa_huts : Nat → Int32} {sa_minutes : Nat → Int32} {P11 : Int32 → Int32 → Int32 → Prop} {post : Int32 → Prop} {x3 : Int32} {x4 : Int32} {x5 : Int32} {x6 : Int32} {x7 : Int32} {x8 : Int32} {ls : Array Slot}
    (zc : zC p s m args meth c cX7_together 10 RX7 (some .int))
    (hK : zK E s)
    (hM : wpW E qp ql qs a_heard a_walked a_total a_longest a_next a_cover a_now a_then lf_huts lf_singers lf_villages lf_dams lf_echoes lf_deep lf_slide la_heights la_ladders la_minutes la_echoFrom la_echoTo la_homes la_talls la_known sf_facts sa_heard sa_huts sa_minutes s.heap)
    (hP11 : ∀ (x6 : Int32) (x7 : Int32) (x8 : Int32) (ls : Array Slot), P11 x6 x7 x8 → lv_has ls 10 [(1, .ref ql), (2, .ref (qp + 1)), (3, .int x3), (4, .int x4), (5, .int x5), (6, .int x6), (7, .int x7), (8, .int x8)] → W p l e rm_wp_X7_together_9_1 s m args below meth c s.heap [] 0 0 (MQ below (vp_Si post) args s 0 0 (fun _ => False)) (F0 m 11 ls []))
    (hl : lv_has ls 10 [(1, .ref ql), (2, .ref (qp + 1)), (3, .int x3), (4, .int x4), (5, .int x5), (6, .int x6), (7, .int x7), (8, .int x8)])
    (hw : q_wp_X7_together_9_1_59 P11 a_heard lf_huts x3 x4 x5 x6 x7 x8 post) :
    W p l e rm_wp_X7_together_9_1 s m args below meth c s.heap [] 0 0 (MQ below (vp_Si post) args s 0 0 (fun _ => False)) (F0 m 59 ls []) := by
  have hx := zc.1
  have hb := zc.2.1
  obtain ⟨v_1, ev_1⟩ : ∃ y : Int32, y = x8 + (1 : Int32) := ⟨_, rfl⟩
  have hw := hw v_1 ev_1
  refine lv_iinc (v := v_1) (k := 7) (lv' := [(8, .int v_1), (1, .ref ql), (2, .ref (qp + 1)), (3, .int x3), (4, .int x4), (5, .int x5), (6, .int x6), (7, .int x7)]) hx hb dX7_together_59 hl rfl (by rw [ev_1]; rfl) (by decide) rfl (fun ls hl => ?_)
  refine lv_goto (tgt := 11) hx hb dX7_together_62 (by decide) ?_
  exact hP11 _ _ _ _ hw (lv_sub hl [1, 2, 3, 4, 5, 6, 7, 0] rfl)
set_option maxRecDepth 20000 in
theorem t_wp_X7_together_9_1_11 {p : Program} {l : Launch} {e : Env} {s : State} {m : MethodId} {args : Array Value} {below : List Frame} {meth : Method} {c : Code} {E : zE} {qp ql qs : Nat} {a_heard : Nat → Int32} {a_walked : Nat → Int32} {a_total : Nat → Int32} {a_longest : Nat → Int32} {a_next : Nat → Int32} {a_cover : Nat → Int32} {a_now : Nat → Int32} {a_then : Nat → Int32} {lf_huts : Int32} {lf_singers : Int32} {lf_villages : Int32} {lf_dams : Int32} {lf_echoes : Int32} {lf_deep : Int32} {lf_slide : Int32} {la_heights : Nat → Int32} {la_ladders : Nat → Int32} {la_minutes : Nat → Int32} {la_echoFrom : Nat → Int32} {la_echoTo : Nat → Int32} {la_homes : Nat → Int32} {la_talls : Nat → Int32} {la_known : Nat → Int32} {sf_facts : Int32} {sa_heard : Nat → Int32} {sa_huts : Nat → Int32} {sa_minutes : Nat → Int32} {post : Int32 → Prop} {x3 : Int32} {x4 : Int32} {x5 : Int32} {x6 : Int32} {x7 : Int32} {x8 : Int32} {ls : Array Slot}
    (zc : zC p s m args meth c cX7_together 10 RX7 (some .int))
    (hK : zK E s)
    (hM : wpW E qp ql qs a_heard a_walked a_total a_longest a_next a_cover a_now a_then lf_huts lf_singers lf_villages lf_dams lf_echoes lf_deep lf_slide la_heights la_ladders la_minutes la_echoFrom la_echoTo la_homes la_talls la_known sf_facts sa_heard sa_huts sa_minutes s.heap)
    (hl : lv_has ls 10 [(1, .ref ql), (2, .ref (qp + 1)), (3, .int x3), (4, .int x4), (5, .int x5), (6, .int x6), (7, .int x7), (8, .int x8)])
    (hw : q_wp_X7_together_9_1_11 a_heard lf_huts x3 x4 x5 x6 x7 x8 post) :
    W p l e rm_wp_X7_together_9_1 s m args below meth c s.heap [] 0 0 (MQ below (vp_Si post) args s 0 0 (fun _ => False)) (F0 m 11 ls []) := by
  have hx := zc.1
  have hb := zc.2.1
  refine hw (fun x6 x7 x8 => ∀ (ls : Array Slot), lv_has ls 10 [(1, .ref ql), (2, .ref (qp + 1)), (3, .int x3), (4, .int x4), (5, .int x5), (6, .int x6), (7, .int x7), (8, .int x8)] → W p l e rm_wp_X7_together_9_1 s m args below meth c s.heap [] 0 0 (MQ below (vp_Si post) args s 0 0 (fun _ => False)) (F0 m 11 ls [])) ?_ _ hl
  intro x6 x7 x8 hw ls hl
  refine lv_iload hx hb dX7_together_11 (lv_at hl 7 rfl) ?_
  refine lv_aload_n hx hb dX7_together_13 rfl (lv_at hl 0 rfl) ?_
  refine wpg_7_42_9 zc hK hM dX7_together_14 ?_
  refine lv_icmp_ge (tgt := 65) hx hb dX7_together_17 (by decide) (fun hc => ?_) (fun hc => ?_)
  · have hw := hw.1 hc
    refine lv_iload hx hb dX7_together_65 (lv_at hl 5 rfl) ?_
    refine lv_iconst (v := (-1 : Int32)) hx hb dX7_together_67 (by decide) ?_
    refine lv_icmp_eq (tgt := 81) hx hb dX7_together_68 (by decide) (fun hc => ?_) (fun hc => ?_)
    · have hw := hw.1 hc
      refine lv_iload hx hb dX7_together_81 (lv_at hl 5 rfl) ?_
      exact zret_i zc hw dX7_together_83
    · have hw := hw.2 hc
      refine lv_iload hx hb dX7_together_71 (lv_at hl 4 rfl) ?_
      refine lv_if_eq (tgt := 81) hx hb dX7_together_73 (by decide) (fun hc => ?_) (fun hc => ?_)
      · have hw := hw.1 hc
        refine lv_iload hx hb dX7_together_81 (lv_at hl 5 rfl) ?_
        exact zret_i zc hw dX7_together_83
      · have hw := hw.2 hc
        refine lv_iload hx hb dX7_together_76 (lv_at hl 6 rfl) ?_
        refine lv_goto (tgt := 83) hx hb dX7_together_78 (by decide) ?_
        exact zret_i zc hw dX7_together_83
  · have hw := hw.2 hc
    refine lv_aload_n hx hb dX7_together_20 rfl (lv_at hl 1 rfl) ?_
    refine lv_iload_n hx hb dX7_together_21 rfl (lv_at hl 2 rfl) ?_
    refine lv_bipush (v := (9 : Int32)) hx hb dX7_together_22 (by decide) ?_
    refine lv_imul hx hb dX7_together_24 ?_
    refine lv_iload hx hb dX7_together_25 (lv_at hl 7 rfl) ?_
    refine lv_iadd hx hb dX7_together_27 ?_
    refine wpld_1 zc hK hM hw.1 dX7_together_28 ?_
    have hw := hw.2
    refine lv_aload_n hx hb dX7_together_29 rfl (lv_at hl 1 rfl) ?_
    refine lv_iload hx hb dX7_together_30 (lv_at hl 3 rfl) ?_
    refine lv_bipush (v := (9 : Int32)) hx hb dX7_together_32 (by decide) ?_
    refine lv_imul hx hb dX7_together_34 ?_
    refine lv_iload hx hb dX7_together_35 (lv_at hl 7 rfl) ?_
    refine lv_iadd hx hb dX7_together_37 ?_
    refine wpld_1 zc hK hM hw.1 dX7_together_38 ?_
    have hw := hw.2
    refine va_mmax hx hb (zc.2.2.1.trans hl.1.symm) zc.2.2.2.1 (zc.2.2.2.2.1 _ km_7_76) (zc.2.2.2.2.1 _ k_mmaxs) (zc.2.2.2.2.1 _ k_mini) (zc.2.2.2.2.1 _ k_mmaxc) (Nat.le_of_ble_eq_true rfl) (Nat.le_of_ble_eq_true rfl) (Nat.zero_le _) (Nat.zero_le _) dX7_together_39 ?_
    refine lv_topi (fun v_1 ev_1 => ?_)
    have hw := hw v_1 ev_1
    refine lv_istore (lv' := [(9, .int v_1), (1, .ref ql), (2, .ref (qp + 1)), (3, .int x3), (4, .int x4), (5, .int x5), (6, .int x6), (7, .int x7), (8, .int x8)]) hx hb dX7_together_42 hl (by decide) rfl (fun ls hl => ?_)
    refine lv_iload hx hb dX7_together_44 (lv_at hl 0 rfl) ?_
    refine lv_iload hx hb dX7_together_46 (lv_at hl 7 rfl) ?_
    refine lv_icmp_ge (tgt := 59) hx hb dX7_together_48 (by decide) (fun hc => ?_) (fun hc => ?_)
    · have hw := hw.1 hc
      exact t_wp_X7_together_9_1_59 zc hK hM (fun _ _ _ ls h hl => h ls hl) (lv_sub hl [1, 2, 3, 4, 5, 6, 7, 8] rfl) hw
    · have hw := hw.2 hc
      refine lv_iload hx hb dX7_together_51 (lv_at hl 8 rfl) ?_
      refine lv_istore (lv' := [(6, .int x8), (9, .int v_1), (1, .ref ql), (2, .ref (qp + 1)), (3, .int x3), (4, .int x4), (5, .int x5), (7, .int x7), (8, .int x8)]) hx hb dX7_together_53 hl (by decide) rfl (fun ls hl => ?_)
      refine lv_iload hx hb dX7_together_55 (lv_at hl 1 rfl) ?_
      refine lv_istore (lv' := [(7, .int v_1), (6, .int x8), (9, .int v_1), (1, .ref ql), (2, .ref (qp + 1)), (3, .int x3), (4, .int x4), (5, .int x5), (8, .int x8)]) hx hb dX7_together_57 hl (by decide) rfl (fun ls hl => ?_)
      exact t_wp_X7_together_9_1_59 zc hK hM (fun _ _ _ ls h hl => h ls hl) (lv_sub hl [3, 4, 5, 6, 7, 1, 0, 8] rfl) hw
set_option maxRecDepth 20000 in
theorem t_wp_X7_together_9_1_0 {p : Program} {l : Launch} {e : Env} {s : State} {m : MethodId} {args : Array Value} {below : List Frame} {meth : Method} {c : Code} {E : zE} {qp ql qs : Nat} {a_heard : Nat → Int32} {a_walked : Nat → Int32} {a_total : Nat → Int32} {a_longest : Nat → Int32} {a_next : Nat → Int32} {a_cover : Nat → Int32} {a_now : Nat → Int32} {a_then : Nat → Int32} {lf_huts : Int32} {lf_singers : Int32} {lf_villages : Int32} {lf_dams : Int32} {lf_echoes : Int32} {lf_deep : Int32} {lf_slide : Int32} {la_heights : Nat → Int32} {la_ladders : Nat → Int32} {la_minutes : Nat → Int32} {la_echoFrom : Nat → Int32} {la_echoTo : Nat → Int32} {la_homes : Nat → Int32} {la_talls : Nat → Int32} {la_known : Nat → Int32} {sf_facts : Int32} {sa_heard : Nat → Int32} {sa_huts : Nat → Int32} {sa_minutes : Nat → Int32} {post : Int32 → Prop} {x3 : Int32} {x4 : Int32} {x5 : Int32} {ls : Array Slot}
    (zc : zC p s m args meth c cX7_together 10 RX7 (some .int))
    (hK : zK E s)
    (hM : wpW E qp ql qs a_heard a_walked a_total a_longest a_next a_cover a_now a_then lf_huts lf_singers lf_villages lf_dams lf_echoes lf_deep lf_slide la_heights la_ladders la_minutes la_echoFrom la_echoTo la_homes la_talls la_known sf_facts sa_heard sa_huts sa_minutes s.heap)
    (hl : lv_has ls 10 [(1, .ref ql), (2, .ref (qp + 1)), (3, .int x3), (4, .int x4), (5, .int x5)])
    (hw : q_wp_X7_together_9_1_0 a_heard lf_huts x3 x4 x5 post) :
    W p l e rm_wp_X7_together_9_1 s m args below meth c s.heap [] 0 0 (MQ below (vp_Si post) args s 0 0 (fun _ => False)) (F0 m 0 ls []) := by
  have hx := zc.1
  have hb := zc.2.1
  refine lv_iconst (v := (-1 : Int32)) hx hb dX7_together_0 (by decide) ?_
  refine lv_istore (lv' := [(6, .int (-1 : Int32)), (1, .ref ql), (2, .ref (qp + 1)), (3, .int x3), (4, .int x4), (5, .int x5)]) hx hb dX7_together_1 hl (by decide) rfl (fun ls hl => ?_)
  refine lv_sipush (v := (1000 : Int32)) hx hb dX7_together_3 (by decide) ?_
  refine lv_istore (lv' := [(7, .int (1000 : Int32)), (6, .int (-1 : Int32)), (1, .ref ql), (2, .ref (qp + 1)), (3, .int x3), (4, .int x4), (5, .int x5)]) hx hb dX7_together_6 hl (by decide) rfl (fun ls hl => ?_)
  refine lv_iconst (v := (0 : Int32)) hx hb dX7_together_8 (by decide) ?_
  refine lv_istore (lv' := [(8, .int (0 : Int32)), (7, .int (1000 : Int32)), (6, .int (-1 : Int32)), (1, .ref ql), (2, .ref (qp + 1)), (3, .int x3), (4, .int x4), (5, .int x5)]) hx hb dX7_together_9 hl (by decide) rfl (fun ls hl => ?_)
  exact t_wp_X7_together_9_1_11 zc hK hM  (lv_sub hl [3, 4, 5, 6, 7, 2, 1, 0] rfl) hw
set_option maxRecDepth 20000 in
theorem c_wp_X7_together_9_1 (l : Launch) {E : zE} {qp ql qs : Nat} {a_heard : Nat → Int32} {a_walked : Nat → Int32} {a_total : Nat → Int32} {a_longest : Nat → Int32} {a_next : Nat → Int32} {a_cover : Nat → Int32} {a_now : Nat → Int32} {a_then : Nat → Int32} {lf_huts : Int32} {lf_singers : Int32} {lf_villages : Int32} {lf_dams : Int32} {lf_echoes : Int32} {lf_deep : Int32} {lf_slide : Int32} {la_heights : Nat → Int32} {la_ladders : Nat → Int32} {la_minutes : Nat → Int32} {la_echoFrom : Nat → Int32} {la_echoTo : Nat → Int32} {la_homes : Nat → Int32} {la_talls : Nat → Int32} {la_known : Nat → Int32} {sf_facts : Int32} {sa_heard : Nat → Int32} {sa_huts : Nat → Int32} {sa_minutes : Nat → Int32} {x3 : Int32} {x4 : Int32} {x5 : Int32} {post : Int32 → Prop} (hw : q_wp_X7_together_9_1_0 a_heard lf_huts x3 x4 x5 post) : Met l yX7_together (Cond.code yX7_together cX7_together 10 (some .int) :: zb) rm_wp_X7_together_9_1 (va_Pc [.ref qp, .ref ql, .ref (qp + 1), .int x3, .int x4, .int x5] (fun U => wpW E qp ql qs a_heard a_walked a_total a_longest a_next a_cover a_now a_then lf_huts lf_singers lf_villages lf_dams lf_echoes lf_deep lf_slide la_heights la_ladders la_minutes la_echoFrom la_echoTo la_homes la_talls la_known sf_facts sa_heard sa_huts sa_minutes U.heap ∧ zK E U)) (vp_Si post) 0 0 (fun _ => False) := by
  refine Met.ofW (cc := cX7_together) (maxL := 10) (ret := (some .int)) (by decide) rfl ?_
  intro p e s m args below meth c s₁ B hml hv
  obtain ⟨rfl, hM, hK⟩ := hv
  have zc := zc_of B hml
  have hl := lv_entry ([.ref qp, .ref ql, .ref (qp + 1), .int x3, .int x4, .int x5]) (n := 10) (Nat.le_of_ble_eq_true rfl)
  rw [lg_entry_eq]
  generalize (lg_sl ([.ref qp, .ref ql, .ref (qp + 1), .int x3, .int x4, .int x5]) ++ List.replicate (10 - (lg_sl ([.ref qp, .ref ql, .ref (qp + 1), .int x3, .int x4, .int x5])).length) Slot.unset).toArray = ls at hl ⊢
  have hl : lv_has ls 10 [(0, .ref qp), (1, .ref ql), (2, .ref (qp + 1)), (3, .int x3), (4, .int x4), (5, .int x5)] := hl
  exact t_wp_X7_together_9_1_0 zc hK hM (lv_sub hl [1, 2, 3, 4, 5] rfl) hw
