section
-- wp_X7_leastFall_9
abbrev rm_wp_X7_leastFall_9 : Room := { frames := 2, cells := 0, slots := 0, locals := 43 }
def q_wp_X7_leastFall_9_55 (P7 : Int32 → Int32 → Prop) (a_now : Nat → Int32) (lf_huts : Int32) (lf_dams : Int32) (la_heights : Nat → Int32) (la_minutes : Nat → Int32) (x2 : Int32) (x3 : Int32) (x4 : Int32) (post : Int32 → Prop) : Prop :=
  ∀ v_1 : Int32, v_1 = x4 + (1 : Int32) → (P7 x3 v_1)
def q_wp_X7_leastFall_9_7 (a_now : Nat → Int32) (lf_huts : Int32) (lf_dams : Int32) (la_heights : Nat → Int32) (la_minutes : Nat → Int32) (x2 : Int32) (x3 : Int32) (x4 : Int32) (post : Int32 → Prop) : Prop :=
  ∀ P7 : Int32 → Int32 → Prop, (∀ (x3 : Int32) (x4 : Int32), ((lf_huts ≤ x4 → (post x3)) ∧ (¬ lf_huts ≤ x4 → (q_wl_X2_leads_0 lf_dams la_heights la_minutes x4 x2 (fun r_1 => (r_1 = 0 → (q_wp_X7_leastFall_9_55 P7 a_now lf_huts lf_dams la_heights la_minutes x2 x3 x4 post)) ∧ (¬ r_1 = 0 → (vp_in x4 9 ∧ (vp_in x4 9 ∧ (vp_in x2 9 ∧ (∀ v_1 : Int32, v_1 = (if (if (a_now (Int32.toNatClampNeg x4)) < ((la_heights (Int32.toNatClampNeg x4)) - (la_heights (Int32.toNatClampNeg x2))) then ((la_heights (Int32.toNatClampNeg x4)) - (la_heights (Int32.toNatClampNeg x2))) else (a_now (Int32.toNatClampNeg x4))) < x3 then (if (a_now (Int32.toNatClampNeg x4)) < ((la_heights (Int32.toNatClampNeg x4)) - (la_heights (Int32.toNatClampNeg x2))) then ((la_heights (Int32.toNatClampNeg x4)) - (la_heights (Int32.toNatClampNeg x2))) else (a_now (Int32.toNatClampNeg x4))) else x3) → (q_wp_X7_leastFall_9_55 P7 a_now lf_huts lf_dams la_heights la_minutes x2 v_1 x4 post)))))))))) → P7 x3 x4) → P7 x3 x4
def q_wp_X7_leastFall_9_0 (a_now : Nat → Int32) (lf_huts : Int32) (lf_dams : Int32) (la_heights : Nat → Int32) (la_minutes : Nat → Int32) (x2 : Int32) (post : Int32 → Prop) : Prop :=
  q_wp_X7_leastFall_9_7 a_now lf_huts lf_dams la_heights la_minutes x2 (1000 : Int32) (0 : Int32) post
set_option maxRecDepth 20000 in
theorem t_wp_X7_leastFall_9_55 {p : Program} {l : Launch} {e : Env} {s : State} {m : MethodId} {args : Array Value} {below : List Frame} {meth : Method} {c : Code} {E : zE} {qp ql qs : Nat} {a_heard : Nat → Int32} {a_walked : Nat → Int32} {a_total : Nat → Int32} {a_longest : Nat → Int32} {a_next : Nat → Int32} {a_cover : Nat → Int32} {a_now : Nat → Int32} {a_then : Nat → Int32} {lf_huts : Int32} {lf_singers : Int32} {lf_villages : Int32} {lf_dams : Int32} {lf_echoes : Int32} {lf_deep : Int32} {lf_slide : Int32} {la_heights : Nat → Int32} {la_ladders : Nat → Int32} {la_minutes : Nat → Int32} {la_echoFrom : Nat → Int32} {la_echoTo : Nat → Int32} {la_homes : Nat → Int32} {la_talls : Nat → Int32} {la_known : Nat → Int32} {sf_facts : Int32} {sa_heard : Nat → Int32} {sa_huts : Nat → Int32} {sa_minutes : Nat → Int32} {P7 : Int32 → Int32 → Prop} {post : Int32 → Prop} {x2 : Int32} {x3 : Int32} {x4 : Int32} {ls : Array Slot}
    (zc : zC p s m args meth c cX7_leastFall 5 RX7 (some .int))
    (hK : zK E s)
    (hM : wpW E qp ql qs a_heard a_walked a_total a_longest a_next a_cover a_now a_then lf_huts lf_singers lf_villages lf_dams lf_echoes lf_deep lf_slide la_heights la_ladders la_minutes la_echoFrom la_echoTo la_homes la_talls la_known sf_facts sa_heard sa_huts sa_minutes s.heap)
    (hP7 : ∀ (x3 : Int32) (x4 : Int32) (ls : Array Slot), P7 x3 x4 → lv_has ls 5 [(0, .ref qp), (1, .ref ql), (2, .int x2), (3, .int x3), (4, .int x4)] → W p l e rm_wp_X7_leastFall_9 s m args below meth c s.heap [] 0 0 (MQ below (vp_Si post) args s 0 0 (fun _ => False)) (F0 m 7 ls []))
    (hl : lv_has ls 5 [(0, .ref qp), (1, .ref ql), (2, .int x2), (3, .int x3), (4, .int x4)])
    (hw : q_wp_X7_leastFall_9_55 P7 a_now lf_huts lf_dams la_heights la_minutes x2 x3 x4 post) :
    W p l e rm_wp_X7_leastFall_9 s m args below meth c s.heap [] 0 0 (MQ below (vp_Si post) args s 0 0 (fun _ => False)) (F0 m 55 ls []) := by
  have hx := zc.1
  have hb := zc.2.1
  obtain ⟨v_1, ev_1⟩ : ∃ y : Int32, y = x4 + (1 : Int32) := ⟨_, rfl⟩
  have hw := hw v_1 ev_1
  refine lv_iinc (v := v_1) (k := 4) (lv' := [(4, .int v_1), (0, .ref qp), (1, .ref ql), (2, .int x2), (3, .int x3)]) hx hb dX7_leastFall_55 hl rfl (by rw [ev_1]; rfl) (by decide) rfl (fun ls hl => ?_)
  refine lv_goto (tgt := 7) hx hb dX7_leastFall_58 (by decide) ?_
  exact hP7 _ _ _ hw (lv_sub hl [1, 2, 3, 4, 0] rfl)
set_option maxRecDepth 20000 in
theorem t_wp_X7_leastFall_9_7 {p : Program} {l : Launch} {e : Env} {s : State} {m : MethodId} {args : Array Value} {below : List Frame} {meth : Method} {c : Code} {E : zE} {qp ql qs : Nat} {a_heard : Nat → Int32} {a_walked : Nat → Int32} {a_total : Nat → Int32} {a_longest : Nat → Int32} {a_next : Nat → Int32} {a_cover : Nat → Int32} {a_now : Nat → Int32} {a_then : Nat → Int32} {lf_huts : Int32} {lf_singers : Int32} {lf_villages : Int32} {lf_dams : Int32} {lf_echoes : Int32} {lf_deep : Int32} {lf_slide : Int32} {la_heights : Nat → Int32} {la_ladders : Nat → Int32} {la_minutes : Nat → Int32} {la_echoFrom : Nat → Int32} {la_echoTo : Nat → Int32} {la_homes : Nat → Int32} {la_talls : Nat → Int32} {la_known : Nat → Int32} {sf_facts : Int32} {sa_heard : Nat → Int32} {sa_huts : Nat → Int32} {sa_minutes : Nat → Int32} {post : Int32 → Prop} {x2 : Int32} {x3 : Int32} {x4 : Int32} {ls : Array Slot}
    (zc : zC p s m args meth c cX7_leastFall 5 RX7 (some .int))
    (hK : zK E s)
    (hM : wpW E qp ql qs a_heard a_walked a_total a_longest a_next a_cover a_now a_then lf_huts lf_singers lf_villages lf_dams lf_echoes lf_deep lf_slide la_heights la_ladders la_minutes la_echoFrom la_echoTo la_homes la_talls la_known sf_facts sa_heard sa_huts sa_minutes s.heap)
    (hl : lv_has ls 5 [(0, .ref qp), (1, .ref ql), (2, .int x2), (3, .int x3), (4, .int x4)])
    (hw : q_wp_X7_leastFall_9_7 a_now lf_huts lf_dams la_heights la_minutes x2 x3 x4 post) :
    W p l e rm_wp_X7_leastFall_9 s m args below meth c s.heap [] 0 0 (MQ below (vp_Si post) args s 0 0 (fun _ => False)) (F0 m 7 ls []) := by
  have hx := zc.1
  have hb := zc.2.1
  refine hw (fun x3 x4 => ∀ (ls : Array Slot), lv_has ls 5 [(0, .ref qp), (1, .ref ql), (2, .int x2), (3, .int x3), (4, .int x4)] → W p l e rm_wp_X7_leastFall_9 s m args below meth c s.heap [] 0 0 (MQ below (vp_Si post) args s 0 0 (fun _ => False)) (F0 m 7 ls [])) ?_ _ hl
  intro x3 x4 hw ls hl
  refine lv_iload hx hb dX7_leastFall_7 (lv_at hl 4 rfl) ?_
  refine lv_aload_n hx hb dX7_leastFall_9 rfl (lv_at hl 1 rfl) ?_
  refine wpg_7_42_9 zc hK hM dX7_leastFall_10 ?_
  refine lv_icmp_ge (tgt := 61) hx hb dX7_leastFall_13 (by decide) (fun hc => ?_) (fun hc => ?_)
  · have hw := hw.1 hc
    refine lv_iload_n hx hb dX7_leastFall_61 rfl (lv_at hl 3 rfl) ?_
    exact zret_i zc hw dX7_leastFall_62
  · have hw := hw.2 hc
    refine lv_aload_n hx hb dX7_leastFall_16 rfl (lv_at hl 1 rfl) ?_
    refine lv_iload hx hb dX7_leastFall_17 (lv_at hl 4 rfl) ?_
    refine lv_iload_n hx hb dX7_leastFall_19 rfl (lv_at hl 2 rfl) ?_
    refine zV_i [.int x4, .int x2] [] zc ky_X2_leads kz_X2_leads km_7_48 (c_wl_X2_leads l hw) (wlPreV0 hK (pj_wp_wl_9 hM)) rfl rfl hl.1 (Nat.le_of_ble_eq_true rfl) ⟨rfl, rfl⟩ ⟨Nat.le_of_ble_eq_true rfl, Nat.le_of_ble_eq_true rfl⟩ ⟨(Nat.zero_le _), (Nat.zero_le _)⟩ dX7_leastFall_20 (fun r_1 hw => ?_)
    refine lv_if_eq (tgt := 55) hx hb dX7_leastFall_23 (by decide) (fun hc => ?_) (fun hc => ?_)
    · have hw := hw.1 hc
      exact t_wp_X7_leastFall_9_55 zc hK hM (fun _ _ ls h hl => h ls hl) (lv_sub hl [0, 1, 2, 3, 4] rfl) hw
    · have hw := hw.2 hc
      refine lv_iload_n hx hb dX7_leastFall_26 rfl (lv_at hl 3 rfl) ?_
      refine lv_aload_n hx hb dX7_leastFall_27 rfl (lv_at hl 0 rfl) ?_
      refine wpg_7_30_0 zc hK hM dX7_leastFall_28 ?_
      refine lv_iload hx hb dX7_leastFall_31 (lv_at hl 4 rfl) ?_
      refine wpld_7 zc hK hM hw.1 dX7_leastFall_33 ?_
      have hw := hw.2
      refine lv_aload_n hx hb dX7_leastFall_34 rfl (lv_at hl 1 rfl) ?_
      refine wpg_7_120_9 zc hK hM dX7_leastFall_35 ?_
      refine lv_iload hx hb dX7_leastFall_38 (lv_at hl 4 rfl) ?_
      refine wpld_10 zc hK hM hw.1 dX7_leastFall_40 ?_
      have hw := hw.2
      refine lv_aload_n hx hb dX7_leastFall_41 rfl (lv_at hl 1 rfl) ?_
      refine wpg_7_120_9 zc hK hM dX7_leastFall_42 ?_
      refine lv_iload_n hx hb dX7_leastFall_45 rfl (lv_at hl 2 rfl) ?_
      refine wpld_10 zc hK hM hw.1 dX7_leastFall_46 ?_
      have hw := hw.2
      refine lv_isub hx hb dX7_leastFall_47 ?_
      refine va_mmax hx hb (zc.2.2.1.trans hl.1.symm) zc.2.2.2.1 (zc.2.2.2.2.1 _ km_7_76) (zc.2.2.2.2.1 _ k_mmaxs) (zc.2.2.2.2.1 _ k_mini) (zc.2.2.2.2.1 _ k_mmaxc) (Nat.le_of_ble_eq_true rfl) (Nat.le_of_ble_eq_true rfl) (Nat.zero_le _) (Nat.zero_le _) dX7_leastFall_48 ?_
      refine va_mmin hx hb (zc.2.2.1.trans hl.1.symm) zc.2.2.2.1 (zc.2.2.2.2.1 _ km_7_117) (zc.2.2.2.2.1 _ k_mmins) (zc.2.2.2.2.1 _ k_mini) (zc.2.2.2.2.1 _ k_mminc) (Nat.le_of_ble_eq_true rfl) (Nat.le_of_ble_eq_true rfl) (Nat.zero_le _) (Nat.zero_le _) dX7_leastFall_51 ?_
      refine lv_topi (fun v_1 ev_1 => ?_)
      have hw := hw v_1 ev_1
      refine lv_istore_n (lv' := [(3, .int v_1), (0, .ref qp), (1, .ref ql), (2, .int x2), (4, .int x4)]) hx hb dX7_leastFall_54 rfl hl (by decide) rfl (fun ls hl => ?_)
      exact t_wp_X7_leastFall_9_55 zc hK hM (fun _ _ ls h hl => h ls hl) (lv_sub hl [1, 2, 3, 0, 4] rfl) hw
set_option maxRecDepth 20000 in
theorem t_wp_X7_leastFall_9_0 {p : Program} {l : Launch} {e : Env} {s : State} {m : MethodId} {args : Array Value} {below : List Frame} {meth : Method} {c : Code} {E : zE} {qp ql qs : Nat} {a_heard : Nat → Int32} {a_walked : Nat → Int32} {a_total : Nat → Int32} {a_longest : Nat → Int32} {a_next : Nat → Int32} {a_cover : Nat → Int32} {a_now : Nat → Int32} {a_then : Nat → Int32} {lf_huts : Int32} {lf_singers : Int32} {lf_villages : Int32} {lf_dams : Int32} {lf_echoes : Int32} {lf_deep : Int32} {lf_slide : Int32} {la_heights : Nat → Int32} {la_ladders : Nat → Int32} {la_minutes : Nat → Int32} {la_echoFrom : Nat → Int32} {la_echoTo : Nat → Int32} {la_homes : Nat → Int32} {la_talls : Nat → Int32} {la_known : Nat → Int32} {sf_facts : Int32} {sa_heard : Nat → Int32} {sa_huts : Nat → Int32} {sa_minutes : Nat → Int32} {post : Int32 → Prop} {x2 : Int32} {ls : Array Slot}
    (zc : zC p s m args meth c cX7_leastFall 5 RX7 (some .int))
    (hK : zK E s)
    (hM : wpW E qp ql qs a_heard a_walked a_total a_longest a_next a_cover a_now a_then lf_huts lf_singers lf_villages lf_dams lf_echoes lf_deep lf_slide la_heights la_ladders la_minutes la_echoFrom la_echoTo la_homes la_talls la_known sf_facts sa_heard sa_huts sa_minutes s.heap)
    (hl : lv_has ls 5 [(0, .ref qp), (1, .ref ql), (2, .int x2)])
    (hw : q_wp_X7_leastFall_9_0 a_now lf_huts lf_dams la_heights la_minutes x2 post) :
    W p l e rm_wp_X7_leastFall_9 s m args below meth c s.heap [] 0 0 (MQ below (vp_Si post) args s 0 0 (fun _ => False)) (F0 m 0 ls []) := by
  have hx := zc.1
  have hb := zc.2.1
  refine lv_sipush (v := (1000 : Int32)) hx hb dX7_leastFall_0 (by decide) ?_
  refine lv_istore_n (lv' := [(3, .int (1000 : Int32)), (0, .ref qp), (1, .ref ql), (2, .int x2)]) hx hb dX7_leastFall_3 rfl hl (by decide) rfl (fun ls hl => ?_)
  refine lv_iconst (v := (0 : Int32)) hx hb dX7_leastFall_4 (by decide) ?_
  refine lv_istore (lv' := [(4, .int (0 : Int32)), (3, .int (1000 : Int32)), (0, .ref qp), (1, .ref ql), (2, .int x2)]) hx hb dX7_leastFall_5 hl (by decide) rfl (fun ls hl => ?_)
  exact t_wp_X7_leastFall_9_7 zc hK hM  (lv_sub hl [2, 3, 4, 1, 0] rfl) hw
set_option maxRecDepth 20000 in
theorem c_wp_X7_leastFall_9 (l : Launch) {E : zE} {qp ql qs : Nat} {a_heard : Nat → Int32} {a_walked : Nat → Int32} {a_total : Nat → Int32} {a_longest : Nat → Int32} {a_next : Nat → Int32} {a_cover : Nat → Int32} {a_now : Nat → Int32} {a_then : Nat → Int32} {lf_huts : Int32} {lf_singers : Int32} {lf_villages : Int32} {lf_dams : Int32} {lf_echoes : Int32} {lf_deep : Int32} {lf_slide : Int32} {la_heights : Nat → Int32} {la_ladders : Nat → Int32} {la_minutes : Nat → Int32} {la_echoFrom : Nat → Int32} {la_echoTo : Nat → Int32} {la_homes : Nat → Int32} {la_talls : Nat → Int32} {la_known : Nat → Int32} {sf_facts : Int32} {sa_heard : Nat → Int32} {sa_huts : Nat → Int32} {sa_minutes : Nat → Int32} {x2 : Int32} {post : Int32 → Prop} (hw : q_wp_X7_leastFall_9_0 a_now lf_huts lf_dams la_heights la_minutes x2 post) : Met l yX7_leastFall (Cond.code yX7_leastFall cX7_leastFall 5 (some .int) :: zb) rm_wp_X7_leastFall_9 (va_Pc [.ref qp, .ref ql, .int x2] (fun U => wpW E qp ql qs a_heard a_walked a_total a_longest a_next a_cover a_now a_then lf_huts lf_singers lf_villages lf_dams lf_echoes lf_deep lf_slide la_heights la_ladders la_minutes la_echoFrom la_echoTo la_homes la_talls la_known sf_facts sa_heard sa_huts sa_minutes U.heap ∧ zK E U)) (vp_Si post) 0 0 (fun _ => False) := by
  refine Met.ofW (cc := cX7_leastFall) (maxL := 5) (ret := (some .int)) (by decide) rfl ?_
  intro p e s m args below meth c s₁ B hml hv
  obtain ⟨rfl, hM, hK⟩ := hv
  have zc := zc_of B hml
  have hl := lv_entry ([.ref qp, .ref ql, .int x2]) (n := 5) (Nat.le_of_ble_eq_true rfl)
  rw [lg_entry_eq]
  generalize (lg_sl ([.ref qp, .ref ql, .int x2]) ++ List.replicate (5 - (lg_sl ([.ref qp, .ref ql, .int x2])).length) Slot.unset).toArray = ls at hl ⊢
  have hl : lv_has ls 5 [(0, .ref qp), (1, .ref ql), (2, .int x2)] := hl
  exact t_wp_X7_leastFall_9_0 zc hK hM (lv_sub hl [0, 1, 2] rfl) hw
-- wp_X7_steepest_9
abbrev rm_wp_X7_steepest_9 : Room := { frames := 3, cells := 0, slots := 0, locals := 67 }
def q_wp_X7_steepest_9_32 (P20 : Int32 → (Nat → Int32) → Prop) (a_now : Nat → Int32) (lf_huts : Int32) (lf_dams : Int32) (la_heights : Nat → Int32) (la_minutes : Nat → Int32) (x3 : Int32) (x4 : Int32) (x5 : Int32) (post : Int32 → (Nat → Int32) → Prop) : Prop :=
  ∀ P32 : Int32 → (Nat → Int32) → Prop, (∀ (x5 : Int32) (a_now : Nat → Int32), ((lf_huts ≤ x5 → (∀ v_1 : Int32, v_1 = x4 + (1 : Int32) → (P20 v_1 a_now))) ∧ (¬ lf_huts ≤ x5 → (vp_in x5 9 ∧ (q_wp_X7_leastFall_9_0 a_now lf_huts lf_dams la_heights la_minutes x5 (fun r_1 => ∀ v_2 : Int32, v_2 = (if r_1 < (a_now (Int32.toNatClampNeg x5)) then r_1 else (a_now (Int32.toNatClampNeg x5))) → (vp_in x5 9 ∧ (∀ a_now_1 : Nat → Int32, a_now_1 = upd a_now (Int32.toNatClampNeg x5) v_2 → (∀ v_3 : Int32, v_3 = x5 + (1 : Int32) → (P32 v_3 a_now_1))))))))) → P32 x5 a_now) → P32 x5 a_now
def q_wp_X7_steepest_9_20 (a_now : Nat → Int32) (lf_huts : Int32) (lf_dams : Int32) (la_heights : Nat → Int32) (la_minutes : Nat → Int32) (x3 : Int32) (x4 : Int32) (post : Int32 → (Nat → Int32) → Prop) : Prop :=
  ∀ P20 : Int32 → (Nat → Int32) → Prop, (∀ (x4 : Int32) (a_now : Nat → Int32), ((lf_huts ≤ x4 → (vp_in x3 9 ∧ (post (a_now (Int32.toNatClampNeg x3)) a_now))) ∧ (¬ lf_huts ≤ x4 → (q_wp_X7_steepest_9_32 P20 a_now lf_huts lf_dams la_heights la_minutes x3 x4 (0 : Int32) post))) → P20 x4 a_now) → P20 x4 a_now
def q_wp_X7_steepest_9_0 (a_now : Nat → Int32) (lf_huts : Int32) (lf_dams : Int32) (la_heights : Nat → Int32) (la_minutes : Nat → Int32) (x2 : Int32) (x3 : Int32) (post : Int32 → (Nat → Int32) → Prop) : Prop :=
  q_wp_J7_fill_53178_7_0 a_now (1000 : Int32) (fun a_now_1 => vp_in x2 9 ∧ (∀ a_now_2 : Nat → Int32, a_now_2 = upd a_now_1 (Int32.toNatClampNeg x2) (0 : Int32) → (q_wp_X7_steepest_9_20 a_now_2 lf_huts lf_dams la_heights la_minutes x3 (1 : Int32) post)))
set_option maxRecDepth 20000 in
theorem t_wp_X7_steepest_9_32 {p : Program} {l : Launch} {e : Env} {s : State} {m : MethodId} {args : Array Value} {below : List Frame} {meth : Method} {c : Code} {E : zE} {qp ql qs : Nat} {a_heard : Nat → Int32} {a_walked : Nat → Int32} {a_total : Nat → Int32} {a_longest : Nat → Int32} {a_next : Nat → Int32} {a_cover : Nat → Int32} {a_now : Nat → Int32} {a_then : Nat → Int32} {lf_huts : Int32} {lf_singers : Int32} {lf_villages : Int32} {lf_dams : Int32} {lf_echoes : Int32} {lf_deep : Int32} {lf_slide : Int32} {la_heights : Nat → Int32} {la_ladders : Nat → Int32} {la_minutes : Nat → Int32} {la_echoFrom : Nat → Int32} {la_echoTo : Nat → Int32} {la_homes : Nat → Int32} {la_talls : Nat → Int32} {la_known : Nat → Int32} {sf_facts : Int32} {sa_heard : Nat → Int32} {sa_huts : Nat → Int32} {sa_minutes : Nat → Int32} {P20 : Int32 → (Nat → Int32) → Prop} {post : Int32 → (Nat → Int32) → Prop} {x3 : Int32} {x4 : Int32} {x5 : Int32} {ls : Array Slot} {H : Heap} {locs : List Loc}
    (zc : zC p s m args meth c cX7_steepest 6 RX7 (some .int))
    (hK : zK E s)
    (hM : wpW E qp ql qs a_heard a_walked a_total a_longest a_next a_cover a_now a_then lf_huts lf_singers lf_villages lf_dams lf_echoes lf_deep lf_slide la_heights la_ladders la_minutes la_echoFrom la_echoTo la_homes la_talls la_known sf_facts sa_heard sa_huts sa_minutes H)
    (hS : va_S (wpA qp ql qs) s.heap H locs)
    (hP20 : ∀ (x4 : Int32) (a_now : Nat → Int32) (H : Heap) (locs : List Loc) (ls : Array Slot), P20 x4 a_now → lv_has ls 6 [(0, .ref qp), (1, .ref ql), (3, .int x3), (4, .int x4)] → wpW E qp ql qs a_heard a_walked a_total a_longest a_next a_cover a_now a_then lf_huts lf_singers lf_villages lf_dams lf_echoes lf_deep lf_slide la_heights la_ladders la_minutes la_echoFrom la_echoTo la_homes la_talls la_known sf_facts sa_heard sa_huts sa_minutes H → va_S (wpA qp ql qs) s.heap H locs → W p l e rm_wp_X7_steepest_9 s m args below meth c H locs 0 0 (MQ below (zQi (S := (Nat → Int32)) (fun r u => post r u) (fun u H => wpW E qp ql qs a_heard a_walked a_total a_longest a_next a_cover u a_then lf_huts lf_singers lf_villages lf_dams lf_echoes lf_deep lf_slide la_heights la_ladders la_minutes la_echoFrom la_echoTo la_homes la_talls la_known sf_facts sa_heard sa_huts sa_minutes H) (wpA qp ql qs)) args s 0 0 (wpA qp ql qs)) (F0 m 20 ls []))
    (hl : lv_has ls 6 [(0, .ref qp), (1, .ref ql), (3, .int x3), (4, .int x4), (5, .int x5)])
    (hw : q_wp_X7_steepest_9_32 P20 a_now lf_huts lf_dams la_heights la_minutes x3 x4 x5 post) :
    W p l e rm_wp_X7_steepest_9 s m args below meth c H locs 0 0 (MQ below (zQi (S := (Nat → Int32)) (fun r u => post r u) (fun u H => wpW E qp ql qs a_heard a_walked a_total a_longest a_next a_cover u a_then lf_huts lf_singers lf_villages lf_dams lf_echoes lf_deep lf_slide la_heights la_ladders la_minutes la_echoFrom la_echoTo la_homes la_talls la_known sf_facts sa_heard sa_huts sa_minutes H) (wpA qp ql qs)) args s 0 0 (wpA qp ql qs)) (F0 m 32 ls []) := by
  have hx := zc.1
  have hb := zc.2.1
  refine hw (fun x5 a_now => ∀ (H : Heap) (locs : List Loc) (ls : Array Slot), lv_has ls 6 [(0, .ref qp), (1, .ref ql), (3, .int x3), (4, .int x4), (5, .int x5)] → wpW E qp ql qs a_heard a_walked a_total a_longest a_next a_cover a_now a_then lf_huts lf_singers lf_villages lf_dams lf_echoes lf_deep lf_slide la_heights la_ladders la_minutes la_echoFrom la_echoTo la_homes la_talls la_known sf_facts sa_heard sa_huts sa_minutes H → va_S (wpA qp ql qs) s.heap H locs → W p l e rm_wp_X7_steepest_9 s m args below meth c H locs 0 0 (MQ below (zQi (S := (Nat → Int32)) (fun r u => post r u) (fun u H => wpW E qp ql qs a_heard a_walked a_total a_longest a_next a_cover u a_then lf_huts lf_singers lf_villages lf_dams lf_echoes lf_deep lf_slide la_heights la_ladders la_minutes la_echoFrom la_echoTo la_homes la_talls la_known sf_facts sa_heard sa_huts sa_minutes H) (wpA qp ql qs)) args s 0 0 (wpA qp ql qs)) (F0 m 32 ls [])) ?_ _ _ _ hl hM hS
  intro x5 a_now hw H locs ls hl hM hS
  refine lv_iload hx hb dX7_steepest_32 (lv_at hl 4 rfl) ?_
  refine lv_aload_n hx hb dX7_steepest_34 rfl (lv_at hl 1 rfl) ?_
  refine wpg_7_42_9 zc hK hM dX7_steepest_35 ?_
  refine lv_icmp_ge (tgt := 71) hx hb dX7_steepest_38 (by decide) (fun hc => ?_) (fun hc => ?_)
  · have hw := hw.1 hc
    obtain ⟨v_1, ev_1⟩ : ∃ y : Int32, y = x4 + (1 : Int32) := ⟨_, rfl⟩
    have hw := hw v_1 ev_1
    refine lv_iinc (v := v_1) (k := 3) (lv' := [(4, .int v_1), (0, .ref qp), (1, .ref ql), (3, .int x3), (5, .int x5)]) hx hb dX7_steepest_71 hl rfl (by rw [ev_1]; rfl) (by decide) rfl (fun ls hl => ?_)
    refine lv_goto (tgt := 20) hx hb dX7_steepest_74 (by decide) ?_
    exact hP20 _ _ _ _ _ hw (lv_sub hl [1, 2, 3, 0] rfl) hM hS
  · have hw := hw.2 hc
    refine lv_aload_n hx hb dX7_steepest_41 rfl (lv_at hl 0 rfl) ?_
    refine wpg_7_30_0 zc hK hM dX7_steepest_42 ?_
    refine lv_iload hx hb dX7_steepest_45 (lv_at hl 4 rfl) ?_
    refine lv_aload_n hx hb dX7_steepest_47 rfl (lv_at hl 0 rfl) ?_
    refine wpg_7_30_0 zc hK hM dX7_steepest_48 ?_
    refine lv_iload hx hb dX7_steepest_51 (lv_at hl 4 rfl) ?_
    refine wpld_7 zc hK hM hw.1 dX7_steepest_53 ?_
    have hw := hw.2
    refine lv_aload_n hx hb dX7_steepest_54 rfl (lv_at hl 0 rfl) ?_
    refine lv_aload_n hx hb dX7_steepest_55 rfl (lv_at hl 1 rfl) ?_
    refine lv_iload hx hb dX7_steepest_56 (lv_at hl 4 rfl) ?_
    refine zV_i [.ref ql, .int x5] [.int (a_now (Int32.toNatClampNeg x5)), .int x5, .ref (qp + 7)] zc ky_X7_leastFall kz_X7_leastFall km_7_114 (c_wp_X7_leastFall_9 l hw) (wpPreV0 hK hM) rfl rfl hl.1 (Nat.le_of_ble_eq_true rfl) ⟨rfl, rfl⟩ ⟨Nat.le_of_ble_eq_true rfl, Nat.le_of_ble_eq_true rfl⟩ ⟨(Nat.zero_le _), (Nat.zero_le _)⟩ dX7_steepest_58 (fun r_1 hw => ?_)
    refine va_mmin hx hb (zc.2.2.1.trans hl.1.symm) zc.2.2.2.1 (zc.2.2.2.2.1 _ km_7_117) (zc.2.2.2.2.1 _ k_mmins) (zc.2.2.2.2.1 _ k_mini) (zc.2.2.2.2.1 _ k_mminc) (Nat.le_of_ble_eq_true rfl) (Nat.le_of_ble_eq_true rfl) (Nat.zero_le _) (Nat.zero_le _) dX7_steepest_61 ?_
    refine lv_topi (fun v_2 ev_2 => ?_)
    have hw := hw v_2 ev_2
    refine wpst_7 zc hK hM hS hw.1 dX7_steepest_64 (fun a_now_1 H locs ea_now_1 hM hS => ?_)
    have hw := hw.2 a_now_1 ea_now_1
    obtain ⟨v_3, ev_3⟩ : ∃ y : Int32, y = x5 + (1 : Int32) := ⟨_, rfl⟩
    have hw := hw v_3 ev_3
    refine lv_iinc (v := v_3) (k := 4) (lv' := [(5, .int v_3), (0, .ref qp), (1, .ref ql), (3, .int x3), (4, .int x4)]) hx hb dX7_steepest_65 hl rfl (by rw [ev_3]; rfl) (by decide) rfl (fun ls hl => ?_)
    refine lv_goto (tgt := 32) hx hb dX7_steepest_68 (by decide) ?_
    exact hw _ _ _ (lv_sub hl [1, 2, 3, 4, 0] rfl) hM hS
set_option maxRecDepth 20000 in
theorem t_wp_X7_steepest_9_20 {p : Program} {l : Launch} {e : Env} {s : State} {m : MethodId} {args : Array Value} {below : List Frame} {meth : Method} {c : Code} {E : zE} {qp ql qs : Nat} {a_heard : Nat → Int32} {a_walked : Nat → Int32} {a_total : Nat → Int32} {a_longest : Nat → Int32} {a_next : Nat → Int32} {a_cover : Nat → Int32} {a_now : Nat → Int32} {a_then : Nat → Int32} {lf_huts : Int32} {lf_singers : Int32} {lf_villages : Int32} {lf_dams : Int32} {lf_echoes : Int32} {lf_deep : Int32} {lf_slide : Int32} {la_heights : Nat → Int32} {la_ladders : Nat → Int32} {la_minutes : Nat → Int32} {la_echoFrom : Nat → Int32} {la_echoTo : Nat → Int32} {la_homes : Nat → Int32} {la_talls : Nat → Int32} {la_known : Nat → Int32} {sf_facts : Int32} {sa_heard : Nat → Int32} {sa_huts : Nat → Int32} {sa_minutes : Nat → Int32} {post : Int32 → (Nat → Int32) → Prop} {x3 : Int32} {x4 : Int32} {ls : Array Slot} {H : Heap} {locs : List Loc}
    (zc : zC p s m args meth c cX7_steepest 6 RX7 (some .int))
    (hK : zK E s)
    (hM : wpW E qp ql qs a_heard a_walked a_total a_longest a_next a_cover a_now a_then lf_huts lf_singers lf_villages lf_dams lf_echoes lf_deep lf_slide la_heights la_ladders la_minutes la_echoFrom la_echoTo la_homes la_talls la_known sf_facts sa_heard sa_huts sa_minutes H)
    (hS : va_S (wpA qp ql qs) s.heap H locs)
    (hl : lv_has ls 6 [(0, .ref qp), (1, .ref ql), (3, .int x3), (4, .int x4)])
    (hw : q_wp_X7_steepest_9_20 a_now lf_huts lf_dams la_heights la_minutes x3 x4 post) :
    W p l e rm_wp_X7_steepest_9 s m args below meth c H locs 0 0 (MQ below (zQi (S := (Nat → Int32)) (fun r u => post r u) (fun u H => wpW E qp ql qs a_heard a_walked a_total a_longest a_next a_cover u a_then lf_huts lf_singers lf_villages lf_dams lf_echoes lf_deep lf_slide la_heights la_ladders la_minutes la_echoFrom la_echoTo la_homes la_talls la_known sf_facts sa_heard sa_huts sa_minutes H) (wpA qp ql qs)) args s 0 0 (wpA qp ql qs)) (F0 m 20 ls []) := by
  have hx := zc.1
  have hb := zc.2.1
  refine hw (fun x4 a_now => ∀ (H : Heap) (locs : List Loc) (ls : Array Slot), lv_has ls 6 [(0, .ref qp), (1, .ref ql), (3, .int x3), (4, .int x4)] → wpW E qp ql qs a_heard a_walked a_total a_longest a_next a_cover a_now a_then lf_huts lf_singers lf_villages lf_dams lf_echoes lf_deep lf_slide la_heights la_ladders la_minutes la_echoFrom la_echoTo la_homes la_talls la_known sf_facts sa_heard sa_huts sa_minutes H → va_S (wpA qp ql qs) s.heap H locs → W p l e rm_wp_X7_steepest_9 s m args below meth c H locs 0 0 (MQ below (zQi (S := (Nat → Int32)) (fun r u => post r u) (fun u H => wpW E qp ql qs a_heard a_walked a_total a_longest a_next a_cover u a_then lf_huts lf_singers lf_villages lf_dams lf_echoes lf_deep lf_slide la_heights la_ladders la_minutes la_echoFrom la_echoTo la_homes la_talls la_known sf_facts sa_heard sa_huts sa_minutes H) (wpA qp ql qs)) args s 0 0 (wpA qp ql qs)) (F0 m 20 ls [])) ?_ _ _ _ hl hM hS
  intro x4 a_now hw H locs ls hl hM hS
  refine lv_iload hx hb dX7_steepest_20 (lv_at hl 3 rfl) ?_
  refine lv_aload_n hx hb dX7_steepest_22 rfl (lv_at hl 1 rfl) ?_
  refine wpg_7_42_9 zc hK hM dX7_steepest_23 ?_
  refine lv_icmp_ge (tgt := 77) hx hb dX7_steepest_26 (by decide) (fun hc => ?_) (fun hc => ?_)
  · have hw := hw.1 hc
    refine lv_aload_n hx hb dX7_steepest_77 rfl (lv_at hl 0 rfl) ?_
    refine wpg_7_30_0 zc hK hM dX7_steepest_78 ?_
    refine lv_iload_n hx hb dX7_steepest_81 rfl (lv_at hl 2 rfl) ?_
    refine wpld_7 zc hK hM hw.1 dX7_steepest_82 ?_
    have hw := hw.2
    exact zret_iw a_now zc hS hw hM dX7_steepest_83
  · have hw := hw.2 hc
    refine lv_iconst (v := (0 : Int32)) hx hb dX7_steepest_29 (by decide) ?_
    refine lv_istore (lv' := [(5, .int (0 : Int32)), (0, .ref qp), (1, .ref ql), (3, .int x3), (4, .int x4)]) hx hb dX7_steepest_30 hl (by decide) rfl (fun ls hl => ?_)
    exact t_wp_X7_steepest_9_32 zc hK hM hS (fun _ _ H locs ls h hl hM hS => h H locs ls hl hM hS) (lv_sub hl [1, 2, 3, 4, 0] rfl) hw
set_option maxRecDepth 20000 in
theorem t_wp_X7_steepest_9_0 {p : Program} {l : Launch} {e : Env} {s : State} {m : MethodId} {args : Array Value} {below : List Frame} {meth : Method} {c : Code} {E : zE} {qp ql qs : Nat} {a_heard : Nat → Int32} {a_walked : Nat → Int32} {a_total : Nat → Int32} {a_longest : Nat → Int32} {a_next : Nat → Int32} {a_cover : Nat → Int32} {a_now : Nat → Int32} {a_then : Nat → Int32} {lf_huts : Int32} {lf_singers : Int32} {lf_villages : Int32} {lf_dams : Int32} {lf_echoes : Int32} {lf_deep : Int32} {lf_slide : Int32} {la_heights : Nat → Int32} {la_ladders : Nat → Int32} {la_minutes : Nat → Int32} {la_echoFrom : Nat → Int32} {la_echoTo : Nat → Int32} {la_homes : Nat → Int32} {la_talls : Nat → Int32} {la_known : Nat → Int32} {sf_facts : Int32} {sa_heard : Nat → Int32} {sa_huts : Nat → Int32} {sa_minutes : Nat → Int32} {post : Int32 → (Nat → Int32) → Prop} {x2 : Int32} {x3 : Int32} {ls : Array Slot} {H : Heap} {locs : List Loc}
    (zc : zC p s m args meth c cX7_steepest 6 RX7 (some .int))
    (hK : zK E s)
    (hM : wpW E qp ql qs a_heard a_walked a_total a_longest a_next a_cover a_now a_then lf_huts lf_singers lf_villages lf_dams lf_echoes lf_deep lf_slide la_heights la_ladders la_minutes la_echoFrom la_echoTo la_homes la_talls la_known sf_facts sa_heard sa_huts sa_minutes H)
    (hS : va_S (wpA qp ql qs) s.heap H locs)
    (hl : lv_has ls 6 [(0, .ref qp), (1, .ref ql), (2, .int x2), (3, .int x3)])
    (hw : q_wp_X7_steepest_9_0 a_now lf_huts lf_dams la_heights la_minutes x2 x3 post) :
    W p l e rm_wp_X7_steepest_9 s m args below meth c H locs 0 0 (MQ below (zQi (S := (Nat → Int32)) (fun r u => post r u) (fun u H => wpW E qp ql qs a_heard a_walked a_total a_longest a_next a_cover u a_then lf_huts lf_singers lf_villages lf_dams lf_echoes lf_deep lf_slide la_heights la_ladders la_minutes la_echoFrom la_echoTo la_homes la_talls la_known sf_facts sa_heard sa_huts sa_minutes H) (wpA qp ql qs)) args s 0 0 (wpA qp ql qs)) (F0 m 0 ls []) := by
  have hx := zc.1
  have hb := zc.2.1
  refine lv_aload_n hx hb dX7_steepest_0 rfl (lv_at hl 0 rfl) ?_
  refine wpg_7_30_0 zc hK hM dX7_steepest_1 ?_
  refine lv_sipush (v := (1000 : Int32)) hx hb dX7_steepest_4 (by decide) ?_
  refine zSw_v [.ref (qp + 7), .int (1000 : Int32)] [] zc ky_J7_fill_53178 kz_J7_fill_53178 km_7_36 (c_wp_J7_fill_53178_7 l hw) (wpPreS hK hM) hS rfl rfl hl.1 (Nat.le_of_ble_eq_true rfl) ⟨rfl, rfl⟩ ⟨Nat.le_of_ble_eq_true rfl, Nat.le_of_ble_eq_true rfl⟩ ⟨(Nat.zero_le _), (Nat.zero_le _)⟩ dX7_steepest_7 (fun a_now_1 H locs hw hM hS => ?_)
  refine lv_aload_n hx hb dX7_steepest_10 rfl (lv_at hl 0 rfl) ?_
  refine wpg_7_30_0 zc hK hM dX7_steepest_11 ?_
  refine lv_iload_n hx hb dX7_steepest_14 rfl (lv_at hl 2 rfl) ?_
  refine lv_iconst (v := (0 : Int32)) hx hb dX7_steepest_15 (by decide) ?_
  refine wpst_7 zc hK hM hS hw.1 dX7_steepest_16 (fun a_now_2 H locs ea_now_2 hM hS => ?_)
  have hw := hw.2 a_now_2 ea_now_2
  refine lv_iconst (v := (1 : Int32)) hx hb dX7_steepest_17 (by decide) ?_
  refine lv_istore (lv' := [(4, .int (1 : Int32)), (0, .ref qp), (1, .ref ql), (2, .int x2), (3, .int x3)]) hx hb dX7_steepest_18 hl (by decide) rfl (fun ls hl => ?_)
  exact t_wp_X7_steepest_9_20 zc hK hM hS  (lv_sub hl [1, 2, 4, 0] rfl) hw
set_option maxRecDepth 20000 in
theorem c_wp_X7_steepest_9 (l : Launch) {E : zE} {qp ql qs : Nat} {a_heard : Nat → Int32} {a_walked : Nat → Int32} {a_total : Nat → Int32} {a_longest : Nat → Int32} {a_next : Nat → Int32} {a_cover : Nat → Int32} {a_now : Nat → Int32} {a_then : Nat → Int32} {lf_huts : Int32} {lf_singers : Int32} {lf_villages : Int32} {lf_dams : Int32} {lf_echoes : Int32} {lf_deep : Int32} {lf_slide : Int32} {la_heights : Nat → Int32} {la_ladders : Nat → Int32} {la_minutes : Nat → Int32} {la_echoFrom : Nat → Int32} {la_echoTo : Nat → Int32} {la_homes : Nat → Int32} {la_talls : Nat → Int32} {la_known : Nat → Int32} {sf_facts : Int32} {sa_heard : Nat → Int32} {sa_huts : Nat → Int32} {sa_minutes : Nat → Int32} {x2 : Int32} {x3 : Int32} {post : Int32 → (Nat → Int32) → Prop} (hw : q_wp_X7_steepest_9_0 a_now lf_huts lf_dams la_heights la_minutes x2 x3 post) : Met l yX7_steepest (Cond.code yX7_steepest cX7_steepest 6 (some .int) :: zb) rm_wp_X7_steepest_9 (va_Pc [.ref qp, .ref ql, .int x2, .int x3] (fun U => wpW E qp ql qs a_heard a_walked a_total a_longest a_next a_cover a_now a_then lf_huts lf_singers lf_villages lf_dams lf_echoes lf_deep lf_slide la_heights la_ladders la_minutes la_echoFrom la_echoTo la_homes la_talls la_known sf_facts sa_heard sa_huts sa_minutes U.heap ∧ zK E U)) (zQi (S := (Nat → Int32)) (fun r u => post r u) (fun u H => wpW E qp ql qs a_heard a_walked a_total a_longest a_next a_cover u a_then lf_huts lf_singers lf_villages lf_dams lf_echoes lf_deep lf_slide la_heights la_ladders la_minutes la_echoFrom la_echoTo la_homes la_talls la_known sf_facts sa_heard sa_huts sa_minutes H) (wpA qp ql qs)) 0 0 (wpA qp ql qs) := by
  refine Met.ofW (cc := cX7_steepest) (maxL := 6) (ret := (some .int)) (by decide) rfl ?_
  intro p e s m args below meth c s₁ B hml hv
  obtain ⟨rfl, hM, hK⟩ := hv
  have zc := zc_of B hml
  have hl := lv_entry ([.ref qp, .ref ql, .int x2, .int x3]) (n := 6) (Nat.le_of_ble_eq_true rfl)
  rw [lg_entry_eq]
  generalize (lg_sl ([.ref qp, .ref ql, .int x2, .int x3]) ++ List.replicate (6 - (lg_sl ([.ref qp, .ref ql, .int x2, .int x3])).length) Slot.unset).toArray = ls at hl ⊢
  have hl : lv_has ls 6 [(0, .ref qp), (1, .ref ql), (2, .int x2), (3, .int x3)] := hl
  exact t_wp_X7_steepest_9_0 zc hK hM va_S.rf (lv_sub hl [0, 1, 2, 3] rfl) hw
-- wp_X7_depth_9
abbrev rm_wp_X7_depth_9 : Room := { frames := 4, cells := 0, slots := 0, locals := 91 }
def q_wp_X7_depth_9_21 (P4 : Int32 → Int32 → (Nat → Int32) → (Nat → Int32) → (Nat → Int32) → (Nat → Int32) → Prop) (a_total : Nat → Int32) (a_longest : Nat → Int32) (a_now : Nat → Int32) (a_then : Nat → Int32) (lf_huts : Int32) (lf_dams : Int32) (la_heights : Nat → Int32) (la_minutes : Nat → Int32) (x2 : Int32) (x3 : Int32) (x4 : Int32) (post : Int32 → (Nat → Int32) → (Nat → Int32) → (Nat → Int32) → (Nat → Int32) → Prop) : Prop :=
  ∀ P21 : Int32 → Int32 → Prop, (∀ (x2 : Int32) (x4 : Int32), ((lf_huts ≤ x4 → (∀ v_1 : Int32, v_1 = x3 + (1 : Int32) → (P4 x2 v_1 a_total a_longest a_now a_then))) ∧ (¬ lf_huts ≤ x4 → (vp_in x4 9 ∧ (∀ v_2 : Int32, v_2 = (if x2 < (a_longest (Int32.toNatClampNeg x4)) then (a_longest (Int32.toNatClampNeg x4)) else x2) → (∀ v_3 : Int32, v_3 = x4 + (1 : Int32) → (P21 v_2 v_3)))))) → P21 x2 x4) → P21 x2 x4
def q_wp_X7_depth_9_4 (a_total : Nat → Int32) (a_longest : Nat → Int32) (a_now : Nat → Int32) (a_then : Nat → Int32) (lf_huts : Int32) (lf_dams : Int32) (la_heights : Nat → Int32) (la_minutes : Nat → Int32) (x2 : Int32) (x3 : Int32) (post : Int32 → (Nat → Int32) → (Nat → Int32) → (Nat → Int32) → (Nat → Int32) → Prop) : Prop :=
  ∀ P4 : Int32 → Int32 → (Nat → Int32) → (Nat → Int32) → (Nat → Int32) → (Nat → Int32) → Prop, (∀ (x2 : Int32) (x3 : Int32) (a_total : Nat → Int32) (a_longest : Nat → Int32) (a_now : Nat → Int32) (a_then : Nat → Int32), ((lf_huts ≤ x3 → (post x2 a_total a_longest a_now a_then)) ∧ (¬ lf_huts ≤ x3 → (q_wp_X7_trace_9_0 a_total a_longest a_now a_then lf_huts lf_dams la_heights la_minutes x3 (fun a_total_1 a_longest_1 a_now_1 a_then_1 => q_wp_X7_depth_9_21 P4 a_total_1 a_longest_1 a_now_1 a_then_1 lf_huts lf_dams la_heights la_minutes x2 x3 (0 : Int32) post)))) → P4 x2 x3 a_total a_longest a_now a_then) → P4 x2 x3 a_total a_longest a_now a_then
def q_wp_X7_depth_9_0 (a_total : Nat → Int32) (a_longest : Nat → Int32) (a_now : Nat → Int32) (a_then : Nat → Int32) (lf_huts : Int32) (lf_dams : Int32) (la_heights : Nat → Int32) (la_minutes : Nat → Int32) (post : Int32 → (Nat → Int32) → (Nat → Int32) → (Nat → Int32) → (Nat → Int32) → Prop) : Prop :=
  q_wp_X7_depth_9_4 a_total a_longest a_now a_then lf_huts lf_dams la_heights la_minutes (0 : Int32) (0 : Int32) post
set_option maxRecDepth 20000 in
theorem t_wp_X7_depth_9_21 {p : Program} {l : Launch} {e : Env} {s : State} {m : MethodId} {args : Array Value} {below : List Frame} {meth : Method} {c : Code} {E : zE} {qp ql qs : Nat} {a_heard : Nat → Int32} {a_walked : Nat → Int32} {a_total : Nat → Int32} {a_longest : Nat → Int32} {a_next : Nat → Int32} {a_cover : Nat → Int32} {a_now : Nat → Int32} {a_then : Nat → Int32} {lf_huts : Int32} {lf_singers : Int32} {lf_villages : Int32} {lf_dams : Int32} {lf_echoes : Int32} {lf_deep : Int32} {lf_slide : Int32} {la_heights : Nat → Int32} {la_ladders : Nat → Int32} {la_minutes : Nat → Int32} {la_echoFrom : Nat → Int32} {la_echoTo : Nat → Int32} {la_homes : Nat → Int32} {la_talls : Nat → Int32} {la_known : Nat → Int32} {sf_facts : Int32} {sa_heard : Nat → Int32} {sa_huts : Nat → Int32} {sa_minutes : Nat → Int32} {P4 : Int32 → Int32 → (Nat → Int32) → (Nat → Int32) → (Nat → Int32) → (Nat → Int32) → Prop} {post : Int32 → (Nat → Int32) → (Nat → Int32) → (Nat → Int32) → (Nat → Int32) → Prop} {x2 : Int32} {x3 : Int32} {x4 : Int32} {ls : Array Slot} {H : Heap} {locs : List Loc}
    (zc : zC p s m args meth c cX7_depth 5 RX7 (some .int))
    (hK : zK E s)
    (hM : wpW E qp ql qs a_heard a_walked a_total a_longest a_next a_cover a_now a_then lf_huts lf_singers lf_villages lf_dams lf_echoes lf_deep lf_slide la_heights la_ladders la_minutes la_echoFrom la_echoTo la_homes la_talls la_known sf_facts sa_heard sa_huts sa_minutes H)
    (hS : va_S (wpA qp ql qs) s.heap H locs)
    (hP4 : ∀ (x2 : Int32) (x3 : Int32) (a_total : Nat → Int32) (a_longest : Nat → Int32) (a_now : Nat → Int32) (a_then : Nat → Int32) (H : Heap) (locs : List Loc) (ls : Array Slot), P4 x2 x3 a_total a_longest a_now a_then → lv_has ls 5 [(0, .ref qp), (1, .ref ql), (2, .int x2), (3, .int x3)] → wpW E qp ql qs a_heard a_walked a_total a_longest a_next a_cover a_now a_then lf_huts lf_singers lf_villages lf_dams lf_echoes lf_deep lf_slide la_heights la_ladders la_minutes la_echoFrom la_echoTo la_homes la_talls la_known sf_facts sa_heard sa_huts sa_minutes H → va_S (wpA qp ql qs) s.heap H locs → W p l e rm_wp_X7_depth_9 s m args below meth c H locs 0 0 (MQ below (zQi (S := (Nat → Int32) × (Nat → Int32) × (Nat → Int32) × (Nat → Int32)) (fun r u => post r u.1 u.2.1 u.2.2.1 u.2.2.2) (fun u H => wpW E qp ql qs a_heard a_walked u.1 u.2.1 a_next a_cover u.2.2.1 u.2.2.2 lf_huts lf_singers lf_villages lf_dams lf_echoes lf_deep lf_slide la_heights la_ladders la_minutes la_echoFrom la_echoTo la_homes la_talls la_known sf_facts sa_heard sa_huts sa_minutes H) (wpA qp ql qs)) args s 0 0 (wpA qp ql qs)) (F0 m 4 ls []))
    (hl : lv_has ls 5 [(0, .ref qp), (1, .ref ql), (2, .int x2), (3, .int x3), (4, .int x4)])
    (hw : q_wp_X7_depth_9_21 P4 a_total a_longest a_now a_then lf_huts lf_dams la_heights la_minutes x2 x3 x4 post) :
    W p l e rm_wp_X7_depth_9 s m args below meth c H locs 0 0 (MQ below (zQi (S := (Nat → Int32) × (Nat → Int32) × (Nat → Int32) × (Nat → Int32)) (fun r u => post r u.1 u.2.1 u.2.2.1 u.2.2.2) (fun u H => wpW E qp ql qs a_heard a_walked u.1 u.2.1 a_next a_cover u.2.2.1 u.2.2.2 lf_huts lf_singers lf_villages lf_dams lf_echoes lf_deep lf_slide la_heights la_ladders la_minutes la_echoFrom la_echoTo la_homes la_talls la_known sf_facts sa_heard sa_huts sa_minutes H) (wpA qp ql qs)) args s 0 0 (wpA qp ql qs)) (F0 m 21 ls []) := by
  have hx := zc.1
  have hb := zc.2.1
  refine hw (fun x2 x4 => ∀ (H : Heap) (locs : List Loc) (ls : Array Slot), lv_has ls 5 [(0, .ref qp), (1, .ref ql), (2, .int x2), (3, .int x3), (4, .int x4)] → wpW E qp ql qs a_heard a_walked a_total a_longest a_next a_cover a_now a_then lf_huts lf_singers lf_villages lf_dams lf_echoes lf_deep lf_slide la_heights la_ladders la_minutes la_echoFrom la_echoTo la_homes la_talls la_known sf_facts sa_heard sa_huts sa_minutes H → va_S (wpA qp ql qs) s.heap H locs → W p l e rm_wp_X7_depth_9 s m args below meth c H locs 0 0 (MQ below (zQi (S := (Nat → Int32) × (Nat → Int32) × (Nat → Int32) × (Nat → Int32)) (fun r u => post r u.1 u.2.1 u.2.2.1 u.2.2.2) (fun u H => wpW E qp ql qs a_heard a_walked u.1 u.2.1 a_next a_cover u.2.2.1 u.2.2.2 lf_huts lf_singers lf_villages lf_dams lf_echoes lf_deep lf_slide la_heights la_ladders la_minutes la_echoFrom la_echoTo la_homes la_talls la_known sf_facts sa_heard sa_huts sa_minutes H) (wpA qp ql qs)) args s 0 0 (wpA qp ql qs)) (F0 m 21 ls [])) ?_ _ _ _ hl hM hS
  intro x2 x4 hw H locs ls hl hM hS
  refine lv_iload hx hb dX7_depth_21 (lv_at hl 4 rfl) ?_
  refine lv_aload_n hx hb dX7_depth_23 rfl (lv_at hl 1 rfl) ?_
  refine wpg_7_42_9 zc hK hM dX7_depth_24 ?_
  refine lv_icmp_ge (tgt := 48) hx hb dX7_depth_27 (by decide) (fun hc => ?_) (fun hc => ?_)
  · have hw := hw.1 hc
    obtain ⟨v_1, ev_1⟩ : ∃ y : Int32, y = x3 + (1 : Int32) := ⟨_, rfl⟩
    have hw := hw v_1 ev_1
    refine lv_iinc (v := v_1) (k := 3) (lv' := [(3, .int v_1), (0, .ref qp), (1, .ref ql), (2, .int x2), (4, .int x4)]) hx hb dX7_depth_48 hl rfl (by rw [ev_1]; rfl) (by decide) rfl (fun ls hl => ?_)
    refine lv_goto (tgt := 4) hx hb dX7_depth_51 (by decide) ?_
    exact hP4 _ _ _ _ _ _ _ _ _ hw (lv_sub hl [1, 2, 3, 0] rfl) hM hS
  · have hw := hw.2 hc
    refine lv_iload_n hx hb dX7_depth_30 rfl (lv_at hl 2 rfl) ?_
    refine lv_aload_n hx hb dX7_depth_31 rfl (lv_at hl 0 rfl) ?_
    refine wpg_7_21_0 zc hK hM dX7_depth_32 ?_
    refine lv_iload hx hb dX7_depth_35 (lv_at hl 4 rfl) ?_
    refine wpld_4 zc hK hM hw.1 dX7_depth_37 ?_
    have hw := hw.2
    refine va_mmax hx hb (zc.2.2.1.trans hl.1.symm) zc.2.2.2.1 (zc.2.2.2.2.1 _ km_7_76) (zc.2.2.2.2.1 _ k_mmaxs) (zc.2.2.2.2.1 _ k_mini) (zc.2.2.2.2.1 _ k_mmaxc) (Nat.le_of_ble_eq_true rfl) (Nat.le_of_ble_eq_true rfl) (Nat.zero_le _) (Nat.zero_le _) dX7_depth_38 ?_
    refine lv_topi (fun v_2 ev_2 => ?_)
    have hw := hw v_2 ev_2
    refine lv_istore_n (lv' := [(2, .int v_2), (0, .ref qp), (1, .ref ql), (3, .int x3), (4, .int x4)]) hx hb dX7_depth_41 rfl hl (by decide) rfl (fun ls hl => ?_)
    obtain ⟨v_3, ev_3⟩ : ∃ y : Int32, y = x4 + (1 : Int32) := ⟨_, rfl⟩
    have hw := hw v_3 ev_3
    refine lv_iinc (v := v_3) (k := 4) (lv' := [(4, .int v_3), (2, .int v_2), (0, .ref qp), (1, .ref ql), (3, .int x3)]) hx hb dX7_depth_42 hl rfl (by rw [ev_3]; rfl) (by decide) rfl (fun ls hl => ?_)
    refine lv_goto (tgt := 21) hx hb dX7_depth_45 (by decide) ?_
    exact hw _ _ _ (lv_sub hl [2, 3, 1, 4, 0] rfl) hM hS
set_option maxRecDepth 20000 in
theorem t_wp_X7_depth_9_4 {p : Program} {l : Launch} {e : Env} {s : State} {m : MethodId} {args : Array Value} {below : List Frame} {meth : Method} {c : Code} {E : zE} {qp ql qs : Nat} {a_heard : Nat → Int32} {a_walked : Nat → Int32} {a_total : Nat → Int32} {a_longest : Nat → Int32} {a_next : Nat → Int32} {a_cover : Nat → Int32} {a_now : Nat → Int32} {a_then : Nat → Int32} {lf_huts : Int32} {lf_singers : Int32} {lf_villages : Int32} {lf_dams : Int32} {lf_echoes : Int32} {lf_deep : Int32} {lf_slide : Int32} {la_heights : Nat → Int32} {la_ladders : Nat → Int32} {la_minutes : Nat → Int32} {la_echoFrom : Nat → Int32} {la_echoTo : Nat → Int32} {la_homes : Nat → Int32} {la_talls : Nat → Int32} {la_known : Nat → Int32} {sf_facts : Int32} {sa_heard : Nat → Int32} {sa_huts : Nat → Int32} {sa_minutes : Nat → Int32} {post : Int32 → (Nat → Int32) → (Nat → Int32) → (Nat → Int32) → (Nat → Int32) → Prop} {x2 : Int32} {x3 : Int32} {ls : Array Slot} {H : Heap} {locs : List Loc}
    (zc : zC p s m args meth c cX7_depth 5 RX7 (some .int))
    (hK : zK E s)
    (hM : wpW E qp ql qs a_heard a_walked a_total a_longest a_next a_cover a_now a_then lf_huts lf_singers lf_villages lf_dams lf_echoes lf_deep lf_slide la_heights la_ladders la_minutes la_echoFrom la_echoTo la_homes la_talls la_known sf_facts sa_heard sa_huts sa_minutes H)
    (hS : va_S (wpA qp ql qs) s.heap H locs)
    (hl : lv_has ls 5 [(0, .ref qp), (1, .ref ql), (2, .int x2), (3, .int x3)])
    (hw : q_wp_X7_depth_9_4 a_total a_longest a_now a_then lf_huts lf_dams la_heights la_minutes x2 x3 post) :
    W p l e rm_wp_X7_depth_9 s m args below meth c H locs 0 0 (MQ below (zQi (S := (Nat → Int32) × (Nat → Int32) × (Nat → Int32) × (Nat → Int32)) (fun r u => post r u.1 u.2.1 u.2.2.1 u.2.2.2) (fun u H => wpW E qp ql qs a_heard a_walked u.1 u.2.1 a_next a_cover u.2.2.1 u.2.2.2 lf_huts lf_singers lf_villages lf_dams lf_echoes lf_deep lf_slide la_heights la_ladders la_minutes la_echoFrom la_echoTo la_homes la_talls la_known sf_facts sa_heard sa_huts sa_minutes H) (wpA qp ql qs)) args s 0 0 (wpA qp ql qs)) (F0 m 4 ls []) := by
  have hx := zc.1
  have hb := zc.2.1
  refine hw (fun x2 x3 a_total a_longest a_now a_then => ∀ (H : Heap) (locs : List Loc) (ls : Array Slot), lv_has ls 5 [(0, .ref qp), (1, .ref ql), (2, .int x2), (3, .int x3)] → wpW E qp ql qs a_heard a_walked a_total a_longest a_next a_cover a_now a_then lf_huts lf_singers lf_villages lf_dams lf_echoes lf_deep lf_slide la_heights la_ladders la_minutes la_echoFrom la_echoTo la_homes la_talls la_known sf_facts sa_heard sa_huts sa_minutes H → va_S (wpA qp ql qs) s.heap H locs → W p l e rm_wp_X7_depth_9 s m args below meth c H locs 0 0 (MQ below (zQi (S := (Nat → Int32) × (Nat → Int32) × (Nat → Int32) × (Nat → Int32)) (fun r u => post r u.1 u.2.1 u.2.2.1 u.2.2.2) (fun u H => wpW E qp ql qs a_heard a_walked u.1 u.2.1 a_next a_cover u.2.2.1 u.2.2.2 lf_huts lf_singers lf_villages lf_dams lf_echoes lf_deep lf_slide la_heights la_ladders la_minutes la_echoFrom la_echoTo la_homes la_talls la_known sf_facts sa_heard sa_huts sa_minutes H) (wpA qp ql qs)) args s 0 0 (wpA qp ql qs)) (F0 m 4 ls [])) ?_ _ _ _ hl hM hS
  intro x2 x3 a_total a_longest a_now a_then hw H locs ls hl hM hS
  refine lv_iload_n hx hb dX7_depth_4 rfl (lv_at hl 3 rfl) ?_
  refine lv_aload_n hx hb dX7_depth_5 rfl (lv_at hl 1 rfl) ?_
  refine wpg_7_42_9 zc hK hM dX7_depth_6 ?_
  refine lv_icmp_ge (tgt := 54) hx hb dX7_depth_9 (by decide) (fun hc => ?_) (fun hc => ?_)
  · have hw := hw.1 hc
    refine lv_iload_n hx hb dX7_depth_54 rfl (lv_at hl 2 rfl) ?_
    exact zret_iw ⟨a_total, a_longest, a_now, a_then⟩ zc hS hw hM dX7_depth_55
  · have hw := hw.2 hc
    refine lv_aload_n hx hb dX7_depth_12 rfl (lv_at hl 0 rfl) ?_
    refine lv_aload_n hx hb dX7_depth_13 rfl (lv_at hl 1 rfl) ?_
    refine lv_iload_n hx hb dX7_depth_14 rfl (lv_at hl 3 rfl) ?_
    refine zVw_v [.ref ql, .int x3] [] zc ky_X7_trace kz_X7_trace km_7_123 (c_wp_X7_trace_9 l hw) (wpPreV0 hK hM) hS rfl rfl hl.1 (Nat.le_of_ble_eq_true rfl) ⟨rfl, rfl⟩ ⟨Nat.le_of_ble_eq_true rfl, Nat.le_of_ble_eq_true rfl⟩ ⟨(Nat.zero_le _), (Nat.zero_le _)⟩ dX7_depth_15 (fun u H locs hw hM hS => ?_)
    obtain ⟨a_total_1, a_longest_1, a_now_1, a_then_1⟩ := u
    refine lv_iconst (v := (0 : Int32)) hx hb dX7_depth_18 (by decide) ?_
    refine lv_istore (lv' := [(4, .int (0 : Int32)), (0, .ref qp), (1, .ref ql), (2, .int x2), (3, .int x3)]) hx hb dX7_depth_19 hl (by decide) rfl (fun ls hl => ?_)
    exact t_wp_X7_depth_9_21 zc hK hM hS (fun _ _ _ _ _ _ H locs ls h hl hM hS => h H locs ls hl hM hS) (lv_sub hl [1, 2, 3, 4, 0] rfl) hw
set_option maxRecDepth 20000 in
theorem t_wp_X7_depth_9_0 {p : Program} {l : Launch} {e : Env} {s : State} {m : MethodId} {args : Array Value} {below : List Frame} {meth : Method} {c : Code} {E : zE} {qp ql qs : Nat} {a_heard : Nat → Int32} {a_walked : Nat → Int32} {a_total : Nat → Int32} {a_longest : Nat → Int32} {a_next : Nat → Int32} {a_cover : Nat → Int32} {a_now : Nat → Int32} {a_then : Nat → Int32} {lf_huts : Int32} {lf_singers : Int32} {lf_villages : Int32} {lf_dams : Int32} {lf_echoes : Int32} {lf_deep : Int32} {lf_slide : Int32} {la_heights : Nat → Int32} {la_ladders : Nat → Int32} {la_minutes : Nat → Int32} {la_echoFrom : Nat → Int32} {la_echoTo : Nat → Int32} {la_homes : Nat → Int32} {la_talls : Nat → Int32} {la_known : Nat → Int32} {sf_facts : Int32} {sa_heard : Nat → Int32} {sa_huts : Nat → Int32} {sa_minutes : Nat → Int32} {post : Int32 → (Nat → Int32) → (Nat → Int32) → (Nat → Int32) → (Nat → Int32) → Prop} {ls : Array Slot} {H : Heap} {locs : List Loc}
    (zc : zC p s m args meth c cX7_depth 5 RX7 (some .int))
    (hK : zK E s)
    (hM : wpW E qp ql qs a_heard a_walked a_total a_longest a_next a_cover a_now a_then lf_huts lf_singers lf_villages lf_dams lf_echoes lf_deep lf_slide la_heights la_ladders la_minutes la_echoFrom la_echoTo la_homes la_talls la_known sf_facts sa_heard sa_huts sa_minutes H)
    (hS : va_S (wpA qp ql qs) s.heap H locs)
    (hl : lv_has ls 5 [(0, .ref qp), (1, .ref ql)])
    (hw : q_wp_X7_depth_9_0 a_total a_longest a_now a_then lf_huts lf_dams la_heights la_minutes post) :
    W p l e rm_wp_X7_depth_9 s m args below meth c H locs 0 0 (MQ below (zQi (S := (Nat → Int32) × (Nat → Int32) × (Nat → Int32) × (Nat → Int32)) (fun r u => post r u.1 u.2.1 u.2.2.1 u.2.2.2) (fun u H => wpW E qp ql qs a_heard a_walked u.1 u.2.1 a_next a_cover u.2.2.1 u.2.2.2 lf_huts lf_singers lf_villages lf_dams lf_echoes lf_deep lf_slide la_heights la_ladders la_minutes la_echoFrom la_echoTo la_homes la_talls la_known sf_facts sa_heard sa_huts sa_minutes H) (wpA qp ql qs)) args s 0 0 (wpA qp ql qs)) (F0 m 0 ls []) := by
  have hx := zc.1
  have hb := zc.2.1
  refine lv_iconst (v := (0 : Int32)) hx hb dX7_depth_0 (by decide) ?_
  refine lv_istore_n (lv' := [(2, .int (0 : Int32)), (0, .ref qp), (1, .ref ql)]) hx hb dX7_depth_1 rfl hl (by decide) rfl (fun ls hl => ?_)
  refine lv_iconst (v := (0 : Int32)) hx hb dX7_depth_2 (by decide) ?_
  refine lv_istore_n (lv' := [(3, .int (0 : Int32)), (2, .int (0 : Int32)), (0, .ref qp), (1, .ref ql)]) hx hb dX7_depth_3 rfl hl (by decide) rfl (fun ls hl => ?_)
  exact t_wp_X7_depth_9_4 zc hK hM hS  (lv_sub hl [2, 3, 1, 0] rfl) hw
set_option maxRecDepth 20000 in
theorem c_wp_X7_depth_9 (l : Launch) {E : zE} {qp ql qs : Nat} {a_heard : Nat → Int32} {a_walked : Nat → Int32} {a_total : Nat → Int32} {a_longest : Nat → Int32} {a_next : Nat → Int32} {a_cover : Nat → Int32} {a_now : Nat → Int32} {a_then : Nat → Int32} {lf_huts : Int32} {lf_singers : Int32} {lf_villages : Int32} {lf_dams : Int32} {lf_echoes : Int32} {lf_deep : Int32} {lf_slide : Int32} {la_heights : Nat → Int32} {la_ladders : Nat → Int32} {la_minutes : Nat → Int32} {la_echoFrom : Nat → Int32} {la_echoTo : Nat → Int32} {la_homes : Nat → Int32} {la_talls : Nat → Int32} {la_known : Nat → Int32} {sf_facts : Int32} {sa_heard : Nat → Int32} {sa_huts : Nat → Int32} {sa_minutes : Nat → Int32} {post : Int32 → (Nat → Int32) → (Nat → Int32) → (Nat → Int32) → (Nat → Int32) → Prop} (hw : q_wp_X7_depth_9_0 a_total a_longest a_now a_then lf_huts lf_dams la_heights la_minutes post) : Met l yX7_depth (Cond.code yX7_depth cX7_depth 5 (some .int) :: zb) rm_wp_X7_depth_9 (va_Pc [.ref qp, .ref ql] (fun U => wpW E qp ql qs a_heard a_walked a_total a_longest a_next a_cover a_now a_then lf_huts lf_singers lf_villages lf_dams lf_echoes lf_deep lf_slide la_heights la_ladders la_minutes la_echoFrom la_echoTo la_homes la_talls la_known sf_facts sa_heard sa_huts sa_minutes U.heap ∧ zK E U)) (zQi (S := (Nat → Int32) × (Nat → Int32) × (Nat → Int32) × (Nat → Int32)) (fun r u => post r u.1 u.2.1 u.2.2.1 u.2.2.2) (fun u H => wpW E qp ql qs a_heard a_walked u.1 u.2.1 a_next a_cover u.2.2.1 u.2.2.2 lf_huts lf_singers lf_villages lf_dams lf_echoes lf_deep lf_slide la_heights la_ladders la_minutes la_echoFrom la_echoTo la_homes la_talls la_known sf_facts sa_heard sa_huts sa_minutes H) (wpA qp ql qs)) 0 0 (wpA qp ql qs) := by
  refine Met.ofW (cc := cX7_depth) (maxL := 5) (ret := (some .int)) (by decide) rfl ?_
  intro p e s m args below meth c s₁ B hml hv
  obtain ⟨rfl, hM, hK⟩ := hv
  have zc := zc_of B hml
  have hl := lv_entry ([.ref qp, .ref ql]) (n := 5) (Nat.le_of_ble_eq_true rfl)
  rw [lg_entry_eq]
  generalize (lg_sl ([.ref qp, .ref ql]) ++ List.replicate (5 - (lg_sl ([.ref qp, .ref ql])).length) Slot.unset).toArray = ls at hl ⊢
  have hl : lv_has ls 5 [(0, .ref qp), (1, .ref ql)] := hl
  exact t_wp_X7_depth_9_0 zc hK hM va_S.rf (lv_sub hl [0, 1] rfl) hw
-- wp_X7_reach_5
abbrev rm_wp_X7_reach_5 : Room := { frames := 1, cells := 0, slots := 0, locals := 21 }
def q_wp_X7_reach_5_49 (P7 : Int32 → Int32 → Prop) (P20 : Int32 → Int32 → Prop) (a_next : Nat → Int32) (x2 : Int32) (x3 : Int32) (x4 : Int32) (x5 : Int32) (x6 : Int32) (post : Int32 → Prop) : Prop :=
  ∀ v_1 : Int32, v_1 = x6 + (1 : Int32) → (P20 x5 v_1)
def q_wp_X7_reach_5_20 (P7 : Int32 → Int32 → Prop) (a_next : Nat → Int32) (x2 : Int32) (x3 : Int32) (x4 : Int32) (x5 : Int32) (x6 : Int32) (post : Int32 → Prop) : Prop :=
  ∀ P20 : Int32 → Int32 → Prop, (∀ (x5 : Int32) (x6 : Int32), (((9 : Int32) ≤ x6 → ((¬ x5 = x3 → (∀ v_1 : Int32, v_1 = x4 + (1 : Int32) → (P7 x5 v_1))) ∧ (x5 = x3 → (post x3)))) ∧ (¬ (9 : Int32) ≤ x6 → (q_z_X10_has_0 x3 x6 (fun r_1 => (r_1 = 0 → (q_wp_X7_reach_5_49 P7 P20 a_next x2 x3 x4 x5 x6 post)) ∧ (¬ r_1 = 0 → (vp_in x6 9 ∧ (∀ v_2 : Int32, v_2 = (x5 ||| ((a_next (Int32.toNatClampNeg x6)) &&& (x2 ^^^ (-1 : Int32)))) → (q_wp_X7_reach_5_49 P7 P20 a_next x2 x3 x4 v_2 x6 post)))))))) → P20 x5 x6) → P20 x5 x6
def q_wp_X7_reach_5_7 (a_next : Nat → Int32) (x2 : Int32) (x3 : Int32) (x4 : Int32) (post : Int32 → Prop) : Prop :=
  ∀ P7 : Int32 → Int32 → Prop, (∀ (x3 : Int32) (x4 : Int32), (((9 : Int32) ≤ x4 → (post x3)) ∧ (¬ (9 : Int32) ≤ x4 → (q_wp_X7_reach_5_20 P7 a_next x2 x3 x4 x3 (0 : Int32) post))) → P7 x3 x4) → P7 x3 x4
def q_wp_X7_reach_5_0 (a_next : Nat → Int32) (x0 : Int32) (x2 : Int32) (post : Int32 → Prop) : Prop :=
  ∀ v_1 : Int32, v_1 = ((1 : Int32) <<< (x0 &&& 31)) → (q_wp_X7_reach_5_7 a_next x2 v_1 (0 : Int32) post)
set_option maxRecDepth 20000 in
theorem t_wp_X7_reach_5_49 {p : Program} {l : Launch} {e : Env} {s : State} {m : MethodId} {args : Array Value} {below : List Frame} {meth : Method} {c : Code} {E : zE} {qp ql qs : Nat} {a_heard : Nat → Int32} {a_walked : Nat → Int32} {a_total : Nat → Int32} {a_longest : Nat → Int32} {a_next : Nat → Int32} {a_cover : Nat → Int32} {a_now : Nat → Int32} {a_then : Nat → Int32} {lf_huts : Int32} {lf_singers : Int32} {lf_villages : Int32} {lf_dams : Int32} {lf_echoes : Int32} {lf_deep : Int32} {lf_slide : Int32} {la_heights : Nat → Int32} {la_ladders : Nat → Int32} {la_minutes : Nat → Int32} {la_echoFrom : Nat → Int32} {la_echoTo : Nat → Int32} {la_homes : Nat → Int32} {la_talls : Nat → Int32} {la_known : Nat → Int32} {sf_facts : Int32} {sa_heard : Nat → Int32} {sa_huts : Nat → Int32} {sa_minutes : Nat → Int32} {P7 : Int32 → Int32 → Prop} {P20 : Int32 → Int32 → Prop} {post : Int32 → Prop} {x2 : Int32} {x3 : Int32} {x4 : Int32} {x5 : Int32} {x6 : Int32} {ls : Array Slot}
    (zc : zC p s m args meth c cX7_reach 7 RX7 (some .int))
    (hK : zK E s)
    (hM : wpW E qp ql qs a_heard a_walked a_total a_longest a_next a_cover a_now a_then lf_huts lf_singers lf_villages lf_dams lf_echoes lf_deep lf_slide la_heights la_ladders la_minutes la_echoFrom la_echoTo la_homes la_talls la_known sf_facts sa_heard sa_huts sa_minutes s.heap)
    (hP7 : ∀ (x3 : Int32) (x4 : Int32) (ls : Array Slot), P7 x3 x4 → lv_has ls 7 [(1, .ref (qp + 5)), (2, .int x2), (3, .int x3), (4, .int x4)] → W p l e rm_wp_X7_reach_5 s m args below meth c s.heap [] 0 0 (MQ below (vp_Si post) args s 0 0 (fun _ => False)) (F0 m 7 ls []))
    (hP20 : ∀ (x5 : Int32) (x6 : Int32) (ls : Array Slot), P20 x5 x6 → lv_has ls 7 [(1, .ref (qp + 5)), (2, .int x2), (3, .int x3), (4, .int x4), (5, .int x5), (6, .int x6)] → W p l e rm_wp_X7_reach_5 s m args below meth c s.heap [] 0 0 (MQ below (vp_Si post) args s 0 0 (fun _ => False)) (F0 m 20 ls []))
    (hl : lv_has ls 7 [(1, .ref (qp + 5)), (2, .int x2), (3, .int x3), (4, .int x4), (5, .int x5), (6, .int x6)])
    (hw : q_wp_X7_reach_5_49 P7 P20 a_next x2 x3 x4 x5 x6 post) :
    W p l e rm_wp_X7_reach_5 s m args below meth c s.heap [] 0 0 (MQ below (vp_Si post) args s 0 0 (fun _ => False)) (F0 m 49 ls []) := by
  have hx := zc.1
  have hb := zc.2.1
  obtain ⟨v_1, ev_1⟩ : ∃ y : Int32, y = x6 + (1 : Int32) := ⟨_, rfl⟩
  have hw := hw v_1 ev_1
  refine lv_iinc (v := v_1) (k := 5) (lv' := [(6, .int v_1), (1, .ref (qp + 5)), (2, .int x2), (3, .int x3), (4, .int x4), (5, .int x5)]) hx hb dX7_reach_49 hl rfl (by rw [ev_1]; rfl) (by decide) rfl (fun ls hl => ?_)
  refine lv_goto (tgt := 20) hx hb dX7_reach_52 (by decide) ?_
  exact hP20 _ _ _ hw (lv_sub hl [1, 2, 3, 4, 5, 0] rfl)
set_option maxRecDepth 20000 in
theorem t_wp_X7_reach_5_20 {p : Program} {l : Launch} {e : Env} {s : State} {m : MethodId} {args : Array Value} {below : List Frame} {meth : Method} {c : Code} {E : zE} {qp ql qs : Nat} {a_heard : Nat → Int32} {a_walked : Nat → Int32} {a_total : Nat → Int32} {a_longest : Nat → Int32} {a_next : Nat → Int32} {a_cover : Nat → Int32} {a_now : Nat → Int32} {a_then : Nat → Int32} {lf_huts : Int32} {lf_singers : Int32} {lf_villages : Int32} {lf_dams : Int32} {lf_echoes : Int32} {lf_deep : Int32} {lf_slide : Int32} {la_heights : Nat → Int32} {la_ladders : Nat → Int32} {la_minutes : Nat → Int32} {la_echoFrom : Nat → Int32} {la_echoTo : Nat → Int32} {la_homes : Nat → Int32} {la_talls : Nat → Int32} {la_known : Nat → Int32} {sf_facts : Int32} {sa_heard : Nat → Int32} {sa_huts : Nat → Int32} {sa_minutes : Nat → Int32} {P7 : Int32 → Int32 → Prop} {post : Int32 → Prop} {x2 : Int32} {x3 : Int32} {x4 : Int32} {x5 : Int32} {x6 : Int32} {ls : Array Slot}
    (zc : zC p s m args meth c cX7_reach 7 RX7 (some .int))
    (hK : zK E s)
    (hM : wpW E qp ql qs a_heard a_walked a_total a_longest a_next a_cover a_now a_then lf_huts lf_singers lf_villages lf_dams lf_echoes lf_deep lf_slide la_heights la_ladders la_minutes la_echoFrom la_echoTo la_homes la_talls la_known sf_facts sa_heard sa_huts sa_minutes s.heap)
    (hP7 : ∀ (x3 : Int32) (x4 : Int32) (ls : Array Slot), P7 x3 x4 → lv_has ls 7 [(1, .ref (qp + 5)), (2, .int x2), (3, .int x3), (4, .int x4)] → W p l e rm_wp_X7_reach_5 s m args below meth c s.heap [] 0 0 (MQ below (vp_Si post) args s 0 0 (fun _ => False)) (F0 m 7 ls []))
    (hl : lv_has ls 7 [(1, .ref (qp + 5)), (2, .int x2), (3, .int x3), (4, .int x4), (5, .int x5), (6, .int x6)])
    (hw : q_wp_X7_reach_5_20 P7 a_next x2 x3 x4 x5 x6 post) :
    W p l e rm_wp_X7_reach_5 s m args below meth c s.heap [] 0 0 (MQ below (vp_Si post) args s 0 0 (fun _ => False)) (F0 m 20 ls []) := by
  have hx := zc.1
  have hb := zc.2.1
  refine hw (fun x5 x6 => ∀ (ls : Array Slot), lv_has ls 7 [(1, .ref (qp + 5)), (2, .int x2), (3, .int x3), (4, .int x4), (5, .int x5), (6, .int x6)] → W p l e rm_wp_X7_reach_5 s m args below meth c s.heap [] 0 0 (MQ below (vp_Si post) args s 0 0 (fun _ => False)) (F0 m 20 ls [])) ?_ _ hl
  intro x5 x6 hw ls hl
  refine lv_iload hx hb dX7_reach_20 (lv_at hl 5 rfl) ?_
  refine lv_bipush (v := (9 : Int32)) hx hb dX7_reach_22 (by decide) ?_
  refine lv_icmp_ge (tgt := 55) hx hb dX7_reach_24 (by decide) (fun hc => ?_) (fun hc => ?_)
  · have hw := hw.1 hc
    refine lv_iload hx hb dX7_reach_55 (lv_at hl 4 rfl) ?_
    refine lv_iload_n hx hb dX7_reach_57 rfl (lv_at hl 2 rfl) ?_
    refine lv_icmp_ne (tgt := 63) hx hb dX7_reach_58 (by decide) (fun hc => ?_) (fun hc => ?_)
    · have hw := hw.1 hc
      refine lv_iload hx hb dX7_reach_63 (lv_at hl 4 rfl) ?_
      refine lv_istore_n (lv' := [(3, .int x5), (1, .ref (qp + 5)), (2, .int x2), (4, .int x4), (5, .int x5), (6, .int x6)]) hx hb dX7_reach_65 rfl hl (by decide) rfl (fun ls hl => ?_)
      obtain ⟨v_1, ev_1⟩ : ∃ y : Int32, y = x4 + (1 : Int32) := ⟨_, rfl⟩
      have hw := hw v_1 ev_1
      refine lv_iinc (v := v_1) (k := 3) (lv' := [(4, .int v_1), (3, .int x5), (1, .ref (qp + 5)), (2, .int x2), (5, .int x5), (6, .int x6)]) hx hb dX7_reach_66 hl rfl (by rw [ev_1]; rfl) (by decide) rfl (fun ls hl => ?_)
      refine lv_goto (tgt := 7) hx hb dX7_reach_69 (by decide) ?_
      exact hP7 _ _ _ hw (lv_sub hl [2, 3, 1, 0] rfl)
    · have hw := hw.2 hc
      refine lv_iload_n hx hb dX7_reach_61 rfl (lv_at hl 2 rfl) ?_
      exact zret_i zc hw dX7_reach_62
  · have hw := hw.2 hc
    refine lv_iload_n hx hb dX7_reach_27 rfl (lv_at hl 2 rfl) ?_
    refine lv_iload hx hb dX7_reach_28 (lv_at hl 5 rfl) ?_
    refine zSN_i [.int x3, .int x6] [] zc ky_X10_has kz_X10_has (hK.2 _ kn_7_70) (c_z_X10_has l hw) (zPre0 _) rfl rfl hl.1 (Nat.le_of_ble_eq_true rfl) ⟨rfl, rfl⟩ ⟨Nat.le_of_ble_eq_true rfl, Nat.le_of_ble_eq_true rfl⟩ ⟨(Nat.zero_le _), (Nat.zero_le _)⟩ dX7_reach_30 (fun r_1 hw => ?_)
    refine lv_if_eq (tgt := 49) hx hb dX7_reach_33 (by decide) (fun hc => ?_) (fun hc => ?_)
    · have hw := hw.1 hc
      exact t_wp_X7_reach_5_49 zc hK hM hP7 (fun _ _ ls h hl => h ls hl) (lv_sub hl [0, 1, 2, 3, 4, 5] rfl) hw
    · have hw := hw.2 hc
      refine lv_iload hx hb dX7_reach_36 (lv_at hl 4 rfl) ?_
      refine lv_aload_n hx hb dX7_reach_38 rfl (lv_at hl 0 rfl) ?_
      refine lv_iload hx hb dX7_reach_39 (lv_at hl 5 rfl) ?_
      refine wpld_5 zc hK hM hw.1 dX7_reach_41 ?_
      have hw := hw.2
      refine lv_iload_n hx hb dX7_reach_42 rfl (lv_at hl 1 rfl) ?_
      refine lv_iconst (v := (-1 : Int32)) hx hb dX7_reach_43 (by decide) ?_
      refine lv_ixor hx hb dX7_reach_44 ?_
      refine lv_iand hx hb dX7_reach_45 ?_
      refine lv_ior hx hb dX7_reach_46 ?_
      refine lv_topi (fun v_2 ev_2 => ?_)
      have hw := hw v_2 ev_2
      refine lv_istore (lv' := [(5, .int v_2), (1, .ref (qp + 5)), (2, .int x2), (3, .int x3), (4, .int x4), (6, .int x6)]) hx hb dX7_reach_47 hl (by decide) rfl (fun ls hl => ?_)
      exact t_wp_X7_reach_5_49 zc hK hM hP7 (fun _ _ ls h hl => h ls hl) (lv_sub hl [1, 2, 3, 4, 0, 5] rfl) hw
set_option maxRecDepth 20000 in
theorem t_wp_X7_reach_5_7 {p : Program} {l : Launch} {e : Env} {s : State} {m : MethodId} {args : Array Value} {below : List Frame} {meth : Method} {c : Code} {E : zE} {qp ql qs : Nat} {a_heard : Nat → Int32} {a_walked : Nat → Int32} {a_total : Nat → Int32} {a_longest : Nat → Int32} {a_next : Nat → Int32} {a_cover : Nat → Int32} {a_now : Nat → Int32} {a_then : Nat → Int32} {lf_huts : Int32} {lf_singers : Int32} {lf_villages : Int32} {lf_dams : Int32} {lf_echoes : Int32} {lf_deep : Int32} {lf_slide : Int32} {la_heights : Nat → Int32} {la_ladders : Nat → Int32} {la_minutes : Nat → Int32} {la_echoFrom : Nat → Int32} {la_echoTo : Nat → Int32} {la_homes : Nat → Int32} {la_talls : Nat → Int32} {la_known : Nat → Int32} {sf_facts : Int32} {sa_heard : Nat → Int32} {sa_huts : Nat → Int32} {sa_minutes : Nat → Int32} {post : Int32 → Prop} {x2 : Int32} {x3 : Int32} {x4 : Int32} {ls : Array Slot}
    (zc : zC p s m args meth c cX7_reach 7 RX7 (some .int))
    (hK : zK E s)
    (hM : wpW E qp ql qs a_heard a_walked a_total a_longest a_next a_cover a_now a_then lf_huts lf_singers lf_villages lf_dams lf_echoes lf_deep lf_slide la_heights la_ladders la_minutes la_echoFrom la_echoTo la_homes la_talls la_known sf_facts sa_heard sa_huts sa_minutes s.heap)
    (hl : lv_has ls 7 [(1, .ref (qp + 5)), (2, .int x2), (3, .int x3), (4, .int x4)])
    (hw : q_wp_X7_reach_5_7 a_next x2 x3 x4 post) :
    W p l e rm_wp_X7_reach_5 s m args below meth c s.heap [] 0 0 (MQ below (vp_Si post) args s 0 0 (fun _ => False)) (F0 m 7 ls []) := by
  have hx := zc.1
  have hb := zc.2.1
  refine hw (fun x3 x4 => ∀ (ls : Array Slot), lv_has ls 7 [(1, .ref (qp + 5)), (2, .int x2), (3, .int x3), (4, .int x4)] → W p l e rm_wp_X7_reach_5 s m args below meth c s.heap [] 0 0 (MQ below (vp_Si post) args s 0 0 (fun _ => False)) (F0 m 7 ls [])) ?_ _ hl
  intro x3 x4 hw ls hl
  refine lv_iload hx hb dX7_reach_7 (lv_at hl 3 rfl) ?_
  refine lv_bipush (v := (9 : Int32)) hx hb dX7_reach_9 (by decide) ?_
  refine lv_icmp_ge (tgt := 72) hx hb dX7_reach_11 (by decide) (fun hc => ?_) (fun hc => ?_)
  · have hw := hw.1 hc
    refine lv_iload_n hx hb dX7_reach_72 rfl (lv_at hl 2 rfl) ?_
    exact zret_i zc hw dX7_reach_73
  · have hw := hw.2 hc
    refine lv_iload_n hx hb dX7_reach_14 rfl (lv_at hl 2 rfl) ?_
    refine lv_istore (lv' := [(5, .int x3), (1, .ref (qp + 5)), (2, .int x2), (3, .int x3), (4, .int x4)]) hx hb dX7_reach_15 hl (by decide) rfl (fun ls hl => ?_)
    refine lv_iconst (v := (0 : Int32)) hx hb dX7_reach_17 (by decide) ?_
    refine lv_istore (lv' := [(6, .int (0 : Int32)), (5, .int x3), (1, .ref (qp + 5)), (2, .int x2), (3, .int x3), (4, .int x4)]) hx hb dX7_reach_18 hl (by decide) rfl (fun ls hl => ?_)
    exact t_wp_X7_reach_5_20 zc hK hM (fun _ _ ls h hl => h ls hl) (lv_sub hl [2, 3, 4, 5, 1, 0] rfl) hw
set_option maxRecDepth 20000 in
theorem t_wp_X7_reach_5_0 {p : Program} {l : Launch} {e : Env} {s : State} {m : MethodId} {args : Array Value} {below : List Frame} {meth : Method} {c : Code} {E : zE} {qp ql qs : Nat} {a_heard : Nat → Int32} {a_walked : Nat → Int32} {a_total : Nat → Int32} {a_longest : Nat → Int32} {a_next : Nat → Int32} {a_cover : Nat → Int32} {a_now : Nat → Int32} {a_then : Nat → Int32} {lf_huts : Int32} {lf_singers : Int32} {lf_villages : Int32} {lf_dams : Int32} {lf_echoes : Int32} {lf_deep : Int32} {lf_slide : Int32} {la_heights : Nat → Int32} {la_ladders : Nat → Int32} {la_minutes : Nat → Int32} {la_echoFrom : Nat → Int32} {la_echoTo : Nat → Int32} {la_homes : Nat → Int32} {la_talls : Nat → Int32} {la_known : Nat → Int32} {sf_facts : Int32} {sa_heard : Nat → Int32} {sa_huts : Nat → Int32} {sa_minutes : Nat → Int32} {post : Int32 → Prop} {x0 : Int32} {x2 : Int32} {ls : Array Slot}
    (zc : zC p s m args meth c cX7_reach 7 RX7 (some .int))
    (hK : zK E s)
    (hM : wpW E qp ql qs a_heard a_walked a_total a_longest a_next a_cover a_now a_then lf_huts lf_singers lf_villages lf_dams lf_echoes lf_deep lf_slide la_heights la_ladders la_minutes la_echoFrom la_echoTo la_homes la_talls la_known sf_facts sa_heard sa_huts sa_minutes s.heap)
    (hl : lv_has ls 7 [(0, .int x0), (1, .ref (qp + 5)), (2, .int x2)])
    (hw : q_wp_X7_reach_5_0 a_next x0 x2 post) :
    W p l e rm_wp_X7_reach_5 s m args below meth c s.heap [] 0 0 (MQ below (vp_Si post) args s 0 0 (fun _ => False)) (F0 m 0 ls []) := by
  have hx := zc.1
  have hb := zc.2.1
  refine lv_iconst (v := (1 : Int32)) hx hb dX7_reach_0 (by decide) ?_
  refine lv_iload_n hx hb dX7_reach_1 rfl (lv_at hl 0 rfl) ?_
  refine lv_ishl hx hb dX7_reach_2 ?_
  refine lv_topi (fun v_1 ev_1 => ?_)
  have hw := hw v_1 ev_1
  refine lv_istore_n (lv' := [(3, .int v_1), (0, .int x0), (1, .ref (qp + 5)), (2, .int x2)]) hx hb dX7_reach_3 rfl hl (by decide) rfl (fun ls hl => ?_)
  refine lv_iconst (v := (0 : Int32)) hx hb dX7_reach_4 (by decide) ?_
  refine lv_istore (lv' := [(4, .int (0 : Int32)), (3, .int v_1), (0, .int x0), (1, .ref (qp + 5)), (2, .int x2)]) hx hb dX7_reach_5 hl (by decide) rfl (fun ls hl => ?_)
  exact t_wp_X7_reach_5_7 zc hK hM  (lv_sub hl [3, 4, 1, 0] rfl) hw
set_option maxRecDepth 20000 in
theorem c_wp_X7_reach_5 (l : Launch) {E : zE} {qp ql qs : Nat} {a_heard : Nat → Int32} {a_walked : Nat → Int32} {a_total : Nat → Int32} {a_longest : Nat → Int32} {a_next : Nat → Int32} {a_cover : Nat → Int32} {a_now : Nat → Int32} {a_then : Nat → Int32} {lf_huts : Int32} {lf_singers : Int32} {lf_villages : Int32} {lf_dams : Int32} {lf_echoes : Int32} {lf_deep : Int32} {lf_slide : Int32} {la_heights : Nat → Int32} {la_ladders : Nat → Int32} {la_minutes : Nat → Int32} {la_echoFrom : Nat → Int32} {la_echoTo : Nat → Int32} {la_homes : Nat → Int32} {la_talls : Nat → Int32} {la_known : Nat → Int32} {sf_facts : Int32} {sa_heard : Nat → Int32} {sa_huts : Nat → Int32} {sa_minutes : Nat → Int32} {x0 : Int32} {x2 : Int32} {post : Int32 → Prop} (hw : q_wp_X7_reach_5_0 a_next x0 x2 post) : Met l yX7_reach (Cond.code yX7_reach cX7_reach 7 (some .int) :: zb) rm_wp_X7_reach_5 (va_Pc [.int x0, .ref (qp + 5), .int x2] (fun U => wpW E qp ql qs a_heard a_walked a_total a_longest a_next a_cover a_now a_then lf_huts lf_singers lf_villages lf_dams lf_echoes lf_deep lf_slide la_heights la_ladders la_minutes la_echoFrom la_echoTo la_homes la_talls la_known sf_facts sa_heard sa_huts sa_minutes U.heap ∧ zK E U)) (vp_Si post) 0 0 (fun _ => False) := by
  refine Met.ofW (cc := cX7_reach) (maxL := 7) (ret := (some .int)) (by decide) rfl ?_
  intro p e s m args below meth c s₁ B hml hv
  obtain ⟨rfl, hM, hK⟩ := hv
  have zc := zc_of B hml
  have hl := lv_entry ([.int x0, .ref (qp + 5), .int x2]) (n := 7) (Nat.le_of_ble_eq_true rfl)
  rw [lg_entry_eq]
  generalize (lg_sl ([.int x0, .ref (qp + 5), .int x2]) ++ List.replicate (7 - (lg_sl ([.int x0, .ref (qp + 5), .int x2])).length) Slot.unset).toArray = ls at hl ⊢
  have hl : lv_has ls 7 [(0, .int x0), (1, .ref (qp + 5)), (2, .int x2)] := hl
  exact t_wp_X7_reach_5_0 zc hK hM (lv_sub hl [0, 1, 2] rfl) hw
-- wp_X7_muted
abbrev rm_wp_X7_muted : Room := { frames := 2, cells := 0, slots := 0, locals := 47 }
def q_wp_X7_muted_0 (a_next : Nat → Int32) (x1 : Int32) (x2 : Int32) (post : Int32 → Prop) : Prop :=
  q_wp_X7_reach_5_0 a_next x1 (0 : Int32) (fun r_1 => q_wp_X7_reach_5_0 a_next x1 ((1 : Int32) <<< (x2 &&& 31)) (fun r_2 => q_z_J6_bitCount_0f7a4_0 ((r_1 &&& (r_2 ^^^ (-1 : Int32))) &&& (((1 : Int32) <<< (x2 &&& 31)) ^^^ (-1 : Int32))) (fun r_3 => post r_3)))
set_option maxRecDepth 20000 in
theorem t_wp_X7_muted_0 {p : Program} {l : Launch} {e : Env} {s : State} {m : MethodId} {args : Array Value} {below : List Frame} {meth : Method} {c : Code} {E : zE} {qp ql qs : Nat} {a_heard : Nat → Int32} {a_walked : Nat → Int32} {a_total : Nat → Int32} {a_longest : Nat → Int32} {a_next : Nat → Int32} {a_cover : Nat → Int32} {a_now : Nat → Int32} {a_then : Nat → Int32} {lf_huts : Int32} {lf_singers : Int32} {lf_villages : Int32} {lf_dams : Int32} {lf_echoes : Int32} {lf_deep : Int32} {lf_slide : Int32} {la_heights : Nat → Int32} {la_ladders : Nat → Int32} {la_minutes : Nat → Int32} {la_echoFrom : Nat → Int32} {la_echoTo : Nat → Int32} {la_homes : Nat → Int32} {la_talls : Nat → Int32} {la_known : Nat → Int32} {sf_facts : Int32} {sa_heard : Nat → Int32} {sa_huts : Nat → Int32} {sa_minutes : Nat → Int32} {post : Int32 → Prop} {x1 : Int32} {x2 : Int32} {ls : Array Slot}
    (zc : zC p s m args meth c cX7_muted 5 RX7 (some .int))
    (hK : zK E s)
    (hM : wpW E qp ql qs a_heard a_walked a_total a_longest a_next a_cover a_now a_then lf_huts lf_singers lf_villages lf_dams lf_echoes lf_deep lf_slide la_heights la_ladders la_minutes la_echoFrom la_echoTo la_homes la_talls la_known sf_facts sa_heard sa_huts sa_minutes s.heap)
    (hl : lv_has ls 5 [(0, .ref qp), (1, .int x1), (2, .int x2)])
    (hw : q_wp_X7_muted_0 a_next x1 x2 post) :
    W p l e rm_wp_X7_muted s m args below meth c s.heap [] 0 0 (MQ below (vp_Si post) args s 0 0 (fun _ => False)) (F0 m 0 ls []) := by
  have hx := zc.1
  have hb := zc.2.1
  refine lv_iload_n hx hb dX7_muted_0 rfl (lv_at hl 1 rfl) ?_
  refine lv_aload_n hx hb dX7_muted_1 rfl (lv_at hl 0 rfl) ?_
  refine wpg_7_24_0 zc hK hM dX7_muted_2 ?_
  refine lv_iconst (v := (0 : Int32)) hx hb dX7_muted_5 (by decide) ?_
  refine zS_i [.int x1, .ref (qp + 5), .int (0 : Int32)] [] zc ky_X7_reach kz_X7_reach km_7_127 (c_wp_X7_reach_5 l hw) (wpPreS hK hM) rfl rfl hl.1 (Nat.le_of_ble_eq_true rfl) ⟨rfl, rfl⟩ ⟨Nat.le_of_ble_eq_true rfl, Nat.le_of_ble_eq_true rfl⟩ ⟨(Nat.zero_le _), (Nat.zero_le _)⟩ dX7_muted_6 (fun r_1 hw => ?_)
  refine lv_istore_n (lv' := [(3, .int r_1), (0, .ref qp), (1, .int x1), (2, .int x2)]) hx hb dX7_muted_9 rfl hl (by decide) rfl (fun ls hl => ?_)
  refine lv_iload_n hx hb dX7_muted_10 rfl (lv_at hl 2 rfl) ?_
  refine lv_aload_n hx hb dX7_muted_11 rfl (lv_at hl 1 rfl) ?_
  refine wpg_7_24_0 zc hK hM dX7_muted_12 ?_
  refine lv_iconst (v := (1 : Int32)) hx hb dX7_muted_15 (by decide) ?_
  refine lv_iload_n hx hb dX7_muted_16 rfl (lv_at hl 3 rfl) ?_
  refine lv_ishl hx hb dX7_muted_17 ?_
  refine zS_i [.int x1, .ref (qp + 5), .int ((1 : Int32) <<< (x2 &&& 31))] [] zc ky_X7_reach kz_X7_reach km_7_127 (c_wp_X7_reach_5 l hw) (wpPreS hK hM) rfl rfl hl.1 (Nat.le_of_ble_eq_true rfl) ⟨rfl, rfl⟩ ⟨Nat.le_of_ble_eq_true rfl, Nat.le_of_ble_eq_true rfl⟩ ⟨(Nat.zero_le _), (Nat.zero_le _)⟩ dX7_muted_18 (fun r_2 hw => ?_)
  refine lv_istore (lv' := [(4, .int r_2), (3, .int r_1), (0, .ref qp), (1, .int x1), (2, .int x2)]) hx hb dX7_muted_21 hl (by decide) rfl (fun ls hl => ?_)
  refine lv_iload_n hx hb dX7_muted_23 rfl (lv_at hl 1 rfl) ?_
  refine lv_iload hx hb dX7_muted_24 (lv_at hl 0 rfl) ?_
  refine lv_iconst (v := (-1 : Int32)) hx hb dX7_muted_26 (by decide) ?_
  refine lv_ixor hx hb dX7_muted_27 ?_
  refine lv_iand hx hb dX7_muted_28 ?_
  refine lv_iconst (v := (1 : Int32)) hx hb dX7_muted_29 (by decide) ?_
  refine lv_iload_n hx hb dX7_muted_30 rfl (lv_at hl 4 rfl) ?_
  refine lv_ishl hx hb dX7_muted_31 ?_
  refine lv_iconst (v := (-1 : Int32)) hx hb dX7_muted_32 (by decide) ?_
  refine lv_ixor hx hb dX7_muted_33 ?_
  refine lv_iand hx hb dX7_muted_34 ?_
  refine zS_i [.int ((r_1 &&& (r_2 ^^^ (-1 : Int32))) &&& (((1 : Int32) <<< (x2 &&& 31)) ^^^ (-1 : Int32)))] [] zc ky_J6_bitCount_0f7a4 kz_J6_bitCount_0f7a4 km_7_97 (c_z_J6_bitCount_0f7a4 l hw) (zPre0 _) rfl rfl hl.1 (Nat.le_of_ble_eq_true rfl) ⟨rfl, rfl⟩ ⟨Nat.le_of_ble_eq_true rfl, Nat.le_of_ble_eq_true rfl⟩ ⟨(Nat.zero_le _), (Nat.zero_le _)⟩ dX7_muted_35 (fun r_3 hw => ?_)
  exact zret_i zc hw dX7_muted_38
set_option maxRecDepth 20000 in
theorem c_wp_X7_muted (l : Launch) {E : zE} {qp ql qs : Nat} {a_heard : Nat → Int32} {a_walked : Nat → Int32} {a_total : Nat → Int32} {a_longest : Nat → Int32} {a_next : Nat → Int32} {a_cover : Nat → Int32} {a_now : Nat → Int32} {a_then : Nat → Int32} {lf_huts : Int32} {lf_singers : Int32} {lf_villages : Int32} {lf_dams : Int32} {lf_echoes : Int32} {lf_deep : Int32} {lf_slide : Int32} {la_heights : Nat → Int32} {la_ladders : Nat → Int32} {la_minutes : Nat → Int32} {la_echoFrom : Nat → Int32} {la_echoTo : Nat → Int32} {la_homes : Nat → Int32} {la_talls : Nat → Int32} {la_known : Nat → Int32} {sf_facts : Int32} {sa_heard : Nat → Int32} {sa_huts : Nat → Int32} {sa_minutes : Nat → Int32} {x1 : Int32} {x2 : Int32} {post : Int32 → Prop} (hw : q_wp_X7_muted_0 a_next x1 x2 post) : Met l yX7_muted (Cond.code yX7_muted cX7_muted 5 (some .int) :: zb) rm_wp_X7_muted (va_Pc [.ref qp, .int x1, .int x2] (fun U => wpW E qp ql qs a_heard a_walked a_total a_longest a_next a_cover a_now a_then lf_huts lf_singers lf_villages lf_dams lf_echoes lf_deep lf_slide la_heights la_ladders la_minutes la_echoFrom la_echoTo la_homes la_talls la_known sf_facts sa_heard sa_huts sa_minutes U.heap ∧ zK E U)) (vp_Si post) 0 0 (fun _ => False) := by
  refine Met.ofW (cc := cX7_muted) (maxL := 5) (ret := (some .int)) (by decide) rfl ?_
  intro p e s m args below meth c s₁ B hml hv
  obtain ⟨rfl, hM, hK⟩ := hv
  have zc := zc_of B hml
  have hl := lv_entry ([.ref qp, .int x1, .int x2]) (n := 5) (Nat.le_of_ble_eq_true rfl)
  rw [lg_entry_eq]
  generalize (lg_sl ([.ref qp, .int x1, .int x2]) ++ List.replicate (5 - (lg_sl ([.ref qp, .int x1, .int x2])).length) Slot.unset).toArray = ls at hl ⊢
  have hl : lv_has ls 5 [(0, .ref qp), (1, .int x1), (2, .int x2)] := hl
  exact t_wp_X7_muted_0 zc hK hM (lv_sub hl [0, 1, 2] rfl) hw
-- wp_X7_worst_9
abbrev rm_wp_X7_worst_9 : Room := { frames := 3, cells := 0, slots := 0, locals := 71 }
def q_wp_X7_worst_9_56 (P8 : Int32 → Int32 → Int32 → Prop) (a_next : Nat → Int32) (lf_huts : Int32) (lf_dams : Int32) (x2 : Int32) (x3 : Int32) (x4 : Int32) (x5 : Int32) (post : Int32 → Prop) : Prop :=
  ∀ v_1 : Int32, v_1 = x5 + (1 : Int32) → (P8 x3 x4 v_1)
def q_wp_X7_worst_9_8 (a_next : Nat → Int32) (lf_huts : Int32) (lf_dams : Int32) (x2 : Int32) (x3 : Int32) (x4 : Int32) (x5 : Int32) (post : Int32 → Prop) : Prop :=
  ∀ P8 : Int32 → Int32 → Int32 → Prop, (∀ (x3 : Int32) (x4 : Int32) (x5 : Int32), ((lf_huts ≤ x5 → (post x3)) ∧ (¬ lf_huts ≤ x5 → ((x5 = x2 → (q_wp_X7_worst_9_56 P8 a_next lf_huts lf_dams x2 x3 x4 x5 post)) ∧ (¬ x5 = x2 → (q_wl_X2_isDam_0 lf_dams x5 (fun r_1 => (¬ r_1 = 0 → (q_wp_X7_worst_9_56 P8 a_next lf_huts lf_dams x2 x3 x4 x5 post)) ∧ (r_1 = 0 → (q_wp_X7_muted_0 a_next x2 x5 (fun r_2 => (r_2 ≤ x4 → (q_wp_X7_worst_9_56 P8 a_next lf_huts lf_dams x2 x3 x4 x5 post)) ∧ (¬ r_2 ≤ x4 → (q_wp_X7_muted_0 a_next x2 x5 (fun r_3 => q_wp_X7_worst_9_56 P8 a_next lf_huts lf_dams x2 x5 r_3 x5 post)))))))))))) → P8 x3 x4 x5) → P8 x3 x4 x5
def q_wp_X7_worst_9_0 (a_next : Nat → Int32) (lf_huts : Int32) (lf_dams : Int32) (x2 : Int32) (post : Int32 → Prop) : Prop :=
  q_wp_X7_worst_9_8 a_next lf_huts lf_dams x2 (-1 : Int32) (-1 : Int32) (0 : Int32) post
set_option maxRecDepth 20000 in
theorem t_wp_X7_worst_9_56 {p : Program} {l : Launch} {e : Env} {s : State} {m : MethodId} {args : Array Value} {below : List Frame} {meth : Method} {c : Code} {E : zE} {qp ql qs : Nat} {a_heard : Nat → Int32} {a_walked : Nat → Int32} {a_total : Nat → Int32} {a_longest : Nat → Int32} {a_next : Nat → Int32} {a_cover : Nat → Int32} {a_now : Nat → Int32} {a_then : Nat → Int32} {lf_huts : Int32} {lf_singers : Int32} {lf_villages : Int32} {lf_dams : Int32} {lf_echoes : Int32} {lf_deep : Int32} {lf_slide : Int32} {la_heights : Nat → Int32} {la_ladders : Nat → Int32} {la_minutes : Nat → Int32} {la_echoFrom : Nat → Int32} {la_echoTo : Nat → Int32} {la_homes : Nat → Int32} {la_talls : Nat → Int32} {la_known : Nat → Int32} {sf_facts : Int32} {sa_heard : Nat → Int32} {sa_huts : Nat → Int32} {sa_minutes : Nat → Int32} {P8 : Int32 → Int32 → Int32 → Prop} {post : Int32 → Prop} {x2 : Int32} {x3 : Int32} {x4 : Int32} {x5 : Int32} {ls : Array Slot}
    (zc : zC p s m args meth c cX7_worst 6 RX7 (some .int))
    (hK : zK E s)
    (hM : wpW E qp ql qs a_heard a_walked a_total a_longest a_next a_cover a_now a_then lf_huts lf_singers lf_villages lf_dams lf_echoes lf_deep lf_slide la_heights la_ladders la_minutes la_echoFrom la_echoTo la_homes la_talls la_known sf_facts sa_heard sa_huts sa_minutes s.heap)
    (hP8 : ∀ (x3 : Int32) (x4 : Int32) (x5 : Int32) (ls : Array Slot), P8 x3 x4 x5 → lv_has ls 6 [(0, .ref qp), (1, .ref ql), (2, .int x2), (3, .int x3), (4, .int x4), (5, .int x5)] → W p l e rm_wp_X7_worst_9 s m args below meth c s.heap [] 0 0 (MQ below (vp_Si post) args s 0 0 (fun _ => False)) (F0 m 8 ls []))
    (hl : lv_has ls 6 [(0, .ref qp), (1, .ref ql), (2, .int x2), (3, .int x3), (4, .int x4), (5, .int x5)])
    (hw : q_wp_X7_worst_9_56 P8 a_next lf_huts lf_dams x2 x3 x4 x5 post) :
    W p l e rm_wp_X7_worst_9 s m args below meth c s.heap [] 0 0 (MQ below (vp_Si post) args s 0 0 (fun _ => False)) (F0 m 56 ls []) := by
  have hx := zc.1
  have hb := zc.2.1
  obtain ⟨v_1, ev_1⟩ : ∃ y : Int32, y = x5 + (1 : Int32) := ⟨_, rfl⟩
  have hw := hw v_1 ev_1
  refine lv_iinc (v := v_1) (k := 5) (lv' := [(5, .int v_1), (0, .ref qp), (1, .ref ql), (2, .int x2), (3, .int x3), (4, .int x4)]) hx hb dX7_worst_56 hl rfl (by rw [ev_1]; rfl) (by decide) rfl (fun ls hl => ?_)
  refine lv_goto (tgt := 8) hx hb dX7_worst_59 (by decide) ?_
  exact hP8 _ _ _ _ hw (lv_sub hl [1, 2, 3, 4, 5, 0] rfl)
set_option maxRecDepth 20000 in
theorem t_wp_X7_worst_9_8 {p : Program} {l : Launch} {e : Env} {s : State} {m : MethodId} {args : Array Value} {below : List Frame} {meth : Method} {c : Code} {E : zE} {qp ql qs : Nat} {a_heard : Nat → Int32} {a_walked : Nat → Int32} {a_total : Nat → Int32} {a_longest : Nat → Int32} {a_next : Nat → Int32} {a_cover : Nat → Int32} {a_now : Nat → Int32} {a_then : Nat → Int32} {lf_huts : Int32} {lf_singers : Int32} {lf_villages : Int32} {lf_dams : Int32} {lf_echoes : Int32} {lf_deep : Int32} {lf_slide : Int32} {la_heights : Nat → Int32} {la_ladders : Nat → Int32} {la_minutes : Nat → Int32} {la_echoFrom : Nat → Int32} {la_echoTo : Nat → Int32} {la_homes : Nat → Int32} {la_talls : Nat → Int32} {la_known : Nat → Int32} {sf_facts : Int32} {sa_heard : Nat → Int32} {sa_huts : Nat → Int32} {sa_minutes : Nat → Int32} {post : Int32 → Prop} {x2 : Int32} {x3 : Int32} {x4 : Int32} {x5 : Int32} {ls : Array Slot}
    (zc : zC p s m args meth c cX7_worst 6 RX7 (some .int))
    (hK : zK E s)
    (hM : wpW E qp ql qs a_heard a_walked a_total a_longest a_next a_cover a_now a_then lf_huts lf_singers lf_villages lf_dams lf_echoes lf_deep lf_slide la_heights la_ladders la_minutes la_echoFrom la_echoTo la_homes la_talls la_known sf_facts sa_heard sa_huts sa_minutes s.heap)
    (hl : lv_has ls 6 [(0, .ref qp), (1, .ref ql), (2, .int x2), (3, .int x3), (4, .int x4), (5, .int x5)])
    (hw : q_wp_X7_worst_9_8 a_next lf_huts lf_dams x2 x3 x4 x5 post) :
    W p l e rm_wp_X7_worst_9 s m args below meth c s.heap [] 0 0 (MQ below (vp_Si post) args s 0 0 (fun _ => False)) (F0 m 8 ls []) := by
  have hx := zc.1
  have hb := zc.2.1
  refine hw (fun x3 x4 x5 => ∀ (ls : Array Slot), lv_has ls 6 [(0, .ref qp), (1, .ref ql), (2, .int x2), (3, .int x3), (4, .int x4), (5, .int x5)] → W p l e rm_wp_X7_worst_9 s m args below meth c s.heap [] 0 0 (MQ below (vp_Si post) args s 0 0 (fun _ => False)) (F0 m 8 ls [])) ?_ _ hl
  intro x3 x4 x5 hw ls hl
  refine lv_iload hx hb dX7_worst_8 (lv_at hl 5 rfl) ?_
  refine lv_aload_n hx hb dX7_worst_10 rfl (lv_at hl 1 rfl) ?_
  refine wpg_7_42_9 zc hK hM dX7_worst_11 ?_
  refine lv_icmp_ge (tgt := 62) hx hb dX7_worst_14 (by decide) (fun hc => ?_) (fun hc => ?_)
  · have hw := hw.1 hc
    refine lv_iload_n hx hb dX7_worst_62 rfl (lv_at hl 3 rfl) ?_
    exact zret_i zc hw dX7_worst_63
  · have hw := hw.2 hc
    refine lv_iload hx hb dX7_worst_17 (lv_at hl 5 rfl) ?_
    refine lv_iload_n hx hb dX7_worst_19 rfl (lv_at hl 2 rfl) ?_
    refine lv_icmp_eq (tgt := 56) hx hb dX7_worst_20 (by decide) (fun hc => ?_) (fun hc => ?_)
    · have hw := hw.1 hc
      exact t_wp_X7_worst_9_56 zc hK hM (fun _ _ _ ls h hl => h ls hl) (lv_sub hl [0, 1, 2, 3, 4, 5] rfl) hw
    · have hw := hw.2 hc
      refine lv_aload_n hx hb dX7_worst_23 rfl (lv_at hl 1 rfl) ?_
      refine lv_iload hx hb dX7_worst_24 (lv_at hl 5 rfl) ?_
      refine zV_i [.int x5] [] zc ky_X2_isDam kz_X2_isDam km_7_55 (c_wl_X2_isDam l hw) (wlPreV0 hK (pj_wp_wl_9 hM)) rfl rfl hl.1 (Nat.le_of_ble_eq_true rfl) ⟨rfl, rfl⟩ ⟨Nat.le_of_ble_eq_true rfl, Nat.le_of_ble_eq_true rfl⟩ ⟨(Nat.zero_le _), (Nat.zero_le _)⟩ dX7_worst_26 (fun r_1 hw => ?_)
      refine lv_if_ne (tgt := 56) hx hb dX7_worst_29 (by decide) (fun hc => ?_) (fun hc => ?_)
      · have hw := hw.1 hc
        exact t_wp_X7_worst_9_56 zc hK hM (fun _ _ _ ls h hl => h ls hl) (lv_sub hl [0, 1, 2, 3, 4, 5] rfl) hw
      · have hw := hw.2 hc
        refine lv_aload_n hx hb dX7_worst_32 rfl (lv_at hl 0 rfl) ?_
        refine lv_iload_n hx hb dX7_worst_33 rfl (lv_at hl 2 rfl) ?_
        refine lv_iload hx hb dX7_worst_34 (lv_at hl 5 rfl) ?_
        refine zV_i [.int x2, .int x5] [] zc ky_X7_muted kz_X7_muted km_7_131 (c_wp_X7_muted l hw) (wpPreV0 hK hM) rfl rfl hl.1 (Nat.le_of_ble_eq_true rfl) ⟨rfl, rfl⟩ ⟨Nat.le_of_ble_eq_true rfl, Nat.le_of_ble_eq_true rfl⟩ ⟨(Nat.zero_le _), (Nat.zero_le _)⟩ dX7_worst_36 (fun r_2 hw => ?_)
        refine lv_iload hx hb dX7_worst_39 (lv_at hl 4 rfl) ?_
        refine lv_icmp_le (tgt := 56) hx hb dX7_worst_41 (by decide) (fun hc => ?_) (fun hc => ?_)
        · have hw := hw.1 hc
          exact t_wp_X7_worst_9_56 zc hK hM (fun _ _ _ ls h hl => h ls hl) (lv_sub hl [0, 1, 2, 3, 4, 5] rfl) hw
        · have hw := hw.2 hc
          refine lv_iload hx hb dX7_worst_44 (lv_at hl 5 rfl) ?_
          refine lv_istore_n (lv' := [(3, .int x5), (0, .ref qp), (1, .ref ql), (2, .int x2), (4, .int x4), (5, .int x5)]) hx hb dX7_worst_46 rfl hl (by decide) rfl (fun ls hl => ?_)
          refine lv_aload_n hx hb dX7_worst_47 rfl (lv_at hl 1 rfl) ?_
          refine lv_iload_n hx hb dX7_worst_48 rfl (lv_at hl 3 rfl) ?_
          refine lv_iload hx hb dX7_worst_49 (lv_at hl 5 rfl) ?_
          refine zV_i [.int x2, .int x5] [] zc ky_X7_muted kz_X7_muted km_7_131 (c_wp_X7_muted l hw) (wpPreV0 hK hM) rfl rfl hl.1 (Nat.le_of_ble_eq_true rfl) ⟨rfl, rfl⟩ ⟨Nat.le_of_ble_eq_true rfl, Nat.le_of_ble_eq_true rfl⟩ ⟨(Nat.zero_le _), (Nat.zero_le _)⟩ dX7_worst_51 (fun r_3 hw => ?_)
          refine lv_istore (lv' := [(4, .int r_3), (3, .int x5), (0, .ref qp), (1, .ref ql), (2, .int x2), (5, .int x5)]) hx hb dX7_worst_54 hl (by decide) rfl (fun ls hl => ?_)
          exact t_wp_X7_worst_9_56 zc hK hM (fun _ _ _ ls h hl => h ls hl) (lv_sub hl [2, 3, 4, 1, 0, 5] rfl) hw
set_option maxRecDepth 20000 in
theorem t_wp_X7_worst_9_0 {p : Program} {l : Launch} {e : Env} {s : State} {m : MethodId} {args : Array Value} {below : List Frame} {meth : Method} {c : Code} {E : zE} {qp ql qs : Nat} {a_heard : Nat → Int32} {a_walked : Nat → Int32} {a_total : Nat → Int32} {a_longest : Nat → Int32} {a_next : Nat → Int32} {a_cover : Nat → Int32} {a_now : Nat → Int32} {a_then : Nat → Int32} {lf_huts : Int32} {lf_singers : Int32} {lf_villages : Int32} {lf_dams : Int32} {lf_echoes : Int32} {lf_deep : Int32} {lf_slide : Int32} {la_heights : Nat → Int32} {la_ladders : Nat → Int32} {la_minutes : Nat → Int32} {la_echoFrom : Nat → Int32} {la_echoTo : Nat → Int32} {la_homes : Nat → Int32} {la_talls : Nat → Int32} {la_known : Nat → Int32} {sf_facts : Int32} {sa_heard : Nat → Int32} {sa_huts : Nat → Int32} {sa_minutes : Nat → Int32} {post : Int32 → Prop} {x2 : Int32} {ls : Array Slot}
    (zc : zC p s m args meth c cX7_worst 6 RX7 (some .int))
    (hK : zK E s)
    (hM : wpW E qp ql qs a_heard a_walked a_total a_longest a_next a_cover a_now a_then lf_huts lf_singers lf_villages lf_dams lf_echoes lf_deep lf_slide la_heights la_ladders la_minutes la_echoFrom la_echoTo la_homes la_talls la_known sf_facts sa_heard sa_huts sa_minutes s.heap)
    (hl : lv_has ls 6 [(0, .ref qp), (1, .ref ql), (2, .int x2)])
    (hw : q_wp_X7_worst_9_0 a_next lf_huts lf_dams x2 post) :
    W p l e rm_wp_X7_worst_9 s m args below meth c s.heap [] 0 0 (MQ below (vp_Si post) args s 0 0 (fun _ => False)) (F0 m 0 ls []) := by
  have hx := zc.1
  have hb := zc.2.1
  refine lv_iconst (v := (-1 : Int32)) hx hb dX7_worst_0 (by decide) ?_
  refine lv_istore_n (lv' := [(3, .int (-1 : Int32)), (0, .ref qp), (1, .ref ql), (2, .int x2)]) hx hb dX7_worst_1 rfl hl (by decide) rfl (fun ls hl => ?_)
  refine lv_iconst (v := (-1 : Int32)) hx hb dX7_worst_2 (by decide) ?_
  refine lv_istore (lv' := [(4, .int (-1 : Int32)), (3, .int (-1 : Int32)), (0, .ref qp), (1, .ref ql), (2, .int x2)]) hx hb dX7_worst_3 hl (by decide) rfl (fun ls hl => ?_)
  refine lv_iconst (v := (0 : Int32)) hx hb dX7_worst_5 (by decide) ?_
  refine lv_istore (lv' := [(5, .int (0 : Int32)), (4, .int (-1 : Int32)), (3, .int (-1 : Int32)), (0, .ref qp), (1, .ref ql), (2, .int x2)]) hx hb dX7_worst_6 hl (by decide) rfl (fun ls hl => ?_)
  exact t_wp_X7_worst_9_8 zc hK hM  (lv_sub hl [3, 4, 5, 2, 1, 0] rfl) hw
set_option maxRecDepth 20000 in
theorem c_wp_X7_worst_9 (l : Launch) {E : zE} {qp ql qs : Nat} {a_heard : Nat → Int32} {a_walked : Nat → Int32} {a_total : Nat → Int32} {a_longest : Nat → Int32} {a_next : Nat → Int32} {a_cover : Nat → Int32} {a_now : Nat → Int32} {a_then : Nat → Int32} {lf_huts : Int32} {lf_singers : Int32} {lf_villages : Int32} {lf_dams : Int32} {lf_echoes : Int32} {lf_deep : Int32} {lf_slide : Int32} {la_heights : Nat → Int32} {la_ladders : Nat → Int32} {la_minutes : Nat → Int32} {la_echoFrom : Nat → Int32} {la_echoTo : Nat → Int32} {la_homes : Nat → Int32} {la_talls : Nat → Int32} {la_known : Nat → Int32} {sf_facts : Int32} {sa_heard : Nat → Int32} {sa_huts : Nat → Int32} {sa_minutes : Nat → Int32} {x2 : Int32} {post : Int32 → Prop} (hw : q_wp_X7_worst_9_0 a_next lf_huts lf_dams x2 post) : Met l yX7_worst (Cond.code yX7_worst cX7_worst 6 (some .int) :: zb) rm_wp_X7_worst_9 (va_Pc [.ref qp, .ref ql, .int x2] (fun U => wpW E qp ql qs a_heard a_walked a_total a_longest a_next a_cover a_now a_then lf_huts lf_singers lf_villages lf_dams lf_echoes lf_deep lf_slide la_heights la_ladders la_minutes la_echoFrom la_echoTo la_homes la_talls la_known sf_facts sa_heard sa_huts sa_minutes U.heap ∧ zK E U)) (vp_Si post) 0 0 (fun _ => False) := by
  refine Met.ofW (cc := cX7_worst) (maxL := 6) (ret := (some .int)) (by decide) rfl ?_
  intro p e s m args below meth c s₁ B hml hv
  obtain ⟨rfl, hM, hK⟩ := hv
  have zc := zc_of B hml
  have hl := lv_entry ([.ref qp, .ref ql, .int x2]) (n := 6) (Nat.le_of_ble_eq_true rfl)
  rw [lg_entry_eq]
  generalize (lg_sl ([.ref qp, .ref ql, .int x2]) ++ List.replicate (6 - (lg_sl ([.ref qp, .ref ql, .int x2])).length) Slot.unset).toArray = ls at hl ⊢
  have hl : lv_has ls 6 [(0, .ref qp), (1, .ref ql), (2, .int x2)] := hl
  exact t_wp_X7_worst_9_0 zc hK hM (lv_sub hl [0, 1, 2] rfl) hw
-- wp_X7_agrees_18
abbrev rm_wp_X7_agrees_18 : Room := { frames := 0, cells := 0, slots := 0, locals := 0 }
def q_wp_X7_agrees_18_59 (P2 : Int32 → Prop) (a_heard : Nat → Int32) (sf_facts : Int32) (sa_heard : Nat → Int32) (sa_huts : Nat → Int32) (sa_minutes : Nat → Int32) (x2 : Int32) (x3 : Int32) (y0 : Int32) (y1 : Int32) (post : Int32 → Prop) : Prop :=
  (y0 = y1 → (∀ v_1 : Int32, v_1 = x3 + (1 : Int32) → (P2 v_1))) ∧ (¬ y0 = y1 → (post (0 : Int32)))
def q_wp_X7_agrees_18_40 (P2 : Int32 → Prop) (a_heard : Nat → Int32) (sf_facts : Int32) (sa_heard : Nat → Int32) (sa_huts : Nat → Int32) (sa_minutes : Nat → Int32) (x2 : Int32) (x3 : Int32) (y0 : Int32) (post : Int32 → Prop) : Prop :=
  vp_in x3 10 ∧ ((¬ (sa_heard (Int32.toNatClampNeg x3)) = (1 : Int32) → (q_wp_X7_agrees_18_59 P2 a_heard sf_facts sa_heard sa_huts sa_minutes x2 x3 y0 (0 : Int32) post)) ∧ ((sa_heard (Int32.toNatClampNeg x3)) = (1 : Int32) → (q_wp_X7_agrees_18_59 P2 a_heard sf_facts sa_heard sa_huts sa_minutes x2 x3 y0 (1 : Int32) post)))
def q_wp_X7_agrees_18_2 (a_heard : Nat → Int32) (sf_facts : Int32) (sa_heard : Nat → Int32) (sa_huts : Nat → Int32) (sa_minutes : Nat → Int32) (x2 : Int32) (x3 : Int32) (post : Int32 → Prop) : Prop :=
  ∀ P2 : Int32 → Prop, (∀ (x3 : Int32), ((sf_facts ≤ x3 → (post (1 : Int32))) ∧ (¬ sf_facts ≤ x3 → (vp_in x3 10 ∧ (vp_in ((x2 * (9 : Int32)) + (sa_huts (Int32.toNatClampNeg x3))) 81 ∧ (vp_in x3 10 ∧ (((sa_minutes (Int32.toNatClampNeg x3)) < (a_heard (Int32.toNatClampNeg ((x2 * (9 : Int32)) + (sa_huts (Int32.toNatClampNeg x3))))) → (q_wp_X7_agrees_18_40 P2 a_heard sf_facts sa_heard sa_huts sa_minutes x2 x3 (0 : Int32) post)) ∧ (¬ (sa_minutes (Int32.toNatClampNeg x3)) < (a_heard (Int32.toNatClampNeg ((x2 * (9 : Int32)) + (sa_huts (Int32.toNatClampNeg x3))))) → (q_wp_X7_agrees_18_40 P2 a_heard sf_facts sa_heard sa_huts sa_minutes x2 x3 (1 : Int32) post)))))))) → P2 x3) → P2 x3
def q_wp_X7_agrees_18_0 (a_heard : Nat → Int32) (sf_facts : Int32) (sa_heard : Nat → Int32) (sa_huts : Nat → Int32) (sa_minutes : Nat → Int32) (x2 : Int32) (post : Int32 → Prop) : Prop :=
  q_wp_X7_agrees_18_2 a_heard sf_facts sa_heard sa_huts sa_minutes x2 (0 : Int32) post
set_option maxRecDepth 20000 in
theorem t_wp_X7_agrees_18_59 {p : Program} {l : Launch} {e : Env} {s : State} {m : MethodId} {args : Array Value} {below : List Frame} {meth : Method} {c : Code} {E : zE} {qp ql qs : Nat} {a_heard : Nat → Int32} {a_walked : Nat → Int32} {a_total : Nat → Int32} {a_longest : Nat → Int32} {a_next : Nat → Int32} {a_cover : Nat → Int32} {a_now : Nat → Int32} {a_then : Nat → Int32} {lf_huts : Int32} {lf_singers : Int32} {lf_villages : Int32} {lf_dams : Int32} {lf_echoes : Int32} {lf_deep : Int32} {lf_slide : Int32} {la_heights : Nat → Int32} {la_ladders : Nat → Int32} {la_minutes : Nat → Int32} {la_echoFrom : Nat → Int32} {la_echoTo : Nat → Int32} {la_homes : Nat → Int32} {la_talls : Nat → Int32} {la_known : Nat → Int32} {sf_facts : Int32} {sa_heard : Nat → Int32} {sa_huts : Nat → Int32} {sa_minutes : Nat → Int32} {P2 : Int32 → Prop} {post : Int32 → Prop} {x2 : Int32} {x3 : Int32} {y0 : Int32} {y1 : Int32} {ls : Array Slot}
    (zc : zC p s m args meth c cX7_agrees 5 RX7 (some .boolean))
    (hK : zK E s)
    (hM : wpW E qp ql qs a_heard a_walked a_total a_longest a_next a_cover a_now a_then lf_huts lf_singers lf_villages lf_dams lf_echoes lf_deep lf_slide la_heights la_ladders la_minutes la_echoFrom la_echoTo la_homes la_talls la_known sf_facts sa_heard sa_huts sa_minutes s.heap)
    (hP2 : ∀ (x3 : Int32) (ls : Array Slot), P2 x3 → lv_has ls 5 [(0, .ref qp), (1, .ref qs), (2, .int x2), (3, .int x3)] → W p l e rm_wp_X7_agrees_18 s m args below meth c s.heap [] 0 0 (MQ below (vp_Si post) args s 0 0 (fun _ => False)) (F0 m 2 ls []))
    (hl : lv_has ls 5 [(0, .ref qp), (1, .ref qs), (2, .int x2), (3, .int x3)])
    (hw : q_wp_X7_agrees_18_59 P2 a_heard sf_facts sa_heard sa_huts sa_minutes x2 x3 y0 y1 post) :
    W p l e rm_wp_X7_agrees_18 s m args below meth c s.heap [] 0 0 (MQ below (vp_Si post) args s 0 0 (fun _ => False)) (F0 m 59 ls [.int y1, .int y0]) := by
  have hx := zc.1
  have hb := zc.2.1
  refine lv_icmp_eq (tgt := 64) hx hb dX7_agrees_59 (by decide) (fun hc => ?_) (fun hc => ?_)
  · have hw := hw.1 hc
    obtain ⟨v_1, ev_1⟩ : ∃ y : Int32, y = x3 + (1 : Int32) := ⟨_, rfl⟩
    have hw := hw v_1 ev_1
    refine lv_iinc (v := v_1) (k := 3) (lv' := [(3, .int v_1), (0, .ref qp), (1, .ref qs), (2, .int x2)]) hx hb dX7_agrees_64 hl rfl (by rw [ev_1]; rfl) (by decide) rfl (fun ls hl => ?_)
    refine lv_goto (tgt := 2) hx hb dX7_agrees_67 (by decide) ?_
    exact hP2 _ _ hw (lv_sub hl [1, 2, 3, 0] rfl)
  · have hw := hw.2 hc
    refine lv_iconst (v := (0 : Int32)) hx hb dX7_agrees_62 (by decide) ?_
    exact zret_z zc rfl hw dX7_agrees_63
set_option maxRecDepth 20000 in
theorem t_wp_X7_agrees_18_40 {p : Program} {l : Launch} {e : Env} {s : State} {m : MethodId} {args : Array Value} {below : List Frame} {meth : Method} {c : Code} {E : zE} {qp ql qs : Nat} {a_heard : Nat → Int32} {a_walked : Nat → Int32} {a_total : Nat → Int32} {a_longest : Nat → Int32} {a_next : Nat → Int32} {a_cover : Nat → Int32} {a_now : Nat → Int32} {a_then : Nat → Int32} {lf_huts : Int32} {lf_singers : Int32} {lf_villages : Int32} {lf_dams : Int32} {lf_echoes : Int32} {lf_deep : Int32} {lf_slide : Int32} {la_heights : Nat → Int32} {la_ladders : Nat → Int32} {la_minutes : Nat → Int32} {la_echoFrom : Nat → Int32} {la_echoTo : Nat → Int32} {la_homes : Nat → Int32} {la_talls : Nat → Int32} {la_known : Nat → Int32} {sf_facts : Int32} {sa_heard : Nat → Int32} {sa_huts : Nat → Int32} {sa_minutes : Nat → Int32} {P2 : Int32 → Prop} {post : Int32 → Prop} {x2 : Int32} {x3 : Int32} {y0 : Int32} {ls : Array Slot}
    (zc : zC p s m args meth c cX7_agrees 5 RX7 (some .boolean))
    (hK : zK E s)
    (hM : wpW E qp ql qs a_heard a_walked a_total a_longest a_next a_cover a_now a_then lf_huts lf_singers lf_villages lf_dams lf_echoes lf_deep lf_slide la_heights la_ladders la_minutes la_echoFrom la_echoTo la_homes la_talls la_known sf_facts sa_heard sa_huts sa_minutes s.heap)
    (hP2 : ∀ (x3 : Int32) (ls : Array Slot), P2 x3 → lv_has ls 5 [(0, .ref qp), (1, .ref qs), (2, .int x2), (3, .int x3)] → W p l e rm_wp_X7_agrees_18 s m args below meth c s.heap [] 0 0 (MQ below (vp_Si post) args s 0 0 (fun _ => False)) (F0 m 2 ls []))
    (hl : lv_has ls 5 [(0, .ref qp), (1, .ref qs), (2, .int x2), (3, .int x3)])
    (hw : q_wp_X7_agrees_18_40 P2 a_heard sf_facts sa_heard sa_huts sa_minutes x2 x3 y0 post) :
    W p l e rm_wp_X7_agrees_18 s m args below meth c s.heap [] 0 0 (MQ below (vp_Si post) args s 0 0 (fun _ => False)) (F0 m 40 ls [.int y0]) := by
  have hx := zc.1
  have hb := zc.2.1
  refine lv_istore (lv' := [(4, .int y0), (0, .ref qp), (1, .ref qs), (2, .int x2), (3, .int x3)]) hx hb dX7_agrees_40 hl (by decide) rfl (fun ls hl => ?_)
  refine lv_iload hx hb dX7_agrees_42 (lv_at hl 0 rfl) ?_
  refine lv_aload_n hx hb dX7_agrees_44 rfl (lv_at hl 2 rfl) ?_
  refine wpg_7_146_18 zc hK hM dX7_agrees_45 ?_
  refine lv_iload_n hx hb dX7_agrees_48 rfl (lv_at hl 4 rfl) ?_
  refine wpld_19 zc hK hM hw.1 dX7_agrees_49 ?_
  have hw := hw.2
  refine lv_iconst (v := (1 : Int32)) hx hb dX7_agrees_50 (by decide) ?_
  refine lv_icmp_ne (tgt := 58) hx hb dX7_agrees_51 (by decide) (fun hc => ?_) (fun hc => ?_)
  · have hw := hw.1 hc
    refine lv_iconst (v := (0 : Int32)) hx hb dX7_agrees_58 (by decide) ?_
    exact t_wp_X7_agrees_18_59 zc hK hM hP2 (lv_sub hl [1, 2, 3, 4] rfl) hw
  · have hw := hw.2 hc
    refine lv_iconst (v := (1 : Int32)) hx hb dX7_agrees_54 (by decide) ?_
    refine lv_goto (tgt := 59) hx hb dX7_agrees_55 (by decide) ?_
    exact t_wp_X7_agrees_18_59 zc hK hM hP2 (lv_sub hl [1, 2, 3, 4] rfl) hw
set_option maxRecDepth 20000 in
theorem t_wp_X7_agrees_18_2 {p : Program} {l : Launch} {e : Env} {s : State} {m : MethodId} {args : Array Value} {below : List Frame} {meth : Method} {c : Code} {E : zE} {qp ql qs : Nat} {a_heard : Nat → Int32} {a_walked : Nat → Int32} {a_total : Nat → Int32} {a_longest : Nat → Int32} {a_next : Nat → Int32} {a_cover : Nat → Int32} {a_now : Nat → Int32} {a_then : Nat → Int32} {lf_huts : Int32} {lf_singers : Int32} {lf_villages : Int32} {lf_dams : Int32} {lf_echoes : Int32} {lf_deep : Int32} {lf_slide : Int32} {la_heights : Nat → Int32} {la_ladders : Nat → Int32} {la_minutes : Nat → Int32} {la_echoFrom : Nat → Int32} {la_echoTo : Nat → Int32} {la_homes : Nat → Int32} {la_talls : Nat → Int32} {la_known : Nat → Int32} {sf_facts : Int32} {sa_heard : Nat → Int32} {sa_huts : Nat → Int32} {sa_minutes : Nat → Int32} {post : Int32 → Prop} {x2 : Int32} {x3 : Int32} {ls : Array Slot}
    (zc : zC p s m args meth c cX7_agrees 5 RX7 (some .boolean))
    (hK : zK E s)
    (hM : wpW E qp ql qs a_heard a_walked a_total a_longest a_next a_cover a_now a_then lf_huts lf_singers lf_villages lf_dams lf_echoes lf_deep lf_slide la_heights la_ladders la_minutes la_echoFrom la_echoTo la_homes la_talls la_known sf_facts sa_heard sa_huts sa_minutes s.heap)
    (hl : lv_has ls 5 [(0, .ref qp), (1, .ref qs), (2, .int x2), (3, .int x3)])
    (hw : q_wp_X7_agrees_18_2 a_heard sf_facts sa_heard sa_huts sa_minutes x2 x3 post) :
    W p l e rm_wp_X7_agrees_18 s m args below meth c s.heap [] 0 0 (MQ below (vp_Si post) args s 0 0 (fun _ => False)) (F0 m 2 ls []) := by
  have hx := zc.1
  have hb := zc.2.1
  refine hw (fun x3 => ∀ (ls : Array Slot), lv_has ls 5 [(0, .ref qp), (1, .ref qs), (2, .int x2), (3, .int x3)] → W p l e rm_wp_X7_agrees_18 s m args below meth c s.heap [] 0 0 (MQ below (vp_Si post) args s 0 0 (fun _ => False)) (F0 m 2 ls [])) ?_ _ hl
  intro x3 hw ls hl
  refine lv_iload_n hx hb dX7_agrees_2 rfl (lv_at hl 3 rfl) ?_
  refine lv_aload_n hx hb dX7_agrees_3 rfl (lv_at hl 1 rfl) ?_
  refine wpg_7_138_18 zc hK hM dX7_agrees_4 ?_
  refine lv_icmp_ge (tgt := 70) hx hb dX7_agrees_7 (by decide) (fun hc => ?_) (fun hc => ?_)
  · have hw := hw.1 hc
    refine lv_iconst (v := (1 : Int32)) hx hb dX7_agrees_70 (by decide) ?_
    exact zret_z zc rfl hw dX7_agrees_71
  · have hw := hw.2 hc
    refine lv_aload_n hx hb dX7_agrees_10 rfl (lv_at hl 0 rfl) ?_
    refine wpg_7_9_0 zc hK hM dX7_agrees_11 ?_
    refine lv_iload_n hx hb dX7_agrees_14 rfl (lv_at hl 2 rfl) ?_
    refine lv_bipush (v := (9 : Int32)) hx hb dX7_agrees_15 (by decide) ?_
    refine lv_imul hx hb dX7_agrees_17 ?_
    refine lv_aload_n hx hb dX7_agrees_18 rfl (lv_at hl 1 rfl) ?_
    refine wpg_7_143_18 zc hK hM dX7_agrees_19 ?_
    refine lv_iload_n hx hb dX7_agrees_22 rfl (lv_at hl 3 rfl) ?_
    refine wpld_20 zc hK hM hw.1 dX7_agrees_23 ?_
    have hw := hw.2
    refine lv_iadd hx hb dX7_agrees_24 ?_
    refine wpld_1 zc hK hM hw.1 dX7_agrees_25 ?_
    have hw := hw.2
    refine lv_aload_n hx hb dX7_agrees_26 rfl (lv_at hl 1 rfl) ?_
    refine wpg_7_145_18 zc hK hM dX7_agrees_27 ?_
    refine lv_iload_n hx hb dX7_agrees_30 rfl (lv_at hl 3 rfl) ?_
    refine wpld_21 zc hK hM hw.1 dX7_agrees_31 ?_
    have hw := hw.2
    refine lv_icmp_gt (tgt := 39) hx hb dX7_agrees_32 (by decide) (fun hc => ?_) (fun hc => ?_)
    · have hw := hw.1 hc
      refine lv_iconst (v := (0 : Int32)) hx hb dX7_agrees_39 (by decide) ?_
      exact t_wp_X7_agrees_18_40 zc hK hM (fun _ ls h hl => h ls hl) (lv_sub hl [0, 1, 2, 3] rfl) hw
    · have hw := hw.2 hc
      refine lv_iconst (v := (1 : Int32)) hx hb dX7_agrees_35 (by decide) ?_
      refine lv_goto (tgt := 40) hx hb dX7_agrees_36 (by decide) ?_
      exact t_wp_X7_agrees_18_40 zc hK hM (fun _ ls h hl => h ls hl) (lv_sub hl [0, 1, 2, 3] rfl) hw
set_option maxRecDepth 20000 in
theorem t_wp_X7_agrees_18_0 {p : Program} {l : Launch} {e : Env} {s : State} {m : MethodId} {args : Array Value} {below : List Frame} {meth : Method} {c : Code} {E : zE} {qp ql qs : Nat} {a_heard : Nat → Int32} {a_walked : Nat → Int32} {a_total : Nat → Int32} {a_longest : Nat → Int32} {a_next : Nat → Int32} {a_cover : Nat → Int32} {a_now : Nat → Int32} {a_then : Nat → Int32} {lf_huts : Int32} {lf_singers : Int32} {lf_villages : Int32} {lf_dams : Int32} {lf_echoes : Int32} {lf_deep : Int32} {lf_slide : Int32} {la_heights : Nat → Int32} {la_ladders : Nat → Int32} {la_minutes : Nat → Int32} {la_echoFrom : Nat → Int32} {la_echoTo : Nat → Int32} {la_homes : Nat → Int32} {la_talls : Nat → Int32} {la_known : Nat → Int32} {sf_facts : Int32} {sa_heard : Nat → Int32} {sa_huts : Nat → Int32} {sa_minutes : Nat → Int32} {post : Int32 → Prop} {x2 : Int32} {ls : Array Slot}
    (zc : zC p s m args meth c cX7_agrees 5 RX7 (some .boolean))
    (hK : zK E s)
    (hM : wpW E qp ql qs a_heard a_walked a_total a_longest a_next a_cover a_now a_then lf_huts lf_singers lf_villages lf_dams lf_echoes lf_deep lf_slide la_heights la_ladders la_minutes la_echoFrom la_echoTo la_homes la_talls la_known sf_facts sa_heard sa_huts sa_minutes s.heap)
    (hl : lv_has ls 5 [(0, .ref qp), (1, .ref qs), (2, .int x2)])
    (hw : q_wp_X7_agrees_18_0 a_heard sf_facts sa_heard sa_huts sa_minutes x2 post) :
    W p l e rm_wp_X7_agrees_18 s m args below meth c s.heap [] 0 0 (MQ below (vp_Si post) args s 0 0 (fun _ => False)) (F0 m 0 ls []) := by
  have hx := zc.1
  have hb := zc.2.1
  refine lv_iconst (v := (0 : Int32)) hx hb dX7_agrees_0 (by decide) ?_
  refine lv_istore_n (lv' := [(3, .int (0 : Int32)), (0, .ref qp), (1, .ref qs), (2, .int x2)]) hx hb dX7_agrees_1 rfl hl (by decide) rfl (fun ls hl => ?_)
  exact t_wp_X7_agrees_18_2 zc hK hM  (lv_sub hl [1, 2, 3, 0] rfl) hw
set_option maxRecDepth 20000 in
theorem c_wp_X7_agrees_18 (l : Launch) {E : zE} {qp ql qs : Nat} {a_heard : Nat → Int32} {a_walked : Nat → Int32} {a_total : Nat → Int32} {a_longest : Nat → Int32} {a_next : Nat → Int32} {a_cover : Nat → Int32} {a_now : Nat → Int32} {a_then : Nat → Int32} {lf_huts : Int32} {lf_singers : Int32} {lf_villages : Int32} {lf_dams : Int32} {lf_echoes : Int32} {lf_deep : Int32} {lf_slide : Int32} {la_heights : Nat → Int32} {la_ladders : Nat → Int32} {la_minutes : Nat → Int32} {la_echoFrom : Nat → Int32} {la_echoTo : Nat → Int32} {la_homes : Nat → Int32} {la_talls : Nat → Int32} {la_known : Nat → Int32} {sf_facts : Int32} {sa_heard : Nat → Int32} {sa_huts : Nat → Int32} {sa_minutes : Nat → Int32} {x2 : Int32} {post : Int32 → Prop} (hw : q_wp_X7_agrees_18_0 a_heard sf_facts sa_heard sa_huts sa_minutes x2 post) : Met l yX7_agrees (Cond.code yX7_agrees cX7_agrees 5 (some .boolean) :: zb) rm_wp_X7_agrees_18 (va_Pc [.ref qp, .ref qs, .int x2] (fun U => wpW E qp ql qs a_heard a_walked a_total a_longest a_next a_cover a_now a_then lf_huts lf_singers lf_villages lf_dams lf_echoes lf_deep lf_slide la_heights la_ladders la_minutes la_echoFrom la_echoTo la_homes la_talls la_known sf_facts sa_heard sa_huts sa_minutes U.heap ∧ zK E U)) (vp_Si post) 0 0 (fun _ => False) := by
  refine Met.ofW (cc := cX7_agrees) (maxL := 5) (ret := (some .boolean)) (by decide) rfl ?_
  intro p e s m args below meth c s₁ B hml hv
  obtain ⟨rfl, hM, hK⟩ := hv
  have zc := zc_of B hml
  have hl := lv_entry ([.ref qp, .ref qs, .int x2]) (n := 5) (Nat.le_of_ble_eq_true rfl)
  rw [lg_entry_eq]
  generalize (lg_sl ([.ref qp, .ref qs, .int x2]) ++ List.replicate (5 - (lg_sl ([.ref qp, .ref qs, .int x2])).length) Slot.unset).toArray = ls at hl ⊢
  have hl : lv_has ls 5 [(0, .ref qp), (1, .ref qs), (2, .int x2)] := hl
  exact t_wp_X7_agrees_18_0 zc hK hM (lv_sub hl [0, 1, 2] rfl) hw
-- wp_X7_fitting_9_18
abbrev rm_wp_X7_fitting_9_18 : Room := { frames := 1, cells := 0, slots := 0, locals := 24 }
def q_wp_X7_fitting_9_18_40 (P5 : Int32 → Int32 → Prop) (a_heard : Nat → Int32) (lf_huts : Int32) (lf_dams : Int32) (sf_facts : Int32) (sa_heard : Nat → Int32) (sa_huts : Nat → Int32) (sa_minutes : Nat → Int32) (x3 : Int32) (x4 : Int32) (post : Int32 → Prop) : Prop :=
  ∀ v_1 : Int32, v_1 = x4 + (1 : Int32) → (P5 x3 v_1)
def q_wp_X7_fitting_9_18_5 (a_heard : Nat → Int32) (lf_huts : Int32) (lf_dams : Int32) (sf_facts : Int32) (sa_heard : Nat → Int32) (sa_huts : Nat → Int32) (sa_minutes : Nat → Int32) (x3 : Int32) (x4 : Int32) (post : Int32 → Prop) : Prop :=
  ∀ P5 : Int32 → Int32 → Prop, (∀ (x3 : Int32) (x4 : Int32), ((lf_huts ≤ x4 → (post x3)) ∧ (¬ lf_huts ≤ x4 → (q_wl_X2_isDam_0 lf_dams x4 (fun r_1 => (¬ r_1 = 0 → (q_wp_X7_fitting_9_18_40 P5 a_heard lf_huts lf_dams sf_facts sa_heard sa_huts sa_minutes x3 x4 post)) ∧ (r_1 = 0 → (q_wp_X7_agrees_18_0 a_heard sf_facts sa_heard sa_huts sa_minutes x4 (fun r_2 => (r_2 = 0 → (q_wp_X7_fitting_9_18_40 P5 a_heard lf_huts lf_dams sf_facts sa_heard sa_huts sa_minutes x3 x4 post)) ∧ (¬ r_2 = 0 → (∀ v_1 : Int32, v_1 = (x3 ||| ((1 : Int32) <<< (x4 &&& 31))) → (q_wp_X7_fitting_9_18_40 P5 a_heard lf_huts lf_dams sf_facts sa_heard sa_huts sa_minutes v_1 x4 post)))))))))) → P5 x3 x4) → P5 x3 x4
def q_wp_X7_fitting_9_18_0 (a_heard : Nat → Int32) (lf_huts : Int32) (lf_dams : Int32) (sf_facts : Int32) (sa_heard : Nat → Int32) (sa_huts : Nat → Int32) (sa_minutes : Nat → Int32) (post : Int32 → Prop) : Prop :=
  q_wp_X7_fitting_9_18_5 a_heard lf_huts lf_dams sf_facts sa_heard sa_huts sa_minutes (0 : Int32) (0 : Int32) post
set_option maxRecDepth 20000 in
theorem t_wp_X7_fitting_9_18_40 {p : Program} {l : Launch} {e : Env} {s : State} {m : MethodId} {args : Array Value} {below : List Frame} {meth : Method} {c : Code} {E : zE} {qp ql qs : Nat} {a_heard : Nat → Int32} {a_walked : Nat → Int32} {a_total : Nat → Int32} {a_longest : Nat → Int32} {a_next : Nat → Int32} {a_cover : Nat → Int32} {a_now : Nat → Int32} {a_then : Nat → Int32} {lf_huts : Int32} {lf_singers : Int32} {lf_villages : Int32} {lf_dams : Int32} {lf_echoes : Int32} {lf_deep : Int32} {lf_slide : Int32} {la_heights : Nat → Int32} {la_ladders : Nat → Int32} {la_minutes : Nat → Int32} {la_echoFrom : Nat → Int32} {la_echoTo : Nat → Int32} {la_homes : Nat → Int32} {la_talls : Nat → Int32} {la_known : Nat → Int32} {sf_facts : Int32} {sa_heard : Nat → Int32} {sa_huts : Nat → Int32} {sa_minutes : Nat → Int32} {P5 : Int32 → Int32 → Prop} {post : Int32 → Prop} {x3 : Int32} {x4 : Int32} {ls : Array Slot}
    (zc : zC p s m args meth c cX7_fitting 5 RX7 (some .int))
    (hK : zK E s)
    (hM : wpW E qp ql qs a_heard a_walked a_total a_longest a_next a_cover a_now a_then lf_huts lf_singers lf_villages lf_dams lf_echoes lf_deep lf_slide la_heights la_ladders la_minutes la_echoFrom la_echoTo la_homes la_talls la_known sf_facts sa_heard sa_huts sa_minutes s.heap)
    (hP5 : ∀ (x3 : Int32) (x4 : Int32) (ls : Array Slot), P5 x3 x4 → lv_has ls 5 [(0, .ref qp), (1, .ref ql), (2, .ref qs), (3, .int x3), (4, .int x4)] → W p l e rm_wp_X7_fitting_9_18 s m args below meth c s.heap [] 0 0 (MQ below (vp_Si post) args s 0 0 (fun _ => False)) (F0 m 5 ls []))
    (hl : lv_has ls 5 [(0, .ref qp), (1, .ref ql), (2, .ref qs), (3, .int x3), (4, .int x4)])
    (hw : q_wp_X7_fitting_9_18_40 P5 a_heard lf_huts lf_dams sf_facts sa_heard sa_huts sa_minutes x3 x4 post) :
    W p l e rm_wp_X7_fitting_9_18 s m args below meth c s.heap [] 0 0 (MQ below (vp_Si post) args s 0 0 (fun _ => False)) (F0 m 40 ls []) := by
  have hx := zc.1
  have hb := zc.2.1
  obtain ⟨v_1, ev_1⟩ : ∃ y : Int32, y = x4 + (1 : Int32) := ⟨_, rfl⟩
  have hw := hw v_1 ev_1
  refine lv_iinc (v := v_1) (k := 4) (lv' := [(4, .int v_1), (0, .ref qp), (1, .ref ql), (2, .ref qs), (3, .int x3)]) hx hb dX7_fitting_40 hl rfl (by rw [ev_1]; rfl) (by decide) rfl (fun ls hl => ?_)
  refine lv_goto (tgt := 5) hx hb dX7_fitting_43 (by decide) ?_
  exact hP5 _ _ _ hw (lv_sub hl [1, 2, 3, 4, 0] rfl)
set_option maxRecDepth 20000 in
theorem t_wp_X7_fitting_9_18_5 {p : Program} {l : Launch} {e : Env} {s : State} {m : MethodId} {args : Array Value} {below : List Frame} {meth : Method} {c : Code} {E : zE} {qp ql qs : Nat} {a_heard : Nat → Int32} {a_walked : Nat → Int32} {a_total : Nat → Int32} {a_longest : Nat → Int32} {a_next : Nat → Int32} {a_cover : Nat → Int32} {a_now : Nat → Int32} {a_then : Nat → Int32} {lf_huts : Int32} {lf_singers : Int32} {lf_villages : Int32} {lf_dams : Int32} {lf_echoes : Int32} {lf_deep : Int32} {lf_slide : Int32} {la_heights : Nat → Int32} {la_ladders : Nat → Int32} {la_minutes : Nat → Int32} {la_echoFrom : Nat → Int32} {la_echoTo : Nat → Int32} {la_homes : Nat → Int32} {la_talls : Nat → Int32} {la_known : Nat → Int32} {sf_facts : Int32} {sa_heard : Nat → Int32} {sa_huts : Nat → Int32} {sa_minutes : Nat → Int32} {post : Int32 → Prop} {x3 : Int32} {x4 : Int32} {ls : Array Slot}
    (zc : zC p s m args meth c cX7_fitting 5 RX7 (some .int))
    (hK : zK E s)
    (hM : wpW E qp ql qs a_heard a_walked a_total a_longest a_next a_cover a_now a_then lf_huts lf_singers lf_villages lf_dams lf_echoes lf_deep lf_slide la_heights la_ladders la_minutes la_echoFrom la_echoTo la_homes la_talls la_known sf_facts sa_heard sa_huts sa_minutes s.heap)
    (hl : lv_has ls 5 [(0, .ref qp), (1, .ref ql), (2, .ref qs), (3, .int x3), (4, .int x4)])
    (hw : q_wp_X7_fitting_9_18_5 a_heard lf_huts lf_dams sf_facts sa_heard sa_huts sa_minutes x3 x4 post) :
    W p l e rm_wp_X7_fitting_9_18 s m args below meth c s.heap [] 0 0 (MQ below (vp_Si post) args s 0 0 (fun _ => False)) (F0 m 5 ls []) := by
  have hx := zc.1
  have hb := zc.2.1
  refine hw (fun x3 x4 => ∀ (ls : Array Slot), lv_has ls 5 [(0, .ref qp), (1, .ref ql), (2, .ref qs), (3, .int x3), (4, .int x4)] → W p l e rm_wp_X7_fitting_9_18 s m args below meth c s.heap [] 0 0 (MQ below (vp_Si post) args s 0 0 (fun _ => False)) (F0 m 5 ls [])) ?_ _ hl
  intro x3 x4 hw ls hl
  refine lv_iload hx hb dX7_fitting_5 (lv_at hl 4 rfl) ?_
  refine lv_aload_n hx hb dX7_fitting_7 rfl (lv_at hl 1 rfl) ?_
  refine wpg_7_42_9 zc hK hM dX7_fitting_8 ?_
  refine lv_icmp_ge (tgt := 46) hx hb dX7_fitting_11 (by decide) (fun hc => ?_) (fun hc => ?_)
  · have hw := hw.1 hc
    refine lv_iload_n hx hb dX7_fitting_46 rfl (lv_at hl 3 rfl) ?_
    exact zret_i zc hw dX7_fitting_47
  · have hw := hw.2 hc
    refine lv_aload_n hx hb dX7_fitting_14 rfl (lv_at hl 1 rfl) ?_
    refine lv_iload hx hb dX7_fitting_15 (lv_at hl 4 rfl) ?_
    refine zV_i [.int x4] [] zc ky_X2_isDam kz_X2_isDam km_7_55 (c_wl_X2_isDam l hw) (wlPreV0 hK (pj_wp_wl_9 hM)) rfl rfl hl.1 (Nat.le_of_ble_eq_true rfl) ⟨rfl, rfl⟩ ⟨Nat.le_of_ble_eq_true rfl, Nat.le_of_ble_eq_true rfl⟩ ⟨(Nat.zero_le _), (Nat.zero_le _)⟩ dX7_fitting_17 (fun r_1 hw => ?_)
    refine lv_if_ne (tgt := 40) hx hb dX7_fitting_20 (by decide) (fun hc => ?_) (fun hc => ?_)
    · have hw := hw.1 hc
      exact t_wp_X7_fitting_9_18_40 zc hK hM (fun _ _ ls h hl => h ls hl) (lv_sub hl [0, 1, 2, 3, 4] rfl) hw
    · have hw := hw.2 hc
      refine lv_aload_n hx hb dX7_fitting_23 rfl (lv_at hl 0 rfl) ?_
      refine lv_aload_n hx hb dX7_fitting_24 rfl (lv_at hl 2 rfl) ?_
      refine lv_iload hx hb dX7_fitting_25 (lv_at hl 4 rfl) ?_
      refine zV_i [.ref qs, .int x4] [] zc ky_X7_agrees kz_X7_agrees km_7_134 (c_wp_X7_agrees_18 l hw) (wpPreV0 hK hM) rfl rfl hl.1 (Nat.le_of_ble_eq_true rfl) ⟨rfl, rfl⟩ ⟨Nat.le_of_ble_eq_true rfl, Nat.le_of_ble_eq_true rfl⟩ ⟨(Nat.zero_le _), (Nat.zero_le _)⟩ dX7_fitting_27 (fun r_2 hw => ?_)
      refine lv_if_eq (tgt := 40) hx hb dX7_fitting_30 (by decide) (fun hc => ?_) (fun hc => ?_)
      · have hw := hw.1 hc
        exact t_wp_X7_fitting_9_18_40 zc hK hM (fun _ _ ls h hl => h ls hl) (lv_sub hl [0, 1, 2, 3, 4] rfl) hw
      · have hw := hw.2 hc
        refine lv_iload_n hx hb dX7_fitting_33 rfl (lv_at hl 3 rfl) ?_
        refine lv_iconst (v := (1 : Int32)) hx hb dX7_fitting_34 (by decide) ?_
        refine lv_iload hx hb dX7_fitting_35 (lv_at hl 4 rfl) ?_
        refine lv_ishl hx hb dX7_fitting_37 ?_
        refine lv_ior hx hb dX7_fitting_38 ?_
        refine lv_topi (fun v_1 ev_1 => ?_)
        have hw := hw v_1 ev_1
        refine lv_istore_n (lv' := [(3, .int v_1), (0, .ref qp), (1, .ref ql), (2, .ref qs), (4, .int x4)]) hx hb dX7_fitting_39 rfl hl (by decide) rfl (fun ls hl => ?_)
        exact t_wp_X7_fitting_9_18_40 zc hK hM (fun _ _ ls h hl => h ls hl) (lv_sub hl [1, 2, 3, 0, 4] rfl) hw
set_option maxRecDepth 20000 in
theorem t_wp_X7_fitting_9_18_0 {p : Program} {l : Launch} {e : Env} {s : State} {m : MethodId} {args : Array Value} {below : List Frame} {meth : Method} {c : Code} {E : zE} {qp ql qs : Nat} {a_heard : Nat → Int32} {a_walked : Nat → Int32} {a_total : Nat → Int32} {a_longest : Nat → Int32} {a_next : Nat → Int32} {a_cover : Nat → Int32} {a_now : Nat → Int32} {a_then : Nat → Int32} {lf_huts : Int32} {lf_singers : Int32} {lf_villages : Int32} {lf_dams : Int32} {lf_echoes : Int32} {lf_deep : Int32} {lf_slide : Int32} {la_heights : Nat → Int32} {la_ladders : Nat → Int32} {la_minutes : Nat → Int32} {la_echoFrom : Nat → Int32} {la_echoTo : Nat → Int32} {la_homes : Nat → Int32} {la_talls : Nat → Int32} {la_known : Nat → Int32} {sf_facts : Int32} {sa_heard : Nat → Int32} {sa_huts : Nat → Int32} {sa_minutes : Nat → Int32} {post : Int32 → Prop} {ls : Array Slot}
    (zc : zC p s m args meth c cX7_fitting 5 RX7 (some .int))
    (hK : zK E s)
    (hM : wpW E qp ql qs a_heard a_walked a_total a_longest a_next a_cover a_now a_then lf_huts lf_singers lf_villages lf_dams lf_echoes lf_deep lf_slide la_heights la_ladders la_minutes la_echoFrom la_echoTo la_homes la_talls la_known sf_facts sa_heard sa_huts sa_minutes s.heap)
    (hl : lv_has ls 5 [(0, .ref qp), (1, .ref ql), (2, .ref qs)])
    (hw : q_wp_X7_fitting_9_18_0 a_heard lf_huts lf_dams sf_facts sa_heard sa_huts sa_minutes post) :
    W p l e rm_wp_X7_fitting_9_18 s m args below meth c s.heap [] 0 0 (MQ below (vp_Si post) args s 0 0 (fun _ => False)) (F0 m 0 ls []) := by
  have hx := zc.1
  have hb := zc.2.1
  refine lv_iconst (v := (0 : Int32)) hx hb dX7_fitting_0 (by decide) ?_
  refine lv_istore_n (lv' := [(3, .int (0 : Int32)), (0, .ref qp), (1, .ref ql), (2, .ref qs)]) hx hb dX7_fitting_1 rfl hl (by decide) rfl (fun ls hl => ?_)
  refine lv_iconst (v := (0 : Int32)) hx hb dX7_fitting_2 (by decide) ?_
  refine lv_istore (lv' := [(4, .int (0 : Int32)), (3, .int (0 : Int32)), (0, .ref qp), (1, .ref ql), (2, .ref qs)]) hx hb dX7_fitting_3 hl (by decide) rfl (fun ls hl => ?_)
  exact t_wp_X7_fitting_9_18_5 zc hK hM  (lv_sub hl [2, 3, 4, 1, 0] rfl) hw
set_option maxRecDepth 20000 in
theorem c_wp_X7_fitting_9_18 (l : Launch) {E : zE} {qp ql qs : Nat} {a_heard : Nat → Int32} {a_walked : Nat → Int32} {a_total : Nat → Int32} {a_longest : Nat → Int32} {a_next : Nat → Int32} {a_cover : Nat → Int32} {a_now : Nat → Int32} {a_then : Nat → Int32} {lf_huts : Int32} {lf_singers : Int32} {lf_villages : Int32} {lf_dams : Int32} {lf_echoes : Int32} {lf_deep : Int32} {lf_slide : Int32} {la_heights : Nat → Int32} {la_ladders : Nat → Int32} {la_minutes : Nat → Int32} {la_echoFrom : Nat → Int32} {la_echoTo : Nat → Int32} {la_homes : Nat → Int32} {la_talls : Nat → Int32} {la_known : Nat → Int32} {sf_facts : Int32} {sa_heard : Nat → Int32} {sa_huts : Nat → Int32} {sa_minutes : Nat → Int32} {post : Int32 → Prop} (hw : q_wp_X7_fitting_9_18_0 a_heard lf_huts lf_dams sf_facts sa_heard sa_huts sa_minutes post) : Met l yX7_fitting (Cond.code yX7_fitting cX7_fitting 5 (some .int) :: zb) rm_wp_X7_fitting_9_18 (va_Pc [.ref qp, .ref ql, .ref qs] (fun U => wpW E qp ql qs a_heard a_walked a_total a_longest a_next a_cover a_now a_then lf_huts lf_singers lf_villages lf_dams lf_echoes lf_deep lf_slide la_heights la_ladders la_minutes la_echoFrom la_echoTo la_homes la_talls la_known sf_facts sa_heard sa_huts sa_minutes U.heap ∧ zK E U)) (vp_Si post) 0 0 (fun _ => False) := by
  refine Met.ofW (cc := cX7_fitting) (maxL := 5) (ret := (some .int)) (by decide) rfl ?_
  intro p e s m args below meth c s₁ B hml hv
  obtain ⟨rfl, hM, hK⟩ := hv
  have zc := zc_of B hml
  have hl := lv_entry ([.ref qp, .ref ql, .ref qs]) (n := 5) (Nat.le_of_ble_eq_true rfl)
  rw [lg_entry_eq]
  generalize (lg_sl ([.ref qp, .ref ql, .ref qs]) ++ List.replicate (5 - (lg_sl ([.ref qp, .ref ql, .ref qs])).length) Slot.unset).toArray = ls at hl ⊢
  have hl : lv_has ls 5 [(0, .ref qp), (1, .ref ql), (2, .ref qs)] := hl
  exact t_wp_X7_fitting_9_18_0 zc hK hM (lv_sub hl [0, 1, 2] rfl) hw
-- wp_X7_fromBy_9
abbrev rm_wp_X7_fromBy_9 : Room := { frames := 0, cells := 0, slots := 0, locals := 0 }
def q_wp_X7_fromBy_9_40 (P6 : Int32 → Int32 → Prop) (a_heard : Nat → Int32) (lf_huts : Int32) (x2 : Int32) (x3 : Int32) (x4 : Int32) (x5 : Int32) (post : Int32 → Prop) : Prop :=
  ∀ v_1 : Int32, v_1 = x5 + (1 : Int32) → (P6 x4 v_1)
def q_wp_X7_fromBy_9_6 (a_heard : Nat → Int32) (lf_huts : Int32) (x2 : Int32) (x3 : Int32) (x4 : Int32) (x5 : Int32) (post : Int32 → Prop) : Prop :=
  ∀ P6 : Int32 → Int32 → Prop, (∀ (x4 : Int32) (x5 : Int32), ((lf_huts ≤ x5 → (post x4)) ∧ (¬ lf_huts ≤ x5 → (vp_in ((x5 * (9 : Int32)) + x2) 81 ∧ ((x3 < (a_heard (Int32.toNatClampNeg ((x5 * (9 : Int32)) + x2))) → (q_wp_X7_fromBy_9_40 P6 a_heard lf_huts x2 x3 x4 x5 post)) ∧ (¬ x3 < (a_heard (Int32.toNatClampNeg ((x5 * (9 : Int32)) + x2))) → (∀ v_1 : Int32, v_1 = (x4 ||| ((1 : Int32) <<< (x5 &&& 31))) → (q_wp_X7_fromBy_9_40 P6 a_heard lf_huts x2 x3 v_1 x5 post))))))) → P6 x4 x5) → P6 x4 x5
def q_wp_X7_fromBy_9_0 (a_heard : Nat → Int32) (lf_huts : Int32) (x2 : Int32) (x3 : Int32) (post : Int32 → Prop) : Prop :=
  q_wp_X7_fromBy_9_6 a_heard lf_huts x2 x3 (0 : Int32) (0 : Int32) post
set_option maxRecDepth 20000 in
theorem t_wp_X7_fromBy_9_40 {p : Program} {l : Launch} {e : Env} {s : State} {m : MethodId} {args : Array Value} {below : List Frame} {meth : Method} {c : Code} {E : zE} {qp ql qs : Nat} {a_heard : Nat → Int32} {a_walked : Nat → Int32} {a_total : Nat → Int32} {a_longest : Nat → Int32} {a_next : Nat → Int32} {a_cover : Nat → Int32} {a_now : Nat → Int32} {a_then : Nat → Int32} {lf_huts : Int32} {lf_singers : Int32} {lf_villages : Int32} {lf_dams : Int32} {lf_echoes : Int32} {lf_deep : Int32} {lf_slide : Int32} {la_heights : Nat → Int32} {la_ladders : Nat → Int32} {la_minutes : Nat → Int32} {la_echoFrom : Nat → Int32} {la_echoTo : Nat → Int32} {la_homes : Nat → Int32} {la_talls : Nat → Int32} {la_known : Nat → Int32} {sf_facts : Int32} {sa_heard : Nat → Int32} {sa_huts : Nat → Int32} {sa_minutes : Nat → Int32} {P6 : Int32 → Int32 → Prop} {post : Int32 → Prop} {x2 : Int32} {x3 : Int32} {x4 : Int32} {x5 : Int32} {ls : Array Slot}
    (zc : zC p s m args meth c cX7_fromBy 6 RX7 (some .int))
    (hK : zK E s)
    (hM : wpW E qp ql qs a_heard a_walked a_total a_longest a_next a_cover a_now a_then lf_huts lf_singers lf_villages lf_dams lf_echoes lf_deep lf_slide la_heights la_ladders la_minutes la_echoFrom la_echoTo la_homes la_talls la_known sf_facts sa_heard sa_huts sa_minutes s.heap)
    (hP6 : ∀ (x4 : Int32) (x5 : Int32) (ls : Array Slot), P6 x4 x5 → lv_has ls 6 [(0, .ref qp), (1, .ref ql), (2, .int x2), (3, .int x3), (4, .int x4), (5, .int x5)] → W p l e rm_wp_X7_fromBy_9 s m args below meth c s.heap [] 0 0 (MQ below (vp_Si post) args s 0 0 (fun _ => False)) (F0 m 6 ls []))
    (hl : lv_has ls 6 [(0, .ref qp), (1, .ref ql), (2, .int x2), (3, .int x3), (4, .int x4), (5, .int x5)])
    (hw : q_wp_X7_fromBy_9_40 P6 a_heard lf_huts x2 x3 x4 x5 post) :
    W p l e rm_wp_X7_fromBy_9 s m args below meth c s.heap [] 0 0 (MQ below (vp_Si post) args s 0 0 (fun _ => False)) (F0 m 40 ls []) := by
  have hx := zc.1
  have hb := zc.2.1
  obtain ⟨v_1, ev_1⟩ : ∃ y : Int32, y = x5 + (1 : Int32) := ⟨_, rfl⟩
  have hw := hw v_1 ev_1
  refine lv_iinc (v := v_1) (k := 5) (lv' := [(5, .int v_1), (0, .ref qp), (1, .ref ql), (2, .int x2), (3, .int x3), (4, .int x4)]) hx hb dX7_fromBy_40 hl rfl (by rw [ev_1]; rfl) (by decide) rfl (fun ls hl => ?_)
  refine lv_goto (tgt := 6) hx hb dX7_fromBy_43 (by decide) ?_
  exact hP6 _ _ _ hw (lv_sub hl [1, 2, 3, 4, 5, 0] rfl)
set_option maxRecDepth 20000 in
theorem t_wp_X7_fromBy_9_6 {p : Program} {l : Launch} {e : Env} {s : State} {m : MethodId} {args : Array Value} {below : List Frame} {meth : Method} {c : Code} {E : zE} {qp ql qs : Nat} {a_heard : Nat → Int32} {a_walked : Nat → Int32} {a_total : Nat → Int32} {a_longest : Nat → Int32} {a_next : Nat → Int32} {a_cover : Nat → Int32} {a_now : Nat → Int32} {a_then : Nat → Int32} {lf_huts : Int32} {lf_singers : Int32} {lf_villages : Int32} {lf_dams : Int32} {lf_echoes : Int32} {lf_deep : Int32} {lf_slide : Int32} {la_heights : Nat → Int32} {la_ladders : Nat → Int32} {la_minutes : Nat → Int32} {la_echoFrom : Nat → Int32} {la_echoTo : Nat → Int32} {la_homes : Nat → Int32} {la_talls : Nat → Int32} {la_known : Nat → Int32} {sf_facts : Int32} {sa_heard : Nat → Int32} {sa_huts : Nat → Int32} {sa_minutes : Nat → Int32} {post : Int32 → Prop} {x2 : Int32} {x3 : Int32} {x4 : Int32} {x5 : Int32} {ls : Array Slot}
    (zc : zC p s m args meth c cX7_fromBy 6 RX7 (some .int))
    (hK : zK E s)
    (hM : wpW E qp ql qs a_heard a_walked a_total a_longest a_next a_cover a_now a_then lf_huts lf_singers lf_villages lf_dams lf_echoes lf_deep lf_slide la_heights la_ladders la_minutes la_echoFrom la_echoTo la_homes la_talls la_known sf_facts sa_heard sa_huts sa_minutes s.heap)
    (hl : lv_has ls 6 [(0, .ref qp), (1, .ref ql), (2, .int x2), (3, .int x3), (4, .int x4), (5, .int x5)])
    (hw : q_wp_X7_fromBy_9_6 a_heard lf_huts x2 x3 x4 x5 post) :
    W p l e rm_wp_X7_fromBy_9 s m args below meth c s.heap [] 0 0 (MQ below (vp_Si post) args s 0 0 (fun _ => False)) (F0 m 6 ls []) := by
  have hx := zc.1
  have hb := zc.2.1
  refine hw (fun x4 x5 => ∀ (ls : Array Slot), lv_has ls 6 [(0, .ref qp), (1, .ref ql), (2, .int x2), (3, .int x3), (4, .int x4), (5, .int x5)] → W p l e rm_wp_X7_fromBy_9 s m args below meth c s.heap [] 0 0 (MQ below (vp_Si post) args s 0 0 (fun _ => False)) (F0 m 6 ls [])) ?_ _ hl
  intro x4 x5 hw ls hl
  refine lv_iload hx hb dX7_fromBy_6 (lv_at hl 5 rfl) ?_
  refine lv_aload_n hx hb dX7_fromBy_8 rfl (lv_at hl 1 rfl) ?_
  refine wpg_7_42_9 zc hK hM dX7_fromBy_9 ?_
  refine lv_icmp_ge (tgt := 46) hx hb dX7_fromBy_12 (by decide) (fun hc => ?_) (fun hc => ?_)
  · have hw := hw.1 hc
    refine lv_iload hx hb dX7_fromBy_46 (lv_at hl 4 rfl) ?_
    exact zret_i zc hw dX7_fromBy_48
  · have hw := hw.2 hc
    refine lv_aload_n hx hb dX7_fromBy_15 rfl (lv_at hl 0 rfl) ?_
    refine wpg_7_9_0 zc hK hM dX7_fromBy_16 ?_
    refine lv_iload hx hb dX7_fromBy_19 (lv_at hl 5 rfl) ?_
    refine lv_bipush (v := (9 : Int32)) hx hb dX7_fromBy_21 (by decide) ?_
    refine lv_imul hx hb dX7_fromBy_23 ?_
    refine lv_iload_n hx hb dX7_fromBy_24 rfl (lv_at hl 2 rfl) ?_
    refine lv_iadd hx hb dX7_fromBy_25 ?_
    refine wpld_1 zc hK hM hw.1 dX7_fromBy_26 ?_
    have hw := hw.2
    refine lv_iload_n hx hb dX7_fromBy_27 rfl (lv_at hl 3 rfl) ?_
    refine lv_icmp_gt (tgt := 40) hx hb dX7_fromBy_28 (by decide) (fun hc => ?_) (fun hc => ?_)
    · have hw := hw.1 hc
      exact t_wp_X7_fromBy_9_40 zc hK hM (fun _ _ ls h hl => h ls hl) (lv_sub hl [0, 1, 2, 3, 4, 5] rfl) hw
    · have hw := hw.2 hc
      refine lv_iload hx hb dX7_fromBy_31 (lv_at hl 4 rfl) ?_
      refine lv_iconst (v := (1 : Int32)) hx hb dX7_fromBy_33 (by decide) ?_
      refine lv_iload hx hb dX7_fromBy_34 (lv_at hl 5 rfl) ?_
      refine lv_ishl hx hb dX7_fromBy_36 ?_
      refine lv_ior hx hb dX7_fromBy_37 ?_
      refine lv_topi (fun v_1 ev_1 => ?_)
      have hw := hw v_1 ev_1
      refine lv_istore (lv' := [(4, .int v_1), (0, .ref qp), (1, .ref ql), (2, .int x2), (3, .int x3), (5, .int x5)]) hx hb dX7_fromBy_38 hl (by decide) rfl (fun ls hl => ?_)
      exact t_wp_X7_fromBy_9_40 zc hK hM (fun _ _ ls h hl => h ls hl) (lv_sub hl [1, 2, 3, 4, 0, 5] rfl) hw
set_option maxRecDepth 20000 in
theorem t_wp_X7_fromBy_9_0 {p : Program} {l : Launch} {e : Env} {s : State} {m : MethodId} {args : Array Value} {below : List Frame} {meth : Method} {c : Code} {E : zE} {qp ql qs : Nat} {a_heard : Nat → Int32} {a_walked : Nat → Int32} {a_total : Nat → Int32} {a_longest : Nat → Int32} {a_next : Nat → Int32} {a_cover : Nat → Int32} {a_now : Nat → Int32} {a_then : Nat → Int32} {lf_huts : Int32} {lf_singers : Int32} {lf_villages : Int32} {lf_dams : Int32} {lf_echoes : Int32} {lf_deep : Int32} {lf_slide : Int32} {la_heights : Nat → Int32} {la_ladders : Nat → Int32} {la_minutes : Nat → Int32} {la_echoFrom : Nat → Int32} {la_echoTo : Nat → Int32} {la_homes : Nat → Int32} {la_talls : Nat → Int32} {la_known : Nat → Int32} {sf_facts : Int32} {sa_heard : Nat → Int32} {sa_huts : Nat → Int32} {sa_minutes : Nat → Int32} {post : Int32 → Prop} {x2 : Int32} {x3 : Int32} {ls : Array Slot}
    (zc : zC p s m args meth c cX7_fromBy 6 RX7 (some .int))
    (hK : zK E s)
    (hM : wpW E qp ql qs a_heard a_walked a_total a_longest a_next a_cover a_now a_then lf_huts lf_singers lf_villages lf_dams lf_echoes lf_deep lf_slide la_heights la_ladders la_minutes la_echoFrom la_echoTo la_homes la_talls la_known sf_facts sa_heard sa_huts sa_minutes s.heap)
    (hl : lv_has ls 6 [(0, .ref qp), (1, .ref ql), (2, .int x2), (3, .int x3)])
    (hw : q_wp_X7_fromBy_9_0 a_heard lf_huts x2 x3 post) :
    W p l e rm_wp_X7_fromBy_9 s m args below meth c s.heap [] 0 0 (MQ below (vp_Si post) args s 0 0 (fun _ => False)) (F0 m 0 ls []) := by
  have hx := zc.1
  have hb := zc.2.1
  refine lv_iconst (v := (0 : Int32)) hx hb dX7_fromBy_0 (by decide) ?_
  refine lv_istore (lv' := [(4, .int (0 : Int32)), (0, .ref qp), (1, .ref ql), (2, .int x2), (3, .int x3)]) hx hb dX7_fromBy_1 hl (by decide) rfl (fun ls hl => ?_)
  refine lv_iconst (v := (0 : Int32)) hx hb dX7_fromBy_3 (by decide) ?_
  refine lv_istore (lv' := [(5, .int (0 : Int32)), (4, .int (0 : Int32)), (0, .ref qp), (1, .ref ql), (2, .int x2), (3, .int x3)]) hx hb dX7_fromBy_4 hl (by decide) rfl (fun ls hl => ?_)
  exact t_wp_X7_fromBy_9_6 zc hK hM  (lv_sub hl [2, 3, 4, 5, 1, 0] rfl) hw
set_option maxRecDepth 20000 in
theorem c_wp_X7_fromBy_9 (l : Launch) {E : zE} {qp ql qs : Nat} {a_heard : Nat → Int32} {a_walked : Nat → Int32} {a_total : Nat → Int32} {a_longest : Nat → Int32} {a_next : Nat → Int32} {a_cover : Nat → Int32} {a_now : Nat → Int32} {a_then : Nat → Int32} {lf_huts : Int32} {lf_singers : Int32} {lf_villages : Int32} {lf_dams : Int32} {lf_echoes : Int32} {lf_deep : Int32} {lf_slide : Int32} {la_heights : Nat → Int32} {la_ladders : Nat → Int32} {la_minutes : Nat → Int32} {la_echoFrom : Nat → Int32} {la_echoTo : Nat → Int32} {la_homes : Nat → Int32} {la_talls : Nat → Int32} {la_known : Nat → Int32} {sf_facts : Int32} {sa_heard : Nat → Int32} {sa_huts : Nat → Int32} {sa_minutes : Nat → Int32} {x2 : Int32} {x3 : Int32} {post : Int32 → Prop} (hw : q_wp_X7_fromBy_9_0 a_heard lf_huts x2 x3 post) : Met l yX7_fromBy (Cond.code yX7_fromBy cX7_fromBy 6 (some .int) :: zb) rm_wp_X7_fromBy_9 (va_Pc [.ref qp, .ref ql, .int x2, .int x3] (fun U => wpW E qp ql qs a_heard a_walked a_total a_longest a_next a_cover a_now a_then lf_huts lf_singers lf_villages lf_dams lf_echoes lf_deep lf_slide la_heights la_ladders la_minutes la_echoFrom la_echoTo la_homes la_talls la_known sf_facts sa_heard sa_huts sa_minutes U.heap ∧ zK E U)) (vp_Si post) 0 0 (fun _ => False) := by
  refine Met.ofW (cc := cX7_fromBy) (maxL := 6) (ret := (some .int)) (by decide) rfl ?_
  intro p e s m args below meth c s₁ B hml hv
  obtain ⟨rfl, hM, hK⟩ := hv
  have zc := zc_of B hml
  have hl := lv_entry ([.ref qp, .ref ql, .int x2, .int x3]) (n := 6) (Nat.le_of_ble_eq_true rfl)
  rw [lg_entry_eq]
  generalize (lg_sl ([.ref qp, .ref ql, .int x2, .int x3]) ++ List.replicate (6 - (lg_sl ([.ref qp, .ref ql, .int x2, .int x3])).length) Slot.unset).toArray = ls at hl ⊢
  have hl : lv_has ls 6 [(0, .ref qp), (1, .ref ql), (2, .int x2), (3, .int x3)] := hl
  exact t_wp_X7_fromBy_9_0 zc hK hM (lv_sub hl [0, 1, 2, 3] rfl) hw
-- wp_X7_greaterPart_9
abbrev rm_wp_X7_greaterPart_9 : Room := { frames := 1, cells := 0, slots := 0, locals := 40 }
def q_wp_X7_greaterPart_9_0 (a_heard : Nat → Int32) (lf_huts : Int32) (x2 : Int32) (x3 : Int32) (x4 : Int32) (post : Int32 → Prop) : Prop :=
  q_wp_X7_fromBy_9_0 a_heard lf_huts x3 x4 (fun r_1 => q_z_J6_bitCount_0f7a4_0 (x2 &&& r_1) (fun r_2 => q_z_J6_bitCount_0f7a4_0 x2 (fun r_3 => post (if r_2 < (r_3 - r_2) then (r_3 - r_2) else r_2))))
set_option maxRecDepth 20000 in
theorem t_wp_X7_greaterPart_9_0 {p : Program} {l : Launch} {e : Env} {s : State} {m : MethodId} {args : Array Value} {below : List Frame} {meth : Method} {c : Code} {E : zE} {qp ql qs : Nat} {a_heard : Nat → Int32} {a_walked : Nat → Int32} {a_total : Nat → Int32} {a_longest : Nat → Int32} {a_next : Nat → Int32} {a_cover : Nat → Int32} {a_now : Nat → Int32} {a_then : Nat → Int32} {lf_huts : Int32} {lf_singers : Int32} {lf_villages : Int32} {lf_dams : Int32} {lf_echoes : Int32} {lf_deep : Int32} {lf_slide : Int32} {la_heights : Nat → Int32} {la_ladders : Nat → Int32} {la_minutes : Nat → Int32} {la_echoFrom : Nat → Int32} {la_echoTo : Nat → Int32} {la_homes : Nat → Int32} {la_talls : Nat → Int32} {la_known : Nat → Int32} {sf_facts : Int32} {sa_heard : Nat → Int32} {sa_huts : Nat → Int32} {sa_minutes : Nat → Int32} {post : Int32 → Prop} {x2 : Int32} {x3 : Int32} {x4 : Int32} {ls : Array Slot}
    (zc : zC p s m args meth c cX7_greaterPart 6 RX7 (some .int))
    (hK : zK E s)
    (hM : wpW E qp ql qs a_heard a_walked a_total a_longest a_next a_cover a_now a_then lf_huts lf_singers lf_villages lf_dams lf_echoes lf_deep lf_slide la_heights la_ladders la_minutes la_echoFrom la_echoTo la_homes la_talls la_known sf_facts sa_heard sa_huts sa_minutes s.heap)
    (hl : lv_has ls 6 [(0, .ref qp), (1, .ref ql), (2, .int x2), (3, .int x3), (4, .int x4)])
    (hw : q_wp_X7_greaterPart_9_0 a_heard lf_huts x2 x3 x4 post) :
    W p l e rm_wp_X7_greaterPart_9 s m args below meth c s.heap [] 0 0 (MQ below (vp_Si post) args s 0 0 (fun _ => False)) (F0 m 0 ls []) := by
  have hx := zc.1
  have hb := zc.2.1
  refine lv_iload_n hx hb dX7_greaterPart_0 rfl (lv_at hl 2 rfl) ?_
  refine lv_aload_n hx hb dX7_greaterPart_1 rfl (lv_at hl 0 rfl) ?_
  refine lv_aload_n hx hb dX7_greaterPart_2 rfl (lv_at hl 1 rfl) ?_
  refine lv_iload_n hx hb dX7_greaterPart_3 rfl (lv_at hl 3 rfl) ?_
  refine lv_iload hx hb dX7_greaterPart_4 (lv_at hl 4 rfl) ?_
  refine zV_i [.ref ql, .int x3, .int x4] [.int x2] zc ky_X7_fromBy kz_X7_fromBy km_7_151 (c_wp_X7_fromBy_9 l hw) (wpPreV0 hK hM) rfl rfl hl.1 (Nat.le_of_ble_eq_true rfl) ⟨rfl, rfl⟩ ⟨Nat.le_of_ble_eq_true rfl, Nat.le_of_ble_eq_true rfl⟩ ⟨(Nat.zero_le _), (Nat.zero_le _)⟩ dX7_greaterPart_6 (fun r_1 hw => ?_)
  refine lv_iand hx hb dX7_greaterPart_9 ?_
  refine zS_i [.int (x2 &&& r_1)] [] zc ky_J6_bitCount_0f7a4 kz_J6_bitCount_0f7a4 km_7_97 (c_z_J6_bitCount_0f7a4 l hw) (zPre0 _) rfl rfl hl.1 (Nat.le_of_ble_eq_true rfl) ⟨rfl, rfl⟩ ⟨Nat.le_of_ble_eq_true rfl, Nat.le_of_ble_eq_true rfl⟩ ⟨(Nat.zero_le _), (Nat.zero_le _)⟩ dX7_greaterPart_10 (fun r_2 hw => ?_)
  refine lv_istore (lv' := [(5, .int r_2), (0, .ref qp), (1, .ref ql), (2, .int x2), (3, .int x3), (4, .int x4)]) hx hb dX7_greaterPart_13 hl (by decide) rfl (fun ls hl => ?_)
  refine lv_iload hx hb dX7_greaterPart_15 (lv_at hl 0 rfl) ?_
  refine lv_iload_n hx hb dX7_greaterPart_17 rfl (lv_at hl 3 rfl) ?_
  refine zS_i [.int x2] [.int r_2] zc ky_J6_bitCount_0f7a4 kz_J6_bitCount_0f7a4 km_7_97 (c_z_J6_bitCount_0f7a4 l hw) (zPre0 _) rfl rfl hl.1 (Nat.le_of_ble_eq_true rfl) ⟨rfl, rfl⟩ ⟨Nat.le_of_ble_eq_true rfl, Nat.le_of_ble_eq_true rfl⟩ ⟨(Nat.zero_le _), (Nat.zero_le _)⟩ dX7_greaterPart_18 (fun r_3 hw => ?_)
  refine lv_iload hx hb dX7_greaterPart_21 (lv_at hl 0 rfl) ?_
  refine lv_isub hx hb dX7_greaterPart_23 ?_
  refine va_mmax hx hb (zc.2.2.1.trans hl.1.symm) zc.2.2.2.1 (zc.2.2.2.2.1 _ km_7_76) (zc.2.2.2.2.1 _ k_mmaxs) (zc.2.2.2.2.1 _ k_mini) (zc.2.2.2.2.1 _ k_mmaxc) (Nat.le_of_ble_eq_true rfl) (Nat.le_of_ble_eq_true rfl) (Nat.zero_le _) (Nat.zero_le _) dX7_greaterPart_24 ?_
  exact zret_i zc hw dX7_greaterPart_27
set_option maxRecDepth 20000 in
theorem c_wp_X7_greaterPart_9 (l : Launch) {E : zE} {qp ql qs : Nat} {a_heard : Nat → Int32} {a_walked : Nat → Int32} {a_total : Nat → Int32} {a_longest : Nat → Int32} {a_next : Nat → Int32} {a_cover : Nat → Int32} {a_now : Nat → Int32} {a_then : Nat → Int32} {lf_huts : Int32} {lf_singers : Int32} {lf_villages : Int32} {lf_dams : Int32} {lf_echoes : Int32} {lf_deep : Int32} {lf_slide : Int32} {la_heights : Nat → Int32} {la_ladders : Nat → Int32} {la_minutes : Nat → Int32} {la_echoFrom : Nat → Int32} {la_echoTo : Nat → Int32} {la_homes : Nat → Int32} {la_talls : Nat → Int32} {la_known : Nat → Int32} {sf_facts : Int32} {sa_heard : Nat → Int32} {sa_huts : Nat → Int32} {sa_minutes : Nat → Int32} {x2 : Int32} {x3 : Int32} {x4 : Int32} {post : Int32 → Prop} (hw : q_wp_X7_greaterPart_9_0 a_heard lf_huts x2 x3 x4 post) : Met l yX7_greaterPart (Cond.code yX7_greaterPart cX7_greaterPart 6 (some .int) :: zb) rm_wp_X7_greaterPart_9 (va_Pc [.ref qp, .ref ql, .int x2, .int x3, .int x4] (fun U => wpW E qp ql qs a_heard a_walked a_total a_longest a_next a_cover a_now a_then lf_huts lf_singers lf_villages lf_dams lf_echoes lf_deep lf_slide la_heights la_ladders la_minutes la_echoFrom la_echoTo la_homes la_talls la_known sf_facts sa_heard sa_huts sa_minutes U.heap ∧ zK E U)) (vp_Si post) 0 0 (fun _ => False) := by
  refine Met.ofW (cc := cX7_greaterPart) (maxL := 6) (ret := (some .int)) (by decide) rfl ?_
  intro p e s m args below meth c s₁ B hml hv
  obtain ⟨rfl, hM, hK⟩ := hv
  have zc := zc_of B hml
  have hl := lv_entry ([.ref qp, .ref ql, .int x2, .int x3, .int x4]) (n := 6) (Nat.le_of_ble_eq_true rfl)
  rw [lg_entry_eq]
  generalize (lg_sl ([.ref qp, .ref ql, .int x2, .int x3, .int x4]) ++ List.replicate (6 - (lg_sl ([.ref qp, .ref ql, .int x2, .int x3, .int x4])).length) Slot.unset).toArray = ls at hl ⊢
  have hl : lv_has ls 6 [(0, .ref qp), (1, .ref ql), (2, .int x2), (3, .int x3), (4, .int x4)] := hl
  exact t_wp_X7_greaterPart_9_0 zc hK hM (lv_sub hl [0, 1, 2, 3, 4] rfl) hw
-- wp_X7_question_9
abbrev rm_wp_X7_question_9 : Room := { frames := 2, cells := 0, slots := 0, locals := 65 }
def q_wp_X7_question_9_67 (P16 : Int32 → Int32 → Int32 → Prop) (P26 : Int32 → Int32 → Int32 → Prop) (a_heard : Nat → Int32) (lf_huts : Int32) (x2 : Int32) (x3 : Int32) (x4 : Int32) (x5 : Int32) (x6 : Int32) (post : Int32 → Prop) : Prop :=
  ∀ v_1 : Int32, v_1 = x6 + (1 : Int32) → (P26 x3 x4 v_1)
def q_wp_X7_question_9_26 (P16 : Int32 → Int32 → Int32 → Prop) (a_heard : Nat → Int32) (lf_huts : Int32) (x2 : Int32) (x3 : Int32) (x4 : Int32) (x5 : Int32) (x6 : Int32) (post : Int32 → Prop) : Prop :=
  ∀ P26 : Int32 → Int32 → Int32 → Prop, (∀ (x3 : Int32) (x4 : Int32) (x6 : Int32), ((lf_huts ≤ x6 → (∀ v_1 : Int32, v_1 = x5 + (1 : Int32) → (P16 x3 x4 v_1))) ∧ (¬ lf_huts ≤ x6 → (q_wp_X7_greaterPart_9_0 a_heard lf_huts x2 x6 x5 (fun r_1 => (x4 ≤ r_1 → (q_wp_X7_question_9_67 P16 P26 a_heard lf_huts x2 x3 x4 x5 x6 post)) ∧ (¬ x4 ≤ r_1 → (∀ v_2 : Int32, v_2 = (((10 : Int32) * x5) + x6) → (q_wp_X7_question_9_67 P16 P26 a_heard lf_huts x2 v_2 r_1 x5 x6 post))))))) → P26 x3 x4 x6) → P26 x3 x4 x6
def q_wp_X7_question_9_16 (a_heard : Nat → Int32) (lf_huts : Int32) (x2 : Int32) (x3 : Int32) (x4 : Int32) (x5 : Int32) (post : Int32 → Prop) : Prop :=
  ∀ P16 : Int32 → Int32 → Int32 → Prop, (∀ (x3 : Int32) (x4 : Int32) (x5 : Int32), (((60 : Int32) < x5 → (post x3)) ∧ (¬ (60 : Int32) < x5 → (q_wp_X7_question_9_26 P16 a_heard lf_huts x2 x3 x4 x5 (0 : Int32) post))) → P16 x3 x4 x5) → P16 x3 x4 x5
def q_wp_X7_question_9_0 (a_heard : Nat → Int32) (lf_huts : Int32) (x2 : Int32) (post : Int32 → Prop) : Prop :=
  (¬ x2 = 0 → (q_wp_X7_question_9_16 a_heard lf_huts x2 (-1 : Int32) (1000 : Int32) (0 : Int32) post)) ∧ (x2 = 0 → (post (-1 : Int32)))
set_option maxRecDepth 20000 in
theorem t_wp_X7_question_9_67 {p : Program} {l : Launch} {e : Env} {s : State} {m : MethodId} {args : Array Value} {below : List Frame} {meth : Method} {c : Code} {E : zE} {qp ql qs : Nat} {a_heard : Nat → Int32} {a_walked : Nat → Int32} {a_total : Nat → Int32} {a_longest : Nat → Int32} {a_next : Nat → Int32} {a_cover : Nat → Int32} {a_now : Nat → Int32} {a_then : Nat → Int32} {lf_huts : Int32} {lf_singers : Int32} {lf_villages : Int32} {lf_dams : Int32} {lf_echoes : Int32} {lf_deep : Int32} {lf_slide : Int32} {la_heights : Nat → Int32} {la_ladders : Nat → Int32} {la_minutes : Nat → Int32} {la_echoFrom : Nat → Int32} {la_echoTo : Nat → Int32} {la_homes : Nat → Int32} {la_talls : Nat → Int32} {la_known : Nat → Int32} {sf_facts : Int32} {sa_heard : Nat → Int32} {sa_huts : Nat → Int32} {sa_minutes : Nat → Int32} {P16 : Int32 → Int32 → Int32 → Prop} {P26 : Int32 → Int32 → Int32 → Prop} {post : Int32 → Prop} {x2 : Int32} {x3 : Int32} {x4 : Int32} {x5 : Int32} {x6 : Int32} {ls : Array Slot}
    (zc : zC p s m args meth c cX7_question 8 RX7 (some .int))
    (hK : zK E s)
    (hM : wpW E qp ql qs a_heard a_walked a_total a_longest a_next a_cover a_now a_then lf_huts lf_singers lf_villages lf_dams lf_echoes lf_deep lf_slide la_heights la_ladders la_minutes la_echoFrom la_echoTo la_homes la_talls la_known sf_facts sa_heard sa_huts sa_minutes s.heap)
    (hP16 : ∀ (x3 : Int32) (x4 : Int32) (x5 : Int32) (ls : Array Slot), P16 x3 x4 x5 → lv_has ls 8 [(0, .ref qp), (1, .ref ql), (2, .int x2), (3, .int x3), (4, .int x4), (5, .int x5)] → W p l e rm_wp_X7_question_9 s m args below meth c s.heap [] 0 0 (MQ below (vp_Si post) args s 0 0 (fun _ => False)) (F0 m 16 ls []))
    (hP26 : ∀ (x3 : Int32) (x4 : Int32) (x6 : Int32) (ls : Array Slot), P26 x3 x4 x6 → lv_has ls 8 [(0, .ref qp), (1, .ref ql), (2, .int x2), (3, .int x3), (4, .int x4), (5, .int x5), (6, .int x6)] → W p l e rm_wp_X7_question_9 s m args below meth c s.heap [] 0 0 (MQ below (vp_Si post) args s 0 0 (fun _ => False)) (F0 m 26 ls []))
    (hl : lv_has ls 8 [(0, .ref qp), (1, .ref ql), (2, .int x2), (3, .int x3), (4, .int x4), (5, .int x5), (6, .int x6)])
    (hw : q_wp_X7_question_9_67 P16 P26 a_heard lf_huts x2 x3 x4 x5 x6 post) :
    W p l e rm_wp_X7_question_9 s m args below meth c s.heap [] 0 0 (MQ below (vp_Si post) args s 0 0 (fun _ => False)) (F0 m 67 ls []) := by
  have hx := zc.1
  have hb := zc.2.1
  obtain ⟨v_1, ev_1⟩ : ∃ y : Int32, y = x6 + (1 : Int32) := ⟨_, rfl⟩
  have hw := hw v_1 ev_1
  refine lv_iinc (v := v_1) (k := 6) (lv' := [(6, .int v_1), (0, .ref qp), (1, .ref ql), (2, .int x2), (3, .int x3), (4, .int x4), (5, .int x5)]) hx hb dX7_question_67 hl rfl (by rw [ev_1]; rfl) (by decide) rfl (fun ls hl => ?_)
  refine lv_goto (tgt := 26) hx hb dX7_question_70 (by decide) ?_
  exact hP26 _ _ _ _ hw (lv_sub hl [1, 2, 3, 4, 5, 6, 0] rfl)
set_option maxRecDepth 20000 in
theorem t_wp_X7_question_9_26 {p : Program} {l : Launch} {e : Env} {s : State} {m : MethodId} {args : Array Value} {below : List Frame} {meth : Method} {c : Code} {E : zE} {qp ql qs : Nat} {a_heard : Nat → Int32} {a_walked : Nat → Int32} {a_total : Nat → Int32} {a_longest : Nat → Int32} {a_next : Nat → Int32} {a_cover : Nat → Int32} {a_now : Nat → Int32} {a_then : Nat → Int32} {lf_huts : Int32} {lf_singers : Int32} {lf_villages : Int32} {lf_dams : Int32} {lf_echoes : Int32} {lf_deep : Int32} {lf_slide : Int32} {la_heights : Nat → Int32} {la_ladders : Nat → Int32} {la_minutes : Nat → Int32} {la_echoFrom : Nat → Int32} {la_echoTo : Nat → Int32} {la_homes : Nat → Int32} {la_talls : Nat → Int32} {la_known : Nat → Int32} {sf_facts : Int32} {sa_heard : Nat → Int32} {sa_huts : Nat → Int32} {sa_minutes : Nat → Int32} {P16 : Int32 → Int32 → Int32 → Prop} {post : Int32 → Prop} {x2 : Int32} {x3 : Int32} {x4 : Int32} {x5 : Int32} {x6 : Int32} {ls : Array Slot}
    (zc : zC p s m args meth c cX7_question 8 RX7 (some .int))
    (hK : zK E s)
    (hM : wpW E qp ql qs a_heard a_walked a_total a_longest a_next a_cover a_now a_then lf_huts lf_singers lf_villages lf_dams lf_echoes lf_deep lf_slide la_heights la_ladders la_minutes la_echoFrom la_echoTo la_homes la_talls la_known sf_facts sa_heard sa_huts sa_minutes s.heap)
    (hP16 : ∀ (x3 : Int32) (x4 : Int32) (x5 : Int32) (ls : Array Slot), P16 x3 x4 x5 → lv_has ls 8 [(0, .ref qp), (1, .ref ql), (2, .int x2), (3, .int x3), (4, .int x4), (5, .int x5)] → W p l e rm_wp_X7_question_9 s m args below meth c s.heap [] 0 0 (MQ below (vp_Si post) args s 0 0 (fun _ => False)) (F0 m 16 ls []))
    (hl : lv_has ls 8 [(0, .ref qp), (1, .ref ql), (2, .int x2), (3, .int x3), (4, .int x4), (5, .int x5), (6, .int x6)])
    (hw : q_wp_X7_question_9_26 P16 a_heard lf_huts x2 x3 x4 x5 x6 post) :
    W p l e rm_wp_X7_question_9 s m args below meth c s.heap [] 0 0 (MQ below (vp_Si post) args s 0 0 (fun _ => False)) (F0 m 26 ls []) := by
  have hx := zc.1
  have hb := zc.2.1
  refine hw (fun x3 x4 x6 => ∀ (ls : Array Slot), lv_has ls 8 [(0, .ref qp), (1, .ref ql), (2, .int x2), (3, .int x3), (4, .int x4), (5, .int x5), (6, .int x6)] → W p l e rm_wp_X7_question_9 s m args below meth c s.heap [] 0 0 (MQ below (vp_Si post) args s 0 0 (fun _ => False)) (F0 m 26 ls [])) ?_ _ hl
  intro x3 x4 x6 hw ls hl
  refine lv_iload hx hb dX7_question_26 (lv_at hl 6 rfl) ?_
  refine lv_aload_n hx hb dX7_question_28 rfl (lv_at hl 1 rfl) ?_
  refine wpg_7_42_9 zc hK hM dX7_question_29 ?_
  refine lv_icmp_ge (tgt := 73) hx hb dX7_question_32 (by decide) (fun hc => ?_) (fun hc => ?_)
  · have hw := hw.1 hc
    obtain ⟨v_1, ev_1⟩ : ∃ y : Int32, y = x5 + (1 : Int32) := ⟨_, rfl⟩
    have hw := hw v_1 ev_1
    refine lv_iinc (v := v_1) (k := 5) (lv' := [(5, .int v_1), (0, .ref qp), (1, .ref ql), (2, .int x2), (3, .int x3), (4, .int x4), (6, .int x6)]) hx hb dX7_question_73 hl rfl (by rw [ev_1]; rfl) (by decide) rfl (fun ls hl => ?_)
    refine lv_goto (tgt := 16) hx hb dX7_question_76 (by decide) ?_
    exact hP16 _ _ _ _ hw (lv_sub hl [1, 2, 3, 4, 5, 0] rfl)
  · have hw := hw.2 hc
    refine lv_aload_n hx hb dX7_question_35 rfl (lv_at hl 0 rfl) ?_
    refine lv_aload_n hx hb dX7_question_36 rfl (lv_at hl 1 rfl) ?_
    refine lv_iload_n hx hb dX7_question_37 rfl (lv_at hl 2 rfl) ?_
    refine lv_iload hx hb dX7_question_38 (lv_at hl 6 rfl) ?_
    refine lv_iload hx hb dX7_question_40 (lv_at hl 5 rfl) ?_
    refine zV_i [.ref ql, .int x2, .int x6, .int x5] [] zc ky_X7_greaterPart kz_X7_greaterPart km_7_147 (c_wp_X7_greaterPart_9 l hw) (wpPreV0 hK hM) rfl rfl hl.1 (Nat.le_of_ble_eq_true rfl) ⟨rfl, rfl⟩ ⟨Nat.le_of_ble_eq_true rfl, Nat.le_of_ble_eq_true rfl⟩ ⟨(Nat.zero_le _), (Nat.zero_le _)⟩ dX7_question_42 (fun r_1 hw => ?_)
    refine lv_istore (lv' := [(7, .int r_1), (0, .ref qp), (1, .ref ql), (2, .int x2), (3, .int x3), (4, .int x4), (5, .int x5), (6, .int x6)]) hx hb dX7_question_45 hl (by decide) rfl (fun ls hl => ?_)
    refine lv_iload hx hb dX7_question_47 (lv_at hl 0 rfl) ?_
    refine lv_iload hx hb dX7_question_49 (lv_at hl 5 rfl) ?_
    refine lv_icmp_ge (tgt := 67) hx hb dX7_question_51 (by decide) (fun hc => ?_) (fun hc => ?_)
    · have hw := hw.1 hc
      exact t_wp_X7_question_9_67 zc hK hM hP16 (fun _ _ _ ls h hl => h ls hl) (lv_sub hl [1, 2, 3, 4, 5, 6, 7] rfl) hw
    · have hw := hw.2 hc
      refine lv_bipush (v := (10 : Int32)) hx hb dX7_question_54 (by decide) ?_
      refine lv_iload hx hb dX7_question_56 (lv_at hl 6 rfl) ?_
      refine lv_imul hx hb dX7_question_58 ?_
      refine lv_iload hx hb dX7_question_59 (lv_at hl 7 rfl) ?_
      refine lv_iadd hx hb dX7_question_61 ?_
      refine lv_topi (fun v_2 ev_2 => ?_)
      have hw := hw v_2 ev_2
      refine lv_istore_n (lv' := [(3, .int v_2), (7, .int r_1), (0, .ref qp), (1, .ref ql), (2, .int x2), (4, .int x4), (5, .int x5), (6, .int x6)]) hx hb dX7_question_62 rfl hl (by decide) rfl (fun ls hl => ?_)
      refine lv_iload hx hb dX7_question_63 (lv_at hl 1 rfl) ?_
      refine lv_istore (lv' := [(4, .int r_1), (3, .int v_2), (7, .int r_1), (0, .ref qp), (1, .ref ql), (2, .int x2), (5, .int x5), (6, .int x6)]) hx hb dX7_question_65 hl (by decide) rfl (fun ls hl => ?_)
      exact t_wp_X7_question_9_67 zc hK hM hP16 (fun _ _ _ ls h hl => h ls hl) (lv_sub hl [3, 4, 5, 1, 0, 6, 7] rfl) hw
set_option maxRecDepth 20000 in
theorem t_wp_X7_question_9_16 {p : Program} {l : Launch} {e : Env} {s : State} {m : MethodId} {args : Array Value} {below : List Frame} {meth : Method} {c : Code} {E : zE} {qp ql qs : Nat} {a_heard : Nat → Int32} {a_walked : Nat → Int32} {a_total : Nat → Int32} {a_longest : Nat → Int32} {a_next : Nat → Int32} {a_cover : Nat → Int32} {a_now : Nat → Int32} {a_then : Nat → Int32} {lf_huts : Int32} {lf_singers : Int32} {lf_villages : Int32} {lf_dams : Int32} {lf_echoes : Int32} {lf_deep : Int32} {lf_slide : Int32} {la_heights : Nat → Int32} {la_ladders : Nat → Int32} {la_minutes : Nat → Int32} {la_echoFrom : Nat → Int32} {la_echoTo : Nat → Int32} {la_homes : Nat → Int32} {la_talls : Nat → Int32} {la_known : Nat → Int32} {sf_facts : Int32} {sa_heard : Nat → Int32} {sa_huts : Nat → Int32} {sa_minutes : Nat → Int32} {post : Int32 → Prop} {x2 : Int32} {x3 : Int32} {x4 : Int32} {x5 : Int32} {ls : Array Slot}
    (zc : zC p s m args meth c cX7_question 8 RX7 (some .int))
    (hK : zK E s)
    (hM : wpW E qp ql qs a_heard a_walked a_total a_longest a_next a_cover a_now a_then lf_huts lf_singers lf_villages lf_dams lf_echoes lf_deep lf_slide la_heights la_ladders la_minutes la_echoFrom la_echoTo la_homes la_talls la_known sf_facts sa_heard sa_huts sa_minutes s.heap)
    (hl : lv_has ls 8 [(0, .ref qp), (1, .ref ql), (2, .int x2), (3, .int x3), (4, .int x4), (5, .int x5)])
    (hw : q_wp_X7_question_9_16 a_heard lf_huts x2 x3 x4 x5 post) :
    W p l e rm_wp_X7_question_9 s m args below meth c s.heap [] 0 0 (MQ below (vp_Si post) args s 0 0 (fun _ => False)) (F0 m 16 ls []) := by
  have hx := zc.1
  have hb := zc.2.1
  refine hw (fun x3 x4 x5 => ∀ (ls : Array Slot), lv_has ls 8 [(0, .ref qp), (1, .ref ql), (2, .int x2), (3, .int x3), (4, .int x4), (5, .int x5)] → W p l e rm_wp_X7_question_9 s m args below meth c s.heap [] 0 0 (MQ below (vp_Si post) args s 0 0 (fun _ => False)) (F0 m 16 ls [])) ?_ _ hl
  intro x3 x4 x5 hw ls hl
  refine lv_iload hx hb dX7_question_16 (lv_at hl 5 rfl) ?_
  refine lv_bipush (v := (60 : Int32)) hx hb dX7_question_18 (by decide) ?_
  refine lv_icmp_gt (tgt := 79) hx hb dX7_question_20 (by decide) (fun hc => ?_) (fun hc => ?_)
  · have hw := hw.1 hc
    refine lv_iload_n hx hb dX7_question_79 rfl (lv_at hl 3 rfl) ?_
    exact zret_i zc hw dX7_question_80
  · have hw := hw.2 hc
    refine lv_iconst (v := (0 : Int32)) hx hb dX7_question_23 (by decide) ?_
    refine lv_istore (lv' := [(6, .int (0 : Int32)), (0, .ref qp), (1, .ref ql), (2, .int x2), (3, .int x3), (4, .int x4), (5, .int x5)]) hx hb dX7_question_24 hl (by decide) rfl (fun ls hl => ?_)
    exact t_wp_X7_question_9_26 zc hK hM (fun _ _ _ ls h hl => h ls hl) (lv_sub hl [1, 2, 3, 4, 5, 6, 0] rfl) hw
set_option maxRecDepth 20000 in
theorem t_wp_X7_question_9_0 {p : Program} {l : Launch} {e : Env} {s : State} {m : MethodId} {args : Array Value} {below : List Frame} {meth : Method} {c : Code} {E : zE} {qp ql qs : Nat} {a_heard : Nat → Int32} {a_walked : Nat → Int32} {a_total : Nat → Int32} {a_longest : Nat → Int32} {a_next : Nat → Int32} {a_cover : Nat → Int32} {a_now : Nat → Int32} {a_then : Nat → Int32} {lf_huts : Int32} {lf_singers : Int32} {lf_villages : Int32} {lf_dams : Int32} {lf_echoes : Int32} {lf_deep : Int32} {lf_slide : Int32} {la_heights : Nat → Int32} {la_ladders : Nat → Int32} {la_minutes : Nat → Int32} {la_echoFrom : Nat → Int32} {la_echoTo : Nat → Int32} {la_homes : Nat → Int32} {la_talls : Nat → Int32} {la_known : Nat → Int32} {sf_facts : Int32} {sa_heard : Nat → Int32} {sa_huts : Nat → Int32} {sa_minutes : Nat → Int32} {post : Int32 → Prop} {x2 : Int32} {ls : Array Slot}
    (zc : zC p s m args meth c cX7_question 8 RX7 (some .int))
    (hK : zK E s)
    (hM : wpW E qp ql qs a_heard a_walked a_total a_longest a_next a_cover a_now a_then lf_huts lf_singers lf_villages lf_dams lf_echoes lf_deep lf_slide la_heights la_ladders la_minutes la_echoFrom la_echoTo la_homes la_talls la_known sf_facts sa_heard sa_huts sa_minutes s.heap)
    (hl : lv_has ls 8 [(0, .ref qp), (1, .ref ql), (2, .int x2)])
    (hw : q_wp_X7_question_9_0 a_heard lf_huts x2 post) :
    W p l e rm_wp_X7_question_9 s m args below meth c s.heap [] 0 0 (MQ below (vp_Si post) args s 0 0 (fun _ => False)) (F0 m 0 ls []) := by
  have hx := zc.1
  have hb := zc.2.1
  refine lv_iload_n hx hb dX7_question_0 rfl (lv_at hl 2 rfl) ?_
  refine lv_if_ne (tgt := 6) hx hb dX7_question_1 (by decide) (fun hc => ?_) (fun hc => ?_)
  · have hw := hw.1 hc
    refine lv_iconst (v := (-1 : Int32)) hx hb dX7_question_6 (by decide) ?_
    refine lv_istore_n (lv' := [(3, .int (-1 : Int32)), (0, .ref qp), (1, .ref ql), (2, .int x2)]) hx hb dX7_question_7 rfl hl (by decide) rfl (fun ls hl => ?_)
    refine lv_sipush (v := (1000 : Int32)) hx hb dX7_question_8 (by decide) ?_
    refine lv_istore (lv' := [(4, .int (1000 : Int32)), (3, .int (-1 : Int32)), (0, .ref qp), (1, .ref ql), (2, .int x2)]) hx hb dX7_question_11 hl (by decide) rfl (fun ls hl => ?_)
    refine lv_iconst (v := (0 : Int32)) hx hb dX7_question_13 (by decide) ?_
    refine lv_istore (lv' := [(5, .int (0 : Int32)), (4, .int (1000 : Int32)), (3, .int (-1 : Int32)), (0, .ref qp), (1, .ref ql), (2, .int x2)]) hx hb dX7_question_14 hl (by decide) rfl (fun ls hl => ?_)
    exact t_wp_X7_question_9_16 zc hK hM  (lv_sub hl [3, 4, 5, 2, 1, 0] rfl) hw
  · have hw := hw.2 hc
    refine lv_iconst (v := (-1 : Int32)) hx hb dX7_question_4 (by decide) ?_
    exact zret_i zc hw dX7_question_5
set_option maxRecDepth 20000 in
theorem c_wp_X7_question_9 (l : Launch) {E : zE} {qp ql qs : Nat} {a_heard : Nat → Int32} {a_walked : Nat → Int32} {a_total : Nat → Int32} {a_longest : Nat → Int32} {a_next : Nat → Int32} {a_cover : Nat → Int32} {a_now : Nat → Int32} {a_then : Nat → Int32} {lf_huts : Int32} {lf_singers : Int32} {lf_villages : Int32} {lf_dams : Int32} {lf_echoes : Int32} {lf_deep : Int32} {lf_slide : Int32} {la_heights : Nat → Int32} {la_ladders : Nat → Int32} {la_minutes : Nat → Int32} {la_echoFrom : Nat → Int32} {la_echoTo : Nat → Int32} {la_homes : Nat → Int32} {la_talls : Nat → Int32} {la_known : Nat → Int32} {sf_facts : Int32} {sa_heard : Nat → Int32} {sa_huts : Nat → Int32} {sa_minutes : Nat → Int32} {x2 : Int32} {post : Int32 → Prop} (hw : q_wp_X7_question_9_0 a_heard lf_huts x2 post) : Met l yX7_question (Cond.code yX7_question cX7_question 8 (some .int) :: zb) rm_wp_X7_question_9 (va_Pc [.ref qp, .ref ql, .int x2] (fun U => wpW E qp ql qs a_heard a_walked a_total a_longest a_next a_cover a_now a_then lf_huts lf_singers lf_villages lf_dams lf_echoes lf_deep lf_slide la_heights la_ladders la_minutes la_echoFrom la_echoTo la_homes la_talls la_known sf_facts sa_heard sa_huts sa_minutes U.heap ∧ zK E U)) (vp_Si post) 0 0 (fun _ => False) := by
  refine Met.ofW (cc := cX7_question) (maxL := 8) (ret := (some .int)) (by decide) rfl ?_
  intro p e s m args below meth c s₁ B hml hv
  obtain ⟨rfl, hM, hK⟩ := hv
  have zc := zc_of B hml
  have hl := lv_entry ([.ref qp, .ref ql, .int x2]) (n := 8) (Nat.le_of_ble_eq_true rfl)
  rw [lg_entry_eq]
  generalize (lg_sl ([.ref qp, .ref ql, .int x2]) ++ List.replicate (8 - (lg_sl ([.ref qp, .ref ql, .int x2])).length) Slot.unset).toArray = ls at hl ⊢
  have hl : lv_has ls 8 [(0, .ref qp), (1, .ref ql), (2, .int x2)] := hl
  exact t_wp_X7_question_9_0 zc hK hM (lv_sub hl [0, 1, 2] rfl) hw
end
section
-- wp_X7_soonest_9
abbrev rm_wp_X7_soonest_9 : Room := { frames := 1, cells := 0, slots := 0, locals := 40 }
def q_wp_X7_soonest_9_7 (a_heard : Nat → Int32) (lf_huts : Int32) (x2 : Int32) (x3 : Int32) (x4 : Int32) (post : Int32 → Prop) : Prop :=
  ∀ P7 : Int32 → Int32 → Prop, (∀ (x3 : Int32) (x4 : Int32), ((lf_huts ≤ x4 → (post x3)) ∧ (¬ lf_huts ≤ x4 → (vp_in ((x4 * (9 : Int32)) + x2) 81 ∧ (∀ v_1 : Int32, v_1 = (if (a_heard (Int32.toNatClampNeg ((x4 * (9 : Int32)) + x2))) < x3 then (a_heard (Int32.toNatClampNeg ((x4 * (9 : Int32)) + x2))) else x3) → (∀ v_2 : Int32, v_2 = x4 + (1 : Int32) → (P7 v_1 v_2)))))) → P7 x3 x4) → P7 x3 x4
def q_wp_X7_soonest_9_0 (a_heard : Nat → Int32) (lf_huts : Int32) (x2 : Int32) (post : Int32 → Prop) : Prop :=
  q_wp_X7_soonest_9_7 a_heard lf_huts x2 (1000 : Int32) (0 : Int32) post
set_option maxRecDepth 20000 in
theorem t_wp_X7_soonest_9_7 {p : Program} {l : Launch} {e : Env} {s : State} {m : MethodId} {args : Array Value} {below : List Frame} {meth : Method} {c : Code} {E : zE} {qp ql qs : Nat} {a_heard : Nat → Int32} {a_walked : Nat → Int32} {a_total : Nat → Int32} {a_longest : Nat → Int32} {a_next : Nat → Int32} {a_cover : Nat → Int32} {a_now : Nat → Int32} {a_then : Nat → Int32} {lf_huts : Int32} {lf_singers : Int32} {lf_villages : Int32} {lf_dams : Int32} {lf_echoes : Int32} {lf_deep : Int32} {lf_slide : Int32} {la_heights : Nat → Int32} {la_ladders : Nat → Int32} {la_minutes : Nat → Int32} {la_echoFrom : Nat → Int32} {la_echoTo : Nat → Int32} {la_homes : Nat → Int32} {la_talls : Nat → Int32} {la_known : Nat → Int32} {sf_facts : Int32} {sa_heard : Nat → Int32} {sa_huts : Nat → Int32} {sa_minutes : Nat → Int32} {post : Int32 → Prop} {x2 : Int32} {x3 : Int32} {x4 : Int32} {ls : Array Slot}
    (zc : zC p s m args meth c cX7_soonest 5 RX7 (some .int))
    (hK : zK E s)
    (hM : wpW E qp ql qs a_heard a_walked a_total a_longest a_next a_cover a_now a_then lf_huts lf_singers lf_villages lf_dams lf_echoes lf_deep lf_slide la_heights la_ladders la_minutes la_echoFrom la_echoTo la_homes la_talls la_known sf_facts sa_heard sa_huts sa_minutes s.heap)
    (hl : lv_has ls 5 [(0, .ref qp), (1, .ref ql), (2, .int x2), (3, .int x3), (4, .int x4)])
    (hw : q_wp_X7_soonest_9_7 a_heard lf_huts x2 x3 x4 post) :
    W p l e rm_wp_X7_soonest_9 s m args below meth c s.heap [] 0 0 (MQ below (vp_Si post) args s 0 0 (fun _ => False)) (F0 m 7 ls []) := by
  have hx := zc.1
  have hb := zc.2.1
  refine hw (fun x3 x4 => ∀ (ls : Array Slot), lv_has ls 5 [(0, .ref qp), (1, .ref ql), (2, .int x2), (3, .int x3), (4, .int x4)] → W p l e rm_wp_X7_soonest_9 s m args below meth c s.heap [] 0 0 (MQ below (vp_Si post) args s 0 0 (fun _ => False)) (F0 m 7 ls [])) ?_ _ hl
  intro x3 x4 hw ls hl
  refine lv_iload hx hb dX7_soonest_7 (lv_at hl 4 rfl) ?_
  refine lv_aload_n hx hb dX7_soonest_9 rfl (lv_at hl 1 rfl) ?_
  refine wpg_7_42_9 zc hK hM dX7_soonest_10 ?_
  refine lv_icmp_ge (tgt := 39) hx hb dX7_soonest_13 (by decide) (fun hc => ?_) (fun hc => ?_)
  · have hw := hw.1 hc
    refine lv_iload_n hx hb dX7_soonest_39 rfl (lv_at hl 3 rfl) ?_
    exact zret_i zc hw dX7_soonest_40
  · have hw := hw.2 hc
    refine lv_iload_n hx hb dX7_soonest_16 rfl (lv_at hl 3 rfl) ?_
    refine lv_aload_n hx hb dX7_soonest_17 rfl (lv_at hl 0 rfl) ?_
    refine wpg_7_9_0 zc hK hM dX7_soonest_18 ?_
    refine lv_iload hx hb dX7_soonest_21 (lv_at hl 4 rfl) ?_
    refine lv_bipush (v := (9 : Int32)) hx hb dX7_soonest_23 (by decide) ?_
    refine lv_imul hx hb dX7_soonest_25 ?_
    refine lv_iload_n hx hb dX7_soonest_26 rfl (lv_at hl 2 rfl) ?_
    refine lv_iadd hx hb dX7_soonest_27 ?_
    refine wpld_1 zc hK hM hw.1 dX7_soonest_28 ?_
    have hw := hw.2
    refine va_mmin hx hb (zc.2.2.1.trans hl.1.symm) zc.2.2.2.1 (zc.2.2.2.2.1 _ km_7_117) (zc.2.2.2.2.1 _ k_mmins) (zc.2.2.2.2.1 _ k_mini) (zc.2.2.2.2.1 _ k_mminc) (Nat.le_of_ble_eq_true rfl) (Nat.le_of_ble_eq_true rfl) (Nat.zero_le _) (Nat.zero_le _) dX7_soonest_29 ?_
    refine lv_topi (fun v_1 ev_1 => ?_)
    have hw := hw v_1 ev_1
    refine lv_istore_n (lv' := [(3, .int v_1), (0, .ref qp), (1, .ref ql), (2, .int x2), (4, .int x4)]) hx hb dX7_soonest_32 rfl hl (by decide) rfl (fun ls hl => ?_)
    obtain ⟨v_2, ev_2⟩ : ∃ y : Int32, y = x4 + (1 : Int32) := ⟨_, rfl⟩
    have hw := hw v_2 ev_2
    refine lv_iinc (v := v_2) (k := 4) (lv' := [(4, .int v_2), (3, .int v_1), (0, .ref qp), (1, .ref ql), (2, .int x2)]) hx hb dX7_soonest_33 hl rfl (by rw [ev_2]; rfl) (by decide) rfl (fun ls hl => ?_)
    refine lv_goto (tgt := 7) hx hb dX7_soonest_36 (by decide) ?_
    exact hw _ (lv_sub hl [2, 3, 4, 1, 0] rfl)
set_option maxRecDepth 20000 in
theorem t_wp_X7_soonest_9_0 {p : Program} {l : Launch} {e : Env} {s : State} {m : MethodId} {args : Array Value} {below : List Frame} {meth : Method} {c : Code} {E : zE} {qp ql qs : Nat} {a_heard : Nat → Int32} {a_walked : Nat → Int32} {a_total : Nat → Int32} {a_longest : Nat → Int32} {a_next : Nat → Int32} {a_cover : Nat → Int32} {a_now : Nat → Int32} {a_then : Nat → Int32} {lf_huts : Int32} {lf_singers : Int32} {lf_villages : Int32} {lf_dams : Int32} {lf_echoes : Int32} {lf_deep : Int32} {lf_slide : Int32} {la_heights : Nat → Int32} {la_ladders : Nat → Int32} {la_minutes : Nat → Int32} {la_echoFrom : Nat → Int32} {la_echoTo : Nat → Int32} {la_homes : Nat → Int32} {la_talls : Nat → Int32} {la_known : Nat → Int32} {sf_facts : Int32} {sa_heard : Nat → Int32} {sa_huts : Nat → Int32} {sa_minutes : Nat → Int32} {post : Int32 → Prop} {x2 : Int32} {ls : Array Slot}
    (zc : zC p s m args meth c cX7_soonest 5 RX7 (some .int))
    (hK : zK E s)
    (hM : wpW E qp ql qs a_heard a_walked a_total a_longest a_next a_cover a_now a_then lf_huts lf_singers lf_villages lf_dams lf_echoes lf_deep lf_slide la_heights la_ladders la_minutes la_echoFrom la_echoTo la_homes la_talls la_known sf_facts sa_heard sa_huts sa_minutes s.heap)
    (hl : lv_has ls 5 [(0, .ref qp), (1, .ref ql), (2, .int x2)])
    (hw : q_wp_X7_soonest_9_0 a_heard lf_huts x2 post) :
    W p l e rm_wp_X7_soonest_9 s m args below meth c s.heap [] 0 0 (MQ below (vp_Si post) args s 0 0 (fun _ => False)) (F0 m 0 ls []) := by
  have hx := zc.1
  have hb := zc.2.1
  refine lv_sipush (v := (1000 : Int32)) hx hb dX7_soonest_0 (by decide) ?_
  refine lv_istore_n (lv' := [(3, .int (1000 : Int32)), (0, .ref qp), (1, .ref ql), (2, .int x2)]) hx hb dX7_soonest_3 rfl hl (by decide) rfl (fun ls hl => ?_)
  refine lv_iconst (v := (0 : Int32)) hx hb dX7_soonest_4 (by decide) ?_
  refine lv_istore (lv' := [(4, .int (0 : Int32)), (3, .int (1000 : Int32)), (0, .ref qp), (1, .ref ql), (2, .int x2)]) hx hb dX7_soonest_5 hl (by decide) rfl (fun ls hl => ?_)
  exact t_wp_X7_soonest_9_7 zc hK hM  (lv_sub hl [2, 3, 4, 1, 0] rfl) hw
set_option maxRecDepth 20000 in
theorem c_wp_X7_soonest_9 (l : Launch) {E : zE} {qp ql qs : Nat} {a_heard : Nat → Int32} {a_walked : Nat → Int32} {a_total : Nat → Int32} {a_longest : Nat → Int32} {a_next : Nat → Int32} {a_cover : Nat → Int32} {a_now : Nat → Int32} {a_then : Nat → Int32} {lf_huts : Int32} {lf_singers : Int32} {lf_villages : Int32} {lf_dams : Int32} {lf_echoes : Int32} {lf_deep : Int32} {lf_slide : Int32} {la_heights : Nat → Int32} {la_ladders : Nat → Int32} {la_minutes : Nat → Int32} {la_echoFrom : Nat → Int32} {la_echoTo : Nat → Int32} {la_homes : Nat → Int32} {la_talls : Nat → Int32} {la_known : Nat → Int32} {sf_facts : Int32} {sa_heard : Nat → Int32} {sa_huts : Nat → Int32} {sa_minutes : Nat → Int32} {x2 : Int32} {post : Int32 → Prop} (hw : q_wp_X7_soonest_9_0 a_heard lf_huts x2 post) : Met l yX7_soonest (Cond.code yX7_soonest cX7_soonest 5 (some .int) :: zb) rm_wp_X7_soonest_9 (va_Pc [.ref qp, .ref ql, .int x2] (fun U => wpW E qp ql qs a_heard a_walked a_total a_longest a_next a_cover a_now a_then lf_huts lf_singers lf_villages lf_dams lf_echoes lf_deep lf_slide la_heights la_ladders la_minutes la_echoFrom la_echoTo la_homes la_talls la_known sf_facts sa_heard sa_huts sa_minutes U.heap ∧ zK E U)) (vp_Si post) 0 0 (fun _ => False) := by
  refine Met.ofW (cc := cX7_soonest) (maxL := 5) (ret := (some .int)) (by decide) rfl ?_
  intro p e s m args below meth c s₁ B hml hv
  obtain ⟨rfl, hM, hK⟩ := hv
  have zc := zc_of B hml
  have hl := lv_entry ([.ref qp, .ref ql, .int x2]) (n := 5) (Nat.le_of_ble_eq_true rfl)
  rw [lg_entry_eq]
  generalize (lg_sl ([.ref qp, .ref ql, .int x2]) ++ List.replicate (5 - (lg_sl ([.ref qp, .ref ql, .int x2])).length) Slot.unset).toArray = ls at hl ⊢
  have hl : lv_has ls 5 [(0, .ref qp), (1, .ref ql), (2, .int x2)] := hl
  exact t_wp_X7_soonest_9_0 zc hK hM (lv_sub hl [0, 1, 2] rfl) hw
-- wp_X7_carried_9
abbrev rm_wp_X7_carried_9 : Room := { frames := 2, cells := 0, slots := 0, locals := 64 }
def q_wp_X7_carried_9_66 (P11 : Int32 → Int32 → Int32 → Prop) (a_heard : Nat → Int32) (a_walked : Nat → Int32) (lf_huts : Int32) (lf_villages : Int32) (lf_dams : Int32) (x2 : Int32) (x3 : Int32) (x4 : Int32) (x5 : Int32) (x6 : Int32) (post : Int32 → Prop) : Prop :=
  ∀ v_1 : Int32, v_1 = x6 + (1 : Int32) → (P11 x4 x5 v_1)
def q_wp_X7_carried_9_11 (a_heard : Nat → Int32) (a_walked : Nat → Int32) (lf_huts : Int32) (lf_villages : Int32) (lf_dams : Int32) (x2 : Int32) (x3 : Int32) (x4 : Int32) (x5 : Int32) (x6 : Int32) (post : Int32 → Prop) : Prop :=
  ∀ P11 : Int32 → Int32 → Int32 → Prop, (∀ (x4 : Int32) (x5 : Int32) (x6 : Int32), ((lf_huts ≤ x6 → ((x4 = (-1 : Int32) → (post x4)) ∧ (¬ x4 = (-1 : Int32) → ((x3 = 0 → (post x4)) ∧ (¬ x3 = 0 → (post x5)))))) ∧ (¬ lf_huts ≤ x6 → (vp_in ((x2 * (9 : Int32)) + x6) 81 ∧ (q_wp_X7_lastVillage_9_0 a_heard lf_huts lf_villages lf_dams x6 (fun r_1 => ∀ v_1 : Int32, v_1 = ((a_walked (Int32.toNatClampNeg ((x2 * (9 : Int32)) + x6))) + r_1) → (q_wl_X2_isDam_0 lf_dams x6 (fun r_2 => (¬ r_2 = 0 → (q_wp_X7_carried_9_66 P11 a_heard a_walked lf_huts lf_villages lf_dams x2 x3 x4 x5 x6 post)) ∧ (r_2 = 0 → ((x5 ≤ v_1 → (q_wp_X7_carried_9_66 P11 a_heard a_walked lf_huts lf_villages lf_dams x2 x3 x4 x5 x6 post)) ∧ (¬ x5 ≤ v_1 → (q_wp_X7_carried_9_66 P11 a_heard a_walked lf_huts lf_villages lf_dams x2 x3 x6 v_1 x6 post))))))))))) → P11 x4 x5 x6) → P11 x4 x5 x6
def q_wp_X7_carried_9_0 (a_heard : Nat → Int32) (a_walked : Nat → Int32) (lf_huts : Int32) (lf_villages : Int32) (lf_dams : Int32) (x2 : Int32) (x3 : Int32) (post : Int32 → Prop) : Prop :=
  q_wp_X7_carried_9_11 a_heard a_walked lf_huts lf_villages lf_dams x2 x3 (-1 : Int32) (1000 : Int32) (0 : Int32) post
set_option maxRecDepth 20000 in
theorem t_wp_X7_carried_9_66 {p : Program} {l : Launch} {e : Env} {s : State} {m : MethodId} {args : Array Value} {below : List Frame} {meth : Method} {c : Code} {E : zE} {qp ql qs : Nat} {a_heard : Nat → Int32} {a_walked : Nat → Int32} {a_total : Nat → Int32} {a_longest : Nat → Int32} {a_next : Nat → Int32} {a_cover : Nat → Int32} {a_now : Nat → Int32} {a_then : Nat → Int32} {lf_huts : Int32} {lf_singers : Int32} {lf_villages : Int32} {lf_dams : Int32} {lf_echoes : Int32} {lf_deep : Int32} {lf_slide : Int32} {la_heights : Nat → Int32} {la_ladders : Nat → Int32} {la_minutes : Nat → Int32} {la_echoFrom : Nat → Int32} {la_echoTo : Nat → Int32} {la_homes : Nat → Int32} {la_talls : Nat → Int32} {la_known : Nat → Int32} {sf_facts : Int32} {sa_heard : Nat → Int32} {sa_huts : Nat → Int32} {sa_minutes : Nat → Int32} {P11 : Int32 → Int32 → Int32 → Prop} {post : Int32 → Prop} {x2 : Int32} {x3 : Int32} {x4 : Int32} {x5 : Int32} {x6 : Int32} {ls : Array Slot}
    (zc : zC p s m args meth c cX7_carried 8 RX7 (some .int))
    (hK : zK E s)
    (hM : wpW E qp ql qs a_heard a_walked a_total a_longest a_next a_cover a_now a_then lf_huts lf_singers lf_villages lf_dams lf_echoes lf_deep lf_slide la_heights la_ladders la_minutes la_echoFrom la_echoTo la_homes la_talls la_known sf_facts sa_heard sa_huts sa_minutes s.heap)
    (hP11 : ∀ (x4 : Int32) (x5 : Int32) (x6 : Int32) (ls : Array Slot), P11 x4 x5 x6 → lv_has ls 8 [(0, .ref qp), (1, .ref ql), (2, .int x2), (3, .int x3), (4, .int x4), (5, .int x5), (6, .int x6)] → W p l e rm_wp_X7_carried_9 s m args below meth c s.heap [] 0 0 (MQ below (vp_Si post) args s 0 0 (fun _ => False)) (F0 m 11 ls []))
    (hl : lv_has ls 8 [(0, .ref qp), (1, .ref ql), (2, .int x2), (3, .int x3), (4, .int x4), (5, .int x5), (6, .int x6)])
    (hw : q_wp_X7_carried_9_66 P11 a_heard a_walked lf_huts lf_villages lf_dams x2 x3 x4 x5 x6 post) :
    W p l e rm_wp_X7_carried_9 s m args below meth c s.heap [] 0 0 (MQ below (vp_Si post) args s 0 0 (fun _ => False)) (F0 m 66 ls []) := by
  have hx := zc.1
  have hb := zc.2.1
  obtain ⟨v_1, ev_1⟩ : ∃ y : Int32, y = x6 + (1 : Int32) := ⟨_, rfl⟩
  have hw := hw v_1 ev_1
  refine lv_iinc (v := v_1) (k := 6) (lv' := [(6, .int v_1), (0, .ref qp), (1, .ref ql), (2, .int x2), (3, .int x3), (4, .int x4), (5, .int x5)]) hx hb dX7_carried_66 hl rfl (by rw [ev_1]; rfl) (by decide) rfl (fun ls hl => ?_)
  refine lv_goto (tgt := 11) hx hb dX7_carried_69 (by decide) ?_
  exact hP11 _ _ _ _ hw (lv_sub hl [1, 2, 3, 4, 5, 6, 0] rfl)
set_option maxRecDepth 20000 in
theorem t_wp_X7_carried_9_11 {p : Program} {l : Launch} {e : Env} {s : State} {m : MethodId} {args : Array Value} {below : List Frame} {meth : Method} {c : Code} {E : zE} {qp ql qs : Nat} {a_heard : Nat → Int32} {a_walked : Nat → Int32} {a_total : Nat → Int32} {a_longest : Nat → Int32} {a_next : Nat → Int32} {a_cover : Nat → Int32} {a_now : Nat → Int32} {a_then : Nat → Int32} {lf_huts : Int32} {lf_singers : Int32} {lf_villages : Int32} {lf_dams : Int32} {lf_echoes : Int32} {lf_deep : Int32} {lf_slide : Int32} {la_heights : Nat → Int32} {la_ladders : Nat → Int32} {la_minutes : Nat → Int32} {la_echoFrom : Nat → Int32} {la_echoTo : Nat → Int32} {la_homes : Nat → Int32} {la_talls : Nat → Int32} {la_known : Nat → Int32} {sf_facts : Int32} {sa_heard : Nat → Int32} {sa_huts : Nat → Int32} {sa_minutes : Nat → Int32} {post : Int32 → Prop} {x2 : Int32} {x3 : Int32} {x4 : Int32} {x5 : Int32} {x6 : Int32} {ls : Array Slot}
    (zc : zC p s m args meth c cX7_carried 8 RX7 (some .int))
    (hK : zK E s)
    (hM : wpW E qp ql qs a_heard a_walked a_total a_longest a_next a_cover a_now a_then lf_huts lf_singers lf_villages lf_dams lf_echoes lf_deep lf_slide la_heights la_ladders la_minutes la_echoFrom la_echoTo la_homes la_talls la_known sf_facts sa_heard sa_huts sa_minutes s.heap)
    (hl : lv_has ls 8 [(0, .ref qp), (1, .ref ql), (2, .int x2), (3, .int x3), (4, .int x4), (5, .int x5), (6, .int x6)])
    (hw : q_wp_X7_carried_9_11 a_heard a_walked lf_huts lf_villages lf_dams x2 x3 x4 x5 x6 post) :
    W p l e rm_wp_X7_carried_9 s m args below meth c s.heap [] 0 0 (MQ below (vp_Si post) args s 0 0 (fun _ => False)) (F0 m 11 ls []) := by
  have hx := zc.1
  have hb := zc.2.1
  refine hw (fun x4 x5 x6 => ∀ (ls : Array Slot), lv_has ls 8 [(0, .ref qp), (1, .ref ql), (2, .int x2), (3, .int x3), (4, .int x4), (5, .int x5), (6, .int x6)] → W p l e rm_wp_X7_carried_9 s m args below meth c s.heap [] 0 0 (MQ below (vp_Si post) args s 0 0 (fun _ => False)) (F0 m 11 ls [])) ?_ _ hl
  intro x4 x5 x6 hw ls hl
  refine lv_iload hx hb dX7_carried_11 (lv_at hl 6 rfl) ?_
  refine lv_aload_n hx hb dX7_carried_13 rfl (lv_at hl 1 rfl) ?_
  refine wpg_7_42_9 zc hK hM dX7_carried_14 ?_
  refine lv_icmp_ge (tgt := 72) hx hb dX7_carried_17 (by decide) (fun hc => ?_) (fun hc => ?_)
  · have hw := hw.1 hc
    refine lv_iload hx hb dX7_carried_72 (lv_at hl 4 rfl) ?_
    refine lv_iconst (v := (-1 : Int32)) hx hb dX7_carried_74 (by decide) ?_
    refine lv_icmp_eq (tgt := 87) hx hb dX7_carried_75 (by decide) (fun hc => ?_) (fun hc => ?_)
    · have hw := hw.1 hc
      refine lv_iload hx hb dX7_carried_87 (lv_at hl 4 rfl) ?_
      exact zret_i zc hw dX7_carried_89
    · have hw := hw.2 hc
      refine lv_iload_n hx hb dX7_carried_78 rfl (lv_at hl 3 rfl) ?_
      refine lv_if_eq (tgt := 87) hx hb dX7_carried_79 (by decide) (fun hc => ?_) (fun hc => ?_)
      · have hw := hw.1 hc
        refine lv_iload hx hb dX7_carried_87 (lv_at hl 4 rfl) ?_
        exact zret_i zc hw dX7_carried_89
      · have hw := hw.2 hc
        refine lv_iload hx hb dX7_carried_82 (lv_at hl 5 rfl) ?_
        refine lv_goto (tgt := 89) hx hb dX7_carried_84 (by decide) ?_
        exact zret_i zc hw dX7_carried_89
  · have hw := hw.2 hc
    refine lv_aload_n hx hb dX7_carried_20 rfl (lv_at hl 0 rfl) ?_
    refine wpg_7_15_0 zc hK hM dX7_carried_21 ?_
    refine lv_iload_n hx hb dX7_carried_24 rfl (lv_at hl 2 rfl) ?_
    refine lv_bipush (v := (9 : Int32)) hx hb dX7_carried_25 (by decide) ?_
    refine lv_imul hx hb dX7_carried_27 ?_
    refine lv_iload hx hb dX7_carried_28 (lv_at hl 6 rfl) ?_
    refine lv_iadd hx hb dX7_carried_30 ?_
    refine wpld_2 zc hK hM hw.1 dX7_carried_31 ?_
    have hw := hw.2
    refine lv_aload_n hx hb dX7_carried_32 rfl (lv_at hl 0 rfl) ?_
    refine lv_aload_n hx hb dX7_carried_33 rfl (lv_at hl 1 rfl) ?_
    refine lv_iload hx hb dX7_carried_34 (lv_at hl 6 rfl) ?_
    refine zV_i [.ref ql, .int x6] [.int (a_walked (Int32.toNatClampNeg ((x2 * (9 : Int32)) + x6)))] zc ky_X7_lastVillage kz_X7_lastVillage km_7_82 (c_wp_X7_lastVillage_9 l hw) (wpPreV0 hK hM) rfl rfl hl.1 (Nat.le_of_ble_eq_true rfl) ⟨rfl, rfl⟩ ⟨Nat.le_of_ble_eq_true rfl, Nat.le_of_ble_eq_true rfl⟩ ⟨(Nat.zero_le _), (Nat.zero_le _)⟩ dX7_carried_36 (fun r_1 hw => ?_)
    refine lv_iadd hx hb dX7_carried_39 ?_
    refine lv_topi (fun v_1 ev_1 => ?_)
    have hw := hw v_1 ev_1
    refine lv_istore (lv' := [(7, .int v_1), (0, .ref qp), (1, .ref ql), (2, .int x2), (3, .int x3), (4, .int x4), (5, .int x5), (6, .int x6)]) hx hb dX7_carried_40 hl (by decide) rfl (fun ls hl => ?_)
    refine lv_aload_n hx hb dX7_carried_42 rfl (lv_at hl 2 rfl) ?_
    refine lv_iload hx hb dX7_carried_43 (lv_at hl 7 rfl) ?_
    refine zV_i [.int x6] [] zc ky_X2_isDam kz_X2_isDam km_7_55 (c_wl_X2_isDam l hw) (wlPreV0 hK (pj_wp_wl_9 hM)) rfl rfl hl.1 (Nat.le_of_ble_eq_true rfl) ⟨rfl, rfl⟩ ⟨Nat.le_of_ble_eq_true rfl, Nat.le_of_ble_eq_true rfl⟩ ⟨(Nat.zero_le _), (Nat.zero_le _)⟩ dX7_carried_45 (fun r_2 hw => ?_)
    refine lv_if_ne (tgt := 66) hx hb dX7_carried_48 (by decide) (fun hc => ?_) (fun hc => ?_)
    · have hw := hw.1 hc
      exact t_wp_X7_carried_9_66 zc hK hM (fun _ _ _ ls h hl => h ls hl) (lv_sub hl [1, 2, 3, 4, 5, 6, 7] rfl) hw
    · have hw := hw.2 hc
      refine lv_iload hx hb dX7_carried_51 (lv_at hl 0 rfl) ?_
      refine lv_iload hx hb dX7_carried_53 (lv_at hl 6 rfl) ?_
      refine lv_icmp_ge (tgt := 66) hx hb dX7_carried_55 (by decide) (fun hc => ?_) (fun hc => ?_)
      · have hw := hw.1 hc
        exact t_wp_X7_carried_9_66 zc hK hM (fun _ _ _ ls h hl => h ls hl) (lv_sub hl [1, 2, 3, 4, 5, 6, 7] rfl) hw
      · have hw := hw.2 hc
        refine lv_iload hx hb dX7_carried_58 (lv_at hl 7 rfl) ?_
        refine lv_istore (lv' := [(4, .int x6), (7, .int v_1), (0, .ref qp), (1, .ref ql), (2, .int x2), (3, .int x3), (5, .int x5), (6, .int x6)]) hx hb dX7_carried_60 hl (by decide) rfl (fun ls hl => ?_)
        refine lv_iload hx hb dX7_carried_62 (lv_at hl 1 rfl) ?_
        refine lv_istore (lv' := [(5, .int v_1), (4, .int x6), (7, .int v_1), (0, .ref qp), (1, .ref ql), (2, .int x2), (3, .int x3), (6, .int x6)]) hx hb dX7_carried_64 hl (by decide) rfl (fun ls hl => ?_)
        exact t_wp_X7_carried_9_66 zc hK hM (fun _ _ _ ls h hl => h ls hl) (lv_sub hl [3, 4, 5, 6, 1, 0, 7] rfl) hw
set_option maxRecDepth 20000 in
theorem t_wp_X7_carried_9_0 {p : Program} {l : Launch} {e : Env} {s : State} {m : MethodId} {args : Array Value} {below : List Frame} {meth : Method} {c : Code} {E : zE} {qp ql qs : Nat} {a_heard : Nat → Int32} {a_walked : Nat → Int32} {a_total : Nat → Int32} {a_longest : Nat → Int32} {a_next : Nat → Int32} {a_cover : Nat → Int32} {a_now : Nat → Int32} {a_then : Nat → Int32} {lf_huts : Int32} {lf_singers : Int32} {lf_villages : Int32} {lf_dams : Int32} {lf_echoes : Int32} {lf_deep : Int32} {lf_slide : Int32} {la_heights : Nat → Int32} {la_ladders : Nat → Int32} {la_minutes : Nat → Int32} {la_echoFrom : Nat → Int32} {la_echoTo : Nat → Int32} {la_homes : Nat → Int32} {la_talls : Nat → Int32} {la_known : Nat → Int32} {sf_facts : Int32} {sa_heard : Nat → Int32} {sa_huts : Nat → Int32} {sa_minutes : Nat → Int32} {post : Int32 → Prop} {x2 : Int32} {x3 : Int32} {ls : Array Slot}
    (zc : zC p s m args meth c cX7_carried 8 RX7 (some .int))
    (hK : zK E s)
    (hM : wpW E qp ql qs a_heard a_walked a_total a_longest a_next a_cover a_now a_then lf_huts lf_singers lf_villages lf_dams lf_echoes lf_deep lf_slide la_heights la_ladders la_minutes la_echoFrom la_echoTo la_homes la_talls la_known sf_facts sa_heard sa_huts sa_minutes s.heap)
    (hl : lv_has ls 8 [(0, .ref qp), (1, .ref ql), (2, .int x2), (3, .int x3)])
    (hw : q_wp_X7_carried_9_0 a_heard a_walked lf_huts lf_villages lf_dams x2 x3 post) :
    W p l e rm_wp_X7_carried_9 s m args below meth c s.heap [] 0 0 (MQ below (vp_Si post) args s 0 0 (fun _ => False)) (F0 m 0 ls []) := by
  have hx := zc.1
  have hb := zc.2.1
  refine lv_iconst (v := (-1 : Int32)) hx hb dX7_carried_0 (by decide) ?_
  refine lv_istore (lv' := [(4, .int (-1 : Int32)), (0, .ref qp), (1, .ref ql), (2, .int x2), (3, .int x3)]) hx hb dX7_carried_1 hl (by decide) rfl (fun ls hl => ?_)
  refine lv_sipush (v := (1000 : Int32)) hx hb dX7_carried_3 (by decide) ?_
  refine lv_istore (lv' := [(5, .int (1000 : Int32)), (4, .int (-1 : Int32)), (0, .ref qp), (1, .ref ql), (2, .int x2), (3, .int x3)]) hx hb dX7_carried_6 hl (by decide) rfl (fun ls hl => ?_)
  refine lv_iconst (v := (0 : Int32)) hx hb dX7_carried_8 (by decide) ?_
  refine lv_istore (lv' := [(6, .int (0 : Int32)), (5, .int (1000 : Int32)), (4, .int (-1 : Int32)), (0, .ref qp), (1, .ref ql), (2, .int x2), (3, .int x3)]) hx hb dX7_carried_9 hl (by decide) rfl (fun ls hl => ?_)
  exact t_wp_X7_carried_9_11 zc hK hM  (lv_sub hl [3, 4, 5, 6, 2, 1, 0] rfl) hw
set_option maxRecDepth 20000 in
theorem c_wp_X7_carried_9 (l : Launch) {E : zE} {qp ql qs : Nat} {a_heard : Nat → Int32} {a_walked : Nat → Int32} {a_total : Nat → Int32} {a_longest : Nat → Int32} {a_next : Nat → Int32} {a_cover : Nat → Int32} {a_now : Nat → Int32} {a_then : Nat → Int32} {lf_huts : Int32} {lf_singers : Int32} {lf_villages : Int32} {lf_dams : Int32} {lf_echoes : Int32} {lf_deep : Int32} {lf_slide : Int32} {la_heights : Nat → Int32} {la_ladders : Nat → Int32} {la_minutes : Nat → Int32} {la_echoFrom : Nat → Int32} {la_echoTo : Nat → Int32} {la_homes : Nat → Int32} {la_talls : Nat → Int32} {la_known : Nat → Int32} {sf_facts : Int32} {sa_heard : Nat → Int32} {sa_huts : Nat → Int32} {sa_minutes : Nat → Int32} {x2 : Int32} {x3 : Int32} {post : Int32 → Prop} (hw : q_wp_X7_carried_9_0 a_heard a_walked lf_huts lf_villages lf_dams x2 x3 post) : Met l yX7_carried (Cond.code yX7_carried cX7_carried 8 (some .int) :: zb) rm_wp_X7_carried_9 (va_Pc [.ref qp, .ref ql, .int x2, .int x3] (fun U => wpW E qp ql qs a_heard a_walked a_total a_longest a_next a_cover a_now a_then lf_huts lf_singers lf_villages lf_dams lf_echoes lf_deep lf_slide la_heights la_ladders la_minutes la_echoFrom la_echoTo la_homes la_talls la_known sf_facts sa_heard sa_huts sa_minutes U.heap ∧ zK E U)) (vp_Si post) 0 0 (fun _ => False) := by
  refine Met.ofW (cc := cX7_carried) (maxL := 8) (ret := (some .int)) (by decide) rfl ?_
  intro p e s m args below meth c s₁ B hml hv
  obtain ⟨rfl, hM, hK⟩ := hv
  have zc := zc_of B hml
  have hl := lv_entry ([.ref qp, .ref ql, .int x2, .int x3]) (n := 8) (Nat.le_of_ble_eq_true rfl)
  rw [lg_entry_eq]
  generalize (lg_sl ([.ref qp, .ref ql, .int x2, .int x3]) ++ List.replicate (8 - (lg_sl ([.ref qp, .ref ql, .int x2, .int x3])).length) Slot.unset).toArray = ls at hl ⊢
  have hl : lv_has ls 8 [(0, .ref qp), (1, .ref ql), (2, .int x2), (3, .int x3)] := hl
  exact t_wp_X7_carried_9_0 zc hK hM (lv_sub hl [0, 1, 2, 3] rfl) hw
-- wp_X7_tops_9
abbrev rm_wp_X7_tops_9 : Room := { frames := 1, cells := 0, slots := 0, locals := 25 }
def q_wp_X7_tops_9_33 (P4 : Int32 → Int32 → Prop) (a_heard : Nat → Int32) (lf_huts : Int32) (x2 : Int32) (x3 : Int32) (post : Int32 → Prop) : Prop :=
  ∀ v_1 : Int32, v_1 = x3 + (1 : Int32) → (P4 x2 v_1)
def q_wp_X7_tops_9_4 (a_heard : Nat → Int32) (lf_huts : Int32) (x2 : Int32) (x3 : Int32) (post : Int32 → Prop) : Prop :=
  ∀ P4 : Int32 → Int32 → Prop, (∀ (x2 : Int32) (x3 : Int32), ((lf_huts ≤ x3 → (post x2)) ∧ (¬ lf_huts ≤ x3 → (q_wp_X7_fromBy_9_0 a_heard lf_huts x3 (999 : Int32) (fun r_1 => (¬ r_1 = ((1 : Int32) <<< (x3 &&& 31)) → (q_wp_X7_tops_9_33 P4 a_heard lf_huts x2 x3 post)) ∧ (r_1 = ((1 : Int32) <<< (x3 &&& 31)) → (∀ v_1 : Int32, v_1 = (x2 ||| ((1 : Int32) <<< (x3 &&& 31))) → (q_wp_X7_tops_9_33 P4 a_heard lf_huts v_1 x3 post))))))) → P4 x2 x3) → P4 x2 x3
def q_wp_X7_tops_9_0 (a_heard : Nat → Int32) (lf_huts : Int32) (post : Int32 → Prop) : Prop :=
  q_wp_X7_tops_9_4 a_heard lf_huts (0 : Int32) (0 : Int32) post
set_option maxRecDepth 20000 in
theorem t_wp_X7_tops_9_33 {p : Program} {l : Launch} {e : Env} {s : State} {m : MethodId} {args : Array Value} {below : List Frame} {meth : Method} {c : Code} {E : zE} {qp ql qs : Nat} {a_heard : Nat → Int32} {a_walked : Nat → Int32} {a_total : Nat → Int32} {a_longest : Nat → Int32} {a_next : Nat → Int32} {a_cover : Nat → Int32} {a_now : Nat → Int32} {a_then : Nat → Int32} {lf_huts : Int32} {lf_singers : Int32} {lf_villages : Int32} {lf_dams : Int32} {lf_echoes : Int32} {lf_deep : Int32} {lf_slide : Int32} {la_heights : Nat → Int32} {la_ladders : Nat → Int32} {la_minutes : Nat → Int32} {la_echoFrom : Nat → Int32} {la_echoTo : Nat → Int32} {la_homes : Nat → Int32} {la_talls : Nat → Int32} {la_known : Nat → Int32} {sf_facts : Int32} {sa_heard : Nat → Int32} {sa_huts : Nat → Int32} {sa_minutes : Nat → Int32} {P4 : Int32 → Int32 → Prop} {post : Int32 → Prop} {x2 : Int32} {x3 : Int32} {ls : Array Slot}
    (zc : zC p s m args meth c cX7_tops 4 RX7 (some .int))
    (hK : zK E s)
    (hM : wpW E qp ql qs a_heard a_walked a_total a_longest a_next a_cover a_now a_then lf_huts lf_singers lf_villages lf_dams lf_echoes lf_deep lf_slide la_heights la_ladders la_minutes la_echoFrom la_echoTo la_homes la_talls la_known sf_facts sa_heard sa_huts sa_minutes s.heap)
    (hP4 : ∀ (x2 : Int32) (x3 : Int32) (ls : Array Slot), P4 x2 x3 → lv_has ls 4 [(0, .ref qp), (1, .ref ql), (2, .int x2), (3, .int x3)] → W p l e rm_wp_X7_tops_9 s m args below meth c s.heap [] 0 0 (MQ below (vp_Si post) args s 0 0 (fun _ => False)) (F0 m 4 ls []))
    (hl : lv_has ls 4 [(0, .ref qp), (1, .ref ql), (2, .int x2), (3, .int x3)])
    (hw : q_wp_X7_tops_9_33 P4 a_heard lf_huts x2 x3 post) :
    W p l e rm_wp_X7_tops_9 s m args below meth c s.heap [] 0 0 (MQ below (vp_Si post) args s 0 0 (fun _ => False)) (F0 m 33 ls []) := by
  have hx := zc.1
  have hb := zc.2.1
  obtain ⟨v_1, ev_1⟩ : ∃ y : Int32, y = x3 + (1 : Int32) := ⟨_, rfl⟩
  have hw := hw v_1 ev_1
  refine lv_iinc (v := v_1) (k := 3) (lv' := [(3, .int v_1), (0, .ref qp), (1, .ref ql), (2, .int x2)]) hx hb dX7_tops_33 hl rfl (by rw [ev_1]; rfl) (by decide) rfl (fun ls hl => ?_)
  refine lv_goto (tgt := 4) hx hb dX7_tops_36 (by decide) ?_
  exact hP4 _ _ _ hw (lv_sub hl [1, 2, 3, 0] rfl)
set_option maxRecDepth 20000 in
theorem t_wp_X7_tops_9_4 {p : Program} {l : Launch} {e : Env} {s : State} {m : MethodId} {args : Array Value} {below : List Frame} {meth : Method} {c : Code} {E : zE} {qp ql qs : Nat} {a_heard : Nat → Int32} {a_walked : Nat → Int32} {a_total : Nat → Int32} {a_longest : Nat → Int32} {a_next : Nat → Int32} {a_cover : Nat → Int32} {a_now : Nat → Int32} {a_then : Nat → Int32} {lf_huts : Int32} {lf_singers : Int32} {lf_villages : Int32} {lf_dams : Int32} {lf_echoes : Int32} {lf_deep : Int32} {lf_slide : Int32} {la_heights : Nat → Int32} {la_ladders : Nat → Int32} {la_minutes : Nat → Int32} {la_echoFrom : Nat → Int32} {la_echoTo : Nat → Int32} {la_homes : Nat → Int32} {la_talls : Nat → Int32} {la_known : Nat → Int32} {sf_facts : Int32} {sa_heard : Nat → Int32} {sa_huts : Nat → Int32} {sa_minutes : Nat → Int32} {post : Int32 → Prop} {x2 : Int32} {x3 : Int32} {ls : Array Slot}
    (zc : zC p s m args meth c cX7_tops 4 RX7 (some .int))
    (hK : zK E s)
    (hM : wpW E qp ql qs a_heard a_walked a_total a_longest a_next a_cover a_now a_then lf_huts lf_singers lf_villages lf_dams lf_echoes lf_deep lf_slide la_heights la_ladders la_minutes la_echoFrom la_echoTo la_homes la_talls la_known sf_facts sa_heard sa_huts sa_minutes s.heap)
    (hl : lv_has ls 4 [(0, .ref qp), (1, .ref ql), (2, .int x2), (3, .int x3)])
    (hw : q_wp_X7_tops_9_4 a_heard lf_huts x2 x3 post) :
    W p l e rm_wp_X7_tops_9 s m args below meth c s.heap [] 0 0 (MQ below (vp_Si post) args s 0 0 (fun _ => False)) (F0 m 4 ls []) := by
  have hx := zc.1
  have hb := zc.2.1
  refine hw (fun x2 x3 => ∀ (ls : Array Slot), lv_has ls 4 [(0, .ref qp), (1, .ref ql), (2, .int x2), (3, .int x3)] → W p l e rm_wp_X7_tops_9 s m args below meth c s.heap [] 0 0 (MQ below (vp_Si post) args s 0 0 (fun _ => False)) (F0 m 4 ls [])) ?_ _ hl
  intro x2 x3 hw ls hl
  refine lv_iload_n hx hb dX7_tops_4 rfl (lv_at hl 3 rfl) ?_
  refine lv_aload_n hx hb dX7_tops_5 rfl (lv_at hl 1 rfl) ?_
  refine wpg_7_42_9 zc hK hM dX7_tops_6 ?_
  refine lv_icmp_ge (tgt := 39) hx hb dX7_tops_9 (by decide) (fun hc => ?_) (fun hc => ?_)
  · have hw := hw.1 hc
    refine lv_iload_n hx hb dX7_tops_39 rfl (lv_at hl 2 rfl) ?_
    exact zret_i zc hw dX7_tops_40
  · have hw := hw.2 hc
    refine lv_aload_n hx hb dX7_tops_12 rfl (lv_at hl 0 rfl) ?_
    refine lv_aload_n hx hb dX7_tops_13 rfl (lv_at hl 1 rfl) ?_
    refine lv_iload_n hx hb dX7_tops_14 rfl (lv_at hl 3 rfl) ?_
    refine lv_sipush (v := (999 : Int32)) hx hb dX7_tops_15 (by decide) ?_
    refine zV_i [.ref ql, .int x3, .int (999 : Int32)] [] zc ky_X7_fromBy kz_X7_fromBy km_7_151 (c_wp_X7_fromBy_9 l hw) (wpPreV0 hK hM) rfl rfl hl.1 (Nat.le_of_ble_eq_true rfl) ⟨rfl, rfl⟩ ⟨Nat.le_of_ble_eq_true rfl, Nat.le_of_ble_eq_true rfl⟩ ⟨(Nat.zero_le _), (Nat.zero_le _)⟩ dX7_tops_18 (fun r_1 hw => ?_)
    refine lv_iconst (v := (1 : Int32)) hx hb dX7_tops_21 (by decide) ?_
    refine lv_iload_n hx hb dX7_tops_22 rfl (lv_at hl 3 rfl) ?_
    refine lv_ishl hx hb dX7_tops_23 ?_
    refine lv_icmp_ne (tgt := 33) hx hb dX7_tops_24 (by decide) (fun hc => ?_) (fun hc => ?_)
    · have hw := hw.1 hc
      exact t_wp_X7_tops_9_33 zc hK hM (fun _ _ ls h hl => h ls hl) (lv_sub hl [0, 1, 2, 3] rfl) hw
    · have hw := hw.2 hc
      refine lv_iload_n hx hb dX7_tops_27 rfl (lv_at hl 2 rfl) ?_
      refine lv_iconst (v := (1 : Int32)) hx hb dX7_tops_28 (by decide) ?_
      refine lv_iload_n hx hb dX7_tops_29 rfl (lv_at hl 3 rfl) ?_
      refine lv_ishl hx hb dX7_tops_30 ?_
      refine lv_ior hx hb dX7_tops_31 ?_
      refine lv_topi (fun v_1 ev_1 => ?_)
      have hw := hw v_1 ev_1
      refine lv_istore_n (lv' := [(2, .int v_1), (0, .ref qp), (1, .ref ql), (3, .int x3)]) hx hb dX7_tops_32 rfl hl (by decide) rfl (fun ls hl => ?_)
      exact t_wp_X7_tops_9_33 zc hK hM (fun _ _ ls h hl => h ls hl) (lv_sub hl [1, 2, 0, 3] rfl) hw
set_option maxRecDepth 20000 in
theorem t_wp_X7_tops_9_0 {p : Program} {l : Launch} {e : Env} {s : State} {m : MethodId} {args : Array Value} {below : List Frame} {meth : Method} {c : Code} {E : zE} {qp ql qs : Nat} {a_heard : Nat → Int32} {a_walked : Nat → Int32} {a_total : Nat → Int32} {a_longest : Nat → Int32} {a_next : Nat → Int32} {a_cover : Nat → Int32} {a_now : Nat → Int32} {a_then : Nat → Int32} {lf_huts : Int32} {lf_singers : Int32} {lf_villages : Int32} {lf_dams : Int32} {lf_echoes : Int32} {lf_deep : Int32} {lf_slide : Int32} {la_heights : Nat → Int32} {la_ladders : Nat → Int32} {la_minutes : Nat → Int32} {la_echoFrom : Nat → Int32} {la_echoTo : Nat → Int32} {la_homes : Nat → Int32} {la_talls : Nat → Int32} {la_known : Nat → Int32} {sf_facts : Int32} {sa_heard : Nat → Int32} {sa_huts : Nat → Int32} {sa_minutes : Nat → Int32} {post : Int32 → Prop} {ls : Array Slot}
    (zc : zC p s m args meth c cX7_tops 4 RX7 (some .int))
    (hK : zK E s)
    (hM : wpW E qp ql qs a_heard a_walked a_total a_longest a_next a_cover a_now a_then lf_huts lf_singers lf_villages lf_dams lf_echoes lf_deep lf_slide la_heights la_ladders la_minutes la_echoFrom la_echoTo la_homes la_talls la_known sf_facts sa_heard sa_huts sa_minutes s.heap)
    (hl : lv_has ls 4 [(0, .ref qp), (1, .ref ql)])
    (hw : q_wp_X7_tops_9_0 a_heard lf_huts post) :
    W p l e rm_wp_X7_tops_9 s m args below meth c s.heap [] 0 0 (MQ below (vp_Si post) args s 0 0 (fun _ => False)) (F0 m 0 ls []) := by
  have hx := zc.1
  have hb := zc.2.1
  refine lv_iconst (v := (0 : Int32)) hx hb dX7_tops_0 (by decide) ?_
  refine lv_istore_n (lv' := [(2, .int (0 : Int32)), (0, .ref qp), (1, .ref ql)]) hx hb dX7_tops_1 rfl hl (by decide) rfl (fun ls hl => ?_)
  refine lv_iconst (v := (0 : Int32)) hx hb dX7_tops_2 (by decide) ?_
  refine lv_istore_n (lv' := [(3, .int (0 : Int32)), (2, .int (0 : Int32)), (0, .ref qp), (1, .ref ql)]) hx hb dX7_tops_3 rfl hl (by decide) rfl (fun ls hl => ?_)
  exact t_wp_X7_tops_9_4 zc hK hM  (lv_sub hl [2, 3, 1, 0] rfl) hw
set_option maxRecDepth 20000 in
theorem c_wp_X7_tops_9 (l : Launch) {E : zE} {qp ql qs : Nat} {a_heard : Nat → Int32} {a_walked : Nat → Int32} {a_total : Nat → Int32} {a_longest : Nat → Int32} {a_next : Nat → Int32} {a_cover : Nat → Int32} {a_now : Nat → Int32} {a_then : Nat → Int32} {lf_huts : Int32} {lf_singers : Int32} {lf_villages : Int32} {lf_dams : Int32} {lf_echoes : Int32} {lf_deep : Int32} {lf_slide : Int32} {la_heights : Nat → Int32} {la_ladders : Nat → Int32} {la_minutes : Nat → Int32} {la_echoFrom : Nat → Int32} {la_echoTo : Nat → Int32} {la_homes : Nat → Int32} {la_talls : Nat → Int32} {la_known : Nat → Int32} {sf_facts : Int32} {sa_heard : Nat → Int32} {sa_huts : Nat → Int32} {sa_minutes : Nat → Int32} {post : Int32 → Prop} (hw : q_wp_X7_tops_9_0 a_heard lf_huts post) : Met l yX7_tops (Cond.code yX7_tops cX7_tops 4 (some .int) :: zb) rm_wp_X7_tops_9 (va_Pc [.ref qp, .ref ql] (fun U => wpW E qp ql qs a_heard a_walked a_total a_longest a_next a_cover a_now a_then lf_huts lf_singers lf_villages lf_dams lf_echoes lf_deep lf_slide la_heights la_ladders la_minutes la_echoFrom la_echoTo la_homes la_talls la_known sf_facts sa_heard sa_huts sa_minutes U.heap ∧ zK E U)) (vp_Si post) 0 0 (fun _ => False) := by
  refine Met.ofW (cc := cX7_tops) (maxL := 4) (ret := (some .int)) (by decide) rfl ?_
  intro p e s m args below meth c s₁ B hml hv
  obtain ⟨rfl, hM, hK⟩ := hv
  have zc := zc_of B hml
  have hl := lv_entry ([.ref qp, .ref ql]) (n := 4) (Nat.le_of_ble_eq_true rfl)
  rw [lg_entry_eq]
  generalize (lg_sl ([.ref qp, .ref ql]) ++ List.replicate (4 - (lg_sl ([.ref qp, .ref ql])).length) Slot.unset).toArray = ls at hl ⊢
  have hl : lv_has ls 4 [(0, .ref qp), (1, .ref ql)] := hl
  exact t_wp_X7_tops_9_0 zc hK hM (lv_sub hl [0, 1] rfl) hw
-- wp_X7_heardElsewhere_9
abbrev rm_wp_X7_heardElsewhere_9 : Room := { frames := 0, cells := 0, slots := 0, locals := 0 }
def q_wp_X7_heardElsewhere_9_41 (P5 : Int32 → Int32 → Prop) (a_heard : Nat → Int32) (lf_huts : Int32) (x2 : Int32) (x3 : Int32) (x4 : Int32) (post : Int32 → Prop) : Prop :=
  ∀ v_1 : Int32, v_1 = x4 + (1 : Int32) → (P5 x3 v_1)
def q_wp_X7_heardElsewhere_9_5 (a_heard : Nat → Int32) (lf_huts : Int32) (x2 : Int32) (x3 : Int32) (x4 : Int32) (post : Int32 → Prop) : Prop :=
  ∀ P5 : Int32 → Int32 → Prop, (∀ (x3 : Int32) (x4 : Int32), ((lf_huts ≤ x4 → (post x3)) ∧ (¬ lf_huts ≤ x4 → ((x4 = x2 → (q_wp_X7_heardElsewhere_9_41 P5 a_heard lf_huts x2 x3 x4 post)) ∧ (¬ x4 = x2 → (vp_in ((x2 * (9 : Int32)) + x4) 81 ∧ (((1000 : Int32) ≤ (a_heard (Int32.toNatClampNeg ((x2 * (9 : Int32)) + x4))) → (q_wp_X7_heardElsewhere_9_41 P5 a_heard lf_huts x2 x3 x4 post)) ∧ (¬ (1000 : Int32) ≤ (a_heard (Int32.toNatClampNeg ((x2 * (9 : Int32)) + x4))) → (∀ v_1 : Int32, v_1 = x3 + (1 : Int32) → (q_wp_X7_heardElsewhere_9_41 P5 a_heard lf_huts x2 v_1 x4 post))))))))) → P5 x3 x4) → P5 x3 x4
def q_wp_X7_heardElsewhere_9_0 (a_heard : Nat → Int32) (lf_huts : Int32) (x2 : Int32) (post : Int32 → Prop) : Prop :=
  q_wp_X7_heardElsewhere_9_5 a_heard lf_huts x2 (0 : Int32) (0 : Int32) post
set_option maxRecDepth 20000 in
theorem t_wp_X7_heardElsewhere_9_41 {p : Program} {l : Launch} {e : Env} {s : State} {m : MethodId} {args : Array Value} {below : List Frame} {meth : Method} {c : Code} {E : zE} {qp ql qs : Nat} {a_heard : Nat → Int32} {a_walked : Nat → Int32} {a_total : Nat → Int32} {a_longest : Nat → Int32} {a_next : Nat → Int32} {a_cover : Nat → Int32} {a_now : Nat → Int32} {a_then : Nat → Int32} {lf_huts : Int32} {lf_singers : Int32} {lf_villages : Int32} {lf_dams : Int32} {lf_echoes : Int32} {lf_deep : Int32} {lf_slide : Int32} {la_heights : Nat → Int32} {la_ladders : Nat → Int32} {la_minutes : Nat → Int32} {la_echoFrom : Nat → Int32} {la_echoTo : Nat → Int32} {la_homes : Nat → Int32} {la_talls : Nat → Int32} {la_known : Nat → Int32} {sf_facts : Int32} {sa_heard : Nat → Int32} {sa_huts : Nat → Int32} {sa_minutes : Nat → Int32} {P5 : Int32 → Int32 → Prop} {post : Int32 → Prop} {x2 : Int32} {x3 : Int32} {x4 : Int32} {ls : Array Slot}
    (zc : zC p s m args meth c cX7_heardElsewhere 5 RX7 (some .int))
    (hK : zK E s)
    (hM : wpW E qp ql qs a_heard a_walked a_total a_longest a_next a_cover a_now a_then lf_huts lf_singers lf_villages lf_dams lf_echoes lf_deep lf_slide la_heights la_ladders la_minutes la_echoFrom la_echoTo la_homes la_talls la_known sf_facts sa_heard sa_huts sa_minutes s.heap)
    (hP5 : ∀ (x3 : Int32) (x4 : Int32) (ls : Array Slot), P5 x3 x4 → lv_has ls 5 [(0, .ref qp), (1, .ref ql), (2, .int x2), (3, .int x3), (4, .int x4)] → W p l e rm_wp_X7_heardElsewhere_9 s m args below meth c s.heap [] 0 0 (MQ below (vp_Si post) args s 0 0 (fun _ => False)) (F0 m 5 ls []))
    (hl : lv_has ls 5 [(0, .ref qp), (1, .ref ql), (2, .int x2), (3, .int x3), (4, .int x4)])
    (hw : q_wp_X7_heardElsewhere_9_41 P5 a_heard lf_huts x2 x3 x4 post) :
    W p l e rm_wp_X7_heardElsewhere_9 s m args below meth c s.heap [] 0 0 (MQ below (vp_Si post) args s 0 0 (fun _ => False)) (F0 m 41 ls []) := by
  have hx := zc.1
  have hb := zc.2.1
  obtain ⟨v_1, ev_1⟩ : ∃ y : Int32, y = x4 + (1 : Int32) := ⟨_, rfl⟩
  have hw := hw v_1 ev_1
  refine lv_iinc (v := v_1) (k := 4) (lv' := [(4, .int v_1), (0, .ref qp), (1, .ref ql), (2, .int x2), (3, .int x3)]) hx hb dX7_heardElsewhere_41 hl rfl (by rw [ev_1]; rfl) (by decide) rfl (fun ls hl => ?_)
  refine lv_goto (tgt := 5) hx hb dX7_heardElsewhere_44 (by decide) ?_
  exact hP5 _ _ _ hw (lv_sub hl [1, 2, 3, 4, 0] rfl)
set_option maxRecDepth 20000 in
theorem t_wp_X7_heardElsewhere_9_5 {p : Program} {l : Launch} {e : Env} {s : State} {m : MethodId} {args : Array Value} {below : List Frame} {meth : Method} {c : Code} {E : zE} {qp ql qs : Nat} {a_heard : Nat → Int32} {a_walked : Nat → Int32} {a_total : Nat → Int32} {a_longest : Nat → Int32} {a_next : Nat → Int32} {a_cover : Nat → Int32} {a_now : Nat → Int32} {a_then : Nat → Int32} {lf_huts : Int32} {lf_singers : Int32} {lf_villages : Int32} {lf_dams : Int32} {lf_echoes : Int32} {lf_deep : Int32} {lf_slide : Int32} {la_heights : Nat → Int32} {la_ladders : Nat → Int32} {la_minutes : Nat → Int32} {la_echoFrom : Nat → Int32} {la_echoTo : Nat → Int32} {la_homes : Nat → Int32} {la_talls : Nat → Int32} {la_known : Nat → Int32} {sf_facts : Int32} {sa_heard : Nat → Int32} {sa_huts : Nat → Int32} {sa_minutes : Nat → Int32} {post : Int32 → Prop} {x2 : Int32} {x3 : Int32} {x4 : Int32} {ls : Array Slot}
    (zc : zC p s m args meth c cX7_heardElsewhere 5 RX7 (some .int))
    (hK : zK E s)
    (hM : wpW E qp ql qs a_heard a_walked a_total a_longest a_next a_cover a_now a_then lf_huts lf_singers lf_villages lf_dams lf_echoes lf_deep lf_slide la_heights la_ladders la_minutes la_echoFrom la_echoTo la_homes la_talls la_known sf_facts sa_heard sa_huts sa_minutes s.heap)
    (hl : lv_has ls 5 [(0, .ref qp), (1, .ref ql), (2, .int x2), (3, .int x3), (4, .int x4)])
    (hw : q_wp_X7_heardElsewhere_9_5 a_heard lf_huts x2 x3 x4 post) :
    W p l e rm_wp_X7_heardElsewhere_9 s m args below meth c s.heap [] 0 0 (MQ below (vp_Si post) args s 0 0 (fun _ => False)) (F0 m 5 ls []) := by
  have hx := zc.1
  have hb := zc.2.1
  refine hw (fun x3 x4 => ∀ (ls : Array Slot), lv_has ls 5 [(0, .ref qp), (1, .ref ql), (2, .int x2), (3, .int x3), (4, .int x4)] → W p l e rm_wp_X7_heardElsewhere_9 s m args below meth c s.heap [] 0 0 (MQ below (vp_Si post) args s 0 0 (fun _ => False)) (F0 m 5 ls [])) ?_ _ hl
  intro x3 x4 hw ls hl
  refine lv_iload hx hb dX7_heardElsewhere_5 (lv_at hl 4 rfl) ?_
  refine lv_aload_n hx hb dX7_heardElsewhere_7 rfl (lv_at hl 1 rfl) ?_
  refine wpg_7_42_9 zc hK hM dX7_heardElsewhere_8 ?_
  refine lv_icmp_ge (tgt := 47) hx hb dX7_heardElsewhere_11 (by decide) (fun hc => ?_) (fun hc => ?_)
  · have hw := hw.1 hc
    refine lv_iload_n hx hb dX7_heardElsewhere_47 rfl (lv_at hl 3 rfl) ?_
    exact zret_i zc hw dX7_heardElsewhere_48
  · have hw := hw.2 hc
    refine lv_iload hx hb dX7_heardElsewhere_14 (lv_at hl 4 rfl) ?_
    refine lv_iload_n hx hb dX7_heardElsewhere_16 rfl (lv_at hl 2 rfl) ?_
    refine lv_icmp_eq (tgt := 41) hx hb dX7_heardElsewhere_17 (by decide) (fun hc => ?_) (fun hc => ?_)
    · have hw := hw.1 hc
      exact t_wp_X7_heardElsewhere_9_41 zc hK hM (fun _ _ ls h hl => h ls hl) (lv_sub hl [0, 1, 2, 3, 4] rfl) hw
    · have hw := hw.2 hc
      refine lv_aload_n hx hb dX7_heardElsewhere_20 rfl (lv_at hl 0 rfl) ?_
      refine wpg_7_9_0 zc hK hM dX7_heardElsewhere_21 ?_
      refine lv_iload_n hx hb dX7_heardElsewhere_24 rfl (lv_at hl 2 rfl) ?_
      refine lv_bipush (v := (9 : Int32)) hx hb dX7_heardElsewhere_25 (by decide) ?_
      refine lv_imul hx hb dX7_heardElsewhere_27 ?_
      refine lv_iload hx hb dX7_heardElsewhere_28 (lv_at hl 4 rfl) ?_
      refine lv_iadd hx hb dX7_heardElsewhere_30 ?_
      refine wpld_1 zc hK hM hw.1 dX7_heardElsewhere_31 ?_
      have hw := hw.2
      refine lv_sipush (v := (1000 : Int32)) hx hb dX7_heardElsewhere_32 (by decide) ?_
      refine lv_icmp_ge (tgt := 41) hx hb dX7_heardElsewhere_35 (by decide) (fun hc => ?_) (fun hc => ?_)
      · have hw := hw.1 hc
        exact t_wp_X7_heardElsewhere_9_41 zc hK hM (fun _ _ ls h hl => h ls hl) (lv_sub hl [0, 1, 2, 3, 4] rfl) hw
      · have hw := hw.2 hc
        obtain ⟨v_1, ev_1⟩ : ∃ y : Int32, y = x3 + (1 : Int32) := ⟨_, rfl⟩
        have hw := hw v_1 ev_1
        refine lv_iinc (v := v_1) (k := 3) (lv' := [(3, .int v_1), (0, .ref qp), (1, .ref ql), (2, .int x2), (4, .int x4)]) hx hb dX7_heardElsewhere_38 hl rfl (by rw [ev_1]; rfl) (by decide) rfl (fun ls hl => ?_)
        exact t_wp_X7_heardElsewhere_9_41 zc hK hM (fun _ _ ls h hl => h ls hl) (lv_sub hl [1, 2, 3, 0, 4] rfl) hw
set_option maxRecDepth 20000 in
theorem t_wp_X7_heardElsewhere_9_0 {p : Program} {l : Launch} {e : Env} {s : State} {m : MethodId} {args : Array Value} {below : List Frame} {meth : Method} {c : Code} {E : zE} {qp ql qs : Nat} {a_heard : Nat → Int32} {a_walked : Nat → Int32} {a_total : Nat → Int32} {a_longest : Nat → Int32} {a_next : Nat → Int32} {a_cover : Nat → Int32} {a_now : Nat → Int32} {a_then : Nat → Int32} {lf_huts : Int32} {lf_singers : Int32} {lf_villages : Int32} {lf_dams : Int32} {lf_echoes : Int32} {lf_deep : Int32} {lf_slide : Int32} {la_heights : Nat → Int32} {la_ladders : Nat → Int32} {la_minutes : Nat → Int32} {la_echoFrom : Nat → Int32} {la_echoTo : Nat → Int32} {la_homes : Nat → Int32} {la_talls : Nat → Int32} {la_known : Nat → Int32} {sf_facts : Int32} {sa_heard : Nat → Int32} {sa_huts : Nat → Int32} {sa_minutes : Nat → Int32} {post : Int32 → Prop} {x2 : Int32} {ls : Array Slot}
    (zc : zC p s m args meth c cX7_heardElsewhere 5 RX7 (some .int))
    (hK : zK E s)
    (hM : wpW E qp ql qs a_heard a_walked a_total a_longest a_next a_cover a_now a_then lf_huts lf_singers lf_villages lf_dams lf_echoes lf_deep lf_slide la_heights la_ladders la_minutes la_echoFrom la_echoTo la_homes la_talls la_known sf_facts sa_heard sa_huts sa_minutes s.heap)
    (hl : lv_has ls 5 [(0, .ref qp), (1, .ref ql), (2, .int x2)])
    (hw : q_wp_X7_heardElsewhere_9_0 a_heard lf_huts x2 post) :
    W p l e rm_wp_X7_heardElsewhere_9 s m args below meth c s.heap [] 0 0 (MQ below (vp_Si post) args s 0 0 (fun _ => False)) (F0 m 0 ls []) := by
  have hx := zc.1
  have hb := zc.2.1
  refine lv_iconst (v := (0 : Int32)) hx hb dX7_heardElsewhere_0 (by decide) ?_
  refine lv_istore_n (lv' := [(3, .int (0 : Int32)), (0, .ref qp), (1, .ref ql), (2, .int x2)]) hx hb dX7_heardElsewhere_1 rfl hl (by decide) rfl (fun ls hl => ?_)
  refine lv_iconst (v := (0 : Int32)) hx hb dX7_heardElsewhere_2 (by decide) ?_
  refine lv_istore (lv' := [(4, .int (0 : Int32)), (3, .int (0 : Int32)), (0, .ref qp), (1, .ref ql), (2, .int x2)]) hx hb dX7_heardElsewhere_3 hl (by decide) rfl (fun ls hl => ?_)
  exact t_wp_X7_heardElsewhere_9_5 zc hK hM  (lv_sub hl [2, 3, 4, 1, 0] rfl) hw
set_option maxRecDepth 20000 in
theorem c_wp_X7_heardElsewhere_9 (l : Launch) {E : zE} {qp ql qs : Nat} {a_heard : Nat → Int32} {a_walked : Nat → Int32} {a_total : Nat → Int32} {a_longest : Nat → Int32} {a_next : Nat → Int32} {a_cover : Nat → Int32} {a_now : Nat → Int32} {a_then : Nat → Int32} {lf_huts : Int32} {lf_singers : Int32} {lf_villages : Int32} {lf_dams : Int32} {lf_echoes : Int32} {lf_deep : Int32} {lf_slide : Int32} {la_heights : Nat → Int32} {la_ladders : Nat → Int32} {la_minutes : Nat → Int32} {la_echoFrom : Nat → Int32} {la_echoTo : Nat → Int32} {la_homes : Nat → Int32} {la_talls : Nat → Int32} {la_known : Nat → Int32} {sf_facts : Int32} {sa_heard : Nat → Int32} {sa_huts : Nat → Int32} {sa_minutes : Nat → Int32} {x2 : Int32} {post : Int32 → Prop} (hw : q_wp_X7_heardElsewhere_9_0 a_heard lf_huts x2 post) : Met l yX7_heardElsewhere (Cond.code yX7_heardElsewhere cX7_heardElsewhere 5 (some .int) :: zb) rm_wp_X7_heardElsewhere_9 (va_Pc [.ref qp, .ref ql, .int x2] (fun U => wpW E qp ql qs a_heard a_walked a_total a_longest a_next a_cover a_now a_then lf_huts lf_singers lf_villages lf_dams lf_echoes lf_deep lf_slide la_heights la_ladders la_minutes la_echoFrom la_echoTo la_homes la_talls la_known sf_facts sa_heard sa_huts sa_minutes U.heap ∧ zK E U)) (vp_Si post) 0 0 (fun _ => False) := by
  refine Met.ofW (cc := cX7_heardElsewhere) (maxL := 5) (ret := (some .int)) (by decide) rfl ?_
  intro p e s m args below meth c s₁ B hml hv
  obtain ⟨rfl, hM, hK⟩ := hv
  have zc := zc_of B hml
  have hl := lv_entry ([.ref qp, .ref ql, .int x2]) (n := 5) (Nat.le_of_ble_eq_true rfl)
  rw [lg_entry_eq]
  generalize (lg_sl ([.ref qp, .ref ql, .int x2]) ++ List.replicate (5 - (lg_sl ([.ref qp, .ref ql, .int x2])).length) Slot.unset).toArray = ls at hl ⊢
  have hl : lv_has ls 5 [(0, .ref qp), (1, .ref ql), (2, .int x2)] := hl
  exact t_wp_X7_heardElsewhere_9_0 zc hK hM (lv_sub hl [0, 1, 2] rfl) hw
-- wp_X7_ends_9
abbrev rm_wp_X7_ends_9 : Room := { frames := 1, cells := 0, slots := 0, locals := 24 }
def q_wp_X7_ends_9_35 (P4 : Int32 → Int32 → Prop) (a_heard : Nat → Int32) (lf_huts : Int32) (lf_dams : Int32) (x2 : Int32) (x3 : Int32) (post : Int32 → Prop) : Prop :=
  ∀ v_1 : Int32, v_1 = x3 + (1 : Int32) → (P4 x2 v_1)
def q_wp_X7_ends_9_4 (a_heard : Nat → Int32) (lf_huts : Int32) (lf_dams : Int32) (x2 : Int32) (x3 : Int32) (post : Int32 → Prop) : Prop :=
  ∀ P4 : Int32 → Int32 → Prop, (∀ (x2 : Int32) (x3 : Int32), ((lf_huts ≤ x3 → (post x2)) ∧ (¬ lf_huts ≤ x3 → (q_wl_X2_isDam_0 lf_dams x3 (fun r_1 => (¬ r_1 = 0 → (q_wp_X7_ends_9_35 P4 a_heard lf_huts lf_dams x2 x3 post)) ∧ (r_1 = 0 → (q_wp_X7_heardElsewhere_9_0 a_heard lf_huts x3 (fun r_2 => (¬ r_2 = 0 → (q_wp_X7_ends_9_35 P4 a_heard lf_huts lf_dams x2 x3 post)) ∧ (r_2 = 0 → (∀ v_1 : Int32, v_1 = (x2 ||| ((1 : Int32) <<< (x3 &&& 31))) → (q_wp_X7_ends_9_35 P4 a_heard lf_huts lf_dams v_1 x3 post)))))))))) → P4 x2 x3) → P4 x2 x3
def q_wp_X7_ends_9_0 (a_heard : Nat → Int32) (lf_huts : Int32) (lf_dams : Int32) (post : Int32 → Prop) : Prop :=
  q_wp_X7_ends_9_4 a_heard lf_huts lf_dams (0 : Int32) (0 : Int32) post
set_option maxRecDepth 20000 in
theorem t_wp_X7_ends_9_35 {p : Program} {l : Launch} {e : Env} {s : State} {m : MethodId} {args : Array Value} {below : List Frame} {meth : Method} {c : Code} {E : zE} {qp ql qs : Nat} {a_heard : Nat → Int32} {a_walked : Nat → Int32} {a_total : Nat → Int32} {a_longest : Nat → Int32} {a_next : Nat → Int32} {a_cover : Nat → Int32} {a_now : Nat → Int32} {a_then : Nat → Int32} {lf_huts : Int32} {lf_singers : Int32} {lf_villages : Int32} {lf_dams : Int32} {lf_echoes : Int32} {lf_deep : Int32} {lf_slide : Int32} {la_heights : Nat → Int32} {la_ladders : Nat → Int32} {la_minutes : Nat → Int32} {la_echoFrom : Nat → Int32} {la_echoTo : Nat → Int32} {la_homes : Nat → Int32} {la_talls : Nat → Int32} {la_known : Nat → Int32} {sf_facts : Int32} {sa_heard : Nat → Int32} {sa_huts : Nat → Int32} {sa_minutes : Nat → Int32} {P4 : Int32 → Int32 → Prop} {post : Int32 → Prop} {x2 : Int32} {x3 : Int32} {ls : Array Slot}
    (zc : zC p s m args meth c cX7_ends 4 RX7 (some .int))
    (hK : zK E s)
    (hM : wpW E qp ql qs a_heard a_walked a_total a_longest a_next a_cover a_now a_then lf_huts lf_singers lf_villages lf_dams lf_echoes lf_deep lf_slide la_heights la_ladders la_minutes la_echoFrom la_echoTo la_homes la_talls la_known sf_facts sa_heard sa_huts sa_minutes s.heap)
    (hP4 : ∀ (x2 : Int32) (x3 : Int32) (ls : Array Slot), P4 x2 x3 → lv_has ls 4 [(0, .ref qp), (1, .ref ql), (2, .int x2), (3, .int x3)] → W p l e rm_wp_X7_ends_9 s m args below meth c s.heap [] 0 0 (MQ below (vp_Si post) args s 0 0 (fun _ => False)) (F0 m 4 ls []))
    (hl : lv_has ls 4 [(0, .ref qp), (1, .ref ql), (2, .int x2), (3, .int x3)])
    (hw : q_wp_X7_ends_9_35 P4 a_heard lf_huts lf_dams x2 x3 post) :
    W p l e rm_wp_X7_ends_9 s m args below meth c s.heap [] 0 0 (MQ below (vp_Si post) args s 0 0 (fun _ => False)) (F0 m 35 ls []) := by
  have hx := zc.1
  have hb := zc.2.1
  obtain ⟨v_1, ev_1⟩ : ∃ y : Int32, y = x3 + (1 : Int32) := ⟨_, rfl⟩
  have hw := hw v_1 ev_1
  refine lv_iinc (v := v_1) (k := 3) (lv' := [(3, .int v_1), (0, .ref qp), (1, .ref ql), (2, .int x2)]) hx hb dX7_ends_35 hl rfl (by rw [ev_1]; rfl) (by decide) rfl (fun ls hl => ?_)
  refine lv_goto (tgt := 4) hx hb dX7_ends_38 (by decide) ?_
  exact hP4 _ _ _ hw (lv_sub hl [1, 2, 3, 0] rfl)
set_option maxRecDepth 20000 in
theorem t_wp_X7_ends_9_4 {p : Program} {l : Launch} {e : Env} {s : State} {m : MethodId} {args : Array Value} {below : List Frame} {meth : Method} {c : Code} {E : zE} {qp ql qs : Nat} {a_heard : Nat → Int32} {a_walked : Nat → Int32} {a_total : Nat → Int32} {a_longest : Nat → Int32} {a_next : Nat → Int32} {a_cover : Nat → Int32} {a_now : Nat → Int32} {a_then : Nat → Int32} {lf_huts : Int32} {lf_singers : Int32} {lf_villages : Int32} {lf_dams : Int32} {lf_echoes : Int32} {lf_deep : Int32} {lf_slide : Int32} {la_heights : Nat → Int32} {la_ladders : Nat → Int32} {la_minutes : Nat → Int32} {la_echoFrom : Nat → Int32} {la_echoTo : Nat → Int32} {la_homes : Nat → Int32} {la_talls : Nat → Int32} {la_known : Nat → Int32} {sf_facts : Int32} {sa_heard : Nat → Int32} {sa_huts : Nat → Int32} {sa_minutes : Nat → Int32} {post : Int32 → Prop} {x2 : Int32} {x3 : Int32} {ls : Array Slot}
    (zc : zC p s m args meth c cX7_ends 4 RX7 (some .int))
    (hK : zK E s)
    (hM : wpW E qp ql qs a_heard a_walked a_total a_longest a_next a_cover a_now a_then lf_huts lf_singers lf_villages lf_dams lf_echoes lf_deep lf_slide la_heights la_ladders la_minutes la_echoFrom la_echoTo la_homes la_talls la_known sf_facts sa_heard sa_huts sa_minutes s.heap)
    (hl : lv_has ls 4 [(0, .ref qp), (1, .ref ql), (2, .int x2), (3, .int x3)])
    (hw : q_wp_X7_ends_9_4 a_heard lf_huts lf_dams x2 x3 post) :
    W p l e rm_wp_X7_ends_9 s m args below meth c s.heap [] 0 0 (MQ below (vp_Si post) args s 0 0 (fun _ => False)) (F0 m 4 ls []) := by
  have hx := zc.1
  have hb := zc.2.1
  refine hw (fun x2 x3 => ∀ (ls : Array Slot), lv_has ls 4 [(0, .ref qp), (1, .ref ql), (2, .int x2), (3, .int x3)] → W p l e rm_wp_X7_ends_9 s m args below meth c s.heap [] 0 0 (MQ below (vp_Si post) args s 0 0 (fun _ => False)) (F0 m 4 ls [])) ?_ _ hl
  intro x2 x3 hw ls hl
  refine lv_iload_n hx hb dX7_ends_4 rfl (lv_at hl 3 rfl) ?_
  refine lv_aload_n hx hb dX7_ends_5 rfl (lv_at hl 1 rfl) ?_
  refine wpg_7_42_9 zc hK hM dX7_ends_6 ?_
  refine lv_icmp_ge (tgt := 41) hx hb dX7_ends_9 (by decide) (fun hc => ?_) (fun hc => ?_)
  · have hw := hw.1 hc
    refine lv_iload_n hx hb dX7_ends_41 rfl (lv_at hl 2 rfl) ?_
    exact zret_i zc hw dX7_ends_42
  · have hw := hw.2 hc
    refine lv_aload_n hx hb dX7_ends_12 rfl (lv_at hl 1 rfl) ?_
    refine lv_iload_n hx hb dX7_ends_13 rfl (lv_at hl 3 rfl) ?_
    refine zV_i [.int x3] [] zc ky_X2_isDam kz_X2_isDam km_7_55 (c_wl_X2_isDam l hw) (wlPreV0 hK (pj_wp_wl_9 hM)) rfl rfl hl.1 (Nat.le_of_ble_eq_true rfl) ⟨rfl, rfl⟩ ⟨Nat.le_of_ble_eq_true rfl, Nat.le_of_ble_eq_true rfl⟩ ⟨(Nat.zero_le _), (Nat.zero_le _)⟩ dX7_ends_14 (fun r_1 hw => ?_)
    refine lv_if_ne (tgt := 35) hx hb dX7_ends_17 (by decide) (fun hc => ?_) (fun hc => ?_)
    · have hw := hw.1 hc
      exact t_wp_X7_ends_9_35 zc hK hM (fun _ _ ls h hl => h ls hl) (lv_sub hl [0, 1, 2, 3] rfl) hw
    · have hw := hw.2 hc
      refine lv_aload_n hx hb dX7_ends_20 rfl (lv_at hl 0 rfl) ?_
      refine lv_aload_n hx hb dX7_ends_21 rfl (lv_at hl 1 rfl) ?_
      refine lv_iload_n hx hb dX7_ends_22 rfl (lv_at hl 3 rfl) ?_
      refine zV_i [.ref ql, .int x3] [] zc ky_X7_heardElsewhere kz_X7_heardElsewhere km_7_155 (c_wp_X7_heardElsewhere_9 l hw) (wpPreV0 hK hM) rfl rfl hl.1 (Nat.le_of_ble_eq_true rfl) ⟨rfl, rfl⟩ ⟨Nat.le_of_ble_eq_true rfl, Nat.le_of_ble_eq_true rfl⟩ ⟨(Nat.zero_le _), (Nat.zero_le _)⟩ dX7_ends_23 (fun r_2 hw => ?_)
      refine lv_if_ne (tgt := 35) hx hb dX7_ends_26 (by decide) (fun hc => ?_) (fun hc => ?_)
      · have hw := hw.1 hc
        exact t_wp_X7_ends_9_35 zc hK hM (fun _ _ ls h hl => h ls hl) (lv_sub hl [0, 1, 2, 3] rfl) hw
      · have hw := hw.2 hc
        refine lv_iload_n hx hb dX7_ends_29 rfl (lv_at hl 2 rfl) ?_
        refine lv_iconst (v := (1 : Int32)) hx hb dX7_ends_30 (by decide) ?_
        refine lv_iload_n hx hb dX7_ends_31 rfl (lv_at hl 3 rfl) ?_
        refine lv_ishl hx hb dX7_ends_32 ?_
        refine lv_ior hx hb dX7_ends_33 ?_
        refine lv_topi (fun v_1 ev_1 => ?_)
        have hw := hw v_1 ev_1
        refine lv_istore_n (lv' := [(2, .int v_1), (0, .ref qp), (1, .ref ql), (3, .int x3)]) hx hb dX7_ends_34 rfl hl (by decide) rfl (fun ls hl => ?_)
        exact t_wp_X7_ends_9_35 zc hK hM (fun _ _ ls h hl => h ls hl) (lv_sub hl [1, 2, 0, 3] rfl) hw
set_option maxRecDepth 20000 in
theorem t_wp_X7_ends_9_0 {p : Program} {l : Launch} {e : Env} {s : State} {m : MethodId} {args : Array Value} {below : List Frame} {meth : Method} {c : Code} {E : zE} {qp ql qs : Nat} {a_heard : Nat → Int32} {a_walked : Nat → Int32} {a_total : Nat → Int32} {a_longest : Nat → Int32} {a_next : Nat → Int32} {a_cover : Nat → Int32} {a_now : Nat → Int32} {a_then : Nat → Int32} {lf_huts : Int32} {lf_singers : Int32} {lf_villages : Int32} {lf_dams : Int32} {lf_echoes : Int32} {lf_deep : Int32} {lf_slide : Int32} {la_heights : Nat → Int32} {la_ladders : Nat → Int32} {la_minutes : Nat → Int32} {la_echoFrom : Nat → Int32} {la_echoTo : Nat → Int32} {la_homes : Nat → Int32} {la_talls : Nat → Int32} {la_known : Nat → Int32} {sf_facts : Int32} {sa_heard : Nat → Int32} {sa_huts : Nat → Int32} {sa_minutes : Nat → Int32} {post : Int32 → Prop} {ls : Array Slot}
    (zc : zC p s m args meth c cX7_ends 4 RX7 (some .int))
    (hK : zK E s)
    (hM : wpW E qp ql qs a_heard a_walked a_total a_longest a_next a_cover a_now a_then lf_huts lf_singers lf_villages lf_dams lf_echoes lf_deep lf_slide la_heights la_ladders la_minutes la_echoFrom la_echoTo la_homes la_talls la_known sf_facts sa_heard sa_huts sa_minutes s.heap)
    (hl : lv_has ls 4 [(0, .ref qp), (1, .ref ql)])
    (hw : q_wp_X7_ends_9_0 a_heard lf_huts lf_dams post) :
    W p l e rm_wp_X7_ends_9 s m args below meth c s.heap [] 0 0 (MQ below (vp_Si post) args s 0 0 (fun _ => False)) (F0 m 0 ls []) := by
  have hx := zc.1
  have hb := zc.2.1
  refine lv_iconst (v := (0 : Int32)) hx hb dX7_ends_0 (by decide) ?_
  refine lv_istore_n (lv' := [(2, .int (0 : Int32)), (0, .ref qp), (1, .ref ql)]) hx hb dX7_ends_1 rfl hl (by decide) rfl (fun ls hl => ?_)
  refine lv_iconst (v := (0 : Int32)) hx hb dX7_ends_2 (by decide) ?_
  refine lv_istore_n (lv' := [(3, .int (0 : Int32)), (2, .int (0 : Int32)), (0, .ref qp), (1, .ref ql)]) hx hb dX7_ends_3 rfl hl (by decide) rfl (fun ls hl => ?_)
  exact t_wp_X7_ends_9_4 zc hK hM  (lv_sub hl [2, 3, 1, 0] rfl) hw
set_option maxRecDepth 20000 in
theorem c_wp_X7_ends_9 (l : Launch) {E : zE} {qp ql qs : Nat} {a_heard : Nat → Int32} {a_walked : Nat → Int32} {a_total : Nat → Int32} {a_longest : Nat → Int32} {a_next : Nat → Int32} {a_cover : Nat → Int32} {a_now : Nat → Int32} {a_then : Nat → Int32} {lf_huts : Int32} {lf_singers : Int32} {lf_villages : Int32} {lf_dams : Int32} {lf_echoes : Int32} {lf_deep : Int32} {lf_slide : Int32} {la_heights : Nat → Int32} {la_ladders : Nat → Int32} {la_minutes : Nat → Int32} {la_echoFrom : Nat → Int32} {la_echoTo : Nat → Int32} {la_homes : Nat → Int32} {la_talls : Nat → Int32} {la_known : Nat → Int32} {sf_facts : Int32} {sa_heard : Nat → Int32} {sa_huts : Nat → Int32} {sa_minutes : Nat → Int32} {post : Int32 → Prop} (hw : q_wp_X7_ends_9_0 a_heard lf_huts lf_dams post) : Met l yX7_ends (Cond.code yX7_ends cX7_ends 4 (some .int) :: zb) rm_wp_X7_ends_9 (va_Pc [.ref qp, .ref ql] (fun U => wpW E qp ql qs a_heard a_walked a_total a_longest a_next a_cover a_now a_then lf_huts lf_singers lf_villages lf_dams lf_echoes lf_deep lf_slide la_heights la_ladders la_minutes la_echoFrom la_echoTo la_homes la_talls la_known sf_facts sa_heard sa_huts sa_minutes U.heap ∧ zK E U)) (vp_Si post) 0 0 (fun _ => False) := by
  refine Met.ofW (cc := cX7_ends) (maxL := 4) (ret := (some .int)) (by decide) rfl ?_
  intro p e s m args below meth c s₁ B hml hv
  obtain ⟨rfl, hM, hK⟩ := hv
  have zc := zc_of B hml
  have hl := lv_entry ([.ref qp, .ref ql]) (n := 4) (Nat.le_of_ble_eq_true rfl)
  rw [lg_entry_eq]
  generalize (lg_sl ([.ref qp, .ref ql]) ++ List.replicate (4 - (lg_sl ([.ref qp, .ref ql])).length) Slot.unset).toArray = ls at hl ⊢
  have hl : lv_has ls 4 [(0, .ref qp), (1, .ref ql)] := hl
  exact t_wp_X7_ends_9_0 zc hK hM (lv_sub hl [0, 1] rfl) hw
-- wp_X7_couples_9
abbrev rm_wp_X7_couples_9 : Room := { frames := 1, cells := 0, slots := 0, locals := 24 }
def q_wp_X7_couples_9_4 (a_heard : Nat → Int32) (lf_huts : Int32) (x2 : Int32) (x3 : Int32) (post : Int32 → Prop) : Prop :=
  ∀ P4 : Int32 → Int32 → Prop, (∀ (x2 : Int32) (x3 : Int32), ((lf_huts ≤ x3 → (post x2)) ∧ (¬ lf_huts ≤ x3 → (q_wp_X7_heardElsewhere_9_0 a_heard lf_huts x3 (fun r_1 => ∀ v_1 : Int32, v_1 = (x2 + r_1) → (∀ v_2 : Int32, v_2 = x3 + (1 : Int32) → (P4 v_1 v_2)))))) → P4 x2 x3) → P4 x2 x3
def q_wp_X7_couples_9_0 (a_heard : Nat → Int32) (lf_huts : Int32) (post : Int32 → Prop) : Prop :=
  q_wp_X7_couples_9_4 a_heard lf_huts (0 : Int32) (0 : Int32) post
set_option maxRecDepth 20000 in
theorem t_wp_X7_couples_9_4 {p : Program} {l : Launch} {e : Env} {s : State} {m : MethodId} {args : Array Value} {below : List Frame} {meth : Method} {c : Code} {E : zE} {qp ql qs : Nat} {a_heard : Nat → Int32} {a_walked : Nat → Int32} {a_total : Nat → Int32} {a_longest : Nat → Int32} {a_next : Nat → Int32} {a_cover : Nat → Int32} {a_now : Nat → Int32} {a_then : Nat → Int32} {lf_huts : Int32} {lf_singers : Int32} {lf_villages : Int32} {lf_dams : Int32} {lf_echoes : Int32} {lf_deep : Int32} {lf_slide : Int32} {la_heights : Nat → Int32} {la_ladders : Nat → Int32} {la_minutes : Nat → Int32} {la_echoFrom : Nat → Int32} {la_echoTo : Nat → Int32} {la_homes : Nat → Int32} {la_talls : Nat → Int32} {la_known : Nat → Int32} {sf_facts : Int32} {sa_heard : Nat → Int32} {sa_huts : Nat → Int32} {sa_minutes : Nat → Int32} {post : Int32 → Prop} {x2 : Int32} {x3 : Int32} {ls : Array Slot}
    (zc : zC p s m args meth c cX7_couples 4 RX7 (some .int))
    (hK : zK E s)
    (hM : wpW E qp ql qs a_heard a_walked a_total a_longest a_next a_cover a_now a_then lf_huts lf_singers lf_villages lf_dams lf_echoes lf_deep lf_slide la_heights la_ladders la_minutes la_echoFrom la_echoTo la_homes la_talls la_known sf_facts sa_heard sa_huts sa_minutes s.heap)
    (hl : lv_has ls 4 [(0, .ref qp), (1, .ref ql), (2, .int x2), (3, .int x3)])
    (hw : q_wp_X7_couples_9_4 a_heard lf_huts x2 x3 post) :
    W p l e rm_wp_X7_couples_9 s m args below meth c s.heap [] 0 0 (MQ below (vp_Si post) args s 0 0 (fun _ => False)) (F0 m 4 ls []) := by
  have hx := zc.1
  have hb := zc.2.1
  refine hw (fun x2 x3 => ∀ (ls : Array Slot), lv_has ls 4 [(0, .ref qp), (1, .ref ql), (2, .int x2), (3, .int x3)] → W p l e rm_wp_X7_couples_9 s m args below meth c s.heap [] 0 0 (MQ below (vp_Si post) args s 0 0 (fun _ => False)) (F0 m 4 ls [])) ?_ _ hl
  intro x2 x3 hw ls hl
  refine lv_iload_n hx hb dX7_couples_4 rfl (lv_at hl 3 rfl) ?_
  refine lv_aload_n hx hb dX7_couples_5 rfl (lv_at hl 1 rfl) ?_
  refine wpg_7_42_9 zc hK hM dX7_couples_6 ?_
  refine lv_icmp_ge (tgt := 27) hx hb dX7_couples_9 (by decide) (fun hc => ?_) (fun hc => ?_)
  · have hw := hw.1 hc
    refine lv_iload_n hx hb dX7_couples_27 rfl (lv_at hl 2 rfl) ?_
    exact zret_i zc hw dX7_couples_28
  · have hw := hw.2 hc
    refine lv_iload_n hx hb dX7_couples_12 rfl (lv_at hl 2 rfl) ?_
    refine lv_aload_n hx hb dX7_couples_13 rfl (lv_at hl 0 rfl) ?_
    refine lv_aload_n hx hb dX7_couples_14 rfl (lv_at hl 1 rfl) ?_
    refine lv_iload_n hx hb dX7_couples_15 rfl (lv_at hl 3 rfl) ?_
    refine zV_i [.ref ql, .int x3] [.int x2] zc ky_X7_heardElsewhere kz_X7_heardElsewhere km_7_155 (c_wp_X7_heardElsewhere_9 l hw) (wpPreV0 hK hM) rfl rfl hl.1 (Nat.le_of_ble_eq_true rfl) ⟨rfl, rfl⟩ ⟨Nat.le_of_ble_eq_true rfl, Nat.le_of_ble_eq_true rfl⟩ ⟨(Nat.zero_le _), (Nat.zero_le _)⟩ dX7_couples_16 (fun r_1 hw => ?_)
    refine lv_iadd hx hb dX7_couples_19 ?_
    refine lv_topi (fun v_1 ev_1 => ?_)
    have hw := hw v_1 ev_1
    refine lv_istore_n (lv' := [(2, .int v_1), (0, .ref qp), (1, .ref ql), (3, .int x3)]) hx hb dX7_couples_20 rfl hl (by decide) rfl (fun ls hl => ?_)
    obtain ⟨v_2, ev_2⟩ : ∃ y : Int32, y = x3 + (1 : Int32) := ⟨_, rfl⟩
    have hw := hw v_2 ev_2
    refine lv_iinc (v := v_2) (k := 3) (lv' := [(3, .int v_2), (2, .int v_1), (0, .ref qp), (1, .ref ql)]) hx hb dX7_couples_21 hl rfl (by rw [ev_2]; rfl) (by decide) rfl (fun ls hl => ?_)
    refine lv_goto (tgt := 4) hx hb dX7_couples_24 (by decide) ?_
    exact hw _ (lv_sub hl [2, 3, 1, 0] rfl)
set_option maxRecDepth 20000 in
theorem t_wp_X7_couples_9_0 {p : Program} {l : Launch} {e : Env} {s : State} {m : MethodId} {args : Array Value} {below : List Frame} {meth : Method} {c : Code} {E : zE} {qp ql qs : Nat} {a_heard : Nat → Int32} {a_walked : Nat → Int32} {a_total : Nat → Int32} {a_longest : Nat → Int32} {a_next : Nat → Int32} {a_cover : Nat → Int32} {a_now : Nat → Int32} {a_then : Nat → Int32} {lf_huts : Int32} {lf_singers : Int32} {lf_villages : Int32} {lf_dams : Int32} {lf_echoes : Int32} {lf_deep : Int32} {lf_slide : Int32} {la_heights : Nat → Int32} {la_ladders : Nat → Int32} {la_minutes : Nat → Int32} {la_echoFrom : Nat → Int32} {la_echoTo : Nat → Int32} {la_homes : Nat → Int32} {la_talls : Nat → Int32} {la_known : Nat → Int32} {sf_facts : Int32} {sa_heard : Nat → Int32} {sa_huts : Nat → Int32} {sa_minutes : Nat → Int32} {post : Int32 → Prop} {ls : Array Slot}
    (zc : zC p s m args meth c cX7_couples 4 RX7 (some .int))
    (hK : zK E s)
    (hM : wpW E qp ql qs a_heard a_walked a_total a_longest a_next a_cover a_now a_then lf_huts lf_singers lf_villages lf_dams lf_echoes lf_deep lf_slide la_heights la_ladders la_minutes la_echoFrom la_echoTo la_homes la_talls la_known sf_facts sa_heard sa_huts sa_minutes s.heap)
    (hl : lv_has ls 4 [(0, .ref qp), (1, .ref ql)])
    (hw : q_wp_X7_couples_9_0 a_heard lf_huts post) :
    W p l e rm_wp_X7_couples_9 s m args below meth c s.heap [] 0 0 (MQ below (vp_Si post) args s 0 0 (fun _ => False)) (F0 m 0 ls []) := by
  have hx := zc.1
  have hb := zc.2.1
  refine lv_iconst (v := (0 : Int32)) hx hb dX7_couples_0 (by decide) ?_
  refine lv_istore_n (lv' := [(2, .int (0 : Int32)), (0, .ref qp), (1, .ref ql)]) hx hb dX7_couples_1 rfl hl (by decide) rfl (fun ls hl => ?_)
  refine lv_iconst (v := (0 : Int32)) hx hb dX7_couples_2 (by decide) ?_
  refine lv_istore_n (lv' := [(3, .int (0 : Int32)), (2, .int (0 : Int32)), (0, .ref qp), (1, .ref ql)]) hx hb dX7_couples_3 rfl hl (by decide) rfl (fun ls hl => ?_)
  exact t_wp_X7_couples_9_4 zc hK hM  (lv_sub hl [2, 3, 1, 0] rfl) hw
set_option maxRecDepth 20000 in
theorem c_wp_X7_couples_9 (l : Launch) {E : zE} {qp ql qs : Nat} {a_heard : Nat → Int32} {a_walked : Nat → Int32} {a_total : Nat → Int32} {a_longest : Nat → Int32} {a_next : Nat → Int32} {a_cover : Nat → Int32} {a_now : Nat → Int32} {a_then : Nat → Int32} {lf_huts : Int32} {lf_singers : Int32} {lf_villages : Int32} {lf_dams : Int32} {lf_echoes : Int32} {lf_deep : Int32} {lf_slide : Int32} {la_heights : Nat → Int32} {la_ladders : Nat → Int32} {la_minutes : Nat → Int32} {la_echoFrom : Nat → Int32} {la_echoTo : Nat → Int32} {la_homes : Nat → Int32} {la_talls : Nat → Int32} {la_known : Nat → Int32} {sf_facts : Int32} {sa_heard : Nat → Int32} {sa_huts : Nat → Int32} {sa_minutes : Nat → Int32} {post : Int32 → Prop} (hw : q_wp_X7_couples_9_0 a_heard lf_huts post) : Met l yX7_couples (Cond.code yX7_couples cX7_couples 4 (some .int) :: zb) rm_wp_X7_couples_9 (va_Pc [.ref qp, .ref ql] (fun U => wpW E qp ql qs a_heard a_walked a_total a_longest a_next a_cover a_now a_then lf_huts lf_singers lf_villages lf_dams lf_echoes lf_deep lf_slide la_heights la_ladders la_minutes la_echoFrom la_echoTo la_homes la_talls la_known sf_facts sa_heard sa_huts sa_minutes U.heap ∧ zK E U)) (vp_Si post) 0 0 (fun _ => False) := by
  refine Met.ofW (cc := cX7_couples) (maxL := 4) (ret := (some .int)) (by decide) rfl ?_
  intro p e s m args below meth c s₁ B hml hv
  obtain ⟨rfl, hM, hK⟩ := hv
  have zc := zc_of B hml
  have hl := lv_entry ([.ref qp, .ref ql]) (n := 4) (Nat.le_of_ble_eq_true rfl)
  rw [lg_entry_eq]
  generalize (lg_sl ([.ref qp, .ref ql]) ++ List.replicate (4 - (lg_sl ([.ref qp, .ref ql])).length) Slot.unset).toArray = ls at hl ⊢
  have hl : lv_has ls 4 [(0, .ref qp), (1, .ref ql)] := hl
  exact t_wp_X7_couples_9_0 zc hK hM (lv_sub hl [0, 1] rfl) hw
-- wp_X7_fewestDams_9
abbrev rm_wp_X7_fewestDams_9 : Room := { frames := 2, cells := 0, slots := 0, locals := 47 }
def q_wp_X7_fewestDams_9_85 (P28 : Int32 → Int32 → Int32 → Prop) (a_next : Nat → Int32) (lf_huts : Int32) (lf_dams : Int32) (x2 : Int32) (x3 : Int32) (x4 : Int32) (x5 : Int32) (x6 : Int32) (x7 : Int32) (post : Int32 → Prop) : Prop :=
  ∀ v_1 : Int32, v_1 = x7 + (1 : Int32) → (P28 x5 x6 v_1)
def q_wp_X7_fewestDams_9_28 (a_next : Nat → Int32) (lf_huts : Int32) (lf_dams : Int32) (x2 : Int32) (x3 : Int32) (x4 : Int32) (x5 : Int32) (x6 : Int32) (x7 : Int32) (post : Int32 → Prop) : Prop :=
  ∀ P28 : Int32 → Int32 → Int32 → Prop, (∀ (x5 : Int32) (x6 : Int32) (x7 : Int32), ((((1 : Int32) <<< (lf_huts &&& 31)) ≤ x7 → (post x5)) ∧ (¬ ((1 : Int32) <<< (lf_huts &&& 31)) ≤ x7 → ((¬ (x7 &&& x4) = 0 → (q_wp_X7_fewestDams_9_85 P28 a_next lf_huts lf_dams x2 x3 x4 x5 x6 x7 post)) ∧ ((x7 &&& x4) = 0 → (q_z_J6_bitCount_0f7a4_0 x7 (fun r_1 => (x6 ≤ r_1 → (q_wp_X7_fewestDams_9_85 P28 a_next lf_huts lf_dams x2 x3 x4 x5 x6 x7 post)) ∧ (¬ x6 ≤ r_1 → (q_wp_X7_reach_5_0 a_next x2 x7 (fun r_2 => q_z_X10_has_0 r_2 x3 (fun r_3 => (¬ r_3 = 0 → (q_wp_X7_fewestDams_9_85 P28 a_next lf_huts lf_dams x2 x3 x4 x5 x6 x7 post)) ∧ (r_3 = 0 → (q_z_J6_bitCount_0f7a4_0 x7 (fun r_4 => q_wp_X7_fewestDams_9_85 P28 a_next lf_huts lf_dams x2 x3 x4 x7 r_4 x7 post))))))))))))) → P28 x5 x6 x7) → P28 x5 x6 x7
def q_wp_X7_fewestDams_9_0 (a_next : Nat → Int32) (lf_huts : Int32) (lf_dams : Int32) (x2 : Int32) (x3 : Int32) (post : Int32 → Prop) : Prop :=
  ∀ v_1 : Int32, v_1 = ((lf_dams ||| ((1 : Int32) <<< (x2 &&& 31))) ||| ((1 : Int32) <<< (x3 &&& 31))) → (∀ v_2 : Int32, v_2 = (lf_huts + (1 : Int32)) → (q_wp_X7_fewestDams_9_28 a_next lf_huts lf_dams x2 x3 v_1 (-1 : Int32) v_2 (0 : Int32) post))
set_option maxRecDepth 20000 in
theorem t_wp_X7_fewestDams_9_85 {p : Program} {l : Launch} {e : Env} {s : State} {m : MethodId} {args : Array Value} {below : List Frame} {meth : Method} {c : Code} {E : zE} {qp ql qs : Nat} {a_heard : Nat → Int32} {a_walked : Nat → Int32} {a_total : Nat → Int32} {a_longest : Nat → Int32} {a_next : Nat → Int32} {a_cover : Nat → Int32} {a_now : Nat → Int32} {a_then : Nat → Int32} {lf_huts : Int32} {lf_singers : Int32} {lf_villages : Int32} {lf_dams : Int32} {lf_echoes : Int32} {lf_deep : Int32} {lf_slide : Int32} {la_heights : Nat → Int32} {la_ladders : Nat → Int32} {la_minutes : Nat → Int32} {la_echoFrom : Nat → Int32} {la_echoTo : Nat → Int32} {la_homes : Nat → Int32} {la_talls : Nat → Int32} {la_known : Nat → Int32} {sf_facts : Int32} {sa_heard : Nat → Int32} {sa_huts : Nat → Int32} {sa_minutes : Nat → Int32} {P28 : Int32 → Int32 → Int32 → Prop} {post : Int32 → Prop} {x2 : Int32} {x3 : Int32} {x4 : Int32} {x5 : Int32} {x6 : Int32} {x7 : Int32} {ls : Array Slot}
    (zc : zC p s m args meth c cX7_fewestDams 8 RX7 (some .int))
    (hK : zK E s)
    (hM : wpW E qp ql qs a_heard a_walked a_total a_longest a_next a_cover a_now a_then lf_huts lf_singers lf_villages lf_dams lf_echoes lf_deep lf_slide la_heights la_ladders la_minutes la_echoFrom la_echoTo la_homes la_talls la_known sf_facts sa_heard sa_huts sa_minutes s.heap)
    (hP28 : ∀ (x5 : Int32) (x6 : Int32) (x7 : Int32) (ls : Array Slot), P28 x5 x6 x7 → lv_has ls 8 [(0, .ref qp), (1, .ref ql), (2, .int x2), (3, .int x3), (4, .int x4), (5, .int x5), (6, .int x6), (7, .int x7)] → W p l e rm_wp_X7_fewestDams_9 s m args below meth c s.heap [] 0 0 (MQ below (vp_Si post) args s 0 0 (fun _ => False)) (F0 m 28 ls []))
    (hl : lv_has ls 8 [(0, .ref qp), (1, .ref ql), (2, .int x2), (3, .int x3), (4, .int x4), (5, .int x5), (6, .int x6), (7, .int x7)])
    (hw : q_wp_X7_fewestDams_9_85 P28 a_next lf_huts lf_dams x2 x3 x4 x5 x6 x7 post) :
    W p l e rm_wp_X7_fewestDams_9 s m args below meth c s.heap [] 0 0 (MQ below (vp_Si post) args s 0 0 (fun _ => False)) (F0 m 85 ls []) := by
  have hx := zc.1
  have hb := zc.2.1
  obtain ⟨v_1, ev_1⟩ : ∃ y : Int32, y = x7 + (1 : Int32) := ⟨_, rfl⟩
  have hw := hw v_1 ev_1
  refine lv_iinc (v := v_1) (k := 7) (lv' := [(7, .int v_1), (0, .ref qp), (1, .ref ql), (2, .int x2), (3, .int x3), (4, .int x4), (5, .int x5), (6, .int x6)]) hx hb dX7_fewestDams_85 hl rfl (by rw [ev_1]; rfl) (by decide) rfl (fun ls hl => ?_)
  refine lv_goto (tgt := 28) hx hb dX7_fewestDams_88 (by decide) ?_
  exact hP28 _ _ _ _ hw (lv_sub hl [1, 2, 3, 4, 5, 6, 7, 0] rfl)
set_option maxRecDepth 20000 in
theorem t_wp_X7_fewestDams_9_28 {p : Program} {l : Launch} {e : Env} {s : State} {m : MethodId} {args : Array Value} {below : List Frame} {meth : Method} {c : Code} {E : zE} {qp ql qs : Nat} {a_heard : Nat → Int32} {a_walked : Nat → Int32} {a_total : Nat → Int32} {a_longest : Nat → Int32} {a_next : Nat → Int32} {a_cover : Nat → Int32} {a_now : Nat → Int32} {a_then : Nat → Int32} {lf_huts : Int32} {lf_singers : Int32} {lf_villages : Int32} {lf_dams : Int32} {lf_echoes : Int32} {lf_deep : Int32} {lf_slide : Int32} {la_heights : Nat → Int32} {la_ladders : Nat → Int32} {la_minutes : Nat → Int32} {la_echoFrom : Nat → Int32} {la_echoTo : Nat → Int32} {la_homes : Nat → Int32} {la_talls : Nat → Int32} {la_known : Nat → Int32} {sf_facts : Int32} {sa_heard : Nat → Int32} {sa_huts : Nat → Int32} {sa_minutes : Nat → Int32} {post : Int32 → Prop} {x2 : Int32} {x3 : Int32} {x4 : Int32} {x5 : Int32} {x6 : Int32} {x7 : Int32} {ls : Array Slot}
    (zc : zC p s m args meth c cX7_fewestDams 8 RX7 (some .int))
    (hK : zK E s)
    (hM : wpW E qp ql qs a_heard a_walked a_total a_longest a_next a_cover a_now a_then lf_huts lf_singers lf_villages lf_dams lf_echoes lf_deep lf_slide la_heights la_ladders la_minutes la_echoFrom la_echoTo la_homes la_talls la_known sf_facts sa_heard sa_huts sa_minutes s.heap)
    (hl : lv_has ls 8 [(0, .ref qp), (1, .ref ql), (2, .int x2), (3, .int x3), (4, .int x4), (5, .int x5), (6, .int x6), (7, .int x7)])
    (hw : q_wp_X7_fewestDams_9_28 a_next lf_huts lf_dams x2 x3 x4 x5 x6 x7 post) :
    W p l e rm_wp_X7_fewestDams_9 s m args below meth c s.heap [] 0 0 (MQ below (vp_Si post) args s 0 0 (fun _ => False)) (F0 m 28 ls []) := by
  have hx := zc.1
  have hb := zc.2.1
  refine hw (fun x5 x6 x7 => ∀ (ls : Array Slot), lv_has ls 8 [(0, .ref qp), (1, .ref ql), (2, .int x2), (3, .int x3), (4, .int x4), (5, .int x5), (6, .int x6), (7, .int x7)] → W p l e rm_wp_X7_fewestDams_9 s m args below meth c s.heap [] 0 0 (MQ below (vp_Si post) args s 0 0 (fun _ => False)) (F0 m 28 ls [])) ?_ _ hl
  intro x5 x6 x7 hw ls hl
  refine lv_iload hx hb dX7_fewestDams_28 (lv_at hl 7 rfl) ?_
  refine lv_iconst (v := (1 : Int32)) hx hb dX7_fewestDams_30 (by decide) ?_
  refine lv_aload_n hx hb dX7_fewestDams_31 rfl (lv_at hl 1 rfl) ?_
  refine wpg_7_42_9 zc hK hM dX7_fewestDams_32 ?_
  refine lv_ishl hx hb dX7_fewestDams_35 ?_
  refine lv_icmp_ge (tgt := 91) hx hb dX7_fewestDams_36 (by decide) (fun hc => ?_) (fun hc => ?_)
  · have hw := hw.1 hc
    refine lv_iload hx hb dX7_fewestDams_91 (lv_at hl 5 rfl) ?_
    exact zret_i zc hw dX7_fewestDams_93
  · have hw := hw.2 hc
    refine lv_iload hx hb dX7_fewestDams_39 (lv_at hl 7 rfl) ?_
    refine lv_iload hx hb dX7_fewestDams_41 (lv_at hl 4 rfl) ?_
    refine lv_iand hx hb dX7_fewestDams_43 ?_
    refine lv_if_ne (tgt := 85) hx hb dX7_fewestDams_44 (by decide) (fun hc => ?_) (fun hc => ?_)
    · have hw := hw.1 hc
      exact t_wp_X7_fewestDams_9_85 zc hK hM (fun _ _ _ ls h hl => h ls hl) (lv_sub hl [0, 1, 2, 3, 4, 5, 6, 7] rfl) hw
    · have hw := hw.2 hc
      refine lv_iload hx hb dX7_fewestDams_47 (lv_at hl 7 rfl) ?_
      refine zS_i [.int x7] [] zc ky_J6_bitCount_0f7a4 kz_J6_bitCount_0f7a4 km_7_97 (c_z_J6_bitCount_0f7a4 l hw) (zPre0 _) rfl rfl hl.1 (Nat.le_of_ble_eq_true rfl) ⟨rfl, rfl⟩ ⟨Nat.le_of_ble_eq_true rfl, Nat.le_of_ble_eq_true rfl⟩ ⟨(Nat.zero_le _), (Nat.zero_le _)⟩ dX7_fewestDams_49 (fun r_1 hw => ?_)
      refine lv_iload hx hb dX7_fewestDams_52 (lv_at hl 6 rfl) ?_
      refine lv_icmp_ge (tgt := 85) hx hb dX7_fewestDams_54 (by decide) (fun hc => ?_) (fun hc => ?_)
      · have hw := hw.1 hc
        exact t_wp_X7_fewestDams_9_85 zc hK hM (fun _ _ _ ls h hl => h ls hl) (lv_sub hl [0, 1, 2, 3, 4, 5, 6, 7] rfl) hw
      · have hw := hw.2 hc
        refine lv_iload_n hx hb dX7_fewestDams_57 rfl (lv_at hl 2 rfl) ?_
        refine lv_aload_n hx hb dX7_fewestDams_58 rfl (lv_at hl 0 rfl) ?_
        refine wpg_7_24_0 zc hK hM dX7_fewestDams_59 ?_
        refine lv_iload hx hb dX7_fewestDams_62 (lv_at hl 7 rfl) ?_
        refine zS_i [.int x2, .ref (qp + 5), .int x7] [] zc ky_X7_reach kz_X7_reach km_7_127 (c_wp_X7_reach_5 l hw) (wpPreS hK hM) rfl rfl hl.1 (Nat.le_of_ble_eq_true rfl) ⟨rfl, rfl⟩ ⟨Nat.le_of_ble_eq_true rfl, Nat.le_of_ble_eq_true rfl⟩ ⟨(Nat.zero_le _), (Nat.zero_le _)⟩ dX7_fewestDams_64 (fun r_2 hw => ?_)
        refine lv_iload_n hx hb dX7_fewestDams_67 rfl (lv_at hl 3 rfl) ?_
        refine zSN_i [.int r_2, .int x3] [] zc ky_X10_has kz_X10_has (hK.2 _ kn_7_70) (c_z_X10_has l hw) (zPre0 _) rfl rfl hl.1 (Nat.le_of_ble_eq_true rfl) ⟨rfl, rfl⟩ ⟨Nat.le_of_ble_eq_true rfl, Nat.le_of_ble_eq_true rfl⟩ ⟨(Nat.zero_le _), (Nat.zero_le _)⟩ dX7_fewestDams_68 (fun r_3 hw => ?_)
        refine lv_if_ne (tgt := 85) hx hb dX7_fewestDams_71 (by decide) (fun hc => ?_) (fun hc => ?_)
        · have hw := hw.1 hc
          exact t_wp_X7_fewestDams_9_85 zc hK hM (fun _ _ _ ls h hl => h ls hl) (lv_sub hl [0, 1, 2, 3, 4, 5, 6, 7] rfl) hw
        · have hw := hw.2 hc
          refine lv_iload hx hb dX7_fewestDams_74 (lv_at hl 7 rfl) ?_
          refine lv_istore (lv' := [(5, .int x7), (0, .ref qp), (1, .ref ql), (2, .int x2), (3, .int x3), (4, .int x4), (6, .int x6), (7, .int x7)]) hx hb dX7_fewestDams_76 hl (by decide) rfl (fun ls hl => ?_)
          refine lv_iload hx hb dX7_fewestDams_78 (lv_at hl 7 rfl) ?_
          refine zS_i [.int x7] [] zc ky_J6_bitCount_0f7a4 kz_J6_bitCount_0f7a4 km_7_97 (c_z_J6_bitCount_0f7a4 l hw) (zPre0 _) rfl rfl hl.1 (Nat.le_of_ble_eq_true rfl) ⟨rfl, rfl⟩ ⟨Nat.le_of_ble_eq_true rfl, Nat.le_of_ble_eq_true rfl⟩ ⟨(Nat.zero_le _), (Nat.zero_le _)⟩ dX7_fewestDams_80 (fun r_4 hw => ?_)
          refine lv_istore (lv' := [(6, .int r_4), (5, .int x7), (0, .ref qp), (1, .ref ql), (2, .int x2), (3, .int x3), (4, .int x4), (7, .int x7)]) hx hb dX7_fewestDams_83 hl (by decide) rfl (fun ls hl => ?_)
          exact t_wp_X7_fewestDams_9_85 zc hK hM (fun _ _ _ ls h hl => h ls hl) (lv_sub hl [2, 3, 4, 5, 6, 1, 0, 7] rfl) hw
set_option maxRecDepth 20000 in
theorem t_wp_X7_fewestDams_9_0 {p : Program} {l : Launch} {e : Env} {s : State} {m : MethodId} {args : Array Value} {below : List Frame} {meth : Method} {c : Code} {E : zE} {qp ql qs : Nat} {a_heard : Nat → Int32} {a_walked : Nat → Int32} {a_total : Nat → Int32} {a_longest : Nat → Int32} {a_next : Nat → Int32} {a_cover : Nat → Int32} {a_now : Nat → Int32} {a_then : Nat → Int32} {lf_huts : Int32} {lf_singers : Int32} {lf_villages : Int32} {lf_dams : Int32} {lf_echoes : Int32} {lf_deep : Int32} {lf_slide : Int32} {la_heights : Nat → Int32} {la_ladders : Nat → Int32} {la_minutes : Nat → Int32} {la_echoFrom : Nat → Int32} {la_echoTo : Nat → Int32} {la_homes : Nat → Int32} {la_talls : Nat → Int32} {la_known : Nat → Int32} {sf_facts : Int32} {sa_heard : Nat → Int32} {sa_huts : Nat → Int32} {sa_minutes : Nat → Int32} {post : Int32 → Prop} {x2 : Int32} {x3 : Int32} {ls : Array Slot}
    (zc : zC p s m args meth c cX7_fewestDams 8 RX7 (some .int))
    (hK : zK E s)
    (hM : wpW E qp ql qs a_heard a_walked a_total a_longest a_next a_cover a_now a_then lf_huts lf_singers lf_villages lf_dams lf_echoes lf_deep lf_slide la_heights la_ladders la_minutes la_echoFrom la_echoTo la_homes la_talls la_known sf_facts sa_heard sa_huts sa_minutes s.heap)
    (hl : lv_has ls 8 [(0, .ref qp), (1, .ref ql), (2, .int x2), (3, .int x3)])
    (hw : q_wp_X7_fewestDams_9_0 a_next lf_huts lf_dams x2 x3 post) :
    W p l e rm_wp_X7_fewestDams_9 s m args below meth c s.heap [] 0 0 (MQ below (vp_Si post) args s 0 0 (fun _ => False)) (F0 m 0 ls []) := by
  have hx := zc.1
  have hb := zc.2.1
  refine lv_aload_n hx hb dX7_fewestDams_0 rfl (lv_at hl 1 rfl) ?_
  refine wpg_7_158_9 zc hK hM dX7_fewestDams_1 ?_
  refine lv_iconst (v := (1 : Int32)) hx hb dX7_fewestDams_4 (by decide) ?_
  refine lv_iload_n hx hb dX7_fewestDams_5 rfl (lv_at hl 2 rfl) ?_
  refine lv_ishl hx hb dX7_fewestDams_6 ?_
  refine lv_ior hx hb dX7_fewestDams_7 ?_
  refine lv_iconst (v := (1 : Int32)) hx hb dX7_fewestDams_8 (by decide) ?_
  refine lv_iload_n hx hb dX7_fewestDams_9 rfl (lv_at hl 3 rfl) ?_
  refine lv_ishl hx hb dX7_fewestDams_10 ?_
  refine lv_ior hx hb dX7_fewestDams_11 ?_
  refine lv_topi (fun v_1 ev_1 => ?_)
  have hw := hw v_1 ev_1
  refine lv_istore (lv' := [(4, .int v_1), (0, .ref qp), (1, .ref ql), (2, .int x2), (3, .int x3)]) hx hb dX7_fewestDams_12 hl (by decide) rfl (fun ls hl => ?_)
  refine lv_iconst (v := (-1 : Int32)) hx hb dX7_fewestDams_14 (by decide) ?_
  refine lv_istore (lv' := [(5, .int (-1 : Int32)), (4, .int v_1), (0, .ref qp), (1, .ref ql), (2, .int x2), (3, .int x3)]) hx hb dX7_fewestDams_15 hl (by decide) rfl (fun ls hl => ?_)
  refine lv_aload_n hx hb dX7_fewestDams_17 rfl (lv_at hl 3 rfl) ?_
  refine wpg_7_42_9 zc hK hM dX7_fewestDams_18 ?_
  refine lv_iconst (v := (1 : Int32)) hx hb dX7_fewestDams_21 (by decide) ?_
  refine lv_iadd hx hb dX7_fewestDams_22 ?_
  refine lv_topi (fun v_2 ev_2 => ?_)
  have hw := hw v_2 ev_2
  refine lv_istore (lv' := [(6, .int v_2), (5, .int (-1 : Int32)), (4, .int v_1), (0, .ref qp), (1, .ref ql), (2, .int x2), (3, .int x3)]) hx hb dX7_fewestDams_23 hl (by decide) rfl (fun ls hl => ?_)
  refine lv_iconst (v := (0 : Int32)) hx hb dX7_fewestDams_25 (by decide) ?_
  refine lv_istore (lv' := [(7, .int (0 : Int32)), (6, .int v_2), (5, .int (-1 : Int32)), (4, .int v_1), (0, .ref qp), (1, .ref ql), (2, .int x2), (3, .int x3)]) hx hb dX7_fewestDams_26 hl (by decide) rfl (fun ls hl => ?_)
  exact t_wp_X7_fewestDams_9_28 zc hK hM  (lv_sub hl [4, 5, 6, 7, 3, 2, 1, 0] rfl) hw
set_option maxRecDepth 20000 in
theorem c_wp_X7_fewestDams_9 (l : Launch) {E : zE} {qp ql qs : Nat} {a_heard : Nat → Int32} {a_walked : Nat → Int32} {a_total : Nat → Int32} {a_longest : Nat → Int32} {a_next : Nat → Int32} {a_cover : Nat → Int32} {a_now : Nat → Int32} {a_then : Nat → Int32} {lf_huts : Int32} {lf_singers : Int32} {lf_villages : Int32} {lf_dams : Int32} {lf_echoes : Int32} {lf_deep : Int32} {lf_slide : Int32} {la_heights : Nat → Int32} {la_ladders : Nat → Int32} {la_minutes : Nat → Int32} {la_echoFrom : Nat → Int32} {la_echoTo : Nat → Int32} {la_homes : Nat → Int32} {la_talls : Nat → Int32} {la_known : Nat → Int32} {sf_facts : Int32} {sa_heard : Nat → Int32} {sa_huts : Nat → Int32} {sa_minutes : Nat → Int32} {x2 : Int32} {x3 : Int32} {post : Int32 → Prop} (hw : q_wp_X7_fewestDams_9_0 a_next lf_huts lf_dams x2 x3 post) : Met l yX7_fewestDams (Cond.code yX7_fewestDams cX7_fewestDams 8 (some .int) :: zb) rm_wp_X7_fewestDams_9 (va_Pc [.ref qp, .ref ql, .int x2, .int x3] (fun U => wpW E qp ql qs a_heard a_walked a_total a_longest a_next a_cover a_now a_then lf_huts lf_singers lf_villages lf_dams lf_echoes lf_deep lf_slide la_heights la_ladders la_minutes la_echoFrom la_echoTo la_homes la_talls la_known sf_facts sa_heard sa_huts sa_minutes U.heap ∧ zK E U)) (vp_Si post) 0 0 (fun _ => False) := by
  refine Met.ofW (cc := cX7_fewestDams) (maxL := 8) (ret := (some .int)) (by decide) rfl ?_
  intro p e s m args below meth c s₁ B hml hv
  obtain ⟨rfl, hM, hK⟩ := hv
  have zc := zc_of B hml
  have hl := lv_entry ([.ref qp, .ref ql, .int x2, .int x3]) (n := 8) (Nat.le_of_ble_eq_true rfl)
  rw [lg_entry_eq]
  generalize (lg_sl ([.ref qp, .ref ql, .int x2, .int x3]) ++ List.replicate (8 - (lg_sl ([.ref qp, .ref ql, .int x2, .int x3])).length) Slot.unset).toArray = ls at hl ⊢
  have hl : lv_has ls 8 [(0, .ref qp), (1, .ref ql), (2, .int x2), (3, .int x3)] := hl
  exact t_wp_X7_fewestDams_9_0 zc hK hM (lv_sub hl [0, 1, 2, 3] rfl) hw
end
section
-- wb_X8_firstTake
abbrev rm_wb_X8_firstTake : Room := { frames := 0, cells := 0, slots := 0, locals := 0 }
def q_wb_X8_firstTake_22 (a_less : Nat → Int32) (a_full : Nat → Int32) (x1 : Int32) (x2 : Int32) (x3 : Int32) (x4 : Int32) (post : Int32 → Prop) : Prop :=
  ∀ P22 : Int32 → Prop, (∀ (x4 : Int32), ((x1 ≤ 0 → (post (-1 : Int32))) ∧ (¬ x1 ≤ 0 → ((x3 < x4 → (post (-1 : Int32))) ∧ (¬ x3 < x4 → ((x2 < x4 → (post (-1 : Int32))) ∧ (¬ x2 < x4 → (vp_in (x2 - x4) 61 ∧ ((¬ (a_less (Int32.toNatClampNeg (x2 - x4))) = (-1 : Int32) → (∀ v_1 : Int32, v_1 = x4 + (1 : Int32) → (P22 v_1))) ∧ ((a_less (Int32.toNatClampNeg (x2 - x4))) = (-1 : Int32) → (post ((10 : Int32) + x4))))))))))) → P22 x4) → P22 x4
def q_wb_X8_firstTake_19 (a_less : Nat → Int32) (a_full : Nat → Int32) (x1 : Int32) (x2 : Int32) (x3 : Int32) (post : Int32 → Prop) : Prop :=
  q_wb_X8_firstTake_22 a_less a_full x1 x2 x3 (1 : Int32) post
def q_wb_X8_firstTake_0 (a_less : Nat → Int32) (a_full : Nat → Int32) (x1 : Int32) (x2 : Int32) (x3 : Int32) (post : Int32 → Prop) : Prop :=
  (x2 < (2 : Int32) → (q_wb_X8_firstTake_19 a_less a_full x1 x2 x3 post)) ∧ (¬ x2 < (2 : Int32) → (vp_in (x2 - (2 : Int32)) 61 ∧ ((¬ (a_full (Int32.toNatClampNeg (x2 - (2 : Int32)))) = (-1 : Int32) → (q_wb_X8_firstTake_19 a_less a_full x1 x2 x3 post)) ∧ ((a_full (Int32.toNatClampNeg (x2 - (2 : Int32)))) = (-1 : Int32) → (post (2 : Int32))))))
set_option maxRecDepth 20000 in
theorem t_wb_X8_firstTake_22 {p : Program} {l : Launch} {e : Env} {s : State} {m : MethodId} {args : Array Value} {below : List Frame} {meth : Method} {c : Code} {E : zE} {qb : Nat} {a_less : Nat → Int32} {a_full : Nat → Int32} {post : Int32 → Prop} {x1 : Int32} {x2 : Int32} {x3 : Int32} {x4 : Int32} {ls : Array Slot}
    (zc : zC p s m args meth c cX8_firstTake 5 RX8 (some .int))
    (hK : zK E s)
    (hM : wbW E qb a_less a_full s.heap)
    (hl : lv_has ls 5 [(0, .ref qb), (1, .int x1), (2, .int x2), (3, .int x3), (4, .int x4)])
    (hw : q_wb_X8_firstTake_22 a_less a_full x1 x2 x3 x4 post) :
    W p l e rm_wb_X8_firstTake s m args below meth c s.heap [] 0 0 (MQ below (vp_Si post) args s 0 0 (fun _ => False)) (F0 m 22 ls []) := by
  have hx := zc.1
  have hb := zc.2.1
  refine hw (fun x4 => ∀ (ls : Array Slot), lv_has ls 5 [(0, .ref qb), (1, .int x1), (2, .int x2), (3, .int x3), (4, .int x4)] → W p l e rm_wb_X8_firstTake s m args below meth c s.heap [] 0 0 (MQ below (vp_Si post) args s 0 0 (fun _ => False)) (F0 m 22 ls [])) ?_ _ hl
  intro x4 hw ls hl
  refine lv_iload_n hx hb dX8_firstTake_22 rfl (lv_at hl 1 rfl) ?_
  refine lv_if_le (tgt := 63) hx hb dX8_firstTake_23 (by decide) (fun hc => ?_) (fun hc => ?_)
  · have hw := hw.1 hc
    refine lv_iconst (v := (-1 : Int32)) hx hb dX8_firstTake_63 (by decide) ?_
    exact zret_i zc hw dX8_firstTake_64
  · have hw := hw.2 hc
    refine lv_iload hx hb dX8_firstTake_26 (lv_at hl 4 rfl) ?_
    refine lv_iload_n hx hb dX8_firstTake_28 rfl (lv_at hl 3 rfl) ?_
    refine lv_icmp_gt (tgt := 63) hx hb dX8_firstTake_29 (by decide) (fun hc => ?_) (fun hc => ?_)
    · have hw := hw.1 hc
      refine lv_iconst (v := (-1 : Int32)) hx hb dX8_firstTake_63 (by decide) ?_
      exact zret_i zc hw dX8_firstTake_64
    · have hw := hw.2 hc
      refine lv_iload hx hb dX8_firstTake_32 (lv_at hl 4 rfl) ?_
      refine lv_iload_n hx hb dX8_firstTake_34 rfl (lv_at hl 2 rfl) ?_
      refine lv_icmp_gt (tgt := 63) hx hb dX8_firstTake_35 (by decide) (fun hc => ?_) (fun hc => ?_)
      · have hw := hw.1 hc
        refine lv_iconst (v := (-1 : Int32)) hx hb dX8_firstTake_63 (by decide) ?_
        exact zret_i zc hw dX8_firstTake_64
      · have hw := hw.2 hc
        refine lv_aload_n hx hb dX8_firstTake_38 rfl (lv_at hl 0 rfl) ?_
        refine wbg_8_9_0 zc hK hM dX8_firstTake_39 ?_
        refine lv_iload_n hx hb dX8_firstTake_42 rfl (lv_at hl 2 rfl) ?_
        refine lv_iload hx hb dX8_firstTake_43 (lv_at hl 4 rfl) ?_
        refine lv_isub hx hb dX8_firstTake_45 ?_
        refine wbld_1 zc hK hM hw.1 dX8_firstTake_46 ?_
        have hw := hw.2
        refine lv_iconst (v := (-1 : Int32)) hx hb dX8_firstTake_47 (by decide) ?_
        refine lv_icmp_ne (tgt := 57) hx hb dX8_firstTake_48 (by decide) (fun hc => ?_) (fun hc => ?_)
        · have hw := hw.1 hc
          obtain ⟨v_1, ev_1⟩ : ∃ y : Int32, y = x4 + (1 : Int32) := ⟨_, rfl⟩
          have hw := hw v_1 ev_1
          refine lv_iinc (v := v_1) (k := 4) (lv' := [(4, .int v_1), (0, .ref qb), (1, .int x1), (2, .int x2), (3, .int x3)]) hx hb dX8_firstTake_57 hl rfl (by rw [ev_1]; rfl) (by decide) rfl (fun ls hl => ?_)
          refine lv_goto (tgt := 22) hx hb dX8_firstTake_60 (by decide) ?_
          exact hw _ (lv_sub hl [1, 2, 3, 4, 0] rfl)
        · have hw := hw.2 hc
          refine lv_bipush (v := (10 : Int32)) hx hb dX8_firstTake_51 (by decide) ?_
          refine lv_iload hx hb dX8_firstTake_53 (lv_at hl 4 rfl) ?_
          refine lv_iadd hx hb dX8_firstTake_55 ?_
          exact zret_i zc hw dX8_firstTake_56
set_option maxRecDepth 20000 in
theorem t_wb_X8_firstTake_19 {p : Program} {l : Launch} {e : Env} {s : State} {m : MethodId} {args : Array Value} {below : List Frame} {meth : Method} {c : Code} {E : zE} {qb : Nat} {a_less : Nat → Int32} {a_full : Nat → Int32} {post : Int32 → Prop} {x1 : Int32} {x2 : Int32} {x3 : Int32} {ls : Array Slot}
    (zc : zC p s m args meth c cX8_firstTake 5 RX8 (some .int))
    (hK : zK E s)
    (hM : wbW E qb a_less a_full s.heap)
    (hl : lv_has ls 5 [(0, .ref qb), (1, .int x1), (2, .int x2), (3, .int x3)])
    (hw : q_wb_X8_firstTake_19 a_less a_full x1 x2 x3 post) :
    W p l e rm_wb_X8_firstTake s m args below meth c s.heap [] 0 0 (MQ below (vp_Si post) args s 0 0 (fun _ => False)) (F0 m 19 ls []) := by
  have hx := zc.1
  have hb := zc.2.1
  refine lv_iconst (v := (1 : Int32)) hx hb dX8_firstTake_19 (by decide) ?_
  refine lv_istore (lv' := [(4, .int (1 : Int32)), (0, .ref qb), (1, .int x1), (2, .int x2), (3, .int x3)]) hx hb dX8_firstTake_20 hl (by decide) rfl (fun ls hl => ?_)
  exact t_wb_X8_firstTake_22 zc hK hM  (lv_sub hl [1, 2, 3, 4, 0] rfl) hw
set_option maxRecDepth 20000 in
theorem t_wb_X8_firstTake_0 {p : Program} {l : Launch} {e : Env} {s : State} {m : MethodId} {args : Array Value} {below : List Frame} {meth : Method} {c : Code} {E : zE} {qb : Nat} {a_less : Nat → Int32} {a_full : Nat → Int32} {post : Int32 → Prop} {x1 : Int32} {x2 : Int32} {x3 : Int32} {ls : Array Slot}
    (zc : zC p s m args meth c cX8_firstTake 5 RX8 (some .int))
    (hK : zK E s)
    (hM : wbW E qb a_less a_full s.heap)
    (hl : lv_has ls 5 [(0, .ref qb), (1, .int x1), (2, .int x2), (3, .int x3)])
    (hw : q_wb_X8_firstTake_0 a_less a_full x1 x2 x3 post) :
    W p l e rm_wb_X8_firstTake s m args below meth c s.heap [] 0 0 (MQ below (vp_Si post) args s 0 0 (fun _ => False)) (F0 m 0 ls []) := by
  have hx := zc.1
  have hb := zc.2.1
  refine lv_iload_n hx hb dX8_firstTake_0 rfl (lv_at hl 2 rfl) ?_
  refine lv_iconst (v := (2 : Int32)) hx hb dX8_firstTake_1 (by decide) ?_
  refine lv_icmp_lt (tgt := 19) hx hb dX8_firstTake_2 (by decide) (fun hc => ?_) (fun hc => ?_)
  · have hw := hw.1 hc
    exact t_wb_X8_firstTake_19 zc hK hM  (lv_sub hl [0, 1, 2, 3] rfl) hw
  · have hw := hw.2 hc
    refine lv_aload_n hx hb dX8_firstTake_5 rfl (lv_at hl 0 rfl) ?_
    refine wbg_8_15_0 zc hK hM dX8_firstTake_6 ?_
    refine lv_iload_n hx hb dX8_firstTake_9 rfl (lv_at hl 2 rfl) ?_
    refine lv_iconst (v := (2 : Int32)) hx hb dX8_firstTake_10 (by decide) ?_
    refine lv_isub hx hb dX8_firstTake_11 ?_
    refine wbld_2 zc hK hM hw.1 dX8_firstTake_12 ?_
    have hw := hw.2
    refine lv_iconst (v := (-1 : Int32)) hx hb dX8_firstTake_13 (by decide) ?_
    refine lv_icmp_ne (tgt := 19) hx hb dX8_firstTake_14 (by decide) (fun hc => ?_) (fun hc => ?_)
    · have hw := hw.1 hc
      exact t_wb_X8_firstTake_19 zc hK hM  (lv_sub hl [0, 1, 2, 3] rfl) hw
    · have hw := hw.2 hc
      refine lv_iconst (v := (2 : Int32)) hx hb dX8_firstTake_17 (by decide) ?_
      exact zret_i zc hw dX8_firstTake_18
set_option maxRecDepth 20000 in
theorem c_wb_X8_firstTake (l : Launch) {E : zE} {qb : Nat} {a_less : Nat → Int32} {a_full : Nat → Int32} {x1 : Int32} {x2 : Int32} {x3 : Int32} {post : Int32 → Prop} (hw : q_wb_X8_firstTake_0 a_less a_full x1 x2 x3 post) : Met l yX8_firstTake (Cond.code yX8_firstTake cX8_firstTake 5 (some .int) :: zb) rm_wb_X8_firstTake (va_Pc [.ref qb, .int x1, .int x2, .int x3] (fun U => wbW E qb a_less a_full U.heap ∧ zK E U)) (vp_Si post) 0 0 (fun _ => False) := by
  refine Met.ofW (cc := cX8_firstTake) (maxL := 5) (ret := (some .int)) (by decide) rfl ?_
  intro p e s m args below meth c s₁ B hml hv
  obtain ⟨rfl, hM, hK⟩ := hv
  have zc := zc_of B hml
  have hl := lv_entry ([.ref qb, .int x1, .int x2, .int x3]) (n := 5) (Nat.le_of_ble_eq_true rfl)
  rw [lg_entry_eq]
  generalize (lg_sl ([.ref qb, .int x1, .int x2, .int x3]) ++ List.replicate (5 - (lg_sl ([.ref qb, .int x1, .int x2, .int x3])).length) Slot.unset).toArray = ls at hl ⊢
  have hl : lv_has ls 5 [(0, .ref qb), (1, .int x1), (2, .int x2), (3, .int x3)] := hl
  exact t_wb_X8_firstTake_0 zc hK hM (lv_sub hl [0, 1, 2, 3] rfl) hw
-- wb_X8_lay
abbrev rm_wb_X8_lay : Room := { frames := 1, cells := 0, slots := 0, locals := 40 }
def q_wb_X8_lay_28 (P3 : Int32 → (Nat → Int32) → (Nat → Int32) → Prop) (a_less : Nat → Int32) (a_full : Nat → Int32) (x1 : Int32) (x2 : Int32) (x3 : Int32) (x4 : Int32) (x5 : Int32) (post : (Nat → Int32) → (Nat → Int32) → Prop) : Prop :=
  ∀ P28 : Int32 → (Nat → Int32) → Prop, (∀ (x5 : Int32) (a_full : Nat → Int32), ((x2 < x5 → (∀ v_1 : Int32, v_1 = x4 + (1 : Int32) → (P3 v_1 a_less a_full))) ∧ (¬ x2 < x5 → (q_wb_X8_firstTake_0 a_less a_full x4 x5 x3 (fun r_1 => vp_in x5 61 ∧ (∀ a_full_1 : Nat → Int32, a_full_1 = upd a_full (Int32.toNatClampNeg x5) r_1 → (∀ v_2 : Int32, v_2 = x5 + (1 : Int32) → (P28 v_2 a_full_1))))))) → P28 x5 a_full) → P28 x5 a_full
def q_wb_X8_lay_3 (a_less : Nat → Int32) (a_full : Nat → Int32) (x1 : Int32) (x2 : Int32) (x3 : Int32) (x4 : Int32) (post : (Nat → Int32) → (Nat → Int32) → Prop) : Prop :=
  ∀ P3 : Int32 → (Nat → Int32) → (Nat → Int32) → Prop, (∀ (x4 : Int32) (a_less : Nat → Int32) (a_full : Nat → Int32), ((x1 < x4 → (post a_less a_full)) ∧ (¬ x1 < x4 → ((¬ (x2 + (1 : Int32)) < 0) ∧ ((Int32.toNatClampNeg (0 : Int32) + Int32.toNatClampNeg (x2 + (1 : Int32)) ≤ 61) ∧ ((Int32.toNatClampNeg (0 : Int32) + Int32.toNatClampNeg (x2 + (1 : Int32)) ≤ 61) ∧ (∀ a_less_1 : Nat → Int32, a_less_1 = va_cpy a_full a_less (Int32.toNatClampNeg (0 : Int32)) (Int32.toNatClampNeg (0 : Int32)) (Int32.toNatClampNeg (x2 + (1 : Int32))) → (q_wb_X8_lay_28 P3 a_less_1 a_full x1 x2 x3 x4 (0 : Int32) post))))))) → P3 x4 a_less a_full) → P3 x4 a_less a_full
def q_wb_X8_lay_0 (a_less : Nat → Int32) (a_full : Nat → Int32) (x1 : Int32) (x2 : Int32) (x3 : Int32) (post : (Nat → Int32) → (Nat → Int32) → Prop) : Prop :=
  q_wb_X8_lay_3 a_less a_full x1 x2 x3 (0 : Int32) post
set_option maxRecDepth 20000 in
theorem t_wb_X8_lay_28 {p : Program} {l : Launch} {e : Env} {s : State} {m : MethodId} {args : Array Value} {below : List Frame} {meth : Method} {c : Code} {E : zE} {qb : Nat} {a_less : Nat → Int32} {a_full : Nat → Int32} {P3 : Int32 → (Nat → Int32) → (Nat → Int32) → Prop} {post : (Nat → Int32) → (Nat → Int32) → Prop} {x1 : Int32} {x2 : Int32} {x3 : Int32} {x4 : Int32} {x5 : Int32} {ls : Array Slot} {H : Heap} {locs : List Loc}
    (zc : zC p s m args meth c cX8_lay 6 RX8 none)
    (hK : zK E s)
    (hM : wbW E qb a_less a_full H)
    (hS : va_S (wbA qb) s.heap H locs)
    (hP3 : ∀ (x4 : Int32) (a_less : Nat → Int32) (a_full : Nat → Int32) (H : Heap) (locs : List Loc) (ls : Array Slot), P3 x4 a_less a_full → lv_has ls 6 [(0, .ref qb), (1, .int x1), (2, .int x2), (3, .int x3), (4, .int x4)] → wbW E qb a_less a_full H → va_S (wbA qb) s.heap H locs → W p l e rm_wb_X8_lay s m args below meth c H locs 0 0 (MQ below (zQv (S := (Nat → Int32) × (Nat → Int32)) (fun u => post u.1 u.2) (fun u H => wbW E qb u.1 u.2 H) (wbA qb)) args s 0 0 (wbA qb)) (F0 m 3 ls []))
    (hl : lv_has ls 6 [(0, .ref qb), (1, .int x1), (2, .int x2), (3, .int x3), (4, .int x4), (5, .int x5)])
    (hw : q_wb_X8_lay_28 P3 a_less a_full x1 x2 x3 x4 x5 post) :
    W p l e rm_wb_X8_lay s m args below meth c H locs 0 0 (MQ below (zQv (S := (Nat → Int32) × (Nat → Int32)) (fun u => post u.1 u.2) (fun u H => wbW E qb u.1 u.2 H) (wbA qb)) args s 0 0 (wbA qb)) (F0 m 28 ls []) := by
  have hx := zc.1
  have hb := zc.2.1
  refine hw (fun x5 a_full => ∀ (H : Heap) (locs : List Loc) (ls : Array Slot), lv_has ls 6 [(0, .ref qb), (1, .int x1), (2, .int x2), (3, .int x3), (4, .int x4), (5, .int x5)] → wbW E qb a_less a_full H → va_S (wbA qb) s.heap H locs → W p l e rm_wb_X8_lay s m args below meth c H locs 0 0 (MQ below (zQv (S := (Nat → Int32) × (Nat → Int32)) (fun u => post u.1 u.2) (fun u H => wbW E qb u.1 u.2 H) (wbA qb)) args s 0 0 (wbA qb)) (F0 m 28 ls [])) ?_ _ _ _ hl hM hS
  intro x5 a_full hw H locs ls hl hM hS
  refine lv_iload hx hb dX8_lay_28 (lv_at hl 5 rfl) ?_
  refine lv_iload_n hx hb dX8_lay_30 rfl (lv_at hl 2 rfl) ?_
  refine lv_icmp_gt (tgt := 56) hx hb dX8_lay_31 (by decide) (fun hc => ?_) (fun hc => ?_)
  · have hw := hw.1 hc
    obtain ⟨v_1, ev_1⟩ : ∃ y : Int32, y = x4 + (1 : Int32) := ⟨_, rfl⟩
    have hw := hw v_1 ev_1
    refine lv_iinc (v := v_1) (k := 4) (lv' := [(4, .int v_1), (0, .ref qb), (1, .int x1), (2, .int x2), (3, .int x3), (5, .int x5)]) hx hb dX8_lay_56 hl rfl (by rw [ev_1]; rfl) (by decide) rfl (fun ls hl => ?_)
    refine lv_goto (tgt := 3) hx hb dX8_lay_59 (by decide) ?_
    exact hP3 _ _ _ _ _ _ hw (lv_sub hl [1, 2, 3, 4, 0] rfl) hM hS
  · have hw := hw.2 hc
    refine lv_aload_n hx hb dX8_lay_34 rfl (lv_at hl 0 rfl) ?_
    refine wbg_8_15_0 zc hK hM dX8_lay_35 ?_
    refine lv_iload hx hb dX8_lay_38 (lv_at hl 5 rfl) ?_
    refine lv_aload_n hx hb dX8_lay_40 rfl (lv_at hl 0 rfl) ?_
    refine lv_iload hx hb dX8_lay_41 (lv_at hl 4 rfl) ?_
    refine lv_iload hx hb dX8_lay_43 (lv_at hl 5 rfl) ?_
    refine lv_iload_n hx hb dX8_lay_45 rfl (lv_at hl 3 rfl) ?_
    refine zV_i [.int x4, .int x5, .int x3] [.int x5, .ref (qb + 2)] zc ky_X8_firstTake kz_X8_firstTake km_8_24 (c_wb_X8_firstTake l hw) (wbPreV0 hK hM) rfl rfl hl.1 (Nat.le_of_ble_eq_true rfl) ⟨rfl, rfl⟩ ⟨Nat.le_of_ble_eq_true rfl, Nat.le_of_ble_eq_true rfl⟩ ⟨(Nat.zero_le _), (Nat.zero_le _)⟩ dX8_lay_46 (fun r_1 hw => ?_)
    refine wbst_2 zc hK hM hS hw.1 dX8_lay_49 (fun a_full_1 H locs ea_full_1 hM hS => ?_)
    have hw := hw.2 a_full_1 ea_full_1
    obtain ⟨v_2, ev_2⟩ : ∃ y : Int32, y = x5 + (1 : Int32) := ⟨_, rfl⟩
    have hw := hw v_2 ev_2
    refine lv_iinc (v := v_2) (k := 5) (lv' := [(5, .int v_2), (0, .ref qb), (1, .int x1), (2, .int x2), (3, .int x3), (4, .int x4)]) hx hb dX8_lay_50 hl rfl (by rw [ev_2]; rfl) (by decide) rfl (fun ls hl => ?_)
    refine lv_goto (tgt := 28) hx hb dX8_lay_53 (by decide) ?_
    exact hw _ _ _ (lv_sub hl [1, 2, 3, 4, 5, 0] rfl) hM hS
set_option maxRecDepth 20000 in
theorem t_wb_X8_lay_3 {p : Program} {l : Launch} {e : Env} {s : State} {m : MethodId} {args : Array Value} {below : List Frame} {meth : Method} {c : Code} {E : zE} {qb : Nat} {a_less : Nat → Int32} {a_full : Nat → Int32} {post : (Nat → Int32) → (Nat → Int32) → Prop} {x1 : Int32} {x2 : Int32} {x3 : Int32} {x4 : Int32} {ls : Array Slot} {H : Heap} {locs : List Loc}
    (zc : zC p s m args meth c cX8_lay 6 RX8 none)
    (hK : zK E s)
    (hM : wbW E qb a_less a_full H)
    (hS : va_S (wbA qb) s.heap H locs)
    (hl : lv_has ls 6 [(0, .ref qb), (1, .int x1), (2, .int x2), (3, .int x3), (4, .int x4)])
    (hw : q_wb_X8_lay_3 a_less a_full x1 x2 x3 x4 post) :
    W p l e rm_wb_X8_lay s m args below meth c H locs 0 0 (MQ below (zQv (S := (Nat → Int32) × (Nat → Int32)) (fun u => post u.1 u.2) (fun u H => wbW E qb u.1 u.2 H) (wbA qb)) args s 0 0 (wbA qb)) (F0 m 3 ls []) := by
  have hx := zc.1
  have hb := zc.2.1
  refine hw (fun x4 a_less a_full => ∀ (H : Heap) (locs : List Loc) (ls : Array Slot), lv_has ls 6 [(0, .ref qb), (1, .int x1), (2, .int x2), (3, .int x3), (4, .int x4)] → wbW E qb a_less a_full H → va_S (wbA qb) s.heap H locs → W p l e rm_wb_X8_lay s m args below meth c H locs 0 0 (MQ below (zQv (S := (Nat → Int32) × (Nat → Int32)) (fun u => post u.1 u.2) (fun u H => wbW E qb u.1 u.2 H) (wbA qb)) args s 0 0 (wbA qb)) (F0 m 3 ls [])) ?_ _ _ _ hl hM hS
  intro x4 a_less a_full hw H locs ls hl hM hS
  refine lv_iload hx hb dX8_lay_3 (lv_at hl 4 rfl) ?_
  refine lv_iload_n hx hb dX8_lay_5 rfl (lv_at hl 1 rfl) ?_
  refine lv_icmp_gt (tgt := 62) hx hb dX8_lay_6 (by decide) (fun hc => ?_) (fun hc => ?_)
  · have hw := hw.1 hc
    exact zret_vw ⟨a_less, a_full⟩ zc hS hw hM dX8_lay_62
  · have hw := hw.2 hc
    refine lv_aload_n hx hb dX8_lay_9 rfl (lv_at hl 0 rfl) ?_
    refine wbg_8_15_0 zc hK hM dX8_lay_10 ?_
    refine lv_iconst (v := (0 : Int32)) hx hb dX8_lay_13 (by decide) ?_
    refine lv_aload_n hx hb dX8_lay_14 rfl (lv_at hl 0 rfl) ?_
    refine wbg_8_9_0 zc hK hM dX8_lay_15 ?_
    refine lv_iconst (v := (0 : Int32)) hx hb dX8_lay_18 (by decide) ?_
    refine lv_iload_n hx hb dX8_lay_19 rfl (lv_at hl 2 rfl) ?_
    refine lv_iconst (v := (1 : Int32)) hx hb dX8_lay_20 (by decide) ?_
    refine lv_iadd hx hb dX8_lay_21 ?_
    have hs1 := hw.1
    have hw := hw.2
    have hs2 := hw.1
    have hw := hw.2
    have hs3 := hw.1
    have hw := hw.2
    refine wbcp_2_1 zc hK hM hS hl.1 (zc.2.2.2.2.1 _ km_8_18) (by decide) (by decide) hs1 hs2 hs3 (fun _ _ => rfl) (by decide) (by decide) dX8_lay_22 (fun a_less_1 H locs ea_less_1 hM hS => ?_)
    have hw := hw a_less_1 ea_less_1
    refine lv_iconst (v := (0 : Int32)) hx hb dX8_lay_25 (by decide) ?_
    refine lv_istore (lv' := [(5, .int (0 : Int32)), (0, .ref qb), (1, .int x1), (2, .int x2), (3, .int x3), (4, .int x4)]) hx hb dX8_lay_26 hl (by decide) rfl (fun ls hl => ?_)
    exact t_wb_X8_lay_28 zc hK hM hS (fun _ _ _ H locs ls h hl hM hS => h H locs ls hl hM hS) (lv_sub hl [1, 2, 3, 4, 5, 0] rfl) hw
set_option maxRecDepth 20000 in
theorem t_wb_X8_lay_0 {p : Program} {l : Launch} {e : Env} {s : State} {m : MethodId} {args : Array Value} {below : List Frame} {meth : Method} {c : Code} {E : zE} {qb : Nat} {a_less : Nat → Int32} {a_full : Nat → Int32} {post : (Nat → Int32) → (Nat → Int32) → Prop} {x1 : Int32} {x2 : Int32} {x3 : Int32} {ls : Array Slot} {H : Heap} {locs : List Loc}
    (zc : zC p s m args meth c cX8_lay 6 RX8 none)
    (hK : zK E s)
    (hM : wbW E qb a_less a_full H)
    (hS : va_S (wbA qb) s.heap H locs)
    (hl : lv_has ls 6 [(0, .ref qb), (1, .int x1), (2, .int x2), (3, .int x3)])
    (hw : q_wb_X8_lay_0 a_less a_full x1 x2 x3 post) :
    W p l e rm_wb_X8_lay s m args below meth c H locs 0 0 (MQ below (zQv (S := (Nat → Int32) × (Nat → Int32)) (fun u => post u.1 u.2) (fun u H => wbW E qb u.1 u.2 H) (wbA qb)) args s 0 0 (wbA qb)) (F0 m 0 ls []) := by
  have hx := zc.1
  have hb := zc.2.1
  refine lv_iconst (v := (0 : Int32)) hx hb dX8_lay_0 (by decide) ?_
  refine lv_istore (lv' := [(4, .int (0 : Int32)), (0, .ref qb), (1, .int x1), (2, .int x2), (3, .int x3)]) hx hb dX8_lay_1 hl (by decide) rfl (fun ls hl => ?_)
  exact t_wb_X8_lay_3 zc hK hM hS  (lv_sub hl [1, 2, 3, 4, 0] rfl) hw
set_option maxRecDepth 20000 in
theorem c_wb_X8_lay (l : Launch) {E : zE} {qb : Nat} {a_less : Nat → Int32} {a_full : Nat → Int32} {x1 : Int32} {x2 : Int32} {x3 : Int32} {post : (Nat → Int32) → (Nat → Int32) → Prop} (hw : q_wb_X8_lay_0 a_less a_full x1 x2 x3 post) : Met l yX8_lay (Cond.code yX8_lay cX8_lay 6 none :: zb) rm_wb_X8_lay (va_Pc [.ref qb, .int x1, .int x2, .int x3] (fun U => wbW E qb a_less a_full U.heap ∧ zK E U)) (zQv (S := (Nat → Int32) × (Nat → Int32)) (fun u => post u.1 u.2) (fun u H => wbW E qb u.1 u.2 H) (wbA qb)) 0 0 (wbA qb) := by
  refine Met.ofW (cc := cX8_lay) (maxL := 6) (ret := none) (by decide) rfl ?_
  intro p e s m args below meth c s₁ B hml hv
  obtain ⟨rfl, hM, hK⟩ := hv
  have zc := zc_of B hml
  have hl := lv_entry ([.ref qb, .int x1, .int x2, .int x3]) (n := 6) (Nat.le_of_ble_eq_true rfl)
  rw [lg_entry_eq]
  generalize (lg_sl ([.ref qb, .int x1, .int x2, .int x3]) ++ List.replicate (6 - (lg_sl ([.ref qb, .int x1, .int x2, .int x3])).length) Slot.unset).toArray = ls at hl ⊢
  have hl : lv_has ls 6 [(0, .ref qb), (1, .int x1), (2, .int x2), (3, .int x3)] := hl
  exact t_wb_X8_lay_0 zc hK hM va_S.rf (lv_sub hl [0, 1, 2, 3] rfl) hw
end
section
section ZW
variable {p : Program} {l : Launch} {e : Env} {R : Room} {s : State} {m : MethodId} {args : Array Value} {below : List Frame} {meth : Method} {c : Code} {H : Heap} {locs : List Loc} {cells slots : Nat} {Q : State → Prop} {cc : ByteArray} {pc nL : Nat} {ls : Array Slot} {own C : String} {ret : Option FieldType} {y : MethodName} {bytes : ByteArray} {maxL n idx : Nat} {retc : Option FieldType} {rm : Room} {Pc : Array Value → State → Prop} {b : Addr}
theorem zS_l {post : Int64 → Prop} (As rest : List Value) {st : List Value} (zc : zC p s m args meth c cc nL own ret) (ky : zY C y (Cond.code y bytes maxL retc) n) (k2 : Cond.static y ∈ zb) (hl : Cond.methodLink own idx y ∈ zb) (hM : Met l y (Cond.code y bytes maxL retc :: zb) rm Pc (vp_Sl post) 0 0 (fun _ => False)) (hp : PreS s H Pc As) (hst : st = As.reverse ++ rest) (hn : As.length = n) (hsz : ls.size = nL) (hW : (rest.map fun v => v.category).sum ≤ 8) (hrm : rm.cells = 0 ∧ rm.slots = 0) (hR : rm.frames + 1 ≤ R.frames ∧ 8 + (maxL + 11) + rm.locals ≤ R.locals) (hcs : cells ≤ R.cells ∧ slots ≤ R.slots) (hdg : decode cc pc = .ok (.invokestatic idx, 3))
    (kk : ∀ r : Int64, post r → W p l e R s m args below meth c H locs cells slots Q (F0 m (pc + 3) ls (.long r :: rest))) : W p l e R s m args below meth c H locs cells slots Q (F0 m pc ls st) := by
  obtain ⟨hx, hb, hml, hown, hz, hr, hlk⟩ := zc
  obtain ⟨y1, y2, y3, y4⟩ := ky
  subst hst
  have cw : CallB R s args own idx y bytes maxL retc (Cond.code y bytes maxL retc :: zb) rm 0 0 n := callB_of n hz (zb_self y3) rfl hrm.1 hrm.2 (by rw [y1]; exact hz _ y2) (hz _ hl) y4 hR
  exact vp_callSl (va_Run.run (va_runS (As := As) (rest := rest) ⟨hx, hb, hml, hown, hz⟩ hM ⟨cw, hz _ k2⟩ hp rfl hn hsz rfl (lv_room hW) hdg hcs)) kk
end ZW
end
