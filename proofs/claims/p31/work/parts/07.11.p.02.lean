-- wp_X7_leastFall_9
abbrev rm_wp_X7_leastFall_9 : Room := { frames := 2, cells := 0, slots := 0, locals := 43 }
def q_wp_X7_leastFall_9_55 (P7 : Int32 → Int32 → Prop) (a_now : Nat → Int32) (lf_huts : Int32) (lf_dams : Int32) (la_heights : Nat → Int32) (la_minutes : Nat → Int32) (x2 : Int32) (x3 : Int32) (x4 : Int32) (post : Int32 → Prop) : Prop :=
  ∀ v_1 : Int32, v_1 = x4 + (1 : Int32) → (P7 x3 v_1)
def q_wp_X7_leastFall_9_7 (a_now : Nat → Int32) (lf_huts : Int32) (lf_dams : Int32) (la_heights : Nat → Int32) (la_minutes : Nat → Int32) (x2 : Int32) (x3 : Int32) (x4 : Int32) (post : Int32 → Prop) : Prop :=
  ∀ P7 : Int32 → Int32 → Prop, (∀ (x3 : Int32) (x4 : Int32), ((lf_huts ≤ x4 → (post x3)) ∧ (¬ lf_huts ≤ x4 → (q_wl_X2_leads_0 lf_dams la_heights la_minutes x4 x2 (fun r_1 => (r_1 = 0 → (q_wp_X7_leastFall_9_55 P7 a_now lf_huts lf_dams la_heights la_minutes x2 x3 x4 post)) ∧ (¬ r_1 = 0 → (vp_in x4 9 ∧ (vp_in x4 9 ∧ (vp_in x2 9 ∧ (∀ v_1 : Int32, v_1 = (if (if (a_now (Int32.toNatClampNeg x4)) < ((la_heights (Int32.toNatClampNeg x4)) - (la_heights (Int32.toNatClampNeg x2))) then ((la_heights (Int32.toNatClampNeg x4)) - (la_heights (Int32.toNatClampNeg x2))) else (a_now (Int32.toNatClampNeg x4))) < x3 then (if (a_now (Int32.toNatClampNeg x4)) < ((la_heights (Int32.toNatClampNeg x4)) - (la_heights (Int32.toNatClampNeg x2))) then ((la_heights (Int32.toNatClampNeg x4)) - (la_heights (Int32.toNatClampNeg x2))) else (a_now (Int32.toNatClampNeg x4))) else x3) → (q_wp_X7_leastFall_9_55 P7 a_now lf_huts lf_dams la_heights la_minutes x2 v_1 x4 post)))))))))) → P7 x3 x4) → P7 x3 x4
def q_wp_X7_leastFall_9_0 (a_now : Nat → Int32) (lf_huts : Int32) (lf_dams : Int32) (la_heights : Nat → Int32) (la_minutes : Nat → Int32) (x2 : Int32) (post : Int32 → Prop) : Prop :=
  q_wp_X7_leastFall_9_7 a_now lf_huts lf_dams la_heights la_minutes x2 (1000 : Int32) (0 : Int32) post
set_option maxRecDepth 20000 in
theorem t_wp_X7_leastFall_9_55 {p : Program} {l : Launch} {e : Env} {s : State} {m : MethodId} {args : Array Value} {below : List Frame} {meth : Method} {c : Code} {E : zE} {qp ql qs : Nat} {a_heard : Nat → Int32} {a_walked : Nat → Int32} {a_total : Nat → Int32} {a_longest : Nat → Int32} {a_next : Nat → Int32} {a_cover : Nat → Int32} {a_now : Nat → Int32} {a_then : Nat → Int32} {lf_huts : Int32} {lf_singers : Int32} {lf_villages : Int32} {lf_dams : Int32} {lf_echoes : Int32} {lf_deep : Int32} {lf_slide : Int32} {la_heights : Nat → Int32} {la_ladders : Nat → Int32} {la_minutes : Nat → Int32} {la_echoFrom : Nat → Int32} {la_echoTo : Nat → Int32} {la_homes : Nat → Int32} {la_talls : Nat → Int32} {la_known : Nat → Int32} {sf_facts : Int32} {sa_heard : Nat → Int32} {sa_huts : Nat → Int32} {sa_minutes : Nat → Int32} {P7 : Int32 → Int32 → Prop} {post : Int32 → Prop} {x2 : Int32} {x3 : Int32} {x4 : Int32} {ls : Array Slot}
    (zc : zC p s m args meth c cX7_leastFall 5 RX7 (some .int))
    (hK : zK E s)
    (hM : wpW E qp ql qs a_heard a_walked a_total a_longest a_next a_cover a_now a_then lf_huts lf_singers lf_villages lf_dams lf_echoes lf_deep lf_slide la_heights la_ladders la_minutes la_echoFrom la_echoTo la_homes la_talls la_known sf_facts sa_heard sa_huts sa_minutes s.heap)
    (hP7 : ∀ (x3 : Int32) (x4 : Int32) (ls : Array Slot), P7 x3 x4 → lv_has ls 5 [(0, .ref qp), (1, .ref ql), (2, .int x2), (3, .int x3), (4, .int x4)] → W p l e rm_wp_X7_leastFall_9 s m args below meth c s.heap [] 0 0 (MQ below (vp_Si post) args s 0 0 (fun _ => False)) (F0 m 7 ls []))
    (hl : lv_has ls 5 [(0, .ref qp), (1, .ref ql), (2, .int x2), (3, .int x3), (4, .int x4)])
    (hw : q_wp_X7_leastFall_9_55 P7 a_now lf_huts lf_dams la_heights la_minutes x2 x3 x4 post) :
    W p l e rm_wp_X7_leastFall_9 s m args below meth c s.heap [] 0 0 (MQ below (vp_Si post) args s 0 0 (fun _ => False)) (F0 m 55 ls []) := by
  have hx := zc.1
  have hb := zc.2.1
  obtain ⟨v_1, ev_1⟩ : ∃ y : Int32, y = x4 + (1 : Int32) := ⟨_, rfl⟩
  have hw := hw v_1 ev_1
  refine lv_iinc (v := v_1) (k := 4) (lv' := [(4, .int v_1), (0, .ref qp), (1, .ref ql), (2, .int x2), (3, .int x3)]) hx hb dX7_leastFall_55 hl rfl (by rw [ev_1]; rfl) (by decide) rfl (fun ls hl => ?_)
  refine lv_goto (tgt := 7) hx hb dX7_leastFall_58 (by decide) ?_
  exact hP7 _ _ _ hw (lv_sub hl [1, 2, 3, 4, 0] rfl)
set_option maxRecDepth 20000 in
theorem t_wp_X7_leastFall_9_7 {p : Program} {l : Launch} {e : Env} {s : State} {m : MethodId} {args : Array Value} {below : List Frame} {meth : Method} {c : Code} {E : zE} {qp ql qs : Nat} {a_heard : Nat → Int32} {a_walked : Nat → Int32} {a_total : Nat → Int32} {a_longest : Nat → Int32} {a_next : Nat → Int32} {a_cover : Nat → Int32} {a_now : Nat → Int32} {a_then : Nat → Int32} {lf_huts : Int32} {lf_singers : Int32} {lf_villages : Int32} {lf_dams : Int32} {lf_echoes : Int32} {lf_deep : Int32} {lf_slide : Int32} {la_heights : Nat → Int32} {la_ladders : Nat → Int32} {la_minutes : Nat → Int32} {la_echoFrom : Nat → Int32} {la_echoTo : Nat → Int32} {la_homes : Nat → Int32} {la_talls : Nat → Int32} {la_known : Nat → Int32} {sf_facts : Int32} {sa_heard : Nat → Int32} {sa_huts : Nat → Int32} {sa_minutes : Nat → Int32} {post : Int32 → Prop} {x2 : Int32} {x3 : Int32} {x4 : Int32} {ls : Array Slot}
    (zc : zC p s m args meth c cX7_leastFall 5 RX7 (some .int))
    (hK : zK E s)
    (hM : wpW E qp ql qs a_heard a_walked a_total a_longest a_next a_cover a_now a_then lf_huts lf_singers lf_villages lf_dams lf_echoes lf_deep lf_slide la_heights la_ladders la_minutes la_echoFrom la_echoTo la_homes la_talls la_known sf_facts sa_heard sa_huts sa_minutes s.heap)
    (hl : lv_has ls 5 [(0, .ref qp), (1, .ref ql), (2, .int x2), (3, .int x3), (4, .int x4)])
    (hw : q_wp_X7_leastFall_9_7 a_now lf_huts lf_dams la_heights la_minutes x2 x3 x4 post) :
    W p l e rm_wp_X7_leastFall_9 s m args below meth c s.heap [] 0 0 (MQ below (vp_Si post) args s 0 0 (fun _ => False)) (F0 m 7 ls []) := by
  have hx := zc.1
  have hb := zc.2.1
  refine hw (fun x3 x4 => ∀ (ls : Array Slot), lv_has ls 5 [(0, .ref qp), (1, .ref ql), (2, .int x2), (3, .int x3), (4, .int x4)] → W p l e rm_wp_X7_leastFall_9 s m args below meth c s.heap [] 0 0 (MQ below (vp_Si post) args s 0 0 (fun _ => False)) (F0 m 7 ls [])) ?_ _ hl
  intro x3 x4 hw ls hl
  refine lv_iload hx hb dX7_leastFall_7 (lv_at hl 4 rfl) ?_
  refine lv_aload_n hx hb dX7_leastFall_9 rfl (lv_at hl 1 rfl) ?_
  refine wpg_7_42_9 zc hK hM dX7_leastFall_10 ?_
  refine lv_icmp_ge (tgt := 61) hx hb dX7_leastFall_13 (by decide) (fun hc => ?_) (fun hc => ?_)
  · have hw := hw.1 hc
    refine lv_iload_n hx hb dX7_leastFall_61 rfl (lv_at hl 3 rfl) ?_
    exact zret_i zc hw dX7_leastFall_62
  · have hw := hw.2 hc
    refine lv_aload_n hx hb dX7_leastFall_16 rfl (lv_at hl 1 rfl) ?_
    refine lv_iload hx hb dX7_leastFall_17 (lv_at hl 4 rfl) ?_
    refine lv_iload_n hx hb dX7_leastFall_19 rfl (lv_at hl 2 rfl) ?_
    refine zV_i [.int x4, .int x2] [] zc ky_X2_leads kz_X2_leads km_7_48 (c_wl_X2_leads l hw) (wlPreV0 hK (pj_wp_wl_9 hM)) rfl rfl hl.1 (Nat.le_of_ble_eq_true rfl) ⟨rfl, rfl⟩ ⟨Nat.le_of_ble_eq_true rfl, Nat.le_of_ble_eq_true rfl⟩ ⟨(Nat.zero_le _), (Nat.zero_le _)⟩ dX7_leastFall_20 (fun r_1 hw => ?_)
    refine lv_if_eq (tgt := 55) hx hb dX7_leastFall_23 (by decide) (fun hc => ?_) (fun hc => ?_)
    · have hw := hw.1 hc
      exact t_wp_X7_leastFall_9_55 zc hK hM (fun _ _ ls h hl => h ls hl) (lv_sub hl [0, 1, 2, 3, 4] rfl) hw
    · have hw := hw.2 hc
      refine lv_iload_n hx hb dX7_leastFall_26 rfl (lv_at hl 3 rfl) ?_
      refine lv_aload_n hx hb dX7_leastFall_27 rfl (lv_at hl 0 rfl) ?_
      refine wpg_7_30_0 zc hK hM dX7_leastFall_28 ?_
      refine lv_iload hx hb dX7_leastFall_31 (lv_at hl 4 rfl) ?_
      refine wpld_7 zc hK hM hw.1 dX7_leastFall_33 ?_
      have hw := hw.2
      refine lv_aload_n hx hb dX7_leastFall_34 rfl (lv_at hl 1 rfl) ?_
      refine wpg_7_120_9 zc hK hM dX7_leastFall_35 ?_
      refine lv_iload hx hb dX7_leastFall_38 (lv_at hl 4 rfl) ?_
      refine wpld_10 zc hK hM hw.1 dX7_leastFall_40 ?_
      have hw := hw.2
      refine lv_aload_n hx hb dX7_leastFall_41 rfl (lv_at hl 1 rfl) ?_
      refine wpg_7_120_9 zc hK hM dX7_leastFall_42 ?_
      refine lv_iload_n hx hb dX7_leastFall_45 rfl (lv_at hl 2 rfl) ?_
      refine wpld_10 zc hK hM hw.1 dX7_leastFall_46 ?_
      have hw := hw.2
      refine lv_isub hx hb dX7_leastFall_47 ?_
      refine va_mmax hx hb (zc.2.2.1.trans hl.1.symm) zc.2.2.2.1 (zc.2.2.2.2.1 _ km_7_76) (zc.2.2.2.2.1 _ k_mmaxs) (zc.2.2.2.2.1 _ k_mini) (zc.2.2.2.2.1 _ k_mmaxc) (Nat.le_of_ble_eq_true rfl) (Nat.le_of_ble_eq_true rfl) (Nat.zero_le _) (Nat.zero_le _) dX7_leastFall_48 ?_
      refine va_mmin hx hb (zc.2.2.1.trans hl.1.symm) zc.2.2.2.1 (zc.2.2.2.2.1 _ km_7_117) (zc.2.2.2.2.1 _ k_mmins) (zc.2.2.2.2.1 _ k_mini) (zc.2.2.2.2.1 _ k_mminc) (Nat.le_of_ble_eq_true rfl) (Nat.le_of_ble_eq_true rfl) (Nat.zero_le _) (Nat.zero_le _) dX7_leastFall_51 ?_
      refine lv_topi (fun v_1 ev_1 => ?_)
      have hw := hw v_1 ev_1
      refine lv_istore_n (lv' := [(3, .int v_1), (0, .ref qp), (1, .ref ql), (2, .int x2), (4, .int x4)]) hx hb dX7_leastFall_54 rfl hl (by decide) rfl (fun ls hl => ?_)
      exact t_wp_X7_leastFall_9_55 zc hK hM (fun _ _ ls h hl => h ls hl) (lv_sub hl [1, 2, 3, 0, 4] rfl) hw
set_option maxRecDepth 20000 in
theorem t_wp_X7_leastFall_9_0 {p : Program} {l : Launch} {e : Env} {s : State} {m : MethodId} {args : Array Value} {below : List Frame} {meth : Method} {c : Code} {E : zE} {qp ql qs : Nat} {a_heard : Nat → Int32} {a_walked : Nat → Int32} {a_total : Nat → Int32} {a_longest : Nat → Int32} {a_next : Nat → Int32} {a_cover : Nat → Int32} {a_now : Nat → Int32} {a_then : Nat → Int32} {lf_huts : Int32} {lf_singers : Int32} {lf_villages : Int32} {lf_dams : Int32} {lf_echoes : Int32} {lf_deep : Int32} {lf_slide : Int32} {la_heights : Nat → Int32} {la_ladders : Nat → Int32} {la_minutes : Nat → Int32} {la_echoFrom : Nat → Int32} {la_echoTo : Nat → Int32} {la_homes : Nat → Int32} {la_talls : Nat → Int32} {la_known : Nat → Int32} {sf_facts : Int32} {sa_heard : Nat → Int32} {sa_huts : Nat → Int32} {sa_minutes : Nat → Int32} {post : Int32 → Prop} {x2 : Int32} {ls : Array Slot}
    (zc : zC p s m args meth c cX7_leastFall 5 RX7 (some .int))
    (hK : zK E s)
    (hM : wpW E qp ql qs a_heard a_walked a_total a_longest a_next a_cover a_now a_then lf_huts lf_singers lf_villages lf_dams lf_echoes lf_deep lf_slide la_heights la_ladders la_minutes la_echoFrom la_echoTo la_homes la_talls la_known sf_facts sa_heard sa_huts sa_minutes s.heap)
    (hl : lv_has ls 5 [(0, .ref qp), (1, .ref ql), (2, .int x2)])
    (hw : q_wp_X7_leastFall_9_0 a_now lf_huts lf_dams la_heights la_minutes x2 post) :
    W p l e rm_wp_X7_leastFall_9 s m args below meth c s.heap [] 0 0 (MQ below (vp_Si post) args s 0 0 (fun _ => False)) (F0 m 0 ls []) := by
  have hx := zc.1
  have hb := zc.2.1
  refine lv_sipush (v := (1000 : Int32)) hx hb dX7_leastFall_0 (by decide) ?_
  refine lv_istore_n (lv' := [(3, .int (1000 : Int32)), (0, .ref qp), (1, .ref ql), (2, .int x2)]) hx hb dX7_leastFall_3 rfl hl (by decide) rfl (fun ls hl => ?_)
  refine lv_iconst (v := (0 : Int32)) hx hb dX7_leastFall_4 (by decide) ?_
  refine lv_istore (lv' := [(4, .int (0 : Int32)), (3, .int (1000 : Int32)), (0, .ref qp), (1, .ref ql), (2, .int x2)]) hx hb dX7_leastFall_5 hl (by decide) rfl (fun ls hl => ?_)
  exact t_wp_X7_leastFall_9_7 zc hK hM  (lv_sub hl [2, 3, 4, 1, 0] rfl) hw
set_option maxRecDepth 20000 in
theorem c_wp_X7_leastFall_9 (l : Launch) {E : zE} {qp ql qs : Nat} {a_heard : Nat → Int32} {a_walked : Nat → Int32} {a_total : Nat → Int32} {a_longest : Nat → Int32} {a_next : Nat → Int32} {a_cover : Nat → Int32} {a_now : Nat → Int32} {a_then : Nat → Int32} {lf_huts : Int32} {lf_singers : Int32} {lf_villages : Int32} {lf_dams : Int32} {lf_echoes : Int32} {lf_deep : Int32} {lf_slide : Int32} {la_heights : Nat → Int32} {la_ladders : Nat → Int32} {la_minutes : Nat → Int32} {la_echoFrom : Nat → Int32} {la_echoTo : Nat → Int32} {la_homes : Nat → Int32} {la_talls : Nat → Int32} {la_known : Nat → Int32} {sf_facts : Int32} {sa_heard : Nat → Int32} {sa_huts : Nat → Int32} {sa_minutes : Nat → Int32} {x2 : Int32} {post : Int32 → Prop} (hw : q_wp_X7_leastFall_9_0 a_now lf_huts lf_dams la_heights la_minutes x2 post) : Met l yX7_leastFall (Cond.code yX7_leastFall cX7_leastFall 5 (some .int) :: zb) rm_wp_X7_leastFall_9 (va_Pc [.ref qp, .ref ql, .int x2] (fun U => wpW E qp ql qs a_heard a_walked a_total a_longest a_next a_cover a_now a_then lf_huts lf_singers lf_villages lf_dams lf_echoes lf_deep lf_slide la_heights la_ladders la_minutes la_echoFrom la_echoTo la_homes la_talls la_known sf_facts sa_heard sa_huts sa_minutes U.heap ∧ zK E U)) (vp_Si post) 0 0 (fun _ => False) := by
  refine Met.ofW (cc := cX7_leastFall) (maxL := 5) (ret := (some .int)) (by decide) rfl ?_
  intro p e s m args below meth c s₁ B hml hv
  obtain ⟨rfl, hM, hK⟩ := hv
  have zc := zc_of B hml
  have hl := lv_entry ([.ref qp, .ref ql, .int x2]) (n := 5) (Nat.le_of_ble_eq_true rfl)
  rw [lg_entry_eq]
  generalize (lg_sl ([.ref qp, .ref ql, .int x2]) ++ List.replicate (5 - (lg_sl ([.ref qp, .ref ql, .int x2])).length) Slot.unset).toArray = ls at hl ⊢
  have hl : lv_has ls 5 [(0, .ref qp), (1, .ref ql), (2, .int x2)] := hl
  exact t_wp_X7_leastFall_9_0 zc hK hM (lv_sub hl [0, 1, 2] rfl) hw
-- wp_X7_steepest_9
abbrev rm_wp_X7_steepest_9 : Room := { frames := 3, cells := 0, slots := 0, locals := 67 }
def q_wp_X7_steepest_9_32 (P20 : Int32 → (Nat → Int32) → Prop) (a_now : Nat → Int32) (lf_huts : Int32) (lf_dams : Int32) (la_heights : Nat → Int32) (la_minutes : Nat → Int32) (x3 : Int32) (x4 : Int32) (x5 : Int32) (post : Int32 → (Nat → Int32) → Prop) : Prop :=
  ∀ P32 : Int32 → (Nat → Int32) → Prop, (∀ (x5 : Int32) (a_now : Nat → Int32), ((lf_huts ≤ x5 → (∀ v_1 : Int32, v_1 = x4 + (1 : Int32) → (P20 v_1 a_now))) ∧ (¬ lf_huts ≤ x5 → (vp_in x5 9 ∧ (q_wp_X7_leastFall_9_0 a_now lf_huts lf_dams la_heights la_minutes x5 (fun r_1 => ∀ v_2 : Int32, v_2 = (if r_1 < (a_now (Int32.toNatClampNeg x5)) then r_1 else (a_now (Int32.toNatClampNeg x5))) → (vp_in x5 9 ∧ (∀ a_now_1 : Nat → Int32, a_now_1 = upd a_now (Int32.toNatClampNeg x5) v_2 → (∀ v_3 : Int32, v_3 = x5 + (1 : Int32) → (P32 v_3 a_now_1))))))))) → P32 x5 a_now) → P32 x5 a_now
def q_wp_X7_steepest_9_20 (a_now : Nat → Int32) (lf_huts : Int32) (lf_dams : Int32) (la_heights : Nat → Int32) (la_minutes : Nat → Int32) (x3 : Int32) (x4 : Int32) (post : Int32 → (Nat → Int32) → Prop) : Prop :=
  ∀ P20 : Int32 → (Nat → Int32) → Prop, (∀ (x4 : Int32) (a_now : Nat → Int32), ((lf_huts ≤ x4 → (vp_in x3 9 ∧ (post (a_now (Int32.toNatClampNeg x3)) a_now))) ∧ (¬ lf_huts ≤ x4 → (q_wp_X7_steepest_9_32 P20 a_now lf_huts lf_dams la_heights la_minutes x3 x4 (0 : Int32) post))) → P20 x4 a_now) → P20 x4 a_now
def q_wp_X7_steepest_9_0 (a_now : Nat → Int32) (lf_huts : Int32) (lf_dams : Int32) (la_heights : Nat → Int32) (la_minutes : Nat → Int32) (x2 : Int32) (x3 : Int32) (post : Int32 → (Nat → Int32) → Prop) : Prop :=
  q_wp_J7_fill_53178_7_0 a_now (1000 : Int32) (fun a_now_1 => vp_in x2 9 ∧ (∀ a_now_2 : Nat → Int32, a_now_2 = upd a_now_1 (Int32.toNatClampNeg x2) (0 : Int32) → (q_wp_X7_steepest_9_20 a_now_2 lf_huts lf_dams la_heights la_minutes x3 (1 : Int32) post)))
set_option maxRecDepth 20000 in
theorem t_wp_X7_steepest_9_32 {p : Program} {l : Launch} {e : Env} {s : State} {m : MethodId} {args : Array Value} {below : List Frame} {meth : Method} {c : Code} {E : zE} {qp ql qs : Nat} {a_heard : Nat → Int32} {a_walked : Nat → Int32} {a_total : Nat → Int32} {a_longest : Nat → Int32} {a_next : Nat → Int32} {a_cover : Nat → Int32} {a_now : Nat → Int32} {a_then : Nat → Int32} {lf_huts : Int32} {lf_singers : Int32} {lf_villages : Int32} {lf_dams : Int32} {lf_echoes : Int32} {lf_deep : Int32} {lf_slide : Int32} {la_heights : Nat → Int32} {la_ladders : Nat → Int32} {la_minutes : Nat → Int32} {la_echoFrom : Nat → Int32} {la_echoTo : Nat → Int32} {la_homes : Nat → Int32} {la_talls : Nat → Int32} {la_known : Nat → Int32} {sf_facts : Int32} {sa_heard : Nat → Int32} {sa_huts : Nat → Int32} {sa_minutes : Nat → Int32} {P20 : Int32 → (Nat → Int32) → Prop} {post : Int32 → (Nat → Int32) → Prop} {x3 : Int32} {x4 : Int32} {x5 : Int32} {ls : Array Slot} {H : Heap} {locs : List Loc}
    (zc : zC p s m args meth c cX7_steepest 6 RX7 (some .int))
    (hK : zK E s)
    (hM : wpW E qp ql qs a_heard a_walked a_total a_longest a_next a_cover a_now a_then lf_huts lf_singers lf_villages lf_dams lf_echoes lf_deep lf_slide la_heights la_ladders la_minutes la_echoFrom la_echoTo la_homes la_talls la_known sf_facts sa_heard sa_huts sa_minutes H)
    (hS : va_S (wpA qp ql qs) s.heap H locs)
    (hP20 : ∀ (x4 : Int32) (a_now : Nat → Int32) (H : Heap) (locs : List Loc) (ls : Array Slot), P20 x4 a_now → lv_has ls 6 [(0, .ref qp), (1, .ref ql), (3, .int x3), (4, .int x4)] → wpW E qp ql qs a_heard a_walked a_total a_longest a_next a_cover a_now a_then lf_huts lf_singers lf_villages lf_dams lf_echoes lf_deep lf_slide la_heights la_ladders la_minutes la_echoFrom la_echoTo la_homes la_talls la_known sf_facts sa_heard sa_huts sa_minutes H → va_S (wpA qp ql qs) s.heap H locs → W p l e rm_wp_X7_steepest_9 s m args below meth c H locs 0 0 (MQ below (zQi (S := (Nat → Int32)) (fun r u => post r u) (fun u H => wpW E qp ql qs a_heard a_walked a_total a_longest a_next a_cover u a_then lf_huts lf_singers lf_villages lf_dams lf_echoes lf_deep lf_slide la_heights la_ladders la_minutes la_echoFrom la_echoTo la_homes la_talls la_known sf_facts sa_heard sa_huts sa_minutes H) (wpA qp ql qs)) args s 0 0 (wpA qp ql qs)) (F0 m 20 ls []))
    (hl : lv_has ls 6 [(0, .ref qp), (1, .ref ql), (3, .int x3), (4, .int x4), (5, .int x5)])
    (hw : q_wp_X7_steepest_9_32 P20 a_now lf_huts lf_dams la_heights la_minutes x3 x4 x5 post) :
    W p l e rm_wp_X7_steepest_9 s m args below meth c H locs 0 0 (MQ below (zQi (S := (Nat → Int32)) (fun r u => post r u) (fun u H => wpW E qp ql qs a_heard a_walked a_total a_longest a_next a_cover u a_then lf_huts lf_singers lf_villages lf_dams lf_echoes lf_deep lf_slide la_heights la_ladders la_minutes la_echoFrom la_echoTo la_homes la_talls la_known sf_facts sa_heard sa_huts sa_minutes H) (wpA qp ql qs)) args s 0 0 (wpA qp ql qs)) (F0 m 32 ls []) := by
  have hx := zc.1
  have hb := zc.2.1
  refine hw (fun x5 a_now => ∀ (H : Heap) (locs : List Loc) (ls : Array Slot), lv_has ls 6 [(0, .ref qp), (1, .ref ql), (3, .int x3), (4, .int x4), (5, .int x5)] → wpW E qp ql qs a_heard a_walked a_total a_longest a_next a_cover a_now a_then lf_huts lf_singers lf_villages lf_dams lf_echoes lf_deep lf_slide la_heights la_ladders la_minutes la_echoFrom la_echoTo la_homes la_talls la_known sf_facts sa_heard sa_huts sa_minutes H → va_S (wpA qp ql qs) s.heap H locs → W p l e rm_wp_X7_steepest_9 s m args below meth c H locs 0 0 (MQ below (zQi (S := (Nat → Int32)) (fun r u => post r u) (fun u H => wpW E qp ql qs a_heard a_walked a_total a_longest a_next a_cover u a_then lf_huts lf_singers lf_villages lf_dams lf_echoes lf_deep lf_slide la_heights la_ladders la_minutes la_echoFrom la_echoTo la_homes la_talls la_known sf_facts sa_heard sa_huts sa_minutes H) (wpA qp ql qs)) args s 0 0 (wpA qp ql qs)) (F0 m 32 ls [])) ?_ _ _ _ hl hM hS
  intro x5 a_now hw H locs ls hl hM hS
  refine lv_iload hx hb dX7_steepest_32 (lv_at hl 4 rfl) ?_
  refine lv_aload_n hx hb dX7_steepest_34 rfl (lv_at hl 1 rfl) ?_
  refine wpg_7_42_9 zc hK hM dX7_steepest_35 ?_
  refine lv_icmp_ge (tgt := 71) hx hb dX7_steepest_38 (by decide) (fun hc => ?_) (fun hc => ?_)
  · have hw := hw.1 hc
    obtain ⟨v_1, ev_1⟩ : ∃ y : Int32, y = x4 + (1 : Int32) := ⟨_, rfl⟩
    have hw := hw v_1 ev_1
    refine lv_iinc (v := v_1) (k := 3) (lv' := [(4, .int v_1), (0, .ref qp), (1, .ref ql), (3, .int x3), (5, .int x5)]) hx hb dX7_steepest_71 hl rfl (by rw [ev_1]; rfl) (by decide) rfl (fun ls hl => ?_)
    refine lv_goto (tgt := 20) hx hb dX7_steepest_74 (by decide) ?_
    exact hP20 _ _ _ _ _ hw (lv_sub hl [1, 2, 3, 0] rfl) hM hS
  · have hw := hw.2 hc
    refine lv_aload_n hx hb dX7_steepest_41 rfl (lv_at hl 0 rfl) ?_
    refine wpg_7_30_0 zc hK hM dX7_steepest_42 ?_
    refine lv_iload hx hb dX7_steepest_45 (lv_at hl 4 rfl) ?_
    refine lv_aload_n hx hb dX7_steepest_47 rfl (lv_at hl 0 rfl) ?_
    refine wpg_7_30_0 zc hK hM dX7_steepest_48 ?_
    refine lv_iload hx hb dX7_steepest_51 (lv_at hl 4 rfl) ?_
    refine wpld_7 zc hK hM hw.1 dX7_steepest_53 ?_
    have hw := hw.2
    refine lv_aload_n hx hb dX7_steepest_54 rfl (lv_at hl 0 rfl) ?_
    refine lv_aload_n hx hb dX7_steepest_55 rfl (lv_at hl 1 rfl) ?_
    refine lv_iload hx hb dX7_steepest_56 (lv_at hl 4 rfl) ?_
    refine zV_i [.ref ql, .int x5] [.int (a_now (Int32.toNatClampNeg x5)), .int x5, .ref (qp + 7)] zc ky_X7_leastFall kz_X7_leastFall km_7_114 (c_wp_X7_leastFall_9 l hw) (wpPreV0 hK hM) rfl rfl hl.1 (Nat.le_of_ble_eq_true rfl) ⟨rfl, rfl⟩ ⟨Nat.le_of_ble_eq_true rfl, Nat.le_of_ble_eq_true rfl⟩ ⟨(Nat.zero_le _), (Nat.zero_le _)⟩ dX7_steepest_58 (fun r_1 hw => ?_)
    refine va_mmin hx hb (zc.2.2.1.trans hl.1.symm) zc.2.2.2.1 (zc.2.2.2.2.1 _ km_7_117) (zc.2.2.2.2.1 _ k_mmins) (zc.2.2.2.2.1 _ k_mini) (zc.2.2.2.2.1 _ k_mminc) (Nat.le_of_ble_eq_true rfl) (Nat.le_of_ble_eq_true rfl) (Nat.zero_le _) (Nat.zero_le _) dX7_steepest_61 ?_
    refine lv_topi (fun v_2 ev_2 => ?_)
    have hw := hw v_2 ev_2
    refine wpst_7 zc hK hM hS hw.1 dX7_steepest_64 (fun a_now_1 H locs ea_now_1 hM hS => ?_)
    have hw := hw.2 a_now_1 ea_now_1
    obtain ⟨v_3, ev_3⟩ : ∃ y : Int32, y = x5 + (1 : Int32) := ⟨_, rfl⟩
    have hw := hw v_3 ev_3
    refine lv_iinc (v := v_3) (k := 4) (lv' := [(5, .int v_3), (0, .ref qp), (1, .ref ql), (3, .int x3), (4, .int x4)]) hx hb dX7_steepest_65 hl rfl (by rw [ev_3]; rfl) (by decide) rfl (fun ls hl => ?_)
    refine lv_goto (tgt := 32) hx hb dX7_steepest_68 (by decide) ?_
    exact hw _ _ _ (lv_sub hl [1, 2, 3, 4, 0] rfl) hM hS
set_option maxRecDepth 20000 in
theorem t_wp_X7_steepest_9_20 {p : Program} {l : Launch} {e : Env} {s : State} {m : MethodId} {args : Array Value} {below : List Frame} {meth : Method} {c : Code} {E : zE} {qp ql qs : Nat} {a_heard : Nat → Int32} {a_walked : Nat → Int32} {a_total : Nat → Int32} {a_longest : Nat → Int32} {a_next : Nat → Int32} {a_cover : Nat → Int32} {a_now : Nat → Int32} {a_then : Nat → Int32} {lf_huts : Int32} {lf_singers : Int32} {lf_villages : Int32} {lf_dams : Int32} {lf_echoes : Int32} {lf_deep : Int32} {lf_slide : Int32} {la_heights : Nat → Int32} {la_ladders : Nat → Int32} {la_minutes : Nat → Int32} {la_echoFrom : Nat → Int32} {la_echoTo : Nat → Int32} {la_homes : Nat → Int32} {la_talls : Nat → Int32} {la_known : Nat → Int32} {sf_facts : Int32} {sa_heard : Nat → Int32} {sa_huts : Nat → Int32} {sa_minutes : Nat → Int32} {post : Int32 → (Nat → Int32) → Prop} {x3 : Int32} {x4 : Int32} {ls : Array Slot} {H : Heap} {locs : List Loc}
    (zc : zC p s m args meth c cX7_steepest 6 RX7 (some .int))
    (hK : zK E s)
    (hM : wpW E qp ql qs a_heard a_walked a_total a_longest a_next a_cover a_now a_then lf_huts lf_singers lf_villages lf_dams lf_echoes lf_deep lf_slide la_heights la_ladders la_minutes la_echoFrom la_echoTo la_homes la_talls la_known sf_facts sa_heard sa_huts sa_minutes H)
    (hS : va_S (wpA qp ql qs) s.heap H locs)
    (hl : lv_has ls 6 [(0, .ref qp), (1, .ref ql), (3, .int x3), (4, .int x4)])
    (hw : q_wp_X7_steepest_9_20 a_now lf_huts lf_dams la_heights la_minutes x3 x4 post) :
    W p l e rm_wp_X7_steepest_9 s m args below meth c H locs 0 0 (MQ below (zQi (S := (Nat → Int32)) (fun r u => post r u) (fun u H => wpW E qp ql qs a_heard a_walked a_total a_longest a_next a_cover u a_then lf_huts lf_singers lf_villages lf_dams lf_echoes lf_deep lf_slide la_heights la_ladders la_minutes la_echoFrom la_echoTo la_homes la_talls la_known sf_facts sa_heard sa_huts sa_minutes H) (wpA qp ql qs)) args s 0 0 (wpA qp ql qs)) (F0 m 20 ls []) := by
  have hx := zc.1
  have hb := zc.2.1
  refine hw (fun x4 a_now => ∀ (H : Heap) (locs : List Loc) (ls : Array Slot), lv_has ls 6 [(0, .ref qp), (1, .ref ql), (3, .int x3), (4, .int x4)] → wpW E qp ql qs a_heard a_walked a_total a_longest a_next a_cover a_now a_then lf_huts lf_singers lf_villages lf_dams lf_echoes lf_deep lf_slide la_heights la_ladders la_minutes la_echoFrom la_echoTo la_homes la_talls la_known sf_facts sa_heard sa_huts sa_minutes H → va_S (wpA qp ql qs) s.heap H locs → W p l e rm_wp_X7_steepest_9 s m args below meth c H locs 0 0 (MQ below (zQi (S := (Nat → Int32)) (fun r u => post r u) (fun u H => wpW E qp ql qs a_heard a_walked a_total a_longest a_next a_cover u a_then lf_huts lf_singers lf_villages lf_dams lf_echoes lf_deep lf_slide la_heights la_ladders la_minutes la_echoFrom la_echoTo la_homes la_talls la_known sf_facts sa_heard sa_huts sa_minutes H) (wpA qp ql qs)) args s 0 0 (wpA qp ql qs)) (F0 m 20 ls [])) ?_ _ _ _ hl hM hS
  intro x4 a_now hw H locs ls hl hM hS
  refine lv_iload hx hb dX7_steepest_20 (lv_at hl 3 rfl) ?_
  refine lv_aload_n hx hb dX7_steepest_22 rfl (lv_at hl 1 rfl) ?_
  refine wpg_7_42_9 zc hK hM dX7_steepest_23 ?_
  refine lv_icmp_ge (tgt := 77) hx hb dX7_steepest_26 (by decide) (fun hc => ?_) (fun hc => ?_)
  · have hw := hw.1 hc
    refine lv_aload_n hx hb dX7_steepest_77 rfl (lv_at hl 0 rfl) ?_
    refine wpg_7_30_0 zc hK hM dX7_steepest_78 ?_
    refine lv_iload_n hx hb dX7_steepest_81 rfl (lv_at hl 2 rfl) ?_
    refine wpld_7 zc hK hM hw.1 dX7_steepest_82 ?_
    have hw := hw.2
    exact zret_iw a_now zc hS hw hM dX7_steepest_83
  · have hw := hw.2 hc
    refine lv_iconst (v := (0 : Int32)) hx hb dX7_steepest_29 (by decide) ?_
    refine lv_istore (lv' := [(5, .int (0 : Int32)), (0, .ref qp), (1, .ref ql), (3, .int x3), (4, .int x4)]) hx hb dX7_steepest_30 hl (by decide) rfl (fun ls hl => ?_)
    exact t_wp_X7_steepest_9_32 zc hK hM hS (fun _ _ H locs ls h hl hM hS => h H locs ls hl hM hS) (lv_sub hl [1, 2, 3, 4, 0] rfl) hw
set_option maxRecDepth 20000 in
theorem t_wp_X7_steepest_9_0 {p : Program} {l : Launch} {e : Env} {s : State} {m : MethodId} {args : Array Value} {below : List Frame} {meth : Method} {c : Code} {E : zE} {qp ql qs : Nat} {a_heard : Nat → Int32} {a_walked : Nat → Int32} {a_total : Nat → Int32} {a_longest : Nat → Int32} {a_next : Nat → Int32} {a_cover : Nat → Int32} {a_now : Nat → Int32} {a_then : Nat → Int32} {lf_huts : Int32} {lf_singers : Int32} {lf_villages : Int32} {lf_dams : Int32} {lf_echoes : Int32} {lf_deep : Int32} {lf_slide : Int32} {la_heights : Nat → Int32} {la_ladders : Nat → Int32} {la_minutes : Nat → Int32} {la_echoFrom : Nat → Int32} {la_echoTo : Nat → Int32} {la_homes : Nat → Int32} {la_talls : Nat → Int32} {la_known : Nat → Int32} {sf_facts : Int32} {sa_heard : Nat → Int32} {sa_huts : Nat → Int32} {sa_minutes : Nat → Int32} {post : Int32 → (Nat → Int32) → Prop} {x2 : Int32} {x3 : Int32} {ls : Array Slot} {H : Heap} {locs : List Loc}
    (zc : zC p s m args meth c cX7_steepest 6 RX7 (some .int))
    (hK : zK E s)
    (hM : wpW E qp ql qs a_heard a_walked a_total a_longest a_next a_cover a_now a_then lf_huts lf_singers lf_villages lf_dams lf_echoes lf_deep lf_slide la_heights la_ladders la_minutes la_echoFrom la_echoTo la_homes la_talls la_known sf_facts sa_heard sa_huts sa_minutes H)
    (hS : va_S (wpA qp ql qs) s.heap H locs)
    (hl : lv_has ls 6 [(0, .ref qp), (1, .ref ql), (2, .int x2), (3, .int x3)])
    (hw : q_wp_X7_steepest_9_0 a_now lf_huts lf_dams la_heights la_minutes x2 x3 post) :
    W p l e rm_wp_X7_steepest_9 s m args below meth c H locs 0 0 (MQ below (zQi (S := (Nat → Int32)) (fun r u => post r u) (fun u H => wpW E qp ql qs a_heard a_walked a_total a_longest a_next a_cover u a_then lf_huts lf_singers lf_villages lf_dams lf_echoes lf_deep lf_slide la_heights la_ladders la_minutes la_echoFrom la_echoTo la_homes la_talls la_known sf_facts sa_heard sa_huts sa_minutes H) (wpA qp ql qs)) args s 0 0 (wpA qp ql qs)) (F0 m 0 ls []) := by
  have hx := zc.1
  have hb := zc.2.1
  refine lv_aload_n hx hb dX7_steepest_0 rfl (lv_at hl 0 rfl) ?_
  refine wpg_7_30_0 zc hK hM dX7_steepest_1 ?_
  refine lv_sipush (v := (1000 : Int32)) hx hb dX7_steepest_4 (by decide) ?_
  refine zSw_v [.ref (qp + 7), .int (1000 : Int32)] [] zc ky_J7_fill_53178 kz_J7_fill_53178 km_7_36 (c_wp_J7_fill_53178_7 l hw) (wpPreS hK hM) hS rfl rfl hl.1 (Nat.le_of_ble_eq_true rfl) ⟨rfl, rfl⟩ ⟨Nat.le_of_ble_eq_true rfl, Nat.le_of_ble_eq_true rfl⟩ ⟨(Nat.zero_le _), (Nat.zero_le _)⟩ dX7_steepest_7 (fun a_now_1 H locs hw hM hS => ?_)
  refine lv_aload_n hx hb dX7_steepest_10 rfl (lv_at hl 0 rfl) ?_
  refine wpg_7_30_0 zc hK hM dX7_steepest_11 ?_
  refine lv_iload_n hx hb dX7_steepest_14 rfl (lv_at hl 2 rfl) ?_
  refine lv_iconst (v := (0 : Int32)) hx hb dX7_steepest_15 (by decide) ?_
  refine wpst_7 zc hK hM hS hw.1 dX7_steepest_16 (fun a_now_2 H locs ea_now_2 hM hS => ?_)
  have hw := hw.2 a_now_2 ea_now_2
  refine lv_iconst (v := (1 : Int32)) hx hb dX7_steepest_17 (by decide) ?_
  refine lv_istore (lv' := [(4, .int (1 : Int32)), (0, .ref qp), (1, .ref ql), (2, .int x2), (3, .int x3)]) hx hb dX7_steepest_18 hl (by decide) rfl (fun ls hl => ?_)
  exact t_wp_X7_steepest_9_20 zc hK hM hS  (lv_sub hl [1, 2, 4, 0] rfl) hw
set_option maxRecDepth 20000 in
theorem c_wp_X7_steepest_9 (l : Launch) {E : zE} {qp ql qs : Nat} {a_heard : Nat → Int32} {a_walked : Nat → Int32} {a_total : Nat → Int32} {a_longest : Nat → Int32} {a_next : Nat → Int32} {a_cover : Nat → Int32} {a_now : Nat → Int32} {a_then : Nat → Int32} {lf_huts : Int32} {lf_singers : Int32} {lf_villages : Int32} {lf_dams : Int32} {lf_echoes : Int32} {lf_deep : Int32} {lf_slide : Int32} {la_heights : Nat → Int32} {la_ladders : Nat → Int32} {la_minutes : Nat → Int32} {la_echoFrom : Nat → Int32} {la_echoTo : Nat → Int32} {la_homes : Nat → Int32} {la_talls : Nat → Int32} {la_known : Nat → Int32} {sf_facts : Int32} {sa_heard : Nat → Int32} {sa_huts : Nat → Int32} {sa_minutes : Nat → Int32} {x2 : Int32} {x3 : Int32} {post : Int32 → (Nat → Int32) → Prop} (hw : q_wp_X7_steepest_9_0 a_now lf_huts lf_dams la_heights la_minutes x2 x3 post) : Met l yX7_steepest (Cond.code yX7_steepest cX7_steepest 6 (some .int) :: zb) rm_wp_X7_steepest_9 (va_Pc [.ref qp, .ref ql, .int x2, .int x3] (fun U => wpW E qp ql qs a_heard a_walked a_total a_longest a_next a_cover a_now a_then lf_huts lf_singers lf_villages lf_dams lf_echoes lf_deep lf_slide la_heights la_ladders la_minutes la_echoFrom la_echoTo la_homes la_talls la_known sf_facts sa_heard sa_huts sa_minutes U.heap ∧ zK E U)) (zQi (S := (Nat → Int32)) (fun r u => post r u) (fun u H => wpW E qp ql qs a_heard a_walked a_total a_longest a_next a_cover u a_then lf_huts lf_singers lf_villages lf_dams lf_echoes lf_deep lf_slide la_heights la_ladders la_minutes la_echoFrom la_echoTo la_homes la_talls la_known sf_facts sa_heard sa_huts sa_minutes H) (wpA qp ql qs)) 0 0 (wpA qp ql qs) := by
  refine Met.ofW (cc := cX7_steepest) (maxL := 6) (ret := (some .int)) (by decide) rfl ?_
  intro p e s m args below meth c s₁ B hml hv
  obtain ⟨rfl, hM, hK⟩ := hv
  have zc := zc_of B hml
  have hl := lv_entry ([.ref qp, .ref ql, .int x2, .int x3]) (n := 6) (Nat.le_of_ble_eq_true rfl)
  rw [lg_entry_eq]
  generalize (lg_sl ([.ref qp, .ref ql, .int x2, .int x3]) ++ List.replicate (6 - (lg_sl ([.ref qp, .ref ql, .int x2, .int x3])).length) Slot.unset).toArray = ls at hl ⊢
  have hl : lv_has ls 6 [(0, .ref qp), (1, .ref ql), (2, .int x2), (3, .int x3)] := hl
  exact t_wp_X7_steepest_9_0 zc hK hM va_S.rf (lv_sub hl [0, 1, 2, 3] rfl) hw
-- wp_X7_depth_9
abbrev rm_wp_X7_depth_9 : Room := { frames := 4, cells := 0, slots := 0, locals := 91 }
def q_wp_X7_depth_9_21 (P4 : Int32 → Int32 → (Nat → Int32) → (Nat → Int32) → (Nat → Int32) → (Nat → Int32) → Prop) (a_total : Nat → Int32) (a_longest : Nat → Int32) (a_now : Nat → Int32) (a_then : Nat → Int32) (lf_huts : Int32) (lf_dams : Int32) (la_heights : Nat → Int32) (la_minutes : Nat → Int32) (x2 : Int32) (x3 : Int32) (x4 : Int32) (post : Int32 → (Nat → Int32) → (Nat → Int32) → (Nat → Int32) → (Nat → Int32) → Prop) : Prop :=
  ∀ P21 : Int32 → Int32 → Prop, (∀ (x2 : Int32) (x4 : Int32), ((lf_huts ≤ x4 → (∀ v_1 : Int32, v_1 = x3 + (1 : Int32) → (P4 x2 v_1 a_total a_longest a_now a_then))) ∧ (¬ lf_huts ≤ x4 → (vp_in x4 9 ∧ (∀ v_2 : Int32, v_2 = (if x2 < (a_longest (Int32.toNatClampNeg x4)) then (a_longest (Int32.toNatClampNeg x4)) else x2) → (∀ v_3 : Int32, v_3 = x4 + (1 : Int32) → (P21 v_2 v_3)))))) → P21 x2 x4) → P21 x2 x4
def q_wp_X7_depth_9_4 (a_total : Nat → Int32) (a_longest : Nat → Int32) (a_now : Nat → Int32) (a_then : Nat → Int32) (lf_huts : Int32) (lf_dams : Int32) (la_heights : Nat → Int32) (la_minutes : Nat → Int32) (x2 : Int32) (x3 : Int32) (post : Int32 → (Nat → Int32) → (Nat → Int32) → (Nat → Int32) → (Nat → Int32) → Prop) : Prop :=
  ∀ P4 : Int32 → Int32 → (Nat → Int32) → (Nat → Int32) → (Nat → Int32) → (Nat → Int32) → Prop, (∀ (x2 : Int32) (x3 : Int32) (a_total : Nat → Int32) (a_longest : Nat → Int32) (a_now : Nat → Int32) (a_then : Nat → Int32), ((lf_huts ≤ x3 → (post x2 a_total a_longest a_now a_then)) ∧ (¬ lf_huts ≤ x3 → (q_wp_X7_trace_9_0 a_total a_longest a_now a_then lf_huts lf_dams la_heights la_minutes x3 (fun a_total_1 a_longest_1 a_now_1 a_then_1 => q_wp_X7_depth_9_21 P4 a_total_1 a_longest_1 a_now_1 a_then_1 lf_huts lf_dams la_heights la_minutes x2 x3 (0 : Int32) post)))) → P4 x2 x3 a_total a_longest a_now a_then) → P4 x2 x3 a_total a_longest a_now a_then
def q_wp_X7_depth_9_0 (a_total : Nat → Int32) (a_longest : Nat → Int32) (a_now : Nat → Int32) (a_then : Nat → Int32) (lf_huts : Int32) (lf_dams : Int32) (la_heights : Nat → Int32) (la_minutes : Nat → Int32) (post : Int32 → (Nat → Int32) → (Nat → Int32) → (Nat → Int32) → (Nat → Int32) → Prop) : Prop :=
  q_wp_X7_depth_9_4 a_total a_longest a_now a_then lf_huts lf_dams la_heights la_minutes (0 : Int32) (0 : Int32) post
set_option maxRecDepth 20000 in
theorem t_wp_X7_depth_9_21 {p : Program} {l : Launch} {e : Env} {s : State} {m : MethodId} {args : Array Value} {below : List Frame} {meth : Method} {c : Code} {E : zE} {qp ql qs : Nat} {a_heard : Nat → Int32} {a_walked : Nat → Int32} {a_total : Nat → Int32} {a_longest : Nat → Int32} {a_next : Nat → Int32} {a_cover : Nat → Int32} {a_now : Nat → Int32} {a_then : Nat → Int32} {lf_huts : Int32} {lf_singers : Int32} {lf_villages : Int32} {lf_dams : Int32} {lf_echoes : Int32} {lf_deep : Int32} {lf_slide : Int32} {la_heights : Nat → Int32} {la_ladders : Nat → Int32} {la_minutes : Nat → Int32} {la_echoFrom : Nat → Int32} {la_echoTo : Nat → Int32} {la_homes : Nat → Int32} {la_talls : Nat → Int32} {la_known : Nat → Int32} {sf_facts : Int32} {sa_heard : Nat → Int32} {sa_huts : Nat → Int32} {sa_minutes : Nat → Int32} {P4 : Int32 → Int32 → (Nat → Int32) → (Nat → Int32) → (Nat → Int32) → (Nat → Int32) → Prop} {post : Int32 → (Nat → Int32) → (Nat → Int32) → (Nat → Int32) → (Nat → Int32) → Prop} {x2 : Int32} {x3 : Int32} {x4 : Int32} {ls : Array Slot} {H : Heap} {locs : List Loc}
    (zc : zC p s m args meth c cX7_depth 5 RX7 (some .int))
    (hK : zK E s)
    (hM : wpW E qp ql qs a_heard a_walked a_total a_longest a_next a_cover a_now a_then lf_huts lf_singers lf_villages lf_dams lf_echoes lf_deep lf_slide la_heights la_ladders la_minutes la_echoFrom la_echoTo la_homes la_talls la_known sf_facts sa_heard sa_huts sa_minutes H)
    (hS : va_S (wpA qp ql qs) s.heap H locs)
    (hP4 : ∀ (x2 : Int32) (x3 : Int32) (a_total : Nat → Int32) (a_longest : Nat → Int32) (a_now : Nat → Int32) (a_then : Nat → Int32) (H : Heap) (locs : List Loc) (ls : Array Slot), P4 x2 x3 a_total a_longest a_now a_then → lv_has ls 5 [(0, .ref qp), (1, .ref ql), (2, .int x2), (3, .int x3)] → wpW E qp ql qs a_heard a_walked a_total a_longest a_next a_cover a_now a_then lf_huts lf_singers lf_villages lf_dams lf_echoes lf_deep lf_slide la_heights la_ladders la_minutes la_echoFrom la_echoTo la_homes la_talls la_known sf_facts sa_heard sa_huts sa_minutes H → va_S (wpA qp ql qs) s.heap H locs → W p l e rm_wp_X7_depth_9 s m args below meth c H locs 0 0 (MQ below (zQi (S := (Nat → Int32) × (Nat → Int32) × (Nat → Int32) × (Nat → Int32)) (fun r u => post r u.1 u.2.1 u.2.2.1 u.2.2.2) (fun u H => wpW E qp ql qs a_heard a_walked u.1 u.2.1 a_next a_cover u.2.2.1 u.2.2.2 lf_huts lf_singers lf_villages lf_dams lf_echoes lf_deep lf_slide la_heights la_ladders la_minutes la_echoFrom la_echoTo la_homes la_talls la_known sf_facts sa_heard sa_huts sa_minutes H) (wpA qp ql qs)) args s 0 0 (wpA qp ql qs)) (F0 m 4 ls []))
    (hl : lv_has ls 5 [(0, .ref qp), (1, .ref ql), (2, .int x2), (3, .int x3), (4, .int x4)])
    (hw : q_wp_X7_depth_9_21 P4 a_total a_longest a_now a_then lf_huts lf_dams la_heights la_minutes x2 x3 x4 post) :
    W p l e rm_wp_X7_depth_9 s m args below meth c H locs 0 0 (MQ below (zQi (S := (Nat → Int32) × (Nat → Int32) × (Nat → Int32) × (Nat → Int32)) (fun r u => post r u.1 u.2.1 u.2.2.1 u.2.2.2) (fun u H => wpW E qp ql qs a_heard a_walked u.1 u.2.1 a_next a_cover u.2.2.1 u.2.2.2 lf_huts lf_singers lf_villages lf_dams lf_echoes lf_deep lf_slide la_heights la_ladders la_minutes la_echoFrom la_echoTo la_homes la_talls la_known sf_facts sa_heard sa_huts sa_minutes H) (wpA qp ql qs)) args s 0 0 (wpA qp ql qs)) (F0 m 21 ls []) := by
  have hx := zc.1
  have hb := zc.2.1
  refine hw (fun x2 x4 => ∀ (H : Heap) (locs : List Loc) (ls : Array Slot), lv_has ls 5 [(0, .ref qp), (1, .ref ql), (2, .int x2), (3, .int x3), (4, .int x4)] → wpW E qp ql qs a_heard a_walked a_total a_longest a_next a_cover a_now a_then lf_huts lf_singers lf_villages lf_dams lf_echoes lf_deep lf_slide la_heights la_ladders la_minutes la_echoFrom la_echoTo la_homes la_talls la_known sf_facts sa_heard sa_huts sa_minutes H → va_S (wpA qp ql qs) s.heap H locs → W p l e rm_wp_X7_depth_9 s m args below meth c H locs 0 0 (MQ below (zQi (S := (Nat → Int32) × (Nat → Int32) × (Nat → Int32) × (Nat → Int32)) (fun r u => post r u.1 u.2.1 u.2.2.1 u.2.2.2) (fun u H => wpW E qp ql qs a_heard a_walked u.1 u.2.1 a_next a_cover u.2.2.1 u.2.2.2 lf_huts lf_singers lf_villages lf_dams lf_echoes lf_deep lf_slide la_heights la_ladders la_minutes la_echoFrom la_echoTo la_homes la_talls la_known sf_facts sa_heard sa_huts sa_minutes H) (wpA qp ql qs)) args s 0 0 (wpA qp ql qs)) (F0 m 21 ls [])) ?_ _ _ _ hl hM hS
  intro x2 x4 hw H locs ls hl hM hS
  refine lv_iload hx hb dX7_depth_21 (lv_at hl 4 rfl) ?_
  refine lv_aload_n hx hb dX7_depth_23 rfl (lv_at hl 1 rfl) ?_
  refine wpg_7_42_9 zc hK hM dX7_depth_24 ?_
  refine lv_icmp_ge (tgt := 48) hx hb dX7_depth_27 (by decide) (fun hc => ?_) (fun hc => ?_)
  · have hw := hw.1 hc
    obtain ⟨v_1, ev_1⟩ : ∃ y : Int32, y = x3 + (1 : Int32) := ⟨_, rfl⟩
    have hw := hw v_1 ev_1
    refine lv_iinc (v := v_1) (k := 3) (lv' := [(3, .int v_1), (0, .ref qp), (1, .ref ql), (2, .int x2), (4, .int x4)]) hx hb dX7_depth_48 hl rfl (by rw [ev_1]; rfl) (by decide) rfl (fun ls hl => ?_)
    refine lv_goto (tgt := 4) hx hb dX7_depth_51 (by decide) ?_
    exact hP4 _ _ _ _ _ _ _ _ _ hw (lv_sub hl [1, 2, 3, 0] rfl) hM hS
  · have hw := hw.2 hc
    refine lv_iload_n hx hb dX7_depth_30 rfl (lv_at hl 2 rfl) ?_
    refine lv_aload_n hx hb dX7_depth_31 rfl (lv_at hl 0 rfl) ?_
    refine wpg_7_21_0 zc hK hM dX7_depth_32 ?_
    refine lv_iload hx hb dX7_depth_35 (lv_at hl 4 rfl) ?_
    refine wpld_4 zc hK hM hw.1 dX7_depth_37 ?_
    have hw := hw.2
    refine va_mmax hx hb (zc.2.2.1.trans hl.1.symm) zc.2.2.2.1 (zc.2.2.2.2.1 _ km_7_76) (zc.2.2.2.2.1 _ k_mmaxs) (zc.2.2.2.2.1 _ k_mini) (zc.2.2.2.2.1 _ k_mmaxc) (Nat.le_of_ble_eq_true rfl) (Nat.le_of_ble_eq_true rfl) (Nat.zero_le _) (Nat.zero_le _) dX7_depth_38 ?_
    refine lv_topi (fun v_2 ev_2 => ?_)
    have hw := hw v_2 ev_2
    refine lv_istore_n (lv' := [(2, .int v_2), (0, .ref qp), (1, .ref ql), (3, .int x3), (4, .int x4)]) hx hb dX7_depth_41 rfl hl (by decide) rfl (fun ls hl => ?_)
    obtain ⟨v_3, ev_3⟩ : ∃ y : Int32, y = x4 + (1 : Int32) := ⟨_, rfl⟩
    have hw := hw v_3 ev_3
    refine lv_iinc (v := v_3) (k := 4) (lv' := [(4, .int v_3), (2, .int v_2), (0, .ref qp), (1, .ref ql), (3, .int x3)]) hx hb dX7_depth_42 hl rfl (by rw [ev_3]; rfl) (by decide) rfl (fun ls hl => ?_)
    refine lv_goto (tgt := 21) hx hb dX7_depth_45 (by decide) ?_
    exact hw _ _ _ (lv_sub hl [2, 3, 1, 4, 0] rfl) hM hS
set_option maxRecDepth 20000 in
theorem t_wp_X7_depth_9_4 {p : Program} {l : Launch} {e : Env} {s : State} {m : MethodId} {args : Array Value} {below : List Frame} {meth : Method} {c : Code} {E : zE} {qp ql qs : Nat} {a_heard : Nat → Int32} {a_walked : Nat → Int32} {a_total : Nat → Int32} {a_longest : Nat → Int32} {a_next : Nat → Int32} {a_cover : Nat → Int32} {a_now : Nat → Int32} {a_then : Nat → Int32} {lf_huts : Int32} {lf_singers : Int32} {lf_villages : Int32} {lf_dams : Int32} {lf_echoes : Int32} {lf_deep : Int32} {lf_slide : Int32} {la_heights : Nat → Int32} {la_ladders : Nat → Int32} {la_minutes : Nat → Int32} {la_echoFrom : Nat → Int32} {la_echoTo : Nat → Int32} {la_homes : Nat → Int32} {la_talls : Nat → Int32} {la_known : Nat → Int32} {sf_facts : Int32} {sa_heard : Nat → Int32} {sa_huts : Nat → Int32} {sa_minutes : Nat → Int32} {post : Int32 → (Nat → Int32) → (Nat → Int32) → (Nat → Int32) → (Nat → Int32) → Prop} {x2 : Int32} {x3 : Int32} {ls : Array Slot} {H : Heap} {locs : List Loc}
    (zc : zC p s m args meth c cX7_depth 5 RX7 (some .int))
    (hK : zK E s)
    (hM : wpW E qp ql qs a_heard a_walked a_total a_longest a_next a_cover a_now a_then lf_huts lf_singers lf_villages lf_dams lf_echoes lf_deep lf_slide la_heights la_ladders la_minutes la_echoFrom la_echoTo la_homes la_talls la_known sf_facts sa_heard sa_huts sa_minutes H)
    (hS : va_S (wpA qp ql qs) s.heap H locs)
    (hl : lv_has ls 5 [(0, .ref qp), (1, .ref ql), (2, .int x2), (3, .int x3)])
    (hw : q_wp_X7_depth_9_4 a_total a_longest a_now a_then lf_huts lf_dams la_heights la_minutes x2 x3 post) :
    W p l e rm_wp_X7_depth_9 s m args below meth c H locs 0 0 (MQ below (zQi (S := (Nat → Int32) × (Nat → Int32) × (Nat → Int32) × (Nat → Int32)) (fun r u => post r u.1 u.2.1 u.2.2.1 u.2.2.2) (fun u H => wpW E qp ql qs a_heard a_walked u.1 u.2.1 a_next a_cover u.2.2.1 u.2.2.2 lf_huts lf_singers lf_villages lf_dams lf_echoes lf_deep lf_slide la_heights la_ladders la_minutes la_echoFrom la_echoTo la_homes la_talls la_known sf_facts sa_heard sa_huts sa_minutes H) (wpA qp ql qs)) args s 0 0 (wpA qp ql qs)) (F0 m 4 ls []) := by
  have hx := zc.1
  have hb := zc.2.1
  refine hw (fun x2 x3 a_total a_longest a_now a_then => ∀ (H : Heap) (locs : List Loc) (ls : Array Slot), lv_has ls 5 [(0, .ref qp), (1, .ref ql), (2, .int x2), (3, .int x3)] → wpW E qp ql qs a_heard a_walked a_total a_longest a_next a_cover a_now a_then lf_huts lf_singers lf_villages lf_dams lf_echoes lf_deep lf_slide la_heights la_ladders la_minutes la_echoFrom la_echoTo la_homes la_talls la_known sf_facts sa_heard sa_huts sa_minutes H → va_S (wpA qp ql qs) s.heap H locs → W p l e rm_wp_X7_depth_9 s m args below meth c H locs 0 0 (MQ below (zQi (S := (Nat → Int32) × (Nat → Int32) × (Nat → Int32) × (Nat → Int32)) (fun r u => post r u.1 u.2.1 u.2.2.1 u.2.2.2) (fun u H => wpW E qp ql qs a_heard a_walked u.1 u.2.1 a_next a_cover u.2.2.1 u.2.2.2 lf_huts lf_singers lf_villages lf_dams lf_echoes lf_deep lf_slide la_heights la_ladders la_minutes la_echoFrom la_echoTo la_homes la_talls la_known sf_facts sa_heard sa_huts sa_minutes H) (wpA qp ql qs)) args s 0 0 (wpA qp ql qs)) (F0 m 4 ls [])) ?_ _ _ _ hl hM hS
  intro x2 x3 a_total a_longest a_now a_then hw H locs ls hl hM hS
  refine lv_iload_n hx hb dX7_depth_4 rfl (lv_at hl 3 rfl) ?_
  refine lv_aload_n hx hb dX7_depth_5 rfl (lv_at hl 1 rfl) ?_
  refine wpg_7_42_9 zc hK hM dX7_depth_6 ?_
  refine lv_icmp_ge (tgt := 54) hx hb dX7_depth_9 (by decide) (fun hc => ?_) (fun hc => ?_)
  · have hw := hw.1 hc
    refine lv_iload_n hx hb dX7_depth_54 rfl (lv_at hl 2 rfl) ?_
    exact zret_iw ⟨a_total, a_longest, a_now, a_then⟩ zc hS hw hM dX7_depth_55
  · have hw := hw.2 hc
    refine lv_aload_n hx hb dX7_depth_12 rfl (lv_at hl 0 rfl) ?_
    refine lv_aload_n hx hb dX7_depth_13 rfl (lv_at hl 1 rfl) ?_
    refine lv_iload_n hx hb dX7_depth_14 rfl (lv_at hl 3 rfl) ?_
    refine zVw_v [.ref ql, .int x3] [] zc ky_X7_trace kz_X7_trace km_7_123 (c_wp_X7_trace_9 l hw) (wpPreV0 hK hM) hS rfl rfl hl.1 (Nat.le_of_ble_eq_true rfl) ⟨rfl, rfl⟩ ⟨Nat.le_of_ble_eq_true rfl, Nat.le_of_ble_eq_true rfl⟩ ⟨(Nat.zero_le _), (Nat.zero_le _)⟩ dX7_depth_15 (fun u H locs hw hM hS => ?_)
    obtain ⟨a_total_1, a_longest_1, a_now_1, a_then_1⟩ := u
    refine lv_iconst (v := (0 : Int32)) hx hb dX7_depth_18 (by decide) ?_
    refine lv_istore (lv' := [(4, .int (0 : Int32)), (0, .ref qp), (1, .ref ql), (2, .int x2), (3, .int x3)]) hx hb dX7_depth_19 hl (by decide) rfl (fun ls hl => ?_)
    exact t_wp_X7_depth_9_21 zc hK hM hS (fun _ _ _ _ _ _ H locs ls h hl hM hS => h H locs ls hl hM hS) (lv_sub hl [1, 2, 3, 4, 0] rfl) hw
set_option maxRecDepth 20000 in
theorem t_wp_X7_depth_9_0 {p : Program} {l : Launch} {e : Env} {s : State} {m : MethodId} {args : Array Value} {below : List Frame} {meth : Method} {c : Code} {E : zE} {qp ql qs : Nat} {a_heard : Nat → Int32} {a_walked : Nat → Int32} {a_total : Nat → Int32} {a_longest : Nat → Int32} {a_next : Nat → Int32} {a_cover : Nat → Int32} {a_now : Nat → Int32} {a_then : Nat → Int32} {lf_huts : Int32} {lf_singers : Int32} {lf_villages : Int32} {lf_dams : Int32} {lf_echoes : Int32} {lf_deep : Int32} {lf_slide : Int32} {la_heights : Nat → Int32} {la_ladders : Nat → Int32} {la_minutes : Nat → Int32} {la_echoFrom : Nat → Int32} {la_echoTo : Nat → Int32} {la_homes : Nat → Int32} {la_talls : Nat → Int32} {la_known : Nat → Int32} {sf_facts : Int32} {sa_heard : Nat → Int32} {sa_huts : Nat → Int32} {sa_minutes : Nat → Int32} {post : Int32 → (Nat → Int32) → (Nat → Int32) → (Nat → Int32) → (Nat → Int32) → Prop} {ls : Array Slot} {H : Heap} {locs : List Loc}
    (zc : zC p s m args meth c cX7_depth 5 RX7 (some .int))
    (hK : zK E s)
    (hM : wpW E qp ql qs a_heard a_walked a_total a_longest a_next a_cover a_now a_then lf_huts lf_singers lf_villages lf_dams lf_echoes lf_deep lf_slide la_heights la_ladders la_minutes la_echoFrom la_echoTo la_homes la_talls la_known sf_facts sa_heard sa_huts sa_minutes H)
    (hS : va_S (wpA qp ql qs) s.heap H locs)
    (hl : lv_has ls 5 [(0, .ref qp), (1, .ref ql)])
    (hw : q_wp_X7_depth_9_0 a_total a_longest a_now a_then lf_huts lf_dams la_heights la_minutes post) :
    W p l e rm_wp_X7_depth_9 s m args below meth c H locs 0 0 (MQ below (zQi (S := (Nat → Int32) × (Nat → Int32) × (Nat → Int32) × (Nat → Int32)) (fun r u => post r u.1 u.2.1 u.2.2.1 u.2.2.2) (fun u H => wpW E qp ql qs a_heard a_walked u.1 u.2.1 a_next a_cover u.2.2.1 u.2.2.2 lf_huts lf_singers lf_villages lf_dams lf_echoes lf_deep lf_slide la_heights la_ladders la_minutes la_echoFrom la_echoTo la_homes la_talls la_known sf_facts sa_heard sa_huts sa_minutes H) (wpA qp ql qs)) args s 0 0 (wpA qp ql qs)) (F0 m 0 ls []) := by
  have hx := zc.1
  have hb := zc.2.1
  refine lv_iconst (v := (0 : Int32)) hx hb dX7_depth_0 (by decide) ?_
  refine lv_istore_n (lv' := [(2, .int (0 : Int32)), (0, .ref qp), (1, .ref ql)]) hx hb dX7_depth_1 rfl hl (by decide) rfl (fun ls hl => ?_)
  refine lv_iconst (v := (0 : Int32)) hx hb dX7_depth_2 (by decide) ?_
  refine lv_istore_n (lv' := [(3, .int (0 : Int32)), (2, .int (0 : Int32)), (0, .ref qp), (1, .ref ql)]) hx hb dX7_depth_3 rfl hl (by decide) rfl (fun ls hl => ?_)
  exact t_wp_X7_depth_9_4 zc hK hM hS  (lv_sub hl [2, 3, 1, 0] rfl) hw
set_option maxRecDepth 20000 in
theorem c_wp_X7_depth_9 (l : Launch) {E : zE} {qp ql qs : Nat} {a_heard : Nat → Int32} {a_walked : Nat → Int32} {a_total : Nat → Int32} {a_longest : Nat → Int32} {a_next : Nat → Int32} {a_cover : Nat → Int32} {a_now : Nat → Int32} {a_then : Nat → Int32} {lf_huts : Int32} {lf_singers : Int32} {lf_villages : Int32} {lf_dams : Int32} {lf_echoes : Int32} {lf_deep : Int32} {lf_slide : Int32} {la_heights : Nat → Int32} {la_ladders : Nat → Int32} {la_minutes : Nat → Int32} {la_echoFrom : Nat → Int32} {la_echoTo : Nat → Int32} {la_homes : Nat → Int32} {la_talls : Nat → Int32} {la_known : Nat → Int32} {sf_facts : Int32} {sa_heard : Nat → Int32} {sa_huts : Nat → Int32} {sa_minutes : Nat → Int32} {post : Int32 → (Nat → Int32) → (Nat → Int32) → (Nat → Int32) → (Nat → Int32) → Prop} (hw : q_wp_X7_depth_9_0 a_total a_longest a_now a_then lf_huts lf_dams la_heights la_minutes post) : Met l yX7_depth (Cond.code yX7_depth cX7_depth 5 (some .int) :: zb) rm_wp_X7_depth_9 (va_Pc [.ref qp, .ref ql] (fun U => wpW E qp ql qs a_heard a_walked a_total a_longest a_next a_cover a_now a_then lf_huts lf_singers lf_villages lf_dams lf_echoes lf_deep lf_slide la_heights la_ladders la_minutes la_echoFrom la_echoTo la_homes la_talls la_known sf_facts sa_heard sa_huts sa_minutes U.heap ∧ zK E U)) (zQi (S := (Nat → Int32) × (Nat → Int32) × (Nat → Int32) × (Nat → Int32)) (fun r u => post r u.1 u.2.1 u.2.2.1 u.2.2.2) (fun u H => wpW E qp ql qs a_heard a_walked u.1 u.2.1 a_next a_cover u.2.2.1 u.2.2.2 lf_huts lf_singers lf_villages lf_dams lf_echoes lf_deep lf_slide la_heights la_ladders la_minutes la_echoFrom la_echoTo la_homes la_talls la_known sf_facts sa_heard sa_huts sa_minutes H) (wpA qp ql qs)) 0 0 (wpA qp ql qs) := by
  refine Met.ofW (cc := cX7_depth) (maxL := 5) (ret := (some .int)) (by decide) rfl ?_
  intro p e s m args below meth c s₁ B hml hv
  obtain ⟨rfl, hM, hK⟩ := hv
  have zc := zc_of B hml
  have hl := lv_entry ([.ref qp, .ref ql]) (n := 5) (Nat.le_of_ble_eq_true rfl)
  rw [lg_entry_eq]
  generalize (lg_sl ([.ref qp, .ref ql]) ++ List.replicate (5 - (lg_sl ([.ref qp, .ref ql])).length) Slot.unset).toArray = ls at hl ⊢
  have hl : lv_has ls 5 [(0, .ref qp), (1, .ref ql)] := hl
  exact t_wp_X7_depth_9_0 zc hK hM va_S.rf (lv_sub hl [0, 1] rfl) hw
-- wp_X7_reach_5
abbrev rm_wp_X7_reach_5 : Room := { frames := 1, cells := 0, slots := 0, locals := 21 }
def q_wp_X7_reach_5_49 (P7 : Int32 → Int32 → Prop) (P20 : Int32 → Int32 → Prop) (a_next : Nat → Int32) (x2 : Int32) (x3 : Int32) (x4 : Int32) (x5 : Int32) (x6 : Int32) (post : Int32 → Prop) : Prop :=
  ∀ v_1 : Int32, v_1 = x6 + (1 : Int32) → (P20 x5 v_1)
def q_wp_X7_reach_5_20 (P7 : Int32 → Int32 → Prop) (a_next : Nat → Int32) (x2 : Int32) (x3 : Int32) (x4 : Int32) (x5 : Int32) (x6 : Int32) (post : Int32 → Prop) : Prop :=
  ∀ P20 : Int32 → Int32 → Prop, (∀ (x5 : Int32) (x6 : Int32), (((9 : Int32) ≤ x6 → ((¬ x5 = x3 → (∀ v_1 : Int32, v_1 = x4 + (1 : Int32) → (P7 x5 v_1))) ∧ (x5 = x3 → (post x3)))) ∧ (¬ (9 : Int32) ≤ x6 → (q_z_X10_has_0 x3 x6 (fun r_1 => (r_1 = 0 → (q_wp_X7_reach_5_49 P7 P20 a_next x2 x3 x4 x5 x6 post)) ∧ (¬ r_1 = 0 → (vp_in x6 9 ∧ (∀ v_2 : Int32, v_2 = (x5 ||| ((a_next (Int32.toNatClampNeg x6)) &&& (x2 ^^^ (-1 : Int32)))) → (q_wp_X7_reach_5_49 P7 P20 a_next x2 x3 x4 v_2 x6 post)))))))) → P20 x5 x6) → P20 x5 x6
def q_wp_X7_reach_5_7 (a_next : Nat → Int32) (x2 : Int32) (x3 : Int32) (x4 : Int32) (post : Int32 → Prop) : Prop :=
  ∀ P7 : Int32 → Int32 → Prop, (∀ (x3 : Int32) (x4 : Int32), (((9 : Int32) ≤ x4 → (post x3)) ∧ (¬ (9 : Int32) ≤ x4 → (q_wp_X7_reach_5_20 P7 a_next x2 x3 x4 x3 (0 : Int32) post))) → P7 x3 x4) → P7 x3 x4
def q_wp_X7_reach_5_0 (a_next : Nat → Int32) (x0 : Int32) (x2 : Int32) (post : Int32 → Prop) : Prop :=
  ∀ v_1 : Int32, v_1 = ((1 : Int32) <<< (x0 &&& 31)) → (q_wp_X7_reach_5_7 a_next x2 v_1 (0 : Int32) post)
set_option maxRecDepth 20000 in
theorem t_wp_X7_reach_5_49 {p : Program} {l : Launch} {e : Env} {s : State} {m : MethodId} {args : Array Value} {below : List Frame} {meth : Method} {c : Code} {E : zE} {qp ql qs : Nat} {a_heard : Nat → Int32} {a_walked : Nat → Int32} {a_total : Nat → Int32} {a_longest : Nat → Int32} {a_next : Nat → Int32} {a_cover : Nat → Int32} {a_now : Nat → Int32} {a_then : Nat → Int32} {lf_huts : Int32} {lf_singers : Int32} {lf_villages : Int32} {lf_dams : Int32} {lf_echoes : Int32} {lf_deep : Int32} {lf_slide : Int32} {la_heights : Nat → Int32} {la_ladders : Nat → Int32} {la_minutes : Nat → Int32} {la_echoFrom : Nat → Int32} {la_echoTo : Nat → Int32} {la_homes : Nat → Int32} {la_talls : Nat → Int32} {la_known : Nat → Int32} {sf_facts : Int32} {sa_heard : Nat → Int32} {sa_huts : Nat → Int32} {sa_minutes : Nat → Int32} {P7 : Int32 → Int32 → Prop} {P20 : Int32 → Int32 → Prop} {post : Int32 → Prop} {x2 : Int32} {x3 : Int32} {x4 : Int32} {x5 : Int32} {x6 : Int32} {ls : Array Slot}
    (zc : zC p s m args meth c cX7_reach 7 RX7 (some .int))
    (hK : zK E s)
    (hM : wpW E qp ql qs a_heard a_walked a_total a_longest a_next a_cover a_now a_then lf_huts lf_singers lf_villages lf_dams lf_echoes lf_deep lf_slide la_heights la_ladders la_minutes la_echoFrom la_echoTo la_homes la_talls la_known sf_facts sa_heard sa_huts sa_minutes s.heap)
    (hP7 : ∀ (x3 : Int32) (x4 : Int32) (ls : Array Slot), P7 x3 x4 → lv_has ls 7 [(1, .ref (qp + 5)), (2, .int x2), (3, .int x3), (4, .int x4)] → W p l e rm_wp_X7_reach_5 s m args below meth c s.heap [] 0 0 (MQ below (vp_Si post) args s 0 0 (fun _ => False)) (F0 m 7 ls []))
    (hP20 : ∀ (x5 : Int32) (x6 : Int32) (ls : Array Slot), P20 x5 x6 → lv_has ls 7 [(1, .ref (qp + 5)), (2, .int x2), (3, .int x3), (4, .int x4), (5, .int x5), (6, .int x6)] → W p l e rm_wp_X7_reach_5 s m args below meth c s.heap [] 0 0 (MQ below (vp_Si post) args s 0 0 (fun _ => False)) (F0 m 20 ls []))
    (hl : lv_has ls 7 [(1, .ref (qp + 5)), (2, .int x2), (3, .int x3), (4, .int x4), (5, .int x5), (6, .int x6)])
    (hw : q_wp_X7_reach_5_49 P7 P20 a_next x2 x3 x4 x5 x6 post) :
    W p l e rm_wp_X7_reach_5 s m args below meth c s.heap [] 0 0 (MQ below (vp_Si post) args s 0 0 (fun _ => False)) (F0 m 49 ls []) := by
  have hx := zc.1
  have hb := zc.2.1
  obtain ⟨v_1, ev_1⟩ : ∃ y : Int32, y = x6 + (1 : Int32) := ⟨_, rfl⟩
  have hw := hw v_1 ev_1
  refine lv_iinc (v := v_1) (k := 5) (lv' := [(6, .int v_1), (1, .ref (qp + 5)), (2, .int x2), (3, .int x3), (4, .int x4), (5, .int x5)]) hx hb dX7_reach_49 hl rfl (by rw [ev_1]; rfl) (by decide) rfl (fun ls hl => ?_)
  refine lv_goto (tgt := 20) hx hb dX7_reach_52 (by decide) ?_
  exact hP20 _ _ _ hw (lv_sub hl [1, 2, 3, 4, 5, 0] rfl)
set_option maxRecDepth 20000 in
theorem t_wp_X7_reach_5_20 {p : Program} {l : Launch} {e : Env} {s : State} {m : MethodId} {args : Array Value} {below : List Frame} {meth : Method} {c : Code} {E : zE} {qp ql qs : Nat} {a_heard : Nat → Int32} {a_walked : Nat → Int32} {a_total : Nat → Int32} {a_longest : Nat → Int32} {a_next : Nat → Int32} {a_cover : Nat → Int32} {a_now : Nat → Int32} {a_then : Nat → Int32} {lf_huts : Int32} {lf_singers : Int32} {lf_villages : Int32} {lf_dams : Int32} {lf_echoes : Int32} {lf_deep : Int32} {lf_slide : Int32} {la_heights : Nat → Int32} {la_ladders : Nat → Int32} {la_minutes : Nat → Int32} {la_echoFrom : Nat → Int32} {la_echoTo : Nat → Int32} {la_homes : Nat → Int32} {la_talls : Nat → Int32} {la_known : Nat → Int32} {sf_facts : Int32} {sa_heard : Nat → Int32} {sa_huts : Nat → Int32} {sa_minutes : Nat → Int32} {P7 : Int32 → Int32 → Prop} {post : Int32 → Prop} {x2 : Int32} {x3 : Int32} {x4 : Int32} {x5 : Int32} {x6 : Int32} {ls : Array Slot}
    (zc : zC p s m args meth c cX7_reach 7 RX7 (some .int))
    (hK : zK E s)
    (hM : wpW E qp ql qs a_heard a_walked a_total a_longest a_next a_cover a_now a_then lf_huts lf_singers lf_villages lf_dams lf_echoes lf_deep lf_slide la_heights la_ladders la_minutes la_echoFrom la_echoTo la_homes la_talls la_known sf_facts sa_heard sa_huts sa_minutes s.heap)
    (hP7 : ∀ (x3 : Int32) (x4 : Int32) (ls : Array Slot), P7 x3 x4 → lv_has ls 7 [(1, .ref (qp + 5)), (2, .int x2), (3, .int x3), (4, .int x4)] → W p l e rm_wp_X7_reach_5 s m args below meth c s.heap [] 0 0 (MQ below (vp_Si post) args s 0 0 (fun _ => False)) (F0 m 7 ls []))
    (hl : lv_has ls 7 [(1, .ref (qp + 5)), (2, .int x2), (3, .int x3), (4, .int x4), (5, .int x5), (6, .int x6)])
    (hw : q_wp_X7_reach_5_20 P7 a_next x2 x3 x4 x5 x6 post) :
    W p l e rm_wp_X7_reach_5 s m args below meth c s.heap [] 0 0 (MQ below (vp_Si post) args s 0 0 (fun _ => False)) (F0 m 20 ls []) := by
  have hx := zc.1
  have hb := zc.2.1
  refine hw (fun x5 x6 => ∀ (ls : Array Slot), lv_has ls 7 [(1, .ref (qp + 5)), (2, .int x2), (3, .int x3), (4, .int x4), (5, .int x5), (6, .int x6)] → W p l e rm_wp_X7_reach_5 s m args below meth c s.heap [] 0 0 (MQ below (vp_Si post) args s 0 0 (fun _ => False)) (F0 m 20 ls [])) ?_ _ hl
  intro x5 x6 hw ls hl
  refine lv_iload hx hb dX7_reach_20 (lv_at hl 5 rfl) ?_
  refine lv_bipush (v := (9 : Int32)) hx hb dX7_reach_22 (by decide) ?_
  refine lv_icmp_ge (tgt := 55) hx hb dX7_reach_24 (by decide) (fun hc => ?_) (fun hc => ?_)
  · have hw := hw.1 hc
    refine lv_iload hx hb dX7_reach_55 (lv_at hl 4 rfl) ?_
    refine lv_iload_n hx hb dX7_reach_57 rfl (lv_at hl 2 rfl) ?_
    refine lv_icmp_ne (tgt := 63) hx hb dX7_reach_58 (by decide) (fun hc => ?_) (fun hc => ?_)
    · have hw := hw.1 hc
      refine lv_iload hx hb dX7_reach_63 (lv_at hl 4 rfl) ?_
      refine lv_istore_n (lv' := [(3, .int x5), (1, .ref (qp + 5)), (2, .int x2), (4, .int x4), (5, .int x5), (6, .int x6)]) hx hb dX7_reach_65 rfl hl (by decide) rfl (fun ls hl => ?_)
      obtain ⟨v_1, ev_1⟩ : ∃ y : Int32, y = x4 + (1 : Int32) := ⟨_, rfl⟩
      have hw := hw v_1 ev_1
      refine lv_iinc (v := v_1) (k := 3) (lv' := [(4, .int v_1), (3, .int x5), (1, .ref (qp + 5)), (2, .int x2), (5, .int x5), (6, .int x6)]) hx hb dX7_reach_66 hl rfl (by rw [ev_1]; rfl) (by decide) rfl (fun ls hl => ?_)
      refine lv_goto (tgt := 7) hx hb dX7_reach_69 (by decide) ?_
      exact hP7 _ _ _ hw (lv_sub hl [2, 3, 1, 0] rfl)
    · have hw := hw.2 hc
      refine lv_iload_n hx hb dX7_reach_61 rfl (lv_at hl 2 rfl) ?_
      exact zret_i zc hw dX7_reach_62
  · have hw := hw.2 hc
    refine lv_iload_n hx hb dX7_reach_27 rfl (lv_at hl 2 rfl) ?_
    refine lv_iload hx hb dX7_reach_28 (lv_at hl 5 rfl) ?_
    refine zSN_i [.int x3, .int x6] [] zc ky_X10_has kz_X10_has (hK.2 _ kn_7_70) (c_z_X10_has l hw) (zPre0 _) rfl rfl hl.1 (Nat.le_of_ble_eq_true rfl) ⟨rfl, rfl⟩ ⟨Nat.le_of_ble_eq_true rfl, Nat.le_of_ble_eq_true rfl⟩ ⟨(Nat.zero_le _), (Nat.zero_le _)⟩ dX7_reach_30 (fun r_1 hw => ?_)
    refine lv_if_eq (tgt := 49) hx hb dX7_reach_33 (by decide) (fun hc => ?_) (fun hc => ?_)
    · have hw := hw.1 hc
      exact t_wp_X7_reach_5_49 zc hK hM hP7 (fun _ _ ls h hl => h ls hl) (lv_sub hl [0, 1, 2, 3, 4, 5] rfl) hw
    · have hw := hw.2 hc
      refine lv_iload hx hb dX7_reach_36 (lv_at hl 4 rfl) ?_
      refine lv_aload_n hx hb dX7_reach_38 rfl (lv_at hl 0 rfl) ?_
      refine lv_iload hx hb dX7_reach_39 (lv_at hl 5 rfl) ?_
      refine wpld_5 zc hK hM hw.1 dX7_reach_41 ?_
      have hw := hw.2
      refine lv_iload_n hx hb dX7_reach_42 rfl (lv_at hl 1 rfl) ?_
      refine lv_iconst (v := (-1 : Int32)) hx hb dX7_reach_43 (by decide) ?_
      refine lv_ixor hx hb dX7_reach_44 ?_
      refine lv_iand hx hb dX7_reach_45 ?_
      refine lv_ior hx hb dX7_reach_46 ?_
      refine lv_topi (fun v_2 ev_2 => ?_)
      have hw := hw v_2 ev_2
      refine lv_istore (lv' := [(5, .int v_2), (1, .ref (qp + 5)), (2, .int x2), (3, .int x3), (4, .int x4), (6, .int x6)]) hx hb dX7_reach_47 hl (by decide) rfl (fun ls hl => ?_)
      exact t_wp_X7_reach_5_49 zc hK hM hP7 (fun _ _ ls h hl => h ls hl) (lv_sub hl [1, 2, 3, 4, 0, 5] rfl) hw
set_option maxRecDepth 20000 in
theorem t_wp_X7_reach_5_7 {p : Program} {l : Launch} {e : Env} {s : State} {m : MethodId} {args : Array Value} {below : List Frame} {meth : Method} {c : Code} {E : zE} {qp ql qs : Nat} {a_heard : Nat → Int32} {a_walked : Nat → Int32} {a_total : Nat → Int32} {a_longest : Nat → Int32} {a_next : Nat → Int32} {a_cover : Nat → Int32} {a_now : Nat → Int32} {a_then : Nat → Int32} {lf_huts : Int32} {lf_singers : Int32} {lf_villages : Int32} {lf_dams : Int32} {lf_echoes : Int32} {lf_deep : Int32} {lf_slide : Int32} {la_heights : Nat → Int32} {la_ladders : Nat → Int32} {la_minutes : Nat → Int32} {la_echoFrom : Nat → Int32} {la_echoTo : Nat → Int32} {la_homes : Nat → Int32} {la_talls : Nat → Int32} {la_known : Nat → Int32} {sf_facts : Int32} {sa_heard : Nat → Int32} {sa_huts : Nat → Int32} {sa_minutes : Nat → Int32} {post : Int32 → Prop} {x2 : Int32} {x3 : Int32} {x4 : Int32} {ls : Array Slot}
    (zc : zC p s m args meth c cX7_reach 7 RX7 (some .int))
    (hK : zK E s)
    (hM : wpW E qp ql qs a_heard a_walked a_total a_longest a_next a_cover a_now a_then lf_huts lf_singers lf_villages lf_dams lf_echoes lf_deep lf_slide la_heights la_ladders la_minutes la_echoFrom la_echoTo la_homes la_talls la_known sf_facts sa_heard sa_huts sa_minutes s.heap)
    (hl : lv_has ls 7 [(1, .ref (qp + 5)), (2, .int x2), (3, .int x3), (4, .int x4)])
    (hw : q_wp_X7_reach_5_7 a_next x2 x3 x4 post) :
    W p l e rm_wp_X7_reach_5 s m args below meth c s.heap [] 0 0 (MQ below (vp_Si post) args s 0 0 (fun _ => False)) (F0 m 7 ls []) := by
  have hx := zc.1
  have hb := zc.2.1
  refine hw (fun x3 x4 => ∀ (ls : Array Slot), lv_has ls 7 [(1, .ref (qp + 5)), (2, .int x2), (3, .int x3), (4, .int x4)] → W p l e rm_wp_X7_reach_5 s m args below meth c s.heap [] 0 0 (MQ below (vp_Si post) args s 0 0 (fun _ => False)) (F0 m 7 ls [])) ?_ _ hl
  intro x3 x4 hw ls hl
  refine lv_iload hx hb dX7_reach_7 (lv_at hl 3 rfl) ?_
  refine lv_bipush (v := (9 : Int32)) hx hb dX7_reach_9 (by decide) ?_
  refine lv_icmp_ge (tgt := 72) hx hb dX7_reach_11 (by decide) (fun hc => ?_) (fun hc => ?_)
  · have hw := hw.1 hc
    refine lv_iload_n hx hb dX7_reach_72 rfl (lv_at hl 2 rfl) ?_
    exact zret_i zc hw dX7_reach_73
  · have hw := hw.2 hc
    refine lv_iload_n hx hb dX7_reach_14 rfl (lv_at hl 2 rfl) ?_
    refine lv_istore (lv' := [(5, .int x3), (1, .ref (qp + 5)), (2, .int x2), (3, .int x3), (4, .int x4)]) hx hb dX7_reach_15 hl (by decide) rfl (fun ls hl => ?_)
    refine lv_iconst (v := (0 : Int32)) hx hb dX7_reach_17 (by decide) ?_
    refine lv_istore (lv' := [(6, .int (0 : Int32)), (5, .int x3), (1, .ref (qp + 5)), (2, .int x2), (3, .int x3), (4, .int x4)]) hx hb dX7_reach_18 hl (by decide) rfl (fun ls hl => ?_)
    exact t_wp_X7_reach_5_20 zc hK hM (fun _ _ ls h hl => h ls hl) (lv_sub hl [2, 3, 4, 5, 1, 0] rfl) hw
set_option maxRecDepth 20000 in
theorem t_wp_X7_reach_5_0 {p : Program} {l : Launch} {e : Env} {s : State} {m : MethodId} {args : Array Value} {below : List Frame} {meth : Method} {c : Code} {E : zE} {qp ql qs : Nat} {a_heard : Nat → Int32} {a_walked : Nat → Int32} {a_total : Nat → Int32} {a_longest : Nat → Int32} {a_next : Nat → Int32} {a_cover : Nat → Int32} {a_now : Nat → Int32} {a_then : Nat → Int32} {lf_huts : Int32} {lf_singers : Int32} {lf_villages : Int32} {lf_dams : Int32} {lf_echoes : Int32} {lf_deep : Int32} {lf_slide : Int32} {la_heights : Nat → Int32} {la_ladders : Nat → Int32} {la_minutes : Nat → Int32} {la_echoFrom : Nat → Int32} {la_echoTo : Nat → Int32} {la_homes : Nat → Int32} {la_talls : Nat → Int32} {la_known : Nat → Int32} {sf_facts : Int32} {sa_heard : Nat → Int32} {sa_huts : Nat → Int32} {sa_minutes : Nat → Int32} {post : Int32 → Prop} {x0 : Int32} {x2 : Int32} {ls : Array Slot}
    (zc : zC p s m args meth c cX7_reach 7 RX7 (some .int))
    (hK : zK E s)
    (hM : wpW E qp ql qs a_heard a_walked a_total a_longest a_next a_cover a_now a_then lf_huts lf_singers lf_villages lf_dams lf_echoes lf_deep lf_slide la_heights la_ladders la_minutes la_echoFrom la_echoTo la_homes la_talls la_known sf_facts sa_heard sa_huts sa_minutes s.heap)
    (hl : lv_has ls 7 [(0, .int x0), (1, .ref (qp + 5)), (2, .int x2)])
    (hw : q_wp_X7_reach_5_0 a_next x0 x2 post) :
    W p l e rm_wp_X7_reach_5 s m args below meth c s.heap [] 0 0 (MQ below (vp_Si post) args s 0 0 (fun _ => False)) (F0 m 0 ls []) := by
  have hx := zc.1
  have hb := zc.2.1
  refine lv_iconst (v := (1 : Int32)) hx hb dX7_reach_0 (by decide) ?_
  refine lv_iload_n hx hb dX7_reach_1 rfl (lv_at hl 0 rfl) ?_
  refine lv_ishl hx hb dX7_reach_2 ?_
  refine lv_topi (fun v_1 ev_1 => ?_)
  have hw := hw v_1 ev_1
  refine lv_istore_n (lv' := [(3, .int v_1), (0, .int x0), (1, .ref (qp + 5)), (2, .int x2)]) hx hb dX7_reach_3 rfl hl (by decide) rfl (fun ls hl => ?_)
  refine lv_iconst (v := (0 : Int32)) hx hb dX7_reach_4 (by decide) ?_
  refine lv_istore (lv' := [(4, .int (0 : Int32)), (3, .int v_1), (0, .int x0), (1, .ref (qp + 5)), (2, .int x2)]) hx hb dX7_reach_5 hl (by decide) rfl (fun ls hl => ?_)
  exact t_wp_X7_reach_5_7 zc hK hM  (lv_sub hl [3, 4, 1, 0] rfl) hw
set_option maxRecDepth 20000 in
theorem c_wp_X7_reach_5 (l : Launch) {E : zE} {qp ql qs : Nat} {a_heard : Nat → Int32} {a_walked : Nat → Int32} {a_total : Nat → Int32} {a_longest : Nat → Int32} {a_next : Nat → Int32} {a_cover : Nat → Int32} {a_now : Nat → Int32} {a_then : Nat → Int32} {lf_huts : Int32} {lf_singers : Int32} {lf_villages : Int32} {lf_dams : Int32} {lf_echoes : Int32} {lf_deep : Int32} {lf_slide : Int32} {la_heights : Nat → Int32} {la_ladders : Nat → Int32} {la_minutes : Nat → Int32} {la_echoFrom : Nat → Int32} {la_echoTo : Nat → Int32} {la_homes : Nat → Int32} {la_talls : Nat → Int32} {la_known : Nat → Int32} {sf_facts : Int32} {sa_heard : Nat → Int32} {sa_huts : Nat → Int32} {sa_minutes : Nat → Int32} {x0 : Int32} {x2 : Int32} {post : Int32 → Prop} (hw : q_wp_X7_reach_5_0 a_next x0 x2 post) : Met l yX7_reach (Cond.code yX7_reach cX7_reach 7 (some .int) :: zb) rm_wp_X7_reach_5 (va_Pc [.int x0, .ref (qp + 5), .int x2] (fun U => wpW E qp ql qs a_heard a_walked a_total a_longest a_next a_cover a_now a_then lf_huts lf_singers lf_villages lf_dams lf_echoes lf_deep lf_slide la_heights la_ladders la_minutes la_echoFrom la_echoTo la_homes la_talls la_known sf_facts sa_heard sa_huts sa_minutes U.heap ∧ zK E U)) (vp_Si post) 0 0 (fun _ => False) := by
  refine Met.ofW (cc := cX7_reach) (maxL := 7) (ret := (some .int)) (by decide) rfl ?_
  intro p e s m args below meth c s₁ B hml hv
  obtain ⟨rfl, hM, hK⟩ := hv
  have zc := zc_of B hml
  have hl := lv_entry ([.int x0, .ref (qp + 5), .int x2]) (n := 7) (Nat.le_of_ble_eq_true rfl)
  rw [lg_entry_eq]
  generalize (lg_sl ([.int x0, .ref (qp + 5), .int x2]) ++ List.replicate (7 - (lg_sl ([.int x0, .ref (qp + 5), .int x2])).length) Slot.unset).toArray = ls at hl ⊢
  have hl : lv_has ls 7 [(0, .int x0), (1, .ref (qp + 5)), (2, .int x2)] := hl
  exact t_wp_X7_reach_5_0 zc hK hM (lv_sub hl [0, 1, 2] rfl) hw
-- wp_X7_muted
abbrev rm_wp_X7_muted : Room := { frames := 2, cells := 0, slots := 0, locals := 47 }
def q_wp_X7_muted_0 (a_next : Nat → Int32) (x1 : Int32) (x2 : Int32) (post : Int32 → Prop) : Prop :=
  q_wp_X7_reach_5_0 a_next x1 (0 : Int32) (fun r_1 => q_wp_X7_reach_5_0 a_next x1 ((1 : Int32) <<< (x2 &&& 31)) (fun r_2 => q_z_J6_bitCount_0f7a4_0 ((r_1 &&& (r_2 ^^^ (-1 : Int32))) &&& (((1 : Int32) <<< (x2 &&& 31)) ^^^ (-1 : Int32))) (fun r_3 => post r_3)))
set_option maxRecDepth 20000 in
theorem t_wp_X7_muted_0 {p : Program} {l : Launch} {e : Env} {s : State} {m : MethodId} {args : Array Value} {below : List Frame} {meth : Method} {c : Code} {E : zE} {qp ql qs : Nat} {a_heard : Nat → Int32} {a_walked : Nat → Int32} {a_total : Nat → Int32} {a_longest : Nat → Int32} {a_next : Nat → Int32} {a_cover : Nat → Int32} {a_now : Nat → Int32} {a_then : Nat → Int32} {lf_huts : Int32} {lf_singers : Int32} {lf_villages : Int32} {lf_dams : Int32} {lf_echoes : Int32} {lf_deep : Int32} {lf_slide : Int32} {la_heights : Nat → Int32} {la_ladders : Nat → Int32} {la_minutes : Nat → Int32} {la_echoFrom : Nat → Int32} {la_echoTo : Nat → Int32} {la_homes : Nat → Int32} {la_talls : Nat → Int32} {la_known : Nat → Int32} {sf_facts : Int32} {sa_heard : Nat → Int32} {sa_huts : Nat → Int32} {sa_minutes : Nat → Int32} {post : Int32 → Prop} {x1 : Int32} {x2 : Int32} {ls : Array Slot}
    (zc : zC p s m args meth c cX7_muted 5 RX7 (some .int))
    (hK : zK E s)
    (hM : wpW E qp ql qs a_heard a_walked a_total a_longest a_next a_cover a_now a_then lf_huts lf_singers lf_villages lf_dams lf_echoes lf_deep lf_slide la_heights la_ladders la_minutes la_echoFrom la_echoTo la_homes la_talls la_known sf_facts sa_heard sa_huts sa_minutes s.heap)
    (hl : lv_has ls 5 [(0, .ref qp), (1, .int x1), (2, .int x2)])
    (hw : q_wp_X7_muted_0 a_next x1 x2 post) :
    W p l e rm_wp_X7_muted s m args below meth c s.heap [] 0 0 (MQ below (vp_Si post) args s 0 0 (fun _ => False)) (F0 m 0 ls []) := by
  have hx := zc.1
  have hb := zc.2.1
  refine lv_iload_n hx hb dX7_muted_0 rfl (lv_at hl 1 rfl) ?_
  refine lv_aload_n hx hb dX7_muted_1 rfl (lv_at hl 0 rfl) ?_
  refine wpg_7_24_0 zc hK hM dX7_muted_2 ?_
  refine lv_iconst (v := (0 : Int32)) hx hb dX7_muted_5 (by decide) ?_
  refine zS_i [.int x1, .ref (qp + 5), .int (0 : Int32)] [] zc ky_X7_reach kz_X7_reach km_7_127 (c_wp_X7_reach_5 l hw) (wpPreS hK hM) rfl rfl hl.1 (Nat.le_of_ble_eq_true rfl) ⟨rfl, rfl⟩ ⟨Nat.le_of_ble_eq_true rfl, Nat.le_of_ble_eq_true rfl⟩ ⟨(Nat.zero_le _), (Nat.zero_le _)⟩ dX7_muted_6 (fun r_1 hw => ?_)
  refine lv_istore_n (lv' := [(3, .int r_1), (0, .ref qp), (1, .int x1), (2, .int x2)]) hx hb dX7_muted_9 rfl hl (by decide) rfl (fun ls hl => ?_)
  refine lv_iload_n hx hb dX7_muted_10 rfl (lv_at hl 2 rfl) ?_
  refine lv_aload_n hx hb dX7_muted_11 rfl (lv_at hl 1 rfl) ?_
  refine wpg_7_24_0 zc hK hM dX7_muted_12 ?_
  refine lv_iconst (v := (1 : Int32)) hx hb dX7_muted_15 (by decide) ?_
  refine lv_iload_n hx hb dX7_muted_16 rfl (lv_at hl 3 rfl) ?_
  refine lv_ishl hx hb dX7_muted_17 ?_
  refine zS_i [.int x1, .ref (qp + 5), .int ((1 : Int32) <<< (x2 &&& 31))] [] zc ky_X7_reach kz_X7_reach km_7_127 (c_wp_X7_reach_5 l hw) (wpPreS hK hM) rfl rfl hl.1 (Nat.le_of_ble_eq_true rfl) ⟨rfl, rfl⟩ ⟨Nat.le_of_ble_eq_true rfl, Nat.le_of_ble_eq_true rfl⟩ ⟨(Nat.zero_le _), (Nat.zero_le _)⟩ dX7_muted_18 (fun r_2 hw => ?_)
  refine lv_istore (lv' := [(4, .int r_2), (3, .int r_1), (0, .ref qp), (1, .int x1), (2, .int x2)]) hx hb dX7_muted_21 hl (by decide) rfl (fun ls hl => ?_)
  refine lv_iload_n hx hb dX7_muted_23 rfl (lv_at hl 1 rfl) ?_
  refine lv_iload hx hb dX7_muted_24 (lv_at hl 0 rfl) ?_
  refine lv_iconst (v := (-1 : Int32)) hx hb dX7_muted_26 (by decide) ?_
  refine lv_ixor hx hb dX7_muted_27 ?_
  refine lv_iand hx hb dX7_muted_28 ?_
  refine lv_iconst (v := (1 : Int32)) hx hb dX7_muted_29 (by decide) ?_
  refine lv_iload_n hx hb dX7_muted_30 rfl (lv_at hl 4 rfl) ?_
  refine lv_ishl hx hb dX7_muted_31 ?_
  refine lv_iconst (v := (-1 : Int32)) hx hb dX7_muted_32 (by decide) ?_
  refine lv_ixor hx hb dX7_muted_33 ?_
  refine lv_iand hx hb dX7_muted_34 ?_
  refine zS_i [.int ((r_1 &&& (r_2 ^^^ (-1 : Int32))) &&& (((1 : Int32) <<< (x2 &&& 31)) ^^^ (-1 : Int32)))] [] zc ky_J6_bitCount_0f7a4 kz_J6_bitCount_0f7a4 km_7_97 (c_z_J6_bitCount_0f7a4 l hw) (zPre0 _) rfl rfl hl.1 (Nat.le_of_ble_eq_true rfl) ⟨rfl, rfl⟩ ⟨Nat.le_of_ble_eq_true rfl, Nat.le_of_ble_eq_true rfl⟩ ⟨(Nat.zero_le _), (Nat.zero_le _)⟩ dX7_muted_35 (fun r_3 hw => ?_)
  exact zret_i zc hw dX7_muted_38
set_option maxRecDepth 20000 in
theorem c_wp_X7_muted (l : Launch) {E : zE} {qp ql qs : Nat} {a_heard : Nat → Int32} {a_walked : Nat → Int32} {a_total : Nat → Int32} {a_longest : Nat → Int32} {a_next : Nat → Int32} {a_cover : Nat → Int32} {a_now : Nat → Int32} {a_then : Nat → Int32} {lf_huts : Int32} {lf_singers : Int32} {lf_villages : Int32} {lf_dams : Int32} {lf_echoes : Int32} {lf_deep : Int32} {lf_slide : Int32} {la_heights : Nat → Int32} {la_ladders : Nat → Int32} {la_minutes : Nat → Int32} {la_echoFrom : Nat → Int32} {la_echoTo : Nat → Int32} {la_homes : Nat → Int32} {la_talls : Nat → Int32} {la_known : Nat → Int32} {sf_facts : Int32} {sa_heard : Nat → Int32} {sa_huts : Nat → Int32} {sa_minutes : Nat → Int32} {x1 : Int32} {x2 : Int32} {post : Int32 → Prop} (hw : q_wp_X7_muted_0 a_next x1 x2 post) : Met l yX7_muted (Cond.code yX7_muted cX7_muted 5 (some .int) :: zb) rm_wp_X7_muted (va_Pc [.ref qp, .int x1, .int x2] (fun U => wpW E qp ql qs a_heard a_walked a_total a_longest a_next a_cover a_now a_then lf_huts lf_singers lf_villages lf_dams lf_echoes lf_deep lf_slide la_heights la_ladders la_minutes la_echoFrom la_echoTo la_homes la_talls la_known sf_facts sa_heard sa_huts sa_minutes U.heap ∧ zK E U)) (vp_Si post) 0 0 (fun _ => False) := by
  refine Met.ofW (cc := cX7_muted) (maxL := 5) (ret := (some .int)) (by decide) rfl ?_
  intro p e s m args below meth c s₁ B hml hv
  obtain ⟨rfl, hM, hK⟩ := hv
  have zc := zc_of B hml
  have hl := lv_entry ([.ref qp, .int x1, .int x2]) (n := 5) (Nat.le_of_ble_eq_true rfl)
  rw [lg_entry_eq]
  generalize (lg_sl ([.ref qp, .int x1, .int x2]) ++ List.replicate (5 - (lg_sl ([.ref qp, .int x1, .int x2])).length) Slot.unset).toArray = ls at hl ⊢
  have hl : lv_has ls 5 [(0, .ref qp), (1, .int x1), (2, .int x2)] := hl
  exact t_wp_X7_muted_0 zc hK hM (lv_sub hl [0, 1, 2] rfl) hw
-- wp_X7_worst_9
abbrev rm_wp_X7_worst_9 : Room := { frames := 3, cells := 0, slots := 0, locals := 71 }
def q_wp_X7_worst_9_56 (P8 : Int32 → Int32 → Int32 → Prop) (a_next : Nat → Int32) (lf_huts : Int32) (lf_dams : Int32) (x2 : Int32) (x3 : Int32) (x4 : Int32) (x5 : Int32) (post : Int32 → Prop) : Prop :=
  ∀ v_1 : Int32, v_1 = x5 + (1 : Int32) → (P8 x3 x4 v_1)
def q_wp_X7_worst_9_8 (a_next : Nat → Int32) (lf_huts : Int32) (lf_dams : Int32) (x2 : Int32) (x3 : Int32) (x4 : Int32) (x5 : Int32) (post : Int32 → Prop) : Prop :=
  ∀ P8 : Int32 → Int32 → Int32 → Prop, (∀ (x3 : Int32) (x4 : Int32) (x5 : Int32), ((lf_huts ≤ x5 → (post x3)) ∧ (¬ lf_huts ≤ x5 → ((x5 = x2 → (q_wp_X7_worst_9_56 P8 a_next lf_huts lf_dams x2 x3 x4 x5 post)) ∧ (¬ x5 = x2 → (q_wl_X2_isDam_0 lf_dams x5 (fun r_1 => (¬ r_1 = 0 → (q_wp_X7_worst_9_56 P8 a_next lf_huts lf_dams x2 x3 x4 x5 post)) ∧ (r_1 = 0 → (q_wp_X7_muted_0 a_next x2 x5 (fun r_2 => (r_2 ≤ x4 → (q_wp_X7_worst_9_56 P8 a_next lf_huts lf_dams x2 x3 x4 x5 post)) ∧ (¬ r_2 ≤ x4 → (q_wp_X7_muted_0 a_next x2 x5 (fun r_3 => q_wp_X7_worst_9_56 P8 a_next lf_huts lf_dams x2 x5 r_3 x5 post)))))))))))) → P8 x3 x4 x5) → P8 x3 x4 x5
def q_wp_X7_worst_9_0 (a_next : Nat → Int32) (lf_huts : Int32) (lf_dams : Int32) (x2 : Int32) (post : Int32 → Prop) : Prop :=
  q_wp_X7_worst_9_8 a_next lf_huts lf_dams x2 (-1 : Int32) (-1 : Int32) (0 : Int32) post
set_option maxRecDepth 20000 in
theorem t_wp_X7_worst_9_56 {p : Program} {l : Launch} {e : Env} {s : State} {m : MethodId} {args : Array Value} {below : List Frame} {meth : Method} {c : Code} {E : zE} {qp ql qs : Nat} {a_heard : Nat → Int32} {a_walked : Nat → Int32} {a_total : Nat → Int32} {a_longest : Nat → Int32} {a_next : Nat → Int32} {a_cover : Nat → Int32} {a_now : Nat → Int32} {a_then : Nat → Int32} {lf_huts : Int32} {lf_singers : Int32} {lf_villages : Int32} {lf_dams : Int32} {lf_echoes : Int32} {lf_deep : Int32} {lf_slide : Int32} {la_heights : Nat → Int32} {la_ladders : Nat → Int32} {la_minutes : Nat → Int32} {la_echoFrom : Nat → Int32} {la_echoTo : Nat → Int32} {la_homes : Nat → Int32} {la_talls : Nat → Int32} {la_known : Nat → Int32} {sf_facts : Int32} {sa_heard : Nat → Int32} {sa_huts : Nat → Int32} {sa_minutes : Nat → Int32} {P8 : Int32 → Int32 → Int32 → Prop} {post : Int32 → Prop} {x2 : Int32} {x3 : Int32} {x4 : Int32} {x5 : Int32} {ls : Array Slot}
    (zc : zC p s m args meth c cX7_worst 6 RX7 (some .int))
    (hK : zK E s)
    (hM : wpW E qp ql qs a_heard a_walked a_total a_longest a_next a_cover a_now a_then lf_huts lf_singers lf_villages lf_dams lf_echoes lf_deep lf_slide la_heights la_ladders la_minutes la_echoFrom la_echoTo la_homes la_talls la_known sf_facts sa_heard sa_huts sa_minutes s.heap)
    (hP8 : ∀ (x3 : Int32) (x4 : Int32) (x5 : Int32) (ls : Array Slot), P8 x3 x4 x5 → lv_has ls 6 [(0, .ref qp), (1, .ref ql), (2, .int x2), (3, .int x3), (4, .int x4), (5, .int x5)] → W p l e rm_wp_X7_worst_9 s m args below meth c s.heap [] 0 0 (MQ below (vp_Si post) args s 0 0 (fun _ => False)) (F0 m 8 ls []))
    (hl : lv_has ls 6 [(0, .ref qp), (1, .ref ql), (2, .int x2), (3, .int x3), (4, .int x4), (5, .int x5)])
    (hw : q_wp_X7_worst_9_56 P8 a_next lf_huts lf_dams x2 x3 x4 x5 post) :
    W p l e rm_wp_X7_worst_9 s m args below meth c s.heap [] 0 0 (MQ below (vp_Si post) args s 0 0 (fun _ => False)) (F0 m 56 ls []) := by
  have hx := zc.1
  have hb := zc.2.1
  obtain ⟨v_1, ev_1⟩ : ∃ y : Int32, y = x5 + (1 : Int32) := ⟨_, rfl⟩
  have hw := hw v_1 ev_1
  refine lv_iinc (v := v_1) (k := 5) (lv' := [(5, .int v_1), (0, .ref qp), (1, .ref ql), (2, .int x2), (3, .int x3), (4, .int x4)]) hx hb dX7_worst_56 hl rfl (by rw [ev_1]; rfl) (by decide) rfl (fun ls hl => ?_)
  refine lv_goto (tgt := 8) hx hb dX7_worst_59 (by decide) ?_
  exact hP8 _ _ _ _ hw (lv_sub hl [1, 2, 3, 4, 5, 0] rfl)
set_option maxRecDepth 20000 in
theorem t_wp_X7_worst_9_8 {p : Program} {l : Launch} {e : Env} {s : State} {m : MethodId} {args : Array Value} {below : List Frame} {meth : Method} {c : Code} {E : zE} {qp ql qs : Nat} {a_heard : Nat → Int32} {a_walked : Nat → Int32} {a_total : Nat → Int32} {a_longest : Nat → Int32} {a_next : Nat → Int32} {a_cover : Nat → Int32} {a_now : Nat → Int32} {a_then : Nat → Int32} {lf_huts : Int32} {lf_singers : Int32} {lf_villages : Int32} {lf_dams : Int32} {lf_echoes : Int32} {lf_deep : Int32} {lf_slide : Int32} {la_heights : Nat → Int32} {la_ladders : Nat → Int32} {la_minutes : Nat → Int32} {la_echoFrom : Nat → Int32} {la_echoTo : Nat → Int32} {la_homes : Nat → Int32} {la_talls : Nat → Int32} {la_known : Nat → Int32} {sf_facts : Int32} {sa_heard : Nat → Int32} {sa_huts : Nat → Int32} {sa_minutes : Nat → Int32} {post : Int32 → Prop} {x2 : Int32} {x3 : Int32} {x4 : Int32} {x5 : Int32} {ls : Array Slot}
    (zc : zC p s m args meth c cX7_worst 6 RX7 (some .int))
    (hK : zK E s)
    (hM : wpW E qp ql qs a_heard a_walked a_total a_longest a_next a_cover a_now a_then lf_huts lf_singers lf_villages lf_dams lf_echoes lf_deep lf_slide la_heights la_ladders la_minutes la_echoFrom la_echoTo la_homes la_talls la_known sf_facts sa_heard sa_huts sa_minutes s.heap)
    (hl : lv_has ls 6 [(0, .ref qp), (1, .ref ql), (2, .int x2), (3, .int x3), (4, .int x4), (5, .int x5)])
    (hw : q_wp_X7_worst_9_8 a_next lf_huts lf_dams x2 x3 x4 x5 post) :
    W p l e rm_wp_X7_worst_9 s m args below meth c s.heap [] 0 0 (MQ below (vp_Si post) args s 0 0 (fun _ => False)) (F0 m 8 ls []) := by
  have hx := zc.1
  have hb := zc.2.1
  refine hw (fun x3 x4 x5 => ∀ (ls : Array Slot), lv_has ls 6 [(0, .ref qp), (1, .ref ql), (2, .int x2), (3, .int x3), (4, .int x4), (5, .int x5)] → W p l e rm_wp_X7_worst_9 s m args below meth c s.heap [] 0 0 (MQ below (vp_Si post) args s 0 0 (fun _ => False)) (F0 m 8 ls [])) ?_ _ hl
  intro x3 x4 x5 hw ls hl
  refine lv_iload hx hb dX7_worst_8 (lv_at hl 5 rfl) ?_
  refine lv_aload_n hx hb dX7_worst_10 rfl (lv_at hl 1 rfl) ?_
  refine wpg_7_42_9 zc hK hM dX7_worst_11 ?_
  refine lv_icmp_ge (tgt := 62) hx hb dX7_worst_14 (by decide) (fun hc => ?_) (fun hc => ?_)
  · have hw := hw.1 hc
    refine lv_iload_n hx hb dX7_worst_62 rfl (lv_at hl 3 rfl) ?_
    exact zret_i zc hw dX7_worst_63
  · have hw := hw.2 hc
    refine lv_iload hx hb dX7_worst_17 (lv_at hl 5 rfl) ?_
    refine lv_iload_n hx hb dX7_worst_19 rfl (lv_at hl 2 rfl) ?_
    refine lv_icmp_eq (tgt := 56) hx hb dX7_worst_20 (by decide) (fun hc => ?_) (fun hc => ?_)
    · have hw := hw.1 hc
      exact t_wp_X7_worst_9_56 zc hK hM (fun _ _ _ ls h hl => h ls hl) (lv_sub hl [0, 1, 2, 3, 4, 5] rfl) hw
    · have hw := hw.2 hc
      refine lv_aload_n hx hb dX7_worst_23 rfl (lv_at hl 1 rfl) ?_
      refine lv_iload hx hb dX7_worst_24 (lv_at hl 5 rfl) ?_
      refine zV_i [.int x5] [] zc ky_X2_isDam kz_X2_isDam km_7_55 (c_wl_X2_isDam l hw) (wlPreV0 hK (pj_wp_wl_9 hM)) rfl rfl hl.1 (Nat.le_of_ble_eq_true rfl) ⟨rfl, rfl⟩ ⟨Nat.le_of_ble_eq_true rfl, Nat.le_of_ble_eq_true rfl⟩ ⟨(Nat.zero_le _), (Nat.zero_le _)⟩ dX7_worst_26 (fun r_1 hw => ?_)
      refine lv_if_ne (tgt := 56) hx hb dX7_worst_29 (by decide) (fun hc => ?_) (fun hc => ?_)
      · have hw := hw.1 hc
        exact t_wp_X7_worst_9_56 zc hK hM (fun _ _ _ ls h hl => h ls hl) (lv_sub hl [0, 1, 2, 3, 4, 5] rfl) hw
      · have hw := hw.2 hc
        refine lv_aload_n hx hb dX7_worst_32 rfl (lv_at hl 0 rfl) ?_
        refine lv_iload_n hx hb dX7_worst_33 rfl (lv_at hl 2 rfl) ?_
        refine lv_iload hx hb dX7_worst_34 (lv_at hl 5 rfl) ?_
        refine zV_i [.int x2, .int x5] [] zc ky_X7_muted kz_X7_muted km_7_131 (c_wp_X7_muted l hw) (wpPreV0 hK hM) rfl rfl hl.1 (Nat.le_of_ble_eq_true rfl) ⟨rfl, rfl⟩ ⟨Nat.le_of_ble_eq_true rfl, Nat.le_of_ble_eq_true rfl⟩ ⟨(Nat.zero_le _), (Nat.zero_le _)⟩ dX7_worst_36 (fun r_2 hw => ?_)
        refine lv_iload hx hb dX7_worst_39 (lv_at hl 4 rfl) ?_
        refine lv_icmp_le (tgt := 56) hx hb dX7_worst_41 (by decide) (fun hc => ?_) (fun hc => ?_)
        · have hw := hw.1 hc
          exact t_wp_X7_worst_9_56 zc hK hM (fun _ _ _ ls h hl => h ls hl) (lv_sub hl [0, 1, 2, 3, 4, 5] rfl) hw
        · have hw := hw.2 hc
          refine lv_iload hx hb dX7_worst_44 (lv_at hl 5 rfl) ?_
          refine lv_istore_n (lv' := [(3, .int x5), (0, .ref qp), (1, .ref ql), (2, .int x2), (4, .int x4), (5, .int x5)]) hx hb dX7_worst_46 rfl hl (by decide) rfl (fun ls hl => ?_)
          refine lv_aload_n hx hb dX7_worst_47 rfl (lv_at hl 1 rfl) ?_
          refine lv_iload_n hx hb dX7_worst_48 rfl (lv_at hl 3 rfl) ?_
          refine lv_iload hx hb dX7_worst_49 (lv_at hl 5 rfl) ?_
          refine zV_i [.int x2, .int x5] [] zc ky_X7_muted kz_X7_muted km_7_131 (c_wp_X7_muted l hw) (wpPreV0 hK hM) rfl rfl hl.1 (Nat.le_of_ble_eq_true rfl) ⟨rfl, rfl⟩ ⟨Nat.le_of_ble_eq_true rfl, Nat.le_of_ble_eq_true rfl⟩ ⟨(Nat.zero_le _), (Nat.zero_le _)⟩ dX7_worst_51 (fun r_3 hw => ?_)
          refine lv_istore (lv' := [(4, .int r_3), (3, .int x5), (0, .ref qp), (1, .ref ql), (2, .int x2), (5, .int x5)]) hx hb dX7_worst_54 hl (by decide) rfl (fun ls hl => ?_)
          exact t_wp_X7_worst_9_56 zc hK hM (fun _ _ _ ls h hl => h ls hl) (lv_sub hl [2, 3, 4, 1, 0, 5] rfl) hw
set_option maxRecDepth 20000 in
theorem t_wp_X7_worst_9_0 {p : Program} {l : Launch} {e : Env} {s : State} {m : MethodId} {args : Array Value} {below : List Frame} {meth : Method} {c : Code} {E : zE} {qp ql qs : Nat} {a_heard : Nat → Int32} {a_walked : Nat → Int32} {a_total : Nat → Int32} {a_longest : Nat → Int32} {a_next : Nat → Int32} {a_cover : Nat → Int32} {a_now : Nat → Int32} {a_then : Nat → Int32} {lf_huts : Int32} {lf_singers : Int32} {lf_villages : Int32} {lf_dams : Int32} {lf_echoes : Int32} {lf_deep : Int32} {lf_slide : Int32} {la_heights : Nat → Int32} {la_ladders : Nat → Int32} {la_minutes : Nat → Int32} {la_echoFrom : Nat → Int32} {la_echoTo : Nat → Int32} {la_homes : Nat → Int32} {la_talls : Nat → Int32} {la_known : Nat → Int32} {sf_facts : Int32} {sa_heard : Nat → Int32} {sa_huts : Nat → Int32} {sa_minutes : Nat → Int32} {post : Int32 → Prop} {x2 : Int32} {ls : Array Slot}
    (zc : zC p s m args meth c cX7_worst 6 RX7 (some .int))
    (hK : zK E s)
    (hM : wpW E qp ql qs a_heard a_walked a_total a_longest a_next a_cover a_now a_then lf_huts lf_singers lf_villages lf_dams lf_echoes lf_deep lf_slide la_heights la_ladders la_minutes la_echoFrom la_echoTo la_homes la_talls la_known sf_facts sa_heard sa_huts sa_minutes s.heap)
    (hl : lv_has ls 6 [(0, .ref qp), (1, .ref ql), (2, .int x2)])
    (hw : q_wp_X7_worst_9_0 a_next lf_huts lf_dams x2 post) :
    W p l e rm_wp_X7_worst_9 s m args below meth c s.heap [] 0 0 (MQ below (vp_Si post) args s 0 0 (fun _ => False)) (F0 m 0 ls []) := by
  have hx := zc.1
  have hb := zc.2.1
  refine lv_iconst (v := (-1 : Int32)) hx hb dX7_worst_0 (by decide) ?_
  refine lv_istore_n (lv' := [(3, .int (-1 : Int32)), (0, .ref qp), (1, .ref ql), (2, .int x2)]) hx hb dX7_worst_1 rfl hl (by decide) rfl (fun ls hl => ?_)
  refine lv_iconst (v := (-1 : Int32)) hx hb dX7_worst_2 (by decide) ?_
  refine lv_istore (lv' := [(4, .int (-1 : Int32)), (3, .int (-1 : Int32)), (0, .ref qp), (1, .ref ql), (2, .int x2)]) hx hb dX7_worst_3 hl (by decide) rfl (fun ls hl => ?_)
  refine lv_iconst (v := (0 : Int32)) hx hb dX7_worst_5 (by decide) ?_
  refine lv_istore (lv' := [(5, .int (0 : Int32)), (4, .int (-1 : Int32)), (3, .int (-1 : Int32)), (0, .ref qp), (1, .ref ql), (2, .int x2)]) hx hb dX7_worst_6 hl (by decide) rfl (fun ls hl => ?_)
  exact t_wp_X7_worst_9_8 zc hK hM  (lv_sub hl [3, 4, 5, 2, 1, 0] rfl) hw
set_option maxRecDepth 20000 in
theorem c_wp_X7_worst_9 (l : Launch) {E : zE} {qp ql qs : Nat} {a_heard : Nat → Int32} {a_walked : Nat → Int32} {a_total : Nat → Int32} {a_longest : Nat → Int32} {a_next : Nat → Int32} {a_cover : Nat → Int32} {a_now : Nat → Int32} {a_then : Nat → Int32} {lf_huts : Int32} {lf_singers : Int32} {lf_villages : Int32} {lf_dams : Int32} {lf_echoes : Int32} {lf_deep : Int32} {lf_slide : Int32} {la_heights : Nat → Int32} {la_ladders : Nat → Int32} {la_minutes : Nat → Int32} {la_echoFrom : Nat → Int32} {la_echoTo : Nat → Int32} {la_homes : Nat → Int32} {la_talls : Nat → Int32} {la_known : Nat → Int32} {sf_facts : Int32} {sa_heard : Nat → Int32} {sa_huts : Nat → Int32} {sa_minutes : Nat → Int32} {x2 : Int32} {post : Int32 → Prop} (hw : q_wp_X7_worst_9_0 a_next lf_huts lf_dams x2 post) : Met l yX7_worst (Cond.code yX7_worst cX7_worst 6 (some .int) :: zb) rm_wp_X7_worst_9 (va_Pc [.ref qp, .ref ql, .int x2] (fun U => wpW E qp ql qs a_heard a_walked a_total a_longest a_next a_cover a_now a_then lf_huts lf_singers lf_villages lf_dams lf_echoes lf_deep lf_slide la_heights la_ladders la_minutes la_echoFrom la_echoTo la_homes la_talls la_known sf_facts sa_heard sa_huts sa_minutes U.heap ∧ zK E U)) (vp_Si post) 0 0 (fun _ => False) := by
  refine Met.ofW (cc := cX7_worst) (maxL := 6) (ret := (some .int)) (by decide) rfl ?_
  intro p e s m args below meth c s₁ B hml hv
  obtain ⟨rfl, hM, hK⟩ := hv
  have zc := zc_of B hml
  have hl := lv_entry ([.ref qp, .ref ql, .int x2]) (n := 6) (Nat.le_of_ble_eq_true rfl)
  rw [lg_entry_eq]
  generalize (lg_sl ([.ref qp, .ref ql, .int x2]) ++ List.replicate (6 - (lg_sl ([.ref qp, .ref ql, .int x2])).length) Slot.unset).toArray = ls at hl ⊢
  have hl : lv_has ls 6 [(0, .ref qp), (1, .ref ql), (2, .int x2)] := hl
  exact t_wp_X7_worst_9_0 zc hK hM (lv_sub hl [0, 1, 2] rfl) hw
-- wp_X7_agrees_18
abbrev rm_wp_X7_agrees_18 : Room := { frames := 0, cells := 0, slots := 0, locals := 0 }
def q_wp_X7_agrees_18_59 (P2 : Int32 → Prop) (a_heard : Nat → Int32) (sf_facts : Int32) (sa_heard : Nat → Int32) (sa_huts : Nat → Int32) (sa_minutes : Nat → Int32) (x2 : Int32) (x3 : Int32) (y0 : Int32) (y1 : Int32) (post : Int32 → Prop) : Prop :=
  (y0 = y1 → (∀ v_1 : Int32, v_1 = x3 + (1 : Int32) → (P2 v_1))) ∧ (¬ y0 = y1 → (post (0 : Int32)))
def q_wp_X7_agrees_18_40 (P2 : Int32 → Prop) (a_heard : Nat → Int32) (sf_facts : Int32) (sa_heard : Nat → Int32) (sa_huts : Nat → Int32) (sa_minutes : Nat → Int32) (x2 : Int32) (x3 : Int32) (y0 : Int32) (post : Int32 → Prop) : Prop :=
  vp_in x3 10 ∧ ((¬ (sa_heard (Int32.toNatClampNeg x3)) = (1 : Int32) → (q_wp_X7_agrees_18_59 P2 a_heard sf_facts sa_heard sa_huts sa_minutes x2 x3 y0 (0 : Int32) post)) ∧ ((sa_heard (Int32.toNatClampNeg x3)) = (1 : Int32) → (q_wp_X7_agrees_18_59 P2 a_heard sf_facts sa_heard sa_huts sa_minutes x2 x3 y0 (1 : Int32) post)))
def q_wp_X7_agrees_18_2 (a_heard : Nat → Int32) (sf_facts : Int32) (sa_heard : Nat → Int32) (sa_huts : Nat → Int32) (sa_minutes : Nat → Int32) (x2 : Int32) (x3 : Int32) (post : Int32 → Prop) : Prop :=
  ∀ P2 : Int32 → Prop, (∀ (x3 : Int32), ((sf_facts ≤ x3 → (post (1 : Int32))) ∧ (¬ sf_facts ≤ x3 → (vp_in x3 10 ∧ (vp_in ((x2 * (9 : Int32)) + (sa_huts (Int32.toNatClampNeg x3))) 81 ∧ (vp_in x3 10 ∧ (((sa_minutes (Int32.toNatClampNeg x3)) < (a_heard (Int32.toNatClampNeg ((x2 * (9 : Int32)) + (sa_huts (Int32.toNatClampNeg x3))))) → (q_wp_X7_agrees_18_40 P2 a_heard sf_facts sa_heard sa_huts sa_minutes x2 x3 (0 : Int32) post)) ∧ (¬ (sa_minutes (Int32.toNatClampNeg x3)) < (a_heard (Int32.toNatClampNeg ((x2 * (9 : Int32)) + (sa_huts (Int32.toNatClampNeg x3))))) → (q_wp_X7_agrees_18_40 P2 a_heard sf_facts sa_heard sa_huts sa_minutes x2 x3 (1 : Int32) post)))))))) → P2 x3) → P2 x3
def q_wp_X7_agrees_18_0 (a_heard : Nat → Int32) (sf_facts : Int32) (sa_heard : Nat → Int32) (sa_huts : Nat → Int32) (sa_minutes : Nat → Int32) (x2 : Int32) (post : Int32 → Prop) : Prop :=
  q_wp_X7_agrees_18_2 a_heard sf_facts sa_heard sa_huts sa_minutes x2 (0 : Int32) post
set_option maxRecDepth 20000 in
theorem t_wp_X7_agrees_18_59 {p : Program} {l : Launch} {e : Env} {s : State} {m : MethodId} {args : Array Value} {below : List Frame} {meth : Method} {c : Code} {E : zE} {qp ql qs : Nat} {a_heard : Nat → Int32} {a_walked : Nat → Int32} {a_total : Nat → Int32} {a_longest : Nat → Int32} {a_next : Nat → Int32} {a_cover : Nat → Int32} {a_now : Nat → Int32} {a_then : Nat → Int32} {lf_huts : Int32} {lf_singers : Int32} {lf_villages : Int32} {lf_dams : Int32} {lf_echoes : Int32} {lf_deep : Int32} {lf_slide : Int32} {la_heights : Nat → Int32} {la_ladders : Nat → Int32} {la_minutes : Nat → Int32} {la_echoFrom : Nat → Int32} {la_echoTo : Nat → Int32} {la_homes : Nat → Int32} {la_talls : Nat → Int32} {la_known : Nat → Int32} {sf_facts : Int32} {sa_heard : Nat → Int32} {sa_huts : Nat → Int32} {sa_minutes : Nat → Int32} {P2 : Int32 → Prop} {post : Int32 → Prop} {x2 : Int32} {x3 : Int32} {y0 : Int32} {y1 : Int32} {ls : Array Slot}
    (zc : zC p s m args meth c cX7_agrees 5 RX7 (some .boolean))
    (hK : zK E s)
    (hM : wpW E qp ql qs a_heard a_walked a_total a_longest a_next a_cover a_now a_then lf_huts lf_singers lf_villages lf_dams lf_echoes lf_deep lf_slide la_heights la_ladders la_minutes la_echoFrom la_echoTo la_homes la_talls la_known sf_facts sa_heard sa_huts sa_minutes s.heap)
    (hP2 : ∀ (x3 : Int32) (ls : Array Slot), P2 x3 → lv_has ls 5 [(0, .ref qp), (1, .ref qs), (2, .int x2), (3, .int x3)] → W p l e rm_wp_X7_agrees_18 s m args below meth c s.heap [] 0 0 (MQ below (vp_Si post) args s 0 0 (fun _ => False)) (F0 m 2 ls []))
    (hl : lv_has ls 5 [(0, .ref qp), (1, .ref qs), (2, .int x2), (3, .int x3)])
    (hw : q_wp_X7_agrees_18_59 P2 a_heard sf_facts sa_heard sa_huts sa_minutes x2 x3 y0 y1 post) :
    W p l e rm_wp_X7_agrees_18 s m args below meth c s.heap [] 0 0 (MQ below (vp_Si post) args s 0 0 (fun _ => False)) (F0 m 59 ls [.int y1, .int y0]) := by
  have hx := zc.1
  have hb := zc.2.1
  refine lv_icmp_eq (tgt := 64) hx hb dX7_agrees_59 (by decide) (fun hc => ?_) (fun hc => ?_)
  · have hw := hw.1 hc
    obtain ⟨v_1, ev_1⟩ : ∃ y : Int32, y = x3 + (1 : Int32) := ⟨_, rfl⟩
    have hw := hw v_1 ev_1
    refine lv_iinc (v := v_1) (k := 3) (lv' := [(3, .int v_1), (0, .ref qp), (1, .ref qs), (2, .int x2)]) hx hb dX7_agrees_64 hl rfl (by rw [ev_1]; rfl) (by decide) rfl (fun ls hl => ?_)
    refine lv_goto (tgt := 2) hx hb dX7_agrees_67 (by decide) ?_
    exact hP2 _ _ hw (lv_sub hl [1, 2, 3, 0] rfl)
  · have hw := hw.2 hc
    refine lv_iconst (v := (0 : Int32)) hx hb dX7_agrees_62 (by decide) ?_
    exact zret_z zc rfl hw dX7_agrees_63
set_option maxRecDepth 20000 in
theorem t_wp_X7_agrees_18_40 {p : Program} {l : Launch} {e : Env} {s : State} {m : MethodId} {args : Array Value} {below : List Frame} {meth : Method} {c : Code} {E : zE} {qp ql qs : Nat} {a_heard : Nat → Int32} {a_walked : Nat → Int32} {a_total : Nat → Int32} {a_longest : Nat → Int32} {a_next : Nat → Int32} {a_cover : Nat → Int32} {a_now : Nat → Int32} {a_then : Nat → Int32} {lf_huts : Int32} {lf_singers : Int32} {lf_villages : Int32} {lf_dams : Int32} {lf_echoes : Int32} {lf_deep : Int32} {lf_slide : Int32} {la_heights : Nat → Int32} {la_ladders : Nat → Int32} {la_minutes : Nat → Int32} {la_echoFrom : Nat → Int32} {la_echoTo : Nat → Int32} {la_homes : Nat → Int32} {la_talls : Nat → Int32} {la_known : Nat → Int32} {sf_facts : Int32} {sa_heard : Nat → Int32} {sa_huts : Nat → Int32} {sa_minutes : Nat → Int32} {P2 : Int32 → Prop} {post : Int32 → Prop} {x2 : Int32} {x3 : Int32} {y0 : Int32} {ls : Array Slot}
    (zc : zC p s m args meth c cX7_agrees 5 RX7 (some .boolean))
    (hK : zK E s)
    (hM : wpW E qp ql qs a_heard a_walked a_total a_longest a_next a_cover a_now a_then lf_huts lf_singers lf_villages lf_dams lf_echoes lf_deep lf_slide la_heights la_ladders la_minutes la_echoFrom la_echoTo la_homes la_talls la_known sf_facts sa_heard sa_huts sa_minutes s.heap)
    (hP2 : ∀ (x3 : Int32) (ls : Array Slot), P2 x3 → lv_has ls 5 [(0, .ref qp), (1, .ref qs), (2, .int x2), (3, .int x3)] → W p l e rm_wp_X7_agrees_18 s m args below meth c s.heap [] 0 0 (MQ below (vp_Si post) args s 0 0 (fun _ => False)) (F0 m 2 ls []))
    (hl : lv_has ls 5 [(0, .ref qp), (1, .ref qs), (2, .int x2), (3, .int x3)])
    (hw : q_wp_X7_agrees_18_40 P2 a_heard sf_facts sa_heard sa_huts sa_minutes x2 x3 y0 post) :
    W p l e rm_wp_X7_agrees_18 s m args below meth c s.heap [] 0 0 (MQ below (vp_Si post) args s 0 0 (fun _ => False)) (F0 m 40 ls [.int y0]) := by
  have hx := zc.1
  have hb := zc.2.1
  refine lv_istore (lv' := [(4, .int y0), (0, .ref qp), (1, .ref qs), (2, .int x2), (3, .int x3)]) hx hb dX7_agrees_40 hl (by decide) rfl (fun ls hl => ?_)
  refine lv_iload hx hb dX7_agrees_42 (lv_at hl 0 rfl) ?_
  refine lv_aload_n hx hb dX7_agrees_44 rfl (lv_at hl 2 rfl) ?_
  refine wpg_7_146_18 zc hK hM dX7_agrees_45 ?_
  refine lv_iload_n hx hb dX7_agrees_48 rfl (lv_at hl 4 rfl) ?_
  refine wpld_19 zc hK hM hw.1 dX7_agrees_49 ?_
  have hw := hw.2
  refine lv_iconst (v := (1 : Int32)) hx hb dX7_agrees_50 (by decide) ?_
  refine lv_icmp_ne (tgt := 58) hx hb dX7_agrees_51 (by decide) (fun hc => ?_) (fun hc => ?_)
  · have hw := hw.1 hc
    refine lv_iconst (v := (0 : Int32)) hx hb dX7_agrees_58 (by decide) ?_
    exact t_wp_X7_agrees_18_59 zc hK hM hP2 (lv_sub hl [1, 2, 3, 4] rfl) hw
  · have hw := hw.2 hc
    refine lv_iconst (v := (1 : Int32)) hx hb dX7_agrees_54 (by decide) ?_
    refine lv_goto (tgt := 59) hx hb dX7_agrees_55 (by decide) ?_
    exact t_wp_X7_agrees_18_59 zc hK hM hP2 (lv_sub hl [1, 2, 3, 4] rfl) hw
set_option maxRecDepth 20000 in
theorem t_wp_X7_agrees_18_2 {p : Program} {l : Launch} {e : Env} {s : State} {m : MethodId} {args : Array Value} {below : List Frame} {meth : Method} {c : Code} {E : zE} {qp ql qs : Nat} {a_heard : Nat → Int32} {a_walked : Nat → Int32} {a_total : Nat → Int32} {a_longest : Nat → Int32} {a_next : Nat → Int32} {a_cover : Nat → Int32} {a_now : Nat → Int32} {a_then : Nat → Int32} {lf_huts : Int32} {lf_singers : Int32} {lf_villages : Int32} {lf_dams : Int32} {lf_echoes : Int32} {lf_deep : Int32} {lf_slide : Int32} {la_heights : Nat → Int32} {la_ladders : Nat → Int32} {la_minutes : Nat → Int32} {la_echoFrom : Nat → Int32} {la_echoTo : Nat → Int32} {la_homes : Nat → Int32} {la_talls : Nat → Int32} {la_known : Nat → Int32} {sf_facts : Int32} {sa_heard : Nat → Int32} {sa_huts : Nat → Int32} {sa_minutes : Nat → Int32} {post : Int32 → Prop} {x2 : Int32} {x3 : Int32} {ls : Array Slot}
    (zc : zC p s m args meth c cX7_agrees 5 RX7 (some .boolean))
    (hK : zK E s)
    (hM : wpW E qp ql qs a_heard a_walked a_total a_longest a_next a_cover a_now a_then lf_huts lf_singers lf_villages lf_dams lf_echoes lf_deep lf_slide la_heights la_ladders la_minutes la_echoFrom la_echoTo la_homes la_talls la_known sf_facts sa_heard sa_huts sa_minutes s.heap)
    (hl : lv_has ls 5 [(0, .ref qp), (1, .ref qs), (2, .int x2), (3, .int x3)])
    (hw : q_wp_X7_agrees_18_2 a_heard sf_facts sa_heard sa_huts sa_minutes x2 x3 post) :
    W p l e rm_wp_X7_agrees_18 s m args below meth c s.heap [] 0 0 (MQ below (vp_Si post) args s 0 0 (fun _ => False)) (F0 m 2 ls []) := by
  have hx := zc.1
  have hb := zc.2.1
  refine hw (fun x3 => ∀ (ls : Array Slot), lv_has ls 5 [(0, .ref qp), (1, .ref qs), (2, .int x2), (3, .int x3)] → W p l e rm_wp_X7_agrees_18 s m args below meth c s.heap [] 0 0 (MQ below (vp_Si post) args s 0 0 (fun _ => False)) (F0 m 2 ls [])) ?_ _ hl
  intro x3 hw ls hl
  refine lv_iload_n hx hb dX7_agrees_2 rfl (lv_at hl 3 rfl) ?_
  refine lv_aload_n hx hb dX7_agrees_3 rfl (lv_at hl 1 rfl) ?_
  refine wpg_7_138_18 zc hK hM dX7_agrees_4 ?_
  refine lv_icmp_ge (tgt := 70) hx hb dX7_agrees_7 (by decide) (fun hc => ?_) (fun hc => ?_)
  · have hw := hw.1 hc
    refine lv_iconst (v := (1 : Int32)) hx hb dX7_agrees_70 (by decide) ?_
    exact zret_z zc rfl hw dX7_agrees_71
  · have hw := hw.2 hc
    refine lv_aload_n hx hb dX7_agrees_10 rfl (lv_at hl 0 rfl) ?_
    refine wpg_7_9_0 zc hK hM dX7_agrees_11 ?_
    refine lv_iload_n hx hb dX7_agrees_14 rfl (lv_at hl 2 rfl) ?_
    refine lv_bipush (v := (9 : Int32)) hx hb dX7_agrees_15 (by decide) ?_
    refine lv_imul hx hb dX7_agrees_17 ?_
    refine lv_aload_n hx hb dX7_agrees_18 rfl (lv_at hl 1 rfl) ?_
    refine wpg_7_143_18 zc hK hM dX7_agrees_19 ?_
    refine lv_iload_n hx hb dX7_agrees_22 rfl (lv_at hl 3 rfl) ?_
    refine wpld_20 zc hK hM hw.1 dX7_agrees_23 ?_
    have hw := hw.2
    refine lv_iadd hx hb dX7_agrees_24 ?_
    refine wpld_1 zc hK hM hw.1 dX7_agrees_25 ?_
    have hw := hw.2
    refine lv_aload_n hx hb dX7_agrees_26 rfl (lv_at hl 1 rfl) ?_
    refine wpg_7_145_18 zc hK hM dX7_agrees_27 ?_
    refine lv_iload_n hx hb dX7_agrees_30 rfl (lv_at hl 3 rfl) ?_
    refine wpld_21 zc hK hM hw.1 dX7_agrees_31 ?_
    have hw := hw.2
    refine lv_icmp_gt (tgt := 39) hx hb dX7_agrees_32 (by decide) (fun hc => ?_) (fun hc => ?_)
    · have hw := hw.1 hc
      refine lv_iconst (v := (0 : Int32)) hx hb dX7_agrees_39 (by decide) ?_
      exact t_wp_X7_agrees_18_40 zc hK hM (fun _ ls h hl => h ls hl) (lv_sub hl [0, 1, 2, 3] rfl) hw
    · have hw := hw.2 hc
      refine lv_iconst (v := (1 : Int32)) hx hb dX7_agrees_35 (by decide) ?_
      refine lv_goto (tgt := 40) hx hb dX7_agrees_36 (by decide) ?_
      exact t_wp_X7_agrees_18_40 zc hK hM (fun _ ls h hl => h ls hl) (lv_sub hl [0, 1, 2, 3] rfl) hw
set_option maxRecDepth 20000 in
theorem t_wp_X7_agrees_18_0 {p : Program} {l : Launch} {e : Env} {s : State} {m : MethodId} {args : Array Value} {below : List Frame} {meth : Method} {c : Code} {E : zE} {qp ql qs : Nat} {a_heard : Nat → Int32} {a_walked : Nat → Int32} {a_total : Nat → Int32} {a_longest : Nat → Int32} {a_next : Nat → Int32} {a_cover : Nat → Int32} {a_now : Nat → Int32} {a_then : Nat → Int32} {lf_huts : Int32} {lf_singers : Int32} {lf_villages : Int32} {lf_dams : Int32} {lf_echoes : Int32} {lf_deep : Int32} {lf_slide : Int32} {la_heights : Nat → Int32} {la_ladders : Nat → Int32} {la_minutes : Nat → Int32} {la_echoFrom : Nat → Int32} {la_echoTo : Nat → Int32} {la_homes : Nat → Int32} {la_talls : Nat → Int32} {la_known : Nat → Int32} {sf_facts : Int32} {sa_heard : Nat → Int32} {sa_huts : Nat → Int32} {sa_minutes : Nat → Int32} {post : Int32 → Prop} {x2 : Int32} {ls : Array Slot}
    (zc : zC p s m args meth c cX7_agrees 5 RX7 (some .boolean))
    (hK : zK E s)
    (hM : wpW E qp ql qs a_heard a_walked a_total a_longest a_next a_cover a_now a_then lf_huts lf_singers lf_villages lf_dams lf_echoes lf_deep lf_slide la_heights la_ladders la_minutes la_echoFrom la_echoTo la_homes la_talls la_known sf_facts sa_heard sa_huts sa_minutes s.heap)
    (hl : lv_has ls 5 [(0, .ref qp), (1, .ref qs), (2, .int x2)])
    (hw : q_wp_X7_agrees_18_0 a_heard sf_facts sa_heard sa_huts sa_minutes x2 post) :
    W p l e rm_wp_X7_agrees_18 s m args below meth c s.heap [] 0 0 (MQ below (vp_Si post) args s 0 0 (fun _ => False)) (F0 m 0 ls []) := by
  have hx := zc.1
  have hb := zc.2.1
  refine lv_iconst (v := (0 : Int32)) hx hb dX7_agrees_0 (by decide) ?_
  refine lv_istore_n (lv' := [(3, .int (0 : Int32)), (0, .ref qp), (1, .ref qs), (2, .int x2)]) hx hb dX7_agrees_1 rfl hl (by decide) rfl (fun ls hl => ?_)
  exact t_wp_X7_agrees_18_2 zc hK hM  (lv_sub hl [1, 2, 3, 0] rfl) hw
set_option maxRecDepth 20000 in
theorem c_wp_X7_agrees_18 (l : Launch) {E : zE} {qp ql qs : Nat} {a_heard : Nat → Int32} {a_walked : Nat → Int32} {a_total : Nat → Int32} {a_longest : Nat → Int32} {a_next : Nat → Int32} {a_cover : Nat → Int32} {a_now : Nat → Int32} {a_then : Nat → Int32} {lf_huts : Int32} {lf_singers : Int32} {lf_villages : Int32} {lf_dams : Int32} {lf_echoes : Int32} {lf_deep : Int32} {lf_slide : Int32} {la_heights : Nat → Int32} {la_ladders : Nat → Int32} {la_minutes : Nat → Int32} {la_echoFrom : Nat → Int32} {la_echoTo : Nat → Int32} {la_homes : Nat → Int32} {la_talls : Nat → Int32} {la_known : Nat → Int32} {sf_facts : Int32} {sa_heard : Nat → Int32} {sa_huts : Nat → Int32} {sa_minutes : Nat → Int32} {x2 : Int32} {post : Int32 → Prop} (hw : q_wp_X7_agrees_18_0 a_heard sf_facts sa_heard sa_huts sa_minutes x2 post) : Met l yX7_agrees (Cond.code yX7_agrees cX7_agrees 5 (some .boolean) :: zb) rm_wp_X7_agrees_18 (va_Pc [.ref qp, .ref qs, .int x2] (fun U => wpW E qp ql qs a_heard a_walked a_total a_longest a_next a_cover a_now a_then lf_huts lf_singers lf_villages lf_dams lf_echoes lf_deep lf_slide la_heights la_ladders la_minutes la_echoFrom la_echoTo la_homes la_talls la_known sf_facts sa_heard sa_huts sa_minutes U.heap ∧ zK E U)) (vp_Si post) 0 0 (fun _ => False) := by
  refine Met.ofW (cc := cX7_agrees) (maxL := 5) (ret := (some .boolean)) (by decide) rfl ?_
  intro p e s m args below meth c s₁ B hml hv
  obtain ⟨rfl, hM, hK⟩ := hv
  have zc := zc_of B hml
  have hl := lv_entry ([.ref qp, .ref qs, .int x2]) (n := 5) (Nat.le_of_ble_eq_true rfl)
  rw [lg_entry_eq]
  generalize (lg_sl ([.ref qp, .ref qs, .int x2]) ++ List.replicate (5 - (lg_sl ([.ref qp, .ref qs, .int x2])).length) Slot.unset).toArray = ls at hl ⊢
  have hl : lv_has ls 5 [(0, .ref qp), (1, .ref qs), (2, .int x2)] := hl
  exact t_wp_X7_agrees_18_0 zc hK hM (lv_sub hl [0, 1, 2] rfl) hw
-- wp_X7_fitting_9_18
abbrev rm_wp_X7_fitting_9_18 : Room := { frames := 1, cells := 0, slots := 0, locals := 24 }
def q_wp_X7_fitting_9_18_40 (P5 : Int32 → Int32 → Prop) (a_heard : Nat → Int32) (lf_huts : Int32) (lf_dams : Int32) (sf_facts : Int32) (sa_heard : Nat → Int32) (sa_huts : Nat → Int32) (sa_minutes : Nat → Int32) (x3 : Int32) (x4 : Int32) (post : Int32 → Prop) : Prop :=
  ∀ v_1 : Int32, v_1 = x4 + (1 : Int32) → (P5 x3 v_1)
def q_wp_X7_fitting_9_18_5 (a_heard : Nat → Int32) (lf_huts : Int32) (lf_dams : Int32) (sf_facts : Int32) (sa_heard : Nat → Int32) (sa_huts : Nat → Int32) (sa_minutes : Nat → Int32) (x3 : Int32) (x4 : Int32) (post : Int32 → Prop) : Prop :=
  ∀ P5 : Int32 → Int32 → Prop, (∀ (x3 : Int32) (x4 : Int32), ((lf_huts ≤ x4 → (post x3)) ∧ (¬ lf_huts ≤ x4 → (q_wl_X2_isDam_0 lf_dams x4 (fun r_1 => (¬ r_1 = 0 → (q_wp_X7_fitting_9_18_40 P5 a_heard lf_huts lf_dams sf_facts sa_heard sa_huts sa_minutes x3 x4 post)) ∧ (r_1 = 0 → (q_wp_X7_agrees_18_0 a_heard sf_facts sa_heard sa_huts sa_minutes x4 (fun r_2 => (r_2 = 0 → (q_wp_X7_fitting_9_18_40 P5 a_heard lf_huts lf_dams sf_facts sa_heard sa_huts sa_minutes x3 x4 post)) ∧ (¬ r_2 = 0 → (∀ v_1 : Int32, v_1 = (x3 ||| ((1 : Int32) <<< (x4 &&& 31))) → (q_wp_X7_fitting_9_18_40 P5 a_heard lf_huts lf_dams sf_facts sa_heard sa_huts sa_minutes v_1 x4 post)))))))))) → P5 x3 x4) → P5 x3 x4
def q_wp_X7_fitting_9_18_0 (a_heard : Nat → Int32) (lf_huts : Int32) (lf_dams : Int32) (sf_facts : Int32) (sa_heard : Nat → Int32) (sa_huts : Nat → Int32) (sa_minutes : Nat → Int32) (post : Int32 → Prop) : Prop :=
  q_wp_X7_fitting_9_18_5 a_heard lf_huts lf_dams sf_facts sa_heard sa_huts sa_minutes (0 : Int32) (0 : Int32) post
set_option maxRecDepth 20000 in
theorem t_wp_X7_fitting_9_18_40 {p : Program} {l : Launch} {e : Env} {s : State} {m : MethodId} {args : Array Value} {below : List Frame} {meth : Method} {c : Code} {E : zE} {qp ql qs : Nat} {a_heard : Nat → Int32} {a_walked : Nat → Int32} {a_total : Nat → Int32} {a_longest : Nat → Int32} {a_next : Nat → Int32} {a_cover : Nat → Int32} {a_now : Nat → Int32} {a_then : Nat → Int32} {lf_huts : Int32} {lf_singers : Int32} {lf_villages : Int32} {lf_dams : Int32} {lf_echoes : Int32} {lf_deep : Int32} {lf_slide : Int32} {la_heights : Nat → Int32} {la_ladders : Nat → Int32} {la_minutes : Nat → Int32} {la_echoFrom : Nat → Int32} {la_echoTo : Nat → Int32} {la_homes : Nat → Int32} {la_talls : Nat → Int32} {la_known : Nat → Int32} {sf_facts : Int32} {sa_heard : Nat → Int32} {sa_huts : Nat → Int32} {sa_minutes : Nat → Int32} {P5 : Int32 → Int32 → Prop} {post : Int32 → Prop} {x3 : Int32} {x4 : Int32} {ls : Array Slot}
    (zc : zC p s m args meth c cX7_fitting 5 RX7 (some .int))
    (hK : zK E s)
    (hM : wpW E qp ql qs a_heard a_walked a_total a_longest a_next a_cover a_now a_then lf_huts lf_singers lf_villages lf_dams lf_echoes lf_deep lf_slide la_heights la_ladders la_minutes la_echoFrom la_echoTo la_homes la_talls la_known sf_facts sa_heard sa_huts sa_minutes s.heap)
    (hP5 : ∀ (x3 : Int32) (x4 : Int32) (ls : Array Slot), P5 x3 x4 → lv_has ls 5 [(0, .ref qp), (1, .ref ql), (2, .ref qs), (3, .int x3), (4, .int x4)] → W p l e rm_wp_X7_fitting_9_18 s m args below meth c s.heap [] 0 0 (MQ below (vp_Si post) args s 0 0 (fun _ => False)) (F0 m 5 ls []))
    (hl : lv_has ls 5 [(0, .ref qp), (1, .ref ql), (2, .ref qs), (3, .int x3), (4, .int x4)])
    (hw : q_wp_X7_fitting_9_18_40 P5 a_heard lf_huts lf_dams sf_facts sa_heard sa_huts sa_minutes x3 x4 post) :
    W p l e rm_wp_X7_fitting_9_18 s m args below meth c s.heap [] 0 0 (MQ below (vp_Si post) args s 0 0 (fun _ => False)) (F0 m 40 ls []) := by
  have hx := zc.1
  have hb := zc.2.1
  obtain ⟨v_1, ev_1⟩ : ∃ y : Int32, y = x4 + (1 : Int32) := ⟨_, rfl⟩
  have hw := hw v_1 ev_1
  refine lv_iinc (v := v_1) (k := 4) (lv' := [(4, .int v_1), (0, .ref qp), (1, .ref ql), (2, .ref qs), (3, .int x3)]) hx hb dX7_fitting_40 hl rfl (by rw [ev_1]; rfl) (by decide) rfl (fun ls hl => ?_)
  refine lv_goto (tgt := 5) hx hb dX7_fitting_43 (by decide) ?_
  exact hP5 _ _ _ hw (lv_sub hl [1, 2, 3, 4, 0] rfl)
set_option maxRecDepth 20000 in
theorem t_wp_X7_fitting_9_18_5 {p : Program} {l : Launch} {e : Env} {s : State} {m : MethodId} {args : Array Value} {below : List Frame} {meth : Method} {c : Code} {E : zE} {qp ql qs : Nat} {a_heard : Nat → Int32} {a_walked : Nat → Int32} {a_total : Nat → Int32} {a_longest : Nat → Int32} {a_next : Nat → Int32} {a_cover : Nat → Int32} {a_now : Nat → Int32} {a_then : Nat → Int32} {lf_huts : Int32} {lf_singers : Int32} {lf_villages : Int32} {lf_dams : Int32} {lf_echoes : Int32} {lf_deep : Int32} {lf_slide : Int32} {la_heights : Nat → Int32} {la_ladders : Nat → Int32} {la_minutes : Nat → Int32} {la_echoFrom : Nat → Int32} {la_echoTo : Nat → Int32} {la_homes : Nat → Int32} {la_talls : Nat → Int32} {la_known : Nat → Int32} {sf_facts : Int32} {sa_heard : Nat → Int32} {sa_huts : Nat → Int32} {sa_minutes : Nat → Int32} {post : Int32 → Prop} {x3 : Int32} {x4 : Int32} {ls : Array Slot}
    (zc : zC p s m args meth c cX7_fitting 5 RX7 (some .int))
    (hK : zK E s)
    (hM : wpW E qp ql qs a_heard a_walked a_total a_longest a_next a_cover a_now a_then lf_huts lf_singers lf_villages lf_dams lf_echoes lf_deep lf_slide la_heights la_ladders la_minutes la_echoFrom la_echoTo la_homes la_talls la_known sf_facts sa_heard sa_huts sa_minutes s.heap)
    (hl : lv_has ls 5 [(0, .ref qp), (1, .ref ql), (2, .ref qs), (3, .int x3), (4, .int x4)])
    (hw : q_wp_X7_fitting_9_18_5 a_heard lf_huts lf_dams sf_facts sa_heard sa_huts sa_minutes x3 x4 post) :
    W p l e rm_wp_X7_fitting_9_18 s m args below meth c s.heap [] 0 0 (MQ below (vp_Si post) args s 0 0 (fun _ => False)) (F0 m 5 ls []) := by
  have hx := zc.1
  have hb := zc.2.1
  refine hw (fun x3 x4 => ∀ (ls : Array Slot), lv_has ls 5 [(0, .ref qp), (1, .ref ql), (2, .ref qs), (3, .int x3), (4, .int x4)] → W p l e rm_wp_X7_fitting_9_18 s m args below meth c s.heap [] 0 0 (MQ below (vp_Si post) args s 0 0 (fun _ => False)) (F0 m 5 ls [])) ?_ _ hl
  intro x3 x4 hw ls hl
  refine lv_iload hx hb dX7_fitting_5 (lv_at hl 4 rfl) ?_
  refine lv_aload_n hx hb dX7_fitting_7 rfl (lv_at hl 1 rfl) ?_
  refine wpg_7_42_9 zc hK hM dX7_fitting_8 ?_
  refine lv_icmp_ge (tgt := 46) hx hb dX7_fitting_11 (by decide) (fun hc => ?_) (fun hc => ?_)
  · have hw := hw.1 hc
    refine lv_iload_n hx hb dX7_fitting_46 rfl (lv_at hl 3 rfl) ?_
    exact zret_i zc hw dX7_fitting_47
  · have hw := hw.2 hc
    refine lv_aload_n hx hb dX7_fitting_14 rfl (lv_at hl 1 rfl) ?_
    refine lv_iload hx hb dX7_fitting_15 (lv_at hl 4 rfl) ?_
    refine zV_i [.int x4] [] zc ky_X2_isDam kz_X2_isDam km_7_55 (c_wl_X2_isDam l hw) (wlPreV0 hK (pj_wp_wl_9 hM)) rfl rfl hl.1 (Nat.le_of_ble_eq_true rfl) ⟨rfl, rfl⟩ ⟨Nat.le_of_ble_eq_true rfl, Nat.le_of_ble_eq_true rfl⟩ ⟨(Nat.zero_le _), (Nat.zero_le _)⟩ dX7_fitting_17 (fun r_1 hw => ?_)
    refine lv_if_ne (tgt := 40) hx hb dX7_fitting_20 (by decide) (fun hc => ?_) (fun hc => ?_)
    · have hw := hw.1 hc
      exact t_wp_X7_fitting_9_18_40 zc hK hM (fun _ _ ls h hl => h ls hl) (lv_sub hl [0, 1, 2, 3, 4] rfl) hw
    · have hw := hw.2 hc
      refine lv_aload_n hx hb dX7_fitting_23 rfl (lv_at hl 0 rfl) ?_
      refine lv_aload_n hx hb dX7_fitting_24 rfl (lv_at hl 2 rfl) ?_
      refine lv_iload hx hb dX7_fitting_25 (lv_at hl 4 rfl) ?_
      refine zV_i [.ref qs, .int x4] [] zc ky_X7_agrees kz_X7_agrees km_7_134 (c_wp_X7_agrees_18 l hw) (wpPreV0 hK hM) rfl rfl hl.1 (Nat.le_of_ble_eq_true rfl) ⟨rfl, rfl⟩ ⟨Nat.le_of_ble_eq_true rfl, Nat.le_of_ble_eq_true rfl⟩ ⟨(Nat.zero_le _), (Nat.zero_le _)⟩ dX7_fitting_27 (fun r_2 hw => ?_)
      refine lv_if_eq (tgt := 40) hx hb dX7_fitting_30 (by decide) (fun hc => ?_) (fun hc => ?_)
      · have hw := hw.1 hc
        exact t_wp_X7_fitting_9_18_40 zc hK hM (fun _ _ ls h hl => h ls hl) (lv_sub hl [0, 1, 2, 3, 4] rfl) hw
      · have hw := hw.2 hc
        refine lv_iload_n hx hb dX7_fitting_33 rfl (lv_at hl 3 rfl) ?_
        refine lv_iconst (v := (1 : Int32)) hx hb dX7_fitting_34 (by decide) ?_
        refine lv_iload hx hb dX7_fitting_35 (lv_at hl 4 rfl) ?_
        refine lv_ishl hx hb dX7_fitting_37 ?_
        refine lv_ior hx hb dX7_fitting_38 ?_
        refine lv_topi (fun v_1 ev_1 => ?_)
        have hw := hw v_1 ev_1
        refine lv_istore_n (lv' := [(3, .int v_1), (0, .ref qp), (1, .ref ql), (2, .ref qs), (4, .int x4)]) hx hb dX7_fitting_39 rfl hl (by decide) rfl (fun ls hl => ?_)
        exact t_wp_X7_fitting_9_18_40 zc hK hM (fun _ _ ls h hl => h ls hl) (lv_sub hl [1, 2, 3, 0, 4] rfl) hw
set_option maxRecDepth 20000 in
theorem t_wp_X7_fitting_9_18_0 {p : Program} {l : Launch} {e : Env} {s : State} {m : MethodId} {args : Array Value} {below : List Frame} {meth : Method} {c : Code} {E : zE} {qp ql qs : Nat} {a_heard : Nat → Int32} {a_walked : Nat → Int32} {a_total : Nat → Int32} {a_longest : Nat → Int32} {a_next : Nat → Int32} {a_cover : Nat → Int32} {a_now : Nat → Int32} {a_then : Nat → Int32} {lf_huts : Int32} {lf_singers : Int32} {lf_villages : Int32} {lf_dams : Int32} {lf_echoes : Int32} {lf_deep : Int32} {lf_slide : Int32} {la_heights : Nat → Int32} {la_ladders : Nat → Int32} {la_minutes : Nat → Int32} {la_echoFrom : Nat → Int32} {la_echoTo : Nat → Int32} {la_homes : Nat → Int32} {la_talls : Nat → Int32} {la_known : Nat → Int32} {sf_facts : Int32} {sa_heard : Nat → Int32} {sa_huts : Nat → Int32} {sa_minutes : Nat → Int32} {post : Int32 → Prop} {ls : Array Slot}
    (zc : zC p s m args meth c cX7_fitting 5 RX7 (some .int))
    (hK : zK E s)
    (hM : wpW E qp ql qs a_heard a_walked a_total a_longest a_next a_cover a_now a_then lf_huts lf_singers lf_villages lf_dams lf_echoes lf_deep lf_slide la_heights la_ladders la_minutes la_echoFrom la_echoTo la_homes la_talls la_known sf_facts sa_heard sa_huts sa_minutes s.heap)
    (hl : lv_has ls 5 [(0, .ref qp), (1, .ref ql), (2, .ref qs)])
    (hw : q_wp_X7_fitting_9_18_0 a_heard lf_huts lf_dams sf_facts sa_heard sa_huts sa_minutes post) :
    W p l e rm_wp_X7_fitting_9_18 s m args below meth c s.heap [] 0 0 (MQ below (vp_Si post) args s 0 0 (fun _ => False)) (F0 m 0 ls []) := by
  have hx := zc.1
  have hb := zc.2.1
  refine lv_iconst (v := (0 : Int32)) hx hb dX7_fitting_0 (by decide) ?_
  refine lv_istore_n (lv' := [(3, .int (0 : Int32)), (0, .ref qp), (1, .ref ql), (2, .ref qs)]) hx hb dX7_fitting_1 rfl hl (by decide) rfl (fun ls hl => ?_)
  refine lv_iconst (v := (0 : Int32)) hx hb dX7_fitting_2 (by decide) ?_
  refine lv_istore (lv' := [(4, .int (0 : Int32)), (3, .int (0 : Int32)), (0, .ref qp), (1, .ref ql), (2, .ref qs)]) hx hb dX7_fitting_3 hl (by decide) rfl (fun ls hl => ?_)
  exact t_wp_X7_fitting_9_18_5 zc hK hM  (lv_sub hl [2, 3, 4, 1, 0] rfl) hw
set_option maxRecDepth 20000 in
theorem c_wp_X7_fitting_9_18 (l : Launch) {E : zE} {qp ql qs : Nat} {a_heard : Nat → Int32} {a_walked : Nat → Int32} {a_total : Nat → Int32} {a_longest : Nat → Int32} {a_next : Nat → Int32} {a_cover : Nat → Int32} {a_now : Nat → Int32} {a_then : Nat → Int32} {lf_huts : Int32} {lf_singers : Int32} {lf_villages : Int32} {lf_dams : Int32} {lf_echoes : Int32} {lf_deep : Int32} {lf_slide : Int32} {la_heights : Nat → Int32} {la_ladders : Nat → Int32} {la_minutes : Nat → Int32} {la_echoFrom : Nat → Int32} {la_echoTo : Nat → Int32} {la_homes : Nat → Int32} {la_talls : Nat → Int32} {la_known : Nat → Int32} {sf_facts : Int32} {sa_heard : Nat → Int32} {sa_huts : Nat → Int32} {sa_minutes : Nat → Int32} {post : Int32 → Prop} (hw : q_wp_X7_fitting_9_18_0 a_heard lf_huts lf_dams sf_facts sa_heard sa_huts sa_minutes post) : Met l yX7_fitting (Cond.code yX7_fitting cX7_fitting 5 (some .int) :: zb) rm_wp_X7_fitting_9_18 (va_Pc [.ref qp, .ref ql, .ref qs] (fun U => wpW E qp ql qs a_heard a_walked a_total a_longest a_next a_cover a_now a_then lf_huts lf_singers lf_villages lf_dams lf_echoes lf_deep lf_slide la_heights la_ladders la_minutes la_echoFrom la_echoTo la_homes la_talls la_known sf_facts sa_heard sa_huts sa_minutes U.heap ∧ zK E U)) (vp_Si post) 0 0 (fun _ => False) := by
  refine Met.ofW (cc := cX7_fitting) (maxL := 5) (ret := (some .int)) (by decide) rfl ?_
  intro p e s m args below meth c s₁ B hml hv
  obtain ⟨rfl, hM, hK⟩ := hv
  have zc := zc_of B hml
  have hl := lv_entry ([.ref qp, .ref ql, .ref qs]) (n := 5) (Nat.le_of_ble_eq_true rfl)
  rw [lg_entry_eq]
  generalize (lg_sl ([.ref qp, .ref ql, .ref qs]) ++ List.replicate (5 - (lg_sl ([.ref qp, .ref ql, .ref qs])).length) Slot.unset).toArray = ls at hl ⊢
  have hl : lv_has ls 5 [(0, .ref qp), (1, .ref ql), (2, .ref qs)] := hl
  exact t_wp_X7_fitting_9_18_0 zc hK hM (lv_sub hl [0, 1, 2] rfl) hw
-- wp_X7_fromBy_9
abbrev rm_wp_X7_fromBy_9 : Room := { frames := 0, cells := 0, slots := 0, locals := 0 }
def q_wp_X7_fromBy_9_40 (P6 : Int32 → Int32 → Prop) (a_heard : Nat → Int32) (lf_huts : Int32) (x2 : Int32) (x3 : Int32) (x4 : Int32) (x5 : Int32) (post : Int32 → Prop) : Prop :=
  ∀ v_1 : Int32, v_1 = x5 + (1 : Int32) → (P6 x4 v_1)
def q_wp_X7_fromBy_9_6 (a_heard : Nat → Int32) (lf_huts : Int32) (x2 : Int32) (x3 : Int32) (x4 : Int32) (x5 : Int32) (post : Int32 → Prop) : Prop :=
  ∀ P6 : Int32 → Int32 → Prop, (∀ (x4 : Int32) (x5 : Int32), ((lf_huts ≤ x5 → (post x4)) ∧ (¬ lf_huts ≤ x5 → (vp_in ((x5 * (9 : Int32)) + x2) 81 ∧ ((x3 < (a_heard (Int32.toNatClampNeg ((x5 * (9 : Int32)) + x2))) → (q_wp_X7_fromBy_9_40 P6 a_heard lf_huts x2 x3 x4 x5 post)) ∧ (¬ x3 < (a_heard (Int32.toNatClampNeg ((x5 * (9 : Int32)) + x2))) → (∀ v_1 : Int32, v_1 = (x4 ||| ((1 : Int32) <<< (x5 &&& 31))) → (q_wp_X7_fromBy_9_40 P6 a_heard lf_huts x2 x3 v_1 x5 post))))))) → P6 x4 x5) → P6 x4 x5
def q_wp_X7_fromBy_9_0 (a_heard : Nat → Int32) (lf_huts : Int32) (x2 : Int32) (x3 : Int32) (post : Int32 → Prop) : Prop :=
  q_wp_X7_fromBy_9_6 a_heard lf_huts x2 x3 (0 : Int32) (0 : Int32) post
set_option maxRecDepth 20000 in
theorem t_wp_X7_fromBy_9_40 {p : Program} {l : Launch} {e : Env} {s : State} {m : MethodId} {args : Array Value} {below : List Frame} {meth : Method} {c : Code} {E : zE} {qp ql qs : Nat} {a_heard : Nat → Int32} {a_walked : Nat → Int32} {a_total : Nat → Int32} {a_longest : Nat → Int32} {a_next : Nat → Int32} {a_cover : Nat → Int32} {a_now : Nat → Int32} {a_then : Nat → Int32} {lf_huts : Int32} {lf_singers : Int32} {lf_villages : Int32} {lf_dams : Int32} {lf_echoes : Int32} {lf_deep : Int32} {lf_slide : Int32} {la_heights : Nat → Int32} {la_ladders : Nat → Int32} {la_minutes : Nat → Int32} {la_echoFrom : Nat → Int32} {la_echoTo : Nat → Int32} {la_homes : Nat → Int32} {la_talls : Nat → Int32} {la_known : Nat → Int32} {sf_facts : Int32} {sa_heard : Nat → Int32} {sa_huts : Nat → Int32} {sa_minutes : Nat → Int32} {P6 : Int32 → Int32 → Prop} {post : Int32 → Prop} {x2 : Int32} {x3 : Int32} {x4 : Int32} {x5 : Int32} {ls : Array Slot}
    (zc : zC p s m args meth c cX7_fromBy 6 RX7 (some .int))
    (hK : zK E s)
    (hM : wpW E qp ql qs a_heard a_walked a_total a_longest a_next a_cover a_now a_then lf_huts lf_singers lf_villages lf_dams lf_echoes lf_deep lf_slide la_heights la_ladders la_minutes la_echoFrom la_echoTo la_homes la_talls la_known sf_facts sa_heard sa_huts sa_minutes s.heap)
    (hP6 : ∀ (x4 : Int32) (x5 : Int32) (ls : Array Slot), P6 x4 x5 → lv_has ls 6 [(0, .ref qp), (1, .ref ql), (2, .int x2), (3, .int x3), (4, .int x4), (5, .int x5)] → W p l e rm_wp_X7_fromBy_9 s m args below meth c s.heap [] 0 0 (MQ below (vp_Si post) args s 0 0 (fun _ => False)) (F0 m 6 ls []))
    (hl : lv_has ls 6 [(0, .ref qp), (1, .ref ql), (2, .int x2), (3, .int x3), (4, .int x4), (5, .int x5)])
    (hw : q_wp_X7_fromBy_9_40 P6 a_heard lf_huts x2 x3 x4 x5 post) :
    W p l e rm_wp_X7_fromBy_9 s m args below meth c s.heap [] 0 0 (MQ below (vp_Si post) args s 0 0 (fun _ => False)) (F0 m 40 ls []) := by
  have hx := zc.1
  have hb := zc.2.1
  obtain ⟨v_1, ev_1⟩ : ∃ y : Int32, y = x5 + (1 : Int32) := ⟨_, rfl⟩
  have hw := hw v_1 ev_1
  refine lv_iinc (v := v_1) (k := 5) (lv' := [(5, .int v_1), (0, .ref qp), (1, .ref ql), (2, .int x2), (3, .int x3), (4, .int x4)]) hx hb dX7_fromBy_40 hl rfl (by rw [ev_1]; rfl) (by decide) rfl (fun ls hl => ?_)
  refine lv_goto (tgt := 6) hx hb dX7_fromBy_43 (by decide) ?_
  exact hP6 _ _ _ hw (lv_sub hl [1, 2, 3, 4, 5, 0] rfl)
set_option maxRecDepth 20000 in
theorem t_wp_X7_fromBy_9_6 {p : Program} {l : Launch} {e : Env} {s : State} {m : MethodId} {args : Array Value} {below : List Frame} {meth : Method} {c : Code} {E : zE} {qp ql qs : Nat} {a_heard : Nat → Int32} {a_walked : Nat → Int32} {a_total : Nat → Int32} {a_longest : Nat → Int32} {a_next : Nat → Int32} {a_cover : Nat → Int32} {a_now : Nat → Int32} {a_then : Nat → Int32} {lf_huts : Int32} {lf_singers : Int32} {lf_villages : Int32} {lf_dams : Int32} {lf_echoes : Int32} {lf_deep : Int32} {lf_slide : Int32} {la_heights : Nat → Int32} {la_ladders : Nat → Int32} {la_minutes : Nat → Int32} {la_echoFrom : Nat → Int32} {la_echoTo : Nat → Int32} {la_homes : Nat → Int32} {la_talls : Nat → Int32} {la_known : Nat → Int32} {sf_facts : Int32} {sa_heard : Nat → Int32} {sa_huts : Nat → Int32} {sa_minutes : Nat → Int32} {post : Int32 → Prop} {x2 : Int32} {x3 : Int32} {x4 : Int32} {x5 : Int32} {ls : Array Slot}
    (zc : zC p s m args meth c cX7_fromBy 6 RX7 (some .int))
    (hK : zK E s)
    (hM : wpW E qp ql qs a_heard a_walked a_total a_longest a_next a_cover a_now a_then lf_huts lf_singers lf_villages lf_dams lf_echoes lf_deep lf_slide la_heights la_ladders la_minutes la_echoFrom la_echoTo la_homes la_talls la_known sf_facts sa_heard sa_huts sa_minutes s.heap)
    (hl : lv_has ls 6 [(0, .ref qp), (1, .ref ql), (2, .int x2), (3, .int x3), (4, .int x4), (5, .int x5)])
    (hw : q_wp_X7_fromBy_9_6 a_heard lf_huts x2 x3 x4 x5 post) :
    W p l e rm_wp_X7_fromBy_9 s m args below meth c s.heap [] 0 0 (MQ below (vp_Si post) args s 0 0 (fun _ => False)) (F0 m 6 ls []) := by
  have hx := zc.1
  have hb := zc.2.1
  refine hw (fun x4 x5 => ∀ (ls : Array Slot), lv_has ls 6 [(0, .ref qp), (1, .ref ql), (2, .int x2), (3, .int x3), (4, .int x4), (5, .int x5)] → W p l e rm_wp_X7_fromBy_9 s m args below meth c s.heap [] 0 0 (MQ below (vp_Si post) args s 0 0 (fun _ => False)) (F0 m 6 ls [])) ?_ _ hl
  intro x4 x5 hw ls hl
  refine lv_iload hx hb dX7_fromBy_6 (lv_at hl 5 rfl) ?_
  refine lv_aload_n hx hb dX7_fromBy_8 rfl (lv_at hl 1 rfl) ?_
  refine wpg_7_42_9 zc hK hM dX7_fromBy_9 ?_
  refine lv_icmp_ge (tgt := 46) hx hb dX7_fromBy_12 (by decide) (fun hc => ?_) (fun hc => ?_)
  · have hw := hw.1 hc
    refine lv_iload hx hb dX7_fromBy_46 (lv_at hl 4 rfl) ?_
    exact zret_i zc hw dX7_fromBy_48
  · have hw := hw.2 hc
    refine lv_aload_n hx hb dX7_fromBy_15 rfl (lv_at hl 0 rfl) ?_
    refine wpg_7_9_0 zc hK hM dX7_fromBy_16 ?_
    refine lv_iload hx hb dX7_fromBy_19 (lv_at hl 5 rfl) ?_
    refine lv_bipush (v := (9 : Int32)) hx hb dX7_fromBy_21 (by decide) ?_
    refine lv_imul hx hb dX7_fromBy_23 ?_
    refine lv_iload_n hx hb dX7_fromBy_24 rfl (lv_at hl 2 rfl) ?_
    refine lv_iadd hx hb dX7_fromBy_25 ?_
    refine wpld_1 zc hK hM hw.1 dX7_fromBy_26 ?_
    have hw := hw.2
    refine lv_iload_n hx hb dX7_fromBy_27 rfl (lv_at hl 3 rfl) ?_
    refine lv_icmp_gt (tgt := 40) hx hb dX7_fromBy_28 (by decide) (fun hc => ?_) (fun hc => ?_)
    · have hw := hw.1 hc
      exact t_wp_X7_fromBy_9_40 zc hK hM (fun _ _ ls h hl => h ls hl) (lv_sub hl [0, 1, 2, 3, 4, 5] rfl) hw
    · have hw := hw.2 hc
      refine lv_iload hx hb dX7_fromBy_31 (lv_at hl 4 rfl) ?_
      refine lv_iconst (v := (1 : Int32)) hx hb dX7_fromBy_33 (by decide) ?_
      refine lv_iload hx hb dX7_fromBy_34 (lv_at hl 5 rfl) ?_
      refine lv_ishl hx hb dX7_fromBy_36 ?_
      refine lv_ior hx hb dX7_fromBy_37 ?_
      refine lv_topi (fun v_1 ev_1 => ?_)
      have hw := hw v_1 ev_1
      refine lv_istore (lv' := [(4, .int v_1), (0, .ref qp), (1, .ref ql), (2, .int x2), (3, .int x3), (5, .int x5)]) hx hb dX7_fromBy_38 hl (by decide) rfl (fun ls hl => ?_)
      exact t_wp_X7_fromBy_9_40 zc hK hM (fun _ _ ls h hl => h ls hl) (lv_sub hl [1, 2, 3, 4, 0, 5] rfl) hw
set_option maxRecDepth 20000 in
theorem t_wp_X7_fromBy_9_0 {p : Program} {l : Launch} {e : Env} {s : State} {m : MethodId} {args : Array Value} {below : List Frame} {meth : Method} {c : Code} {E : zE} {qp ql qs : Nat} {a_heard : Nat → Int32} {a_walked : Nat → Int32} {a_total : Nat → Int32} {a_longest : Nat → Int32} {a_next : Nat → Int32} {a_cover : Nat → Int32} {a_now : Nat → Int32} {a_then : Nat → Int32} {lf_huts : Int32} {lf_singers : Int32} {lf_villages : Int32} {lf_dams : Int32} {lf_echoes : Int32} {lf_deep : Int32} {lf_slide : Int32} {la_heights : Nat → Int32} {la_ladders : Nat → Int32} {la_minutes : Nat → Int32} {la_echoFrom : Nat → Int32} {la_echoTo : Nat → Int32} {la_homes : Nat → Int32} {la_talls : Nat → Int32} {la_known : Nat → Int32} {sf_facts : Int32} {sa_heard : Nat → Int32} {sa_huts : Nat → Int32} {sa_minutes : Nat → Int32} {post : Int32 → Prop} {x2 : Int32} {x3 : Int32} {ls : Array Slot}
    (zc : zC p s m args meth c cX7_fromBy 6 RX7 (some .int))
    (hK : zK E s)
    (hM : wpW E qp ql qs a_heard a_walked a_total a_longest a_next a_cover a_now a_then lf_huts lf_singers lf_villages lf_dams lf_echoes lf_deep lf_slide la_heights la_ladders la_minutes la_echoFrom la_echoTo la_homes la_talls la_known sf_facts sa_heard sa_huts sa_minutes s.heap)
    (hl : lv_has ls 6 [(0, .ref qp), (1, .ref ql), (2, .int x2), (3, .int x3)])
    (hw : q_wp_X7_fromBy_9_0 a_heard lf_huts x2 x3 post) :
    W p l e rm_wp_X7_fromBy_9 s m args below meth c s.heap [] 0 0 (MQ below (vp_Si post) args s 0 0 (fun _ => False)) (F0 m 0 ls []) := by
  have hx := zc.1
  have hb := zc.2.1
  refine lv_iconst (v := (0 : Int32)) hx hb dX7_fromBy_0 (by decide) ?_
  refine lv_istore (lv' := [(4, .int (0 : Int32)), (0, .ref qp), (1, .ref ql), (2, .int x2), (3, .int x3)]) hx hb dX7_fromBy_1 hl (by decide) rfl (fun ls hl => ?_)
  refine lv_iconst (v := (0 : Int32)) hx hb dX7_fromBy_3 (by decide) ?_
  refine lv_istore (lv' := [(5, .int (0 : Int32)), (4, .int (0 : Int32)), (0, .ref qp), (1, .ref ql), (2, .int x2), (3, .int x3)]) hx hb dX7_fromBy_4 hl (by decide) rfl (fun ls hl => ?_)
  exact t_wp_X7_fromBy_9_6 zc hK hM  (lv_sub hl [2, 3, 4, 5, 1, 0] rfl) hw
set_option maxRecDepth 20000 in
theorem c_wp_X7_fromBy_9 (l : Launch) {E : zE} {qp ql qs : Nat} {a_heard : Nat → Int32} {a_walked : Nat → Int32} {a_total : Nat → Int32} {a_longest : Nat → Int32} {a_next : Nat → Int32} {a_cover : Nat → Int32} {a_now : Nat → Int32} {a_then : Nat → Int32} {lf_huts : Int32} {lf_singers : Int32} {lf_villages : Int32} {lf_dams : Int32} {lf_echoes : Int32} {lf_deep : Int32} {lf_slide : Int32} {la_heights : Nat → Int32} {la_ladders : Nat → Int32} {la_minutes : Nat → Int32} {la_echoFrom : Nat → Int32} {la_echoTo : Nat → Int32} {la_homes : Nat → Int32} {la_talls : Nat → Int32} {la_known : Nat → Int32} {sf_facts : Int32} {sa_heard : Nat → Int32} {sa_huts : Nat → Int32} {sa_minutes : Nat → Int32} {x2 : Int32} {x3 : Int32} {post : Int32 → Prop} (hw : q_wp_X7_fromBy_9_0 a_heard lf_huts x2 x3 post) : Met l yX7_fromBy (Cond.code yX7_fromBy cX7_fromBy 6 (some .int) :: zb) rm_wp_X7_fromBy_9 (va_Pc [.ref qp, .ref ql, .int x2, .int x3] (fun U => wpW E qp ql qs a_heard a_walked a_total a_longest a_next a_cover a_now a_then lf_huts lf_singers lf_villages lf_dams lf_echoes lf_deep lf_slide la_heights la_ladders la_minutes la_echoFrom la_echoTo la_homes la_talls la_known sf_facts sa_heard sa_huts sa_minutes U.heap ∧ zK E U)) (vp_Si post) 0 0 (fun _ => False) := by
  refine Met.ofW (cc := cX7_fromBy) (maxL := 6) (ret := (some .int)) (by decide) rfl ?_
  intro p e s m args below meth c s₁ B hml hv
  obtain ⟨rfl, hM, hK⟩ := hv
  have zc := zc_of B hml
  have hl := lv_entry ([.ref qp, .ref ql, .int x2, .int x3]) (n := 6) (Nat.le_of_ble_eq_true rfl)
  rw [lg_entry_eq]
  generalize (lg_sl ([.ref qp, .ref ql, .int x2, .int x3]) ++ List.replicate (6 - (lg_sl ([.ref qp, .ref ql, .int x2, .int x3])).length) Slot.unset).toArray = ls at hl ⊢
  have hl : lv_has ls 6 [(0, .ref qp), (1, .ref ql), (2, .int x2), (3, .int x3)] := hl
  exact t_wp_X7_fromBy_9_0 zc hK hM (lv_sub hl [0, 1, 2, 3] rfl) hw
-- wp_X7_greaterPart_9
abbrev rm_wp_X7_greaterPart_9 : Room := { frames := 1, cells := 0, slots := 0, locals := 40 }
def q_wp_X7_greaterPart_9_0 (a_heard : Nat → Int32) (lf_huts : Int32) (x2 : Int32) (x3 : Int32) (x4 : Int32) (post : Int32 → Prop) : Prop :=
  q_wp_X7_fromBy_9_0 a_heard lf_huts x3 x4 (fun r_1 => q_z_J6_bitCount_0f7a4_0 (x2 &&& r_1) (fun r_2 => q_z_J6_bitCount_0f7a4_0 x2 (fun r_3 => post (if r_2 < (r_3 - r_2) then (r_3 - r_2) else r_2))))
set_option maxRecDepth 20000 in
theorem t_wp_X7_greaterPart_9_0 {p : Program} {l : Launch} {e : Env} {s : State} {m : MethodId} {args : Array Value} {below : List Frame} {meth : Method} {c : Code} {E : zE} {qp ql qs : Nat} {a_heard : Nat → Int32} {a_walked : Nat → Int32} {a_total : Nat → Int32} {a_longest : Nat → Int32} {a_next : Nat → Int32} {a_cover : Nat → Int32} {a_now : Nat → Int32} {a_then : Nat → Int32} {lf_huts : Int32} {lf_singers : Int32} {lf_villages : Int32} {lf_dams : Int32} {lf_echoes : Int32} {lf_deep : Int32} {lf_slide : Int32} {la_heights : Nat → Int32} {la_ladders : Nat → Int32} {la_minutes : Nat → Int32} {la_echoFrom : Nat → Int32} {la_echoTo : Nat → Int32} {la_homes : Nat → Int32} {la_talls : Nat → Int32} {la_known : Nat → Int32} {sf_facts : Int32} {sa_heard : Nat → Int32} {sa_huts : Nat → Int32} {sa_minutes : Nat → Int32} {post : Int32 → Prop} {x2 : Int32} {x3 : Int32} {x4 : Int32} {ls : Array Slot}
    (zc : zC p s m args meth c cX7_greaterPart 6 RX7 (some .int))
    (hK : zK E s)
    (hM : wpW E qp ql qs a_heard a_walked a_total a_longest a_next a_cover a_now a_then lf_huts lf_singers lf_villages lf_dams lf_echoes lf_deep lf_slide la_heights la_ladders la_minutes la_echoFrom la_echoTo la_homes la_talls la_known sf_facts sa_heard sa_huts sa_minutes s.heap)
    (hl : lv_has ls 6 [(0, .ref qp), (1, .ref ql), (2, .int x2), (3, .int x3), (4, .int x4)])
    (hw : q_wp_X7_greaterPart_9_0 a_heard lf_huts x2 x3 x4 post) :
    W p l e rm_wp_X7_greaterPart_9 s m args below meth c s.heap [] 0 0 (MQ below (vp_Si post) args s 0 0 (fun _ => False)) (F0 m 0 ls []) := by
  have hx := zc.1
  have hb := zc.2.1
  refine lv_iload_n hx hb dX7_greaterPart_0 rfl (lv_at hl 2 rfl) ?_
  refine lv_aload_n hx hb dX7_greaterPart_1 rfl (lv_at hl 0 rfl) ?_
  refine lv_aload_n hx hb dX7_greaterPart_2 rfl (lv_at hl 1 rfl) ?_
  refine lv_iload_n hx hb dX7_greaterPart_3 rfl (lv_at hl 3 rfl) ?_
  refine lv_iload hx hb dX7_greaterPart_4 (lv_at hl 4 rfl) ?_
  refine zV_i [.ref ql, .int x3, .int x4] [.int x2] zc ky_X7_fromBy kz_X7_fromBy km_7_151 (c_wp_X7_fromBy_9 l hw) (wpPreV0 hK hM) rfl rfl hl.1 (Nat.le_of_ble_eq_true rfl) ⟨rfl, rfl⟩ ⟨Nat.le_of_ble_eq_true rfl, Nat.le_of_ble_eq_true rfl⟩ ⟨(Nat.zero_le _), (Nat.zero_le _)⟩ dX7_greaterPart_6 (fun r_1 hw => ?_)
  refine lv_iand hx hb dX7_greaterPart_9 ?_
  refine zS_i [.int (x2 &&& r_1)] [] zc ky_J6_bitCount_0f7a4 kz_J6_bitCount_0f7a4 km_7_97 (c_z_J6_bitCount_0f7a4 l hw) (zPre0 _) rfl rfl hl.1 (Nat.le_of_ble_eq_true rfl) ⟨rfl, rfl⟩ ⟨Nat.le_of_ble_eq_true rfl, Nat.le_of_ble_eq_true rfl⟩ ⟨(Nat.zero_le _), (Nat.zero_le _)⟩ dX7_greaterPart_10 (fun r_2 hw => ?_)
  refine lv_istore (lv' := [(5, .int r_2), (0, .ref qp), (1, .ref ql), (2, .int x2), (3, .int x3), (4, .int x4)]) hx hb dX7_greaterPart_13 hl (by decide) rfl (fun ls hl => ?_)
  refine lv_iload hx hb dX7_greaterPart_15 (lv_at hl 0 rfl) ?_
  refine lv_iload_n hx hb dX7_greaterPart_17 rfl (lv_at hl 3 rfl) ?_
  refine zS_i [.int x2] [.int r_2] zc ky_J6_bitCount_0f7a4 kz_J6_bitCount_0f7a4 km_7_97 (c_z_J6_bitCount_0f7a4 l hw) (zPre0 _) rfl rfl hl.1 (Nat.le_of_ble_eq_true rfl) ⟨rfl, rfl⟩ ⟨Nat.le_of_ble_eq_true rfl, Nat.le_of_ble_eq_true rfl⟩ ⟨(Nat.zero_le _), (Nat.zero_le _)⟩ dX7_greaterPart_18 (fun r_3 hw => ?_)
  refine lv_iload hx hb dX7_greaterPart_21 (lv_at hl 0 rfl) ?_
  refine lv_isub hx hb dX7_greaterPart_23 ?_
  refine va_mmax hx hb (zc.2.2.1.trans hl.1.symm) zc.2.2.2.1 (zc.2.2.2.2.1 _ km_7_76) (zc.2.2.2.2.1 _ k_mmaxs) (zc.2.2.2.2.1 _ k_mini) (zc.2.2.2.2.1 _ k_mmaxc) (Nat.le_of_ble_eq_true rfl) (Nat.le_of_ble_eq_true rfl) (Nat.zero_le _) (Nat.zero_le _) dX7_greaterPart_24 ?_
  exact zret_i zc hw dX7_greaterPart_27
set_option maxRecDepth 20000 in
theorem c_wp_X7_greaterPart_9 (l : Launch) {E : zE} {qp ql qs : Nat} {a_heard : Nat → Int32} {a_walked : Nat → Int32} {a_total : Nat → Int32} {a_longest : Nat → Int32} {a_next : Nat → Int32} {a_cover : Nat → Int32} {a_now : Nat → Int32} {a_then : Nat → Int32} {lf_huts : Int32} {lf_singers : Int32} {lf_villages : Int32} {lf_dams : Int32} {lf_echoes : Int32} {lf_deep : Int32} {lf_slide : Int32} {la_heights : Nat → Int32} {la_ladders : Nat → Int32} {la_minutes : Nat → Int32} {la_echoFrom : Nat → Int32} {la_echoTo : Nat → Int32} {la_homes : Nat → Int32} {la_talls : Nat → Int32} {la_known : Nat → Int32} {sf_facts : Int32} {sa_heard : Nat → Int32} {sa_huts : Nat → Int32} {sa_minutes : Nat → Int32} {x2 : Int32} {x3 : Int32} {x4 : Int32} {post : Int32 → Prop} (hw : q_wp_X7_greaterPart_9_0 a_heard lf_huts x2 x3 x4 post) : Met l yX7_greaterPart (Cond.code yX7_greaterPart cX7_greaterPart 6 (some .int) :: zb) rm_wp_X7_greaterPart_9 (va_Pc [.ref qp, .ref ql, .int x2, .int x3, .int x4] (fun U => wpW E qp ql qs a_heard a_walked a_total a_longest a_next a_cover a_now a_then lf_huts lf_singers lf_villages lf_dams lf_echoes lf_deep lf_slide la_heights la_ladders la_minutes la_echoFrom la_echoTo la_homes la_talls la_known sf_facts sa_heard sa_huts sa_minutes U.heap ∧ zK E U)) (vp_Si post) 0 0 (fun _ => False) := by
  refine Met.ofW (cc := cX7_greaterPart) (maxL := 6) (ret := (some .int)) (by decide) rfl ?_
  intro p e s m args below meth c s₁ B hml hv
  obtain ⟨rfl, hM, hK⟩ := hv
  have zc := zc_of B hml
  have hl := lv_entry ([.ref qp, .ref ql, .int x2, .int x3, .int x4]) (n := 6) (Nat.le_of_ble_eq_true rfl)
  rw [lg_entry_eq]
  generalize (lg_sl ([.ref qp, .ref ql, .int x2, .int x3, .int x4]) ++ List.replicate (6 - (lg_sl ([.ref qp, .ref ql, .int x2, .int x3, .int x4])).length) Slot.unset).toArray = ls at hl ⊢
  have hl : lv_has ls 6 [(0, .ref qp), (1, .ref ql), (2, .int x2), (3, .int x3), (4, .int x4)] := hl
  exact t_wp_X7_greaterPart_9_0 zc hK hM (lv_sub hl [0, 1, 2, 3, 4] rfl) hw
-- wp_X7_question_9
abbrev rm_wp_X7_question_9 : Room := { frames := 2, cells := 0, slots := 0, locals := 65 }
def q_wp_X7_question_9_67 (P16 : Int32 → Int32 → Int32 → Prop) (P26 : Int32 → Int32 → Int32 → Prop) (a_heard : Nat → Int32) (lf_huts : Int32) (x2 : Int32) (x3 : Int32) (x4 : Int32) (x5 : Int32) (x6 : Int32) (post : Int32 → Prop) : Prop :=
  ∀ v_1 : Int32, v_1 = x6 + (1 : Int32) → (P26 x3 x4 v_1)
def q_wp_X7_question_9_26 (P16 : Int32 → Int32 → Int32 → Prop) (a_heard : Nat → Int32) (lf_huts : Int32) (x2 : Int32) (x3 : Int32) (x4 : Int32) (x5 : Int32) (x6 : Int32) (post : Int32 → Prop) : Prop :=
  ∀ P26 : Int32 → Int32 → Int32 → Prop, (∀ (x3 : Int32) (x4 : Int32) (x6 : Int32), ((lf_huts ≤ x6 → (∀ v_1 : Int32, v_1 = x5 + (1 : Int32) → (P16 x3 x4 v_1))) ∧ (¬ lf_huts ≤ x6 → (q_wp_X7_greaterPart_9_0 a_heard lf_huts x2 x6 x5 (fun r_1 => (x4 ≤ r_1 → (q_wp_X7_question_9_67 P16 P26 a_heard lf_huts x2 x3 x4 x5 x6 post)) ∧ (¬ x4 ≤ r_1 → (∀ v_2 : Int32, v_2 = (((10 : Int32) * x5) + x6) → (q_wp_X7_question_9_67 P16 P26 a_heard lf_huts x2 v_2 r_1 x5 x6 post))))))) → P26 x3 x4 x6) → P26 x3 x4 x6
def q_wp_X7_question_9_16 (a_heard : Nat → Int32) (lf_huts : Int32) (x2 : Int32) (x3 : Int32) (x4 : Int32) (x5 : Int32) (post : Int32 → Prop) : Prop :=
  ∀ P16 : Int32 → Int32 → Int32 → Prop, (∀ (x3 : Int32) (x4 : Int32) (x5 : Int32), (((60 : Int32) < x5 → (post x3)) ∧ (¬ (60 : Int32) < x5 → (q_wp_X7_question_9_26 P16 a_heard lf_huts x2 x3 x4 x5 (0 : Int32) post))) → P16 x3 x4 x5) → P16 x3 x4 x5
def q_wp_X7_question_9_0 (a_heard : Nat → Int32) (lf_huts : Int32) (x2 : Int32) (post : Int32 → Prop) : Prop :=
  (¬ x2 = 0 → (q_wp_X7_question_9_16 a_heard lf_huts x2 (-1 : Int32) (1000 : Int32) (0 : Int32) post)) ∧ (x2 = 0 → (post (-1 : Int32)))
set_option maxRecDepth 20000 in
theorem t_wp_X7_question_9_67 {p : Program} {l : Launch} {e : Env} {s : State} {m : MethodId} {args : Array Value} {below : List Frame} {meth : Method} {c : Code} {E : zE} {qp ql qs : Nat} {a_heard : Nat → Int32} {a_walked : Nat → Int32} {a_total : Nat → Int32} {a_longest : Nat → Int32} {a_next : Nat → Int32} {a_cover : Nat → Int32} {a_now : Nat → Int32} {a_then : Nat → Int32} {lf_huts : Int32} {lf_singers : Int32} {lf_villages : Int32} {lf_dams : Int32} {lf_echoes : Int32} {lf_deep : Int32} {lf_slide : Int32} {la_heights : Nat → Int32} {la_ladders : Nat → Int32} {la_minutes : Nat → Int32} {la_echoFrom : Nat → Int32} {la_echoTo : Nat → Int32} {la_homes : Nat → Int32} {la_talls : Nat → Int32} {la_known : Nat → Int32} {sf_facts : Int32} {sa_heard : Nat → Int32} {sa_huts : Nat → Int32} {sa_minutes : Nat → Int32} {P16 : Int32 → Int32 → Int32 → Prop} {P26 : Int32 → Int32 → Int32 → Prop} {post : Int32 → Prop} {x2 : Int32} {x3 : Int32} {x4 : Int32} {x5 : Int32} {x6 : Int32} {ls : Array Slot}
    (zc : zC p s m args meth c cX7_question 8 RX7 (some .int))
    (hK : zK E s)
    (hM : wpW E qp ql qs a_heard a_walked a_total a_longest a_next a_cover a_now a_then lf_huts lf_singers lf_villages lf_dams lf_echoes lf_deep lf_slide la_heights la_ladders la_minutes la_echoFrom la_echoTo la_homes la_talls la_known sf_facts sa_heard sa_huts sa_minutes s.heap)
    (hP16 : ∀ (x3 : Int32) (x4 : Int32) (x5 : Int32) (ls : Array Slot), P16 x3 x4 x5 → lv_has ls 8 [(0, .ref qp), (1, .ref ql), (2, .int x2), (3, .int x3), (4, .int x4), (5, .int x5)] → W p l e rm_wp_X7_question_9 s m args below meth c s.heap [] 0 0 (MQ below (vp_Si post) args s 0 0 (fun _ => False)) (F0 m 16 ls []))
    (hP26 : ∀ (x3 : Int32) (x4 : Int32) (x6 : Int32) (ls : Array Slot), P26 x3 x4 x6 → lv_has ls 8 [(0, .ref qp), (1, .ref ql), (2, .int x2), (3, .int x3), (4, .int x4), (5, .int x5), (6, .int x6)] → W p l e rm_wp_X7_question_9 s m args below meth c s.heap [] 0 0 (MQ below (vp_Si post) args s 0 0 (fun _ => False)) (F0 m 26 ls []))
    (hl : lv_has ls 8 [(0, .ref qp), (1, .ref ql), (2, .int x2), (3, .int x3), (4, .int x4), (5, .int x5), (6, .int x6)])
    (hw : q_wp_X7_question_9_67 P16 P26 a_heard lf_huts x2 x3 x4 x5 x6 post) :
    W p l e rm_wp_X7_question_9 s m args below meth c s.heap [] 0 0 (MQ below (vp_Si post) args s 0 0 (fun _ => False)) (F0 m 67 ls []) := by
  have hx := zc.1
  have hb := zc.2.1
  obtain ⟨v_1, ev_1⟩ : ∃ y : Int32, y = x6 + (1 : Int32) := ⟨_, rfl⟩
  have hw := hw v_1 ev_1
  refine lv_iinc (v := v_1) (k := 6) (lv' := [(6, .int v_1), (0, .ref qp), (1, .ref ql), (2, .int x2), (3, .int x3), (4, .int x4), (5, .int x5)]) hx hb dX7_question_67 hl rfl (by rw [ev_1]; rfl) (by decide) rfl (fun ls hl => ?_)
  refine lv_goto (tgt := 26) hx hb dX7_question_70 (by decide) ?_
  exact hP26 _ _ _ _ hw (lv_sub hl [1, 2, 3, 4, 5, 6, 0] rfl)
set_option maxRecDepth 20000 in
theorem t_wp_X7_question_9_26 {p : Program} {l : Launch} {e : Env} {s : State} {m : MethodId} {args : Array Value} {below : List Frame} {meth : Method} {c : Code} {E : zE} {qp ql qs : Nat} {a_heard : Nat → Int32} {a_walked : Nat → Int32} {a_total : Nat → Int32} {a_longest : Nat → Int32} {a_next : Nat → Int32} {a_cover : Nat → Int32} {a_now : Nat → Int32} {a_then : Nat → Int32} {lf_huts : Int32} {lf_singers : Int32} {lf_villages : Int32} {lf_dams : Int32} {lf_echoes : Int32} {lf_deep : Int32} {lf_slide : Int32} {la_heights : Nat → Int32} {la_ladders : Nat → Int32} {la_minutes : Nat → Int32} {la_echoFrom : Nat → Int32} {la_echoTo : Nat → Int32} {la_homes : Nat → Int32} {la_talls : Nat → Int32} {la_known : Nat → Int32} {sf_facts : Int32} {sa_heard : Nat → Int32} {sa_huts : Nat → Int32} {sa_minutes : Nat → Int32} {P16 : Int32 → Int32 → Int32 → Prop} {post : Int32 → Prop} {x2 : Int32} {x3 : Int32} {x4 : Int32} {x5 : Int32} {x6 : Int32} {ls : Array Slot}
    (zc : zC p s m args meth c cX7_question 8 RX7 (some .int))
    (hK : zK E s)
    (hM : wpW E qp ql qs a_heard a_walked a_total a_longest a_next a_cover a_now a_then lf_huts lf_singers lf_villages lf_dams lf_echoes lf_deep lf_slide la_heights la_ladders la_minutes la_echoFrom la_echoTo la_homes la_talls la_known sf_facts sa_heard sa_huts sa_minutes s.heap)
    (hP16 : ∀ (x3 : Int32) (x4 : Int32) (x5 : Int32) (ls : Array Slot), P16 x3 x4 x5 → lv_has ls 8 [(0, .ref qp), (1, .ref ql), (2, .int x2), (3, .int x3), (4, .int x4), (5, .int x5)] → W p l e rm_wp_X7_question_9 s m args below meth c s.heap [] 0 0 (MQ below (vp_Si post) args s 0 0 (fun _ => False)) (F0 m 16 ls []))
    (hl : lv_has ls 8 [(0, .ref qp), (1, .ref ql), (2, .int x2), (3, .int x3), (4, .int x4), (5, .int x5), (6, .int x6)])
    (hw : q_wp_X7_question_9_26 P16 a_heard lf_huts x2 x3 x4 x5 x6 post) :
    W p l e rm_wp_X7_question_9 s m args below meth c s.heap [] 0 0 (MQ below (vp_Si post) args s 0 0 (fun _ => False)) (F0 m 26 ls []) := by
  have hx := zc.1
  have hb := zc.2.1
  refine hw (fun x3 x4 x6 => ∀ (ls : Array Slot), lv_has ls 8 [(0, .ref qp), (1, .ref ql), (2, .int x2), (3, .int x3), (4, .int x4), (5, .int x5), (6, .int x6)] → W p l e rm_wp_X7_question_9 s m args below meth c s.heap [] 0 0 (MQ below (vp_Si post) args s 0 0 (fun _ => False)) (F0 m 26 ls [])) ?_ _ hl
  intro x3 x4 x6 hw ls hl
  refine lv_iload hx hb dX7_question_26 (lv_at hl 6 rfl) ?_
  refine lv_aload_n hx hb dX7_question_28 rfl (lv_at hl 1 rfl) ?_
  refine wpg_7_42_9 zc hK hM dX7_question_29 ?_
  refine lv_icmp_ge (tgt := 73) hx hb dX7_question_32 (by decide) (fun hc => ?_) (fun hc => ?_)
  · have hw := hw.1 hc
    obtain ⟨v_1, ev_1⟩ : ∃ y : Int32, y = x5 + (1 : Int32) := ⟨_, rfl⟩
    have hw := hw v_1 ev_1
    refine lv_iinc (v := v_1) (k := 5) (lv' := [(5, .int v_1), (0, .ref qp), (1, .ref ql), (2, .int x2), (3, .int x3), (4, .int x4), (6, .int x6)]) hx hb dX7_question_73 hl rfl (by rw [ev_1]; rfl) (by decide) rfl (fun ls hl => ?_)
    refine lv_goto (tgt := 16) hx hb dX7_question_76 (by decide) ?_
    exact hP16 _ _ _ _ hw (lv_sub hl [1, 2, 3, 4, 5, 0] rfl)
  · have hw := hw.2 hc
    refine lv_aload_n hx hb dX7_question_35 rfl (lv_at hl 0 rfl) ?_
    refine lv_aload_n hx hb dX7_question_36 rfl (lv_at hl 1 rfl) ?_
    refine lv_iload_n hx hb dX7_question_37 rfl (lv_at hl 2 rfl) ?_
    refine lv_iload hx hb dX7_question_38 (lv_at hl 6 rfl) ?_
    refine lv_iload hx hb dX7_question_40 (lv_at hl 5 rfl) ?_
    refine zV_i [.ref ql, .int x2, .int x6, .int x5] [] zc ky_X7_greaterPart kz_X7_greaterPart km_7_147 (c_wp_X7_greaterPart_9 l hw) (wpPreV0 hK hM) rfl rfl hl.1 (Nat.le_of_ble_eq_true rfl) ⟨rfl, rfl⟩ ⟨Nat.le_of_ble_eq_true rfl, Nat.le_of_ble_eq_true rfl⟩ ⟨(Nat.zero_le _), (Nat.zero_le _)⟩ dX7_question_42 (fun r_1 hw => ?_)
    refine lv_istore (lv' := [(7, .int r_1), (0, .ref qp), (1, .ref ql), (2, .int x2), (3, .int x3), (4, .int x4), (5, .int x5), (6, .int x6)]) hx hb dX7_question_45 hl (by decide) rfl (fun ls hl => ?_)
    refine lv_iload hx hb dX7_question_47 (lv_at hl 0 rfl) ?_
    refine lv_iload hx hb dX7_question_49 (lv_at hl 5 rfl) ?_
    refine lv_icmp_ge (tgt := 67) hx hb dX7_question_51 (by decide) (fun hc => ?_) (fun hc => ?_)
    · have hw := hw.1 hc
      exact t_wp_X7_question_9_67 zc hK hM hP16 (fun _ _ _ ls h hl => h ls hl) (lv_sub hl [1, 2, 3, 4, 5, 6, 7] rfl) hw
    · have hw := hw.2 hc
      refine lv_bipush (v := (10 : Int32)) hx hb dX7_question_54 (by decide) ?_
      refine lv_iload hx hb dX7_question_56 (lv_at hl 6 rfl) ?_
      refine lv_imul hx hb dX7_question_58 ?_
      refine lv_iload hx hb dX7_question_59 (lv_at hl 7 rfl) ?_
      refine lv_iadd hx hb dX7_question_61 ?_
      refine lv_topi (fun v_2 ev_2 => ?_)
      have hw := hw v_2 ev_2
      refine lv_istore_n (lv' := [(3, .int v_2), (7, .int r_1), (0, .ref qp), (1, .ref ql), (2, .int x2), (4, .int x4), (5, .int x5), (6, .int x6)]) hx hb dX7_question_62 rfl hl (by decide) rfl (fun ls hl => ?_)
      refine lv_iload hx hb dX7_question_63 (lv_at hl 1 rfl) ?_
      refine lv_istore (lv' := [(4, .int r_1), (3, .int v_2), (7, .int r_1), (0, .ref qp), (1, .ref ql), (2, .int x2), (5, .int x5), (6, .int x6)]) hx hb dX7_question_65 hl (by decide) rfl (fun ls hl => ?_)
      exact t_wp_X7_question_9_67 zc hK hM hP16 (fun _ _ _ ls h hl => h ls hl) (lv_sub hl [3, 4, 5, 1, 0, 6, 7] rfl) hw
set_option maxRecDepth 20000 in
theorem t_wp_X7_question_9_16 {p : Program} {l : Launch} {e : Env} {s : State} {m : MethodId} {args : Array Value} {below : List Frame} {meth : Method} {c : Code} {E : zE} {qp ql qs : Nat} {a_heard : Nat → Int32} {a_walked : Nat → Int32} {a_total : Nat → Int32} {a_longest : Nat → Int32} {a_next : Nat → Int32} {a_cover : Nat → Int32} {a_now : Nat → Int32} {a_then : Nat → Int32} {lf_huts : Int32} {lf_singers : Int32} {lf_villages : Int32} {lf_dams : Int32} {lf_echoes : Int32} {lf_deep : Int32} {lf_slide : Int32} {la_heights : Nat → Int32} {la_ladders : Nat → Int32} {la_minutes : Nat → Int32} {la_echoFrom : Nat → Int32} {la_echoTo : Nat → Int32} {la_homes : Nat → Int32} {la_talls : Nat → Int32} {la_known : Nat → Int32} {sf_facts : Int32} {sa_heard : Nat → Int32} {sa_huts : Nat → Int32} {sa_minutes : Nat → Int32} {post : Int32 → Prop} {x2 : Int32} {x3 : Int32} {x4 : Int32} {x5 : Int32} {ls : Array Slot}
    (zc : zC p s m args meth c cX7_question 8 RX7 (some .int))
    (hK : zK E s)
    (hM : wpW E qp ql qs a_heard a_walked a_total a_longest a_next a_cover a_now a_then lf_huts lf_singers lf_villages lf_dams lf_echoes lf_deep lf_slide la_heights la_ladders la_minutes la_echoFrom la_echoTo la_homes la_talls la_known sf_facts sa_heard sa_huts sa_minutes s.heap)
    (hl : lv_has ls 8 [(0, .ref qp), (1, .ref ql), (2, .int x2), (3, .int x3), (4, .int x4), (5, .int x5)])
    (hw : q_wp_X7_question_9_16 a_heard lf_huts x2 x3 x4 x5 post) :
    W p l e rm_wp_X7_question_9 s m args below meth c s.heap [] 0 0 (MQ below (vp_Si post) args s 0 0 (fun _ => False)) (F0 m 16 ls []) := by
  have hx := zc.1
  have hb := zc.2.1
  refine hw (fun x3 x4 x5 => ∀ (ls : Array Slot), lv_has ls 8 [(0, .ref qp), (1, .ref ql), (2, .int x2), (3, .int x3), (4, .int x4), (5, .int x5)] → W p l e rm_wp_X7_question_9 s m args below meth c s.heap [] 0 0 (MQ below (vp_Si post) args s 0 0 (fun _ => False)) (F0 m 16 ls [])) ?_ _ hl
  intro x3 x4 x5 hw ls hl
  refine lv_iload hx hb dX7_question_16 (lv_at hl 5 rfl) ?_
  refine lv_bipush (v := (60 : Int32)) hx hb dX7_question_18 (by decide) ?_
  refine lv_icmp_gt (tgt := 79) hx hb dX7_question_20 (by decide) (fun hc => ?_) (fun hc => ?_)
  · have hw := hw.1 hc
    refine lv_iload_n hx hb dX7_question_79 rfl (lv_at hl 3 rfl) ?_
    exact zret_i zc hw dX7_question_80
  · have hw := hw.2 hc
    refine lv_iconst (v := (0 : Int32)) hx hb dX7_question_23 (by decide) ?_
    refine lv_istore (lv' := [(6, .int (0 : Int32)), (0, .ref qp), (1, .ref ql), (2, .int x2), (3, .int x3), (4, .int x4), (5, .int x5)]) hx hb dX7_question_24 hl (by decide) rfl (fun ls hl => ?_)
    exact t_wp_X7_question_9_26 zc hK hM (fun _ _ _ ls h hl => h ls hl) (lv_sub hl [1, 2, 3, 4, 5, 6, 0] rfl) hw
set_option maxRecDepth 20000 in
theorem t_wp_X7_question_9_0 {p : Program} {l : Launch} {e : Env} {s : State} {m : MethodId} {args : Array Value} {below : List Frame} {meth : Method} {c : Code} {E : zE} {qp ql qs : Nat} {a_heard : Nat → Int32} {a_walked : Nat → Int32} {a_total : Nat → Int32} {a_longest : Nat → Int32} {a_next : Nat → Int32} {a_cover : Nat → Int32} {a_now : Nat → Int32} {a_then : Nat → Int32} {lf_huts : Int32} {lf_singers : Int32} {lf_villages : Int32} {lf_dams : Int32} {lf_echoes : Int32} {lf_deep : Int32} {lf_slide : Int32} {la_heights : Nat → Int32} {la_ladders : Nat → Int32} {la_minutes : Nat → Int32} {la_echoFrom : Nat → Int32} {la_echoTo : Nat → Int32} {la_homes : Nat → Int32} {la_talls : Nat → Int32} {la_known : Nat → Int32} {sf_facts : Int32} {sa_heard : Nat → Int32} {sa_huts : Nat → Int32} {sa_minutes : Nat → Int32} {post : Int32 → Prop} {x2 : Int32} {ls : Array Slot}
    (zc : zC p s m args meth c cX7_question 8 RX7 (some .int))
    (hK : zK E s)
    (hM : wpW E qp ql qs a_heard a_walked a_total a_longest a_next a_cover a_now a_then lf_huts lf_singers lf_villages lf_dams lf_echoes lf_deep lf_slide la_heights la_ladders la_minutes la_echoFrom la_echoTo la_homes la_talls la_known sf_facts sa_heard sa_huts sa_minutes s.heap)
    (hl : lv_has ls 8 [(0, .ref qp), (1, .ref ql), (2, .int x2)])
    (hw : q_wp_X7_question_9_0 a_heard lf_huts x2 post) :
    W p l e rm_wp_X7_question_9 s m args below meth c s.heap [] 0 0 (MQ below (vp_Si post) args s 0 0 (fun _ => False)) (F0 m 0 ls []) := by
  have hx := zc.1
  have hb := zc.2.1
  refine lv_iload_n hx hb dX7_question_0 rfl (lv_at hl 2 rfl) ?_
  refine lv_if_ne (tgt := 6) hx hb dX7_question_1 (by decide) (fun hc => ?_) (fun hc => ?_)
  · have hw := hw.1 hc
    refine lv_iconst (v := (-1 : Int32)) hx hb dX7_question_6 (by decide) ?_
    refine lv_istore_n (lv' := [(3, .int (-1 : Int32)), (0, .ref qp), (1, .ref ql), (2, .int x2)]) hx hb dX7_question_7 rfl hl (by decide) rfl (fun ls hl => ?_)
    refine lv_sipush (v := (1000 : Int32)) hx hb dX7_question_8 (by decide) ?_
    refine lv_istore (lv' := [(4, .int (1000 : Int32)), (3, .int (-1 : Int32)), (0, .ref qp), (1, .ref ql), (2, .int x2)]) hx hb dX7_question_11 hl (by decide) rfl (fun ls hl => ?_)
    refine lv_iconst (v := (0 : Int32)) hx hb dX7_question_13 (by decide) ?_
    refine lv_istore (lv' := [(5, .int (0 : Int32)), (4, .int (1000 : Int32)), (3, .int (-1 : Int32)), (0, .ref qp), (1, .ref ql), (2, .int x2)]) hx hb dX7_question_14 hl (by decide) rfl (fun ls hl => ?_)
    exact t_wp_X7_question_9_16 zc hK hM  (lv_sub hl [3, 4, 5, 2, 1, 0] rfl) hw
  · have hw := hw.2 hc
    refine lv_iconst (v := (-1 : Int32)) hx hb dX7_question_4 (by decide) ?_
    exact zret_i zc hw dX7_question_5
set_option maxRecDepth 20000 in
theorem c_wp_X7_question_9 (l : Launch) {E : zE} {qp ql qs : Nat} {a_heard : Nat → Int32} {a_walked : Nat → Int32} {a_total : Nat → Int32} {a_longest : Nat → Int32} {a_next : Nat → Int32} {a_cover : Nat → Int32} {a_now : Nat → Int32} {a_then : Nat → Int32} {lf_huts : Int32} {lf_singers : Int32} {lf_villages : Int32} {lf_dams : Int32} {lf_echoes : Int32} {lf_deep : Int32} {lf_slide : Int32} {la_heights : Nat → Int32} {la_ladders : Nat → Int32} {la_minutes : Nat → Int32} {la_echoFrom : Nat → Int32} {la_echoTo : Nat → Int32} {la_homes : Nat → Int32} {la_talls : Nat → Int32} {la_known : Nat → Int32} {sf_facts : Int32} {sa_heard : Nat → Int32} {sa_huts : Nat → Int32} {sa_minutes : Nat → Int32} {x2 : Int32} {post : Int32 → Prop} (hw : q_wp_X7_question_9_0 a_heard lf_huts x2 post) : Met l yX7_question (Cond.code yX7_question cX7_question 8 (some .int) :: zb) rm_wp_X7_question_9 (va_Pc [.ref qp, .ref ql, .int x2] (fun U => wpW E qp ql qs a_heard a_walked a_total a_longest a_next a_cover a_now a_then lf_huts lf_singers lf_villages lf_dams lf_echoes lf_deep lf_slide la_heights la_ladders la_minutes la_echoFrom la_echoTo la_homes la_talls la_known sf_facts sa_heard sa_huts sa_minutes U.heap ∧ zK E U)) (vp_Si post) 0 0 (fun _ => False) := by
  refine Met.ofW (cc := cX7_question) (maxL := 8) (ret := (some .int)) (by decide) rfl ?_
  intro p e s m args below meth c s₁ B hml hv
  obtain ⟨rfl, hM, hK⟩ := hv
  have zc := zc_of B hml
  have hl := lv_entry ([.ref qp, .ref ql, .int x2]) (n := 8) (Nat.le_of_ble_eq_true rfl)
  rw [lg_entry_eq]
  generalize (lg_sl ([.ref qp, .ref ql, .int x2]) ++ List.replicate (8 - (lg_sl ([.ref qp, .ref ql, .int x2])).length) Slot.unset).toArray = ls at hl ⊢
  have hl : lv_has ls 8 [(0, .ref qp), (1, .ref ql), (2, .int x2)] := hl
  exact t_wp_X7_question_9_0 zc hK hM (lv_sub hl [0, 1, 2] rfl) hw
