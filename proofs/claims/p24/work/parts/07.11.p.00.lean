section
-- wp_J7_fill_53178_1
abbrev rm_wp_J7_fill_53178_1 : Room := { frames := 0, cells := 0, slots := 0, locals := 0 }
def q_wp_J7_fill_53178_1_5 (a_heard : Nat → Int32) (x1 : Int32) (x2 : Int32) (x3 : Int32) (post : (Nat → Int32) → Prop) : Prop :=
  ∀ P5 : Int32 → (Nat → Int32) → Prop, (∀ (x2 : Int32) (a_heard : Nat → Int32), ((x3 ≤ x2 → (post a_heard)) ∧ (¬ x3 ≤ x2 → (vp_in x2 81 ∧ (∀ a_heard_1 : Nat → Int32, a_heard_1 = upd a_heard (Int32.toNatClampNeg x2) x1 → (∀ v_1 : Int32, v_1 = x2 + (1 : Int32) → (P5 v_1 a_heard_1)))))) → P5 x2 a_heard) → P5 x2 a_heard
def q_wp_J7_fill_53178_1_0 (a_heard : Nat → Int32) (x1 : Int32) (post : (Nat → Int32) → Prop) : Prop :=
  q_wp_J7_fill_53178_1_5 a_heard x1 (0 : Int32) (81 : Int32) post
set_option maxRecDepth 20000 in
theorem t_wp_J7_fill_53178_1_5 {p : Program} {l : Launch} {e : Env} {s : State} {m : MethodId} {args : Array Value} {below : List Frame} {meth : Method} {c : Code} {E : zE} {qp ql qs : Nat} {a_heard : Nat → Int32} {a_walked : Nat → Int32} {a_total : Nat → Int32} {a_longest : Nat → Int32} {a_next : Nat → Int32} {a_cover : Nat → Int32} {a_now : Nat → Int32} {a_then : Nat → Int32} {lf_huts : Int32} {lf_singers : Int32} {lf_villages : Int32} {lf_dams : Int32} {lf_echoes : Int32} {lf_deep : Int32} {lf_slide : Int32} {la_heights : Nat → Int32} {la_ladders : Nat → Int32} {la_minutes : Nat → Int32} {la_echoFrom : Nat → Int32} {la_echoTo : Nat → Int32} {la_homes : Nat → Int32} {la_talls : Nat → Int32} {la_known : Nat → Int32} {sf_facts : Int32} {sa_heard : Nat → Int32} {sa_huts : Nat → Int32} {sa_minutes : Nat → Int32} {post : (Nat → Int32) → Prop} {x1 : Int32} {x2 : Int32} {x3 : Int32} {ls : Array Slot} {H : Heap} {locs : List Loc}
    (zc : zC p s m args meth c cJ7_fill_53178 4 RJ7 none)
    (hK : zK E s)
    (hM : wpW E qp ql qs a_heard a_walked a_total a_longest a_next a_cover a_now a_then lf_huts lf_singers lf_villages lf_dams lf_echoes lf_deep lf_slide la_heights la_ladders la_minutes la_echoFrom la_echoTo la_homes la_talls la_known sf_facts sa_heard sa_huts sa_minutes H)
    (hS : va_S (wpA qp ql qs) s.heap H locs)
    (hl : lv_has ls 4 [(0, .ref (qp + 1)), (1, .int x1), (2, .int x2), (3, .int x3)])
    (hw : q_wp_J7_fill_53178_1_5 a_heard x1 x2 x3 post) :
    W p l e rm_wp_J7_fill_53178_1 s m args below meth c H locs 0 0 (MQ below (zQv (S := (Nat → Int32)) (fun u => post u) (fun u H => wpW E qp ql qs u a_walked a_total a_longest a_next a_cover a_now a_then lf_huts lf_singers lf_villages lf_dams lf_echoes lf_deep lf_slide la_heights la_ladders la_minutes la_echoFrom la_echoTo la_homes la_talls la_known sf_facts sa_heard sa_huts sa_minutes H) (wpA qp ql qs)) args s 0 0 (wpA qp ql qs)) (F0 m 5 ls []) := by
  have hx := zc.1
  have hb := zc.2.1
  refine hw (fun x2 a_heard => ∀ (H : Heap) (locs : List Loc) (ls : Array Slot), lv_has ls 4 [(0, .ref (qp + 1)), (1, .int x1), (2, .int x2), (3, .int x3)] → wpW E qp ql qs a_heard a_walked a_total a_longest a_next a_cover a_now a_then lf_huts lf_singers lf_villages lf_dams lf_echoes lf_deep lf_slide la_heights la_ladders la_minutes la_echoFrom la_echoTo la_homes la_talls la_known sf_facts sa_heard sa_huts sa_minutes H → va_S (wpA qp ql qs) s.heap H locs → W p l e rm_wp_J7_fill_53178_1 s m args below meth c H locs 0 0 (MQ below (zQv (S := (Nat → Int32)) (fun u => post u) (fun u H => wpW E qp ql qs u a_walked a_total a_longest a_next a_cover a_now a_then lf_huts lf_singers lf_villages lf_dams lf_echoes lf_deep lf_slide la_heights la_ladders la_minutes la_echoFrom la_echoTo la_homes la_talls la_known sf_facts sa_heard sa_huts sa_minutes H) (wpA qp ql qs)) args s 0 0 (wpA qp ql qs)) (F0 m 5 ls [])) ?_ _ _ _ hl hM hS
  intro x2 a_heard hw H locs ls hl hM hS
  refine lv_iload_n hx hb dJ7_fill_53178_5 rfl (lv_at hl 2 rfl) ?_
  refine lv_iload_n hx hb dJ7_fill_53178_6 rfl (lv_at hl 3 rfl) ?_
  refine lv_icmp_ge (tgt := 20) hx hb dJ7_fill_53178_7 (by decide) (fun hc => ?_) (fun hc => ?_)
  · have hw := hw.1 hc
    exact zret_vw a_heard zc hS hw hM dJ7_fill_53178_20
  · have hw := hw.2 hc
    refine lv_aload_n hx hb dJ7_fill_53178_10 rfl (lv_at hl 0 rfl) ?_
    refine lv_iload_n hx hb dJ7_fill_53178_11 rfl (lv_at hl 2 rfl) ?_
    refine lv_iload_n hx hb dJ7_fill_53178_12 rfl (lv_at hl 1 rfl) ?_
    refine wpst_1 zc hK hM hS hw.1 dJ7_fill_53178_13 (fun a_heard_1 H locs ea_heard_1 hM hS => ?_)
    have hw := hw.2 a_heard_1 ea_heard_1
    obtain ⟨v_1, ev_1⟩ : ∃ y : Int32, y = x2 + (1 : Int32) := ⟨_, rfl⟩
    have hw := hw v_1 ev_1
    refine lv_iinc (v := v_1) (k := 2) (lv' := [(2, .int v_1), (0, .ref (qp + 1)), (1, .int x1), (3, .int x3)]) hx hb dJ7_fill_53178_14 hl rfl (by rw [ev_1]; rfl) (by decide) rfl (fun ls hl => ?_)
    refine lv_goto (tgt := 5) hx hb dJ7_fill_53178_17 (by decide) ?_
    exact hw _ _ _ (lv_sub hl [1, 2, 0, 3] rfl) hM hS
set_option maxRecDepth 20000 in
theorem t_wp_J7_fill_53178_1_0 {p : Program} {l : Launch} {e : Env} {s : State} {m : MethodId} {args : Array Value} {below : List Frame} {meth : Method} {c : Code} {E : zE} {qp ql qs : Nat} {a_heard : Nat → Int32} {a_walked : Nat → Int32} {a_total : Nat → Int32} {a_longest : Nat → Int32} {a_next : Nat → Int32} {a_cover : Nat → Int32} {a_now : Nat → Int32} {a_then : Nat → Int32} {lf_huts : Int32} {lf_singers : Int32} {lf_villages : Int32} {lf_dams : Int32} {lf_echoes : Int32} {lf_deep : Int32} {lf_slide : Int32} {la_heights : Nat → Int32} {la_ladders : Nat → Int32} {la_minutes : Nat → Int32} {la_echoFrom : Nat → Int32} {la_echoTo : Nat → Int32} {la_homes : Nat → Int32} {la_talls : Nat → Int32} {la_known : Nat → Int32} {sf_facts : Int32} {sa_heard : Nat → Int32} {sa_huts : Nat → Int32} {sa_minutes : Nat → Int32} {post : (Nat → Int32) → Prop} {x1 : Int32} {ls : Array Slot} {H : Heap} {locs : List Loc}
    (zc : zC p s m args meth c cJ7_fill_53178 4 RJ7 none)
    (hK : zK E s)
    (hM : wpW E qp ql qs a_heard a_walked a_total a_longest a_next a_cover a_now a_then lf_huts lf_singers lf_villages lf_dams lf_echoes lf_deep lf_slide la_heights la_ladders la_minutes la_echoFrom la_echoTo la_homes la_talls la_known sf_facts sa_heard sa_huts sa_minutes H)
    (hS : va_S (wpA qp ql qs) s.heap H locs)
    (hl : lv_has ls 4 [(0, .ref (qp + 1)), (1, .int x1)])
    (hw : q_wp_J7_fill_53178_1_0 a_heard x1 post) :
    W p l e rm_wp_J7_fill_53178_1 s m args below meth c H locs 0 0 (MQ below (zQv (S := (Nat → Int32)) (fun u => post u) (fun u H => wpW E qp ql qs u a_walked a_total a_longest a_next a_cover a_now a_then lf_huts lf_singers lf_villages lf_dams lf_echoes lf_deep lf_slide la_heights la_ladders la_minutes la_echoFrom la_echoTo la_homes la_talls la_known sf_facts sa_heard sa_huts sa_minutes H) (wpA qp ql qs)) args s 0 0 (wpA qp ql qs)) (F0 m 0 ls []) := by
  have hx := zc.1
  have hb := zc.2.1
  refine lv_iconst (v := (0 : Int32)) hx hb dJ7_fill_53178_0 (by decide) ?_
  refine lv_istore_n (lv' := [(2, .int (0 : Int32)), (0, .ref (qp + 1)), (1, .int x1)]) hx hb dJ7_fill_53178_1 rfl hl (by decide) rfl (fun ls hl => ?_)
  refine lv_aload_n hx hb dJ7_fill_53178_2 rfl (lv_at hl 1 rfl) ?_
  refine va_alen (v := (81 : Int32)) hx hb hK.1 hM.1 1 1 rfl rfl rfl dJ7_fill_53178_3 ?_
  refine lv_istore_n (lv' := [(3, .int (81 : Int32)), (2, .int (0 : Int32)), (0, .ref (qp + 1)), (1, .int x1)]) hx hb dJ7_fill_53178_4 rfl hl (by decide) rfl (fun ls hl => ?_)
  exact t_wp_J7_fill_53178_1_5 zc hK hM hS  (lv_sub hl [2, 3, 1, 0] rfl) hw
set_option maxRecDepth 20000 in
theorem c_wp_J7_fill_53178_1 (l : Launch) {E : zE} {qp ql qs : Nat} {a_heard : Nat → Int32} {a_walked : Nat → Int32} {a_total : Nat → Int32} {a_longest : Nat → Int32} {a_next : Nat → Int32} {a_cover : Nat → Int32} {a_now : Nat → Int32} {a_then : Nat → Int32} {lf_huts : Int32} {lf_singers : Int32} {lf_villages : Int32} {lf_dams : Int32} {lf_echoes : Int32} {lf_deep : Int32} {lf_slide : Int32} {la_heights : Nat → Int32} {la_ladders : Nat → Int32} {la_minutes : Nat → Int32} {la_echoFrom : Nat → Int32} {la_echoTo : Nat → Int32} {la_homes : Nat → Int32} {la_talls : Nat → Int32} {la_known : Nat → Int32} {sf_facts : Int32} {sa_heard : Nat → Int32} {sa_huts : Nat → Int32} {sa_minutes : Nat → Int32} {x1 : Int32} {post : (Nat → Int32) → Prop} (hw : q_wp_J7_fill_53178_1_0 a_heard x1 post) : Met l yJ7_fill_53178 (Cond.code yJ7_fill_53178 cJ7_fill_53178 4 none :: zb) rm_wp_J7_fill_53178_1 (va_Pc [.ref (qp + 1), .int x1] (fun U => wpW E qp ql qs a_heard a_walked a_total a_longest a_next a_cover a_now a_then lf_huts lf_singers lf_villages lf_dams lf_echoes lf_deep lf_slide la_heights la_ladders la_minutes la_echoFrom la_echoTo la_homes la_talls la_known sf_facts sa_heard sa_huts sa_minutes U.heap ∧ zK E U)) (zQv (S := (Nat → Int32)) (fun u => post u) (fun u H => wpW E qp ql qs u a_walked a_total a_longest a_next a_cover a_now a_then lf_huts lf_singers lf_villages lf_dams lf_echoes lf_deep lf_slide la_heights la_ladders la_minutes la_echoFrom la_echoTo la_homes la_talls la_known sf_facts sa_heard sa_huts sa_minutes H) (wpA qp ql qs)) 0 0 (wpA qp ql qs) := by
  refine Met.ofW (cc := cJ7_fill_53178) (maxL := 4) (ret := none) (by decide) rfl ?_
  intro p e s m args below meth c s₁ B hml hv
  obtain ⟨rfl, hM, hK⟩ := hv
  have zc := zc_of B hml
  have hl := lv_entry ([.ref (qp + 1), .int x1]) (n := 4) (Nat.le_of_ble_eq_true rfl)
  rw [lg_entry_eq]
  generalize (lg_sl ([.ref (qp + 1), .int x1]) ++ List.replicate (4 - (lg_sl ([.ref (qp + 1), .int x1])).length) Slot.unset).toArray = ls at hl ⊢
  have hl : lv_has ls 4 [(0, .ref (qp + 1)), (1, .int x1)] := hl
  exact t_wp_J7_fill_53178_1_0 zc hK hM va_S.rf (lv_sub hl [0, 1] rfl) hw
-- wp_X7_shorten_1
abbrev rm_wp_X7_shorten_1 : Room := { frames := 0, cells := 0, slots := 0, locals := 0 }
def q_wp_X7_shorten_1_80 (P2 : Int32 → (Nat → Int32) → Prop) (P9 : Int32 → (Nat → Int32) → Prop) (P27 : Int32 → (Nat → Int32) → Prop) (a_heard : Nat → Int32) (x1 : Int32) (x2 : Int32) (x3 : Int32) (x4 : Int32) (x5 : Int32) (post : (Nat → Int32) → Prop) : Prop :=
  ∀ v_1 : Int32, v_1 = x5 + (1 : Int32) → (P27 v_1 a_heard)
def q_wp_X7_shorten_1_86 (P2 : Int32 → (Nat → Int32) → Prop) (P9 : Int32 → (Nat → Int32) → Prop) (a_heard : Nat → Int32) (x1 : Int32) (x2 : Int32) (x3 : Int32) (post : (Nat → Int32) → Prop) : Prop :=
  ∀ v_1 : Int32, v_1 = x3 + (1 : Int32) → (P9 v_1 a_heard)
def q_wp_X7_shorten_1_27 (P2 : Int32 → (Nat → Int32) → Prop) (P9 : Int32 → (Nat → Int32) → Prop) (a_heard : Nat → Int32) (x1 : Int32) (x2 : Int32) (x3 : Int32) (x4 : Int32) (x5 : Int32) (post : (Nat → Int32) → Prop) : Prop :=
  ∀ P27 : Int32 → (Nat → Int32) → Prop, (∀ (x5 : Int32) (a_heard : Nat → Int32), ((x1 ≤ x5 → (q_wp_X7_shorten_1_86 P2 P9 a_heard x1 x2 x3 post)) ∧ (¬ x1 ≤ x5 → (((1000 : Int32) ≤ x4 → (q_wp_X7_shorten_1_86 P2 P9 a_heard x1 x2 x3 post)) ∧ (¬ (1000 : Int32) ≤ x4 → (vp_in ((x2 * (9 : Int32)) + x5) 81 ∧ (∀ v_1 : Int32, v_1 = (x4 + (a_heard (Int32.toNatClampNeg ((x2 * (9 : Int32)) + x5)))) → (vp_in ((x3 * (9 : Int32)) + x5) 81 ∧ (((a_heard (Int32.toNatClampNeg ((x3 * (9 : Int32)) + x5))) ≤ v_1 → (q_wp_X7_shorten_1_80 P2 P9 P27 a_heard x1 x2 x3 x4 x5 post)) ∧ (¬ (a_heard (Int32.toNatClampNeg ((x3 * (9 : Int32)) + x5))) ≤ v_1 → (vp_in ((x3 * (9 : Int32)) + x5) 81 ∧ (∀ a_heard_1 : Nat → Int32, a_heard_1 = upd a_heard (Int32.toNatClampNeg ((x3 * (9 : Int32)) + x5)) v_1 → (q_wp_X7_shorten_1_80 P2 P9 P27 a_heard_1 x1 x2 x3 x4 x5 post)))))))))))) → P27 x5 a_heard) → P27 x5 a_heard
def q_wp_X7_shorten_1_9 (P2 : Int32 → (Nat → Int32) → Prop) (a_heard : Nat → Int32) (x1 : Int32) (x2 : Int32) (x3 : Int32) (post : (Nat → Int32) → Prop) : Prop :=
  ∀ P9 : Int32 → (Nat → Int32) → Prop, (∀ (x3 : Int32) (a_heard : Nat → Int32), ((x1 ≤ x3 → (∀ v_1 : Int32, v_1 = x2 + (1 : Int32) → (P2 v_1 a_heard))) ∧ (¬ x1 ≤ x3 → (vp_in ((x3 * (9 : Int32)) + x2) 81 ∧ (∀ v_2 : Int32, v_2 = (a_heard (Int32.toNatClampNeg ((x3 * (9 : Int32)) + x2))) → (q_wp_X7_shorten_1_27 P2 P9 a_heard x1 x2 x3 v_2 (0 : Int32) post))))) → P9 x3 a_heard) → P9 x3 a_heard
def q_wp_X7_shorten_1_2 (a_heard : Nat → Int32) (x1 : Int32) (x2 : Int32) (post : (Nat → Int32) → Prop) : Prop :=
  ∀ P2 : Int32 → (Nat → Int32) → Prop, (∀ (x2 : Int32) (a_heard : Nat → Int32), ((x1 ≤ x2 → (post a_heard)) ∧ (¬ x1 ≤ x2 → (q_wp_X7_shorten_1_9 P2 a_heard x1 x2 (0 : Int32) post))) → P2 x2 a_heard) → P2 x2 a_heard
def q_wp_X7_shorten_1_0 (a_heard : Nat → Int32) (x1 : Int32) (post : (Nat → Int32) → Prop) : Prop :=
  q_wp_X7_shorten_1_2 a_heard x1 (0 : Int32) post
set_option maxRecDepth 20000 in
theorem t_wp_X7_shorten_1_80 {p : Program} {l : Launch} {e : Env} {s : State} {m : MethodId} {args : Array Value} {below : List Frame} {meth : Method} {c : Code} {E : zE} {qp ql qs : Nat} {a_heard : Nat → Int32} {a_walked : Nat → Int32} {a_total : Nat → Int32} {a_longest : Nat → Int32} {a_next : Nat → Int32} {a_cover : Nat → Int32} {a_now : Nat → Int32} {a_then : Nat → Int32} {lf_huts : Int32} {lf_singers : Int32} {lf_villages : Int32} {lf_dams : Int32} {lf_echoes : Int32} {lf_deep : Int32} {lf_slide : Int32} {la_heights : Nat → Int32} {la_ladders : Nat → Int32} {la_minutes : Nat → Int32} {la_echoFrom : Nat → Int32} {la_echoTo : Nat → Int32} {la_homes : Nat → Int32} {la_talls : Nat → Int32} {la_known : Nat → Int32} {sf_facts : Int32} {sa_heard : Nat → Int32} {sa_huts : Nat → Int32} {sa_minutes : Nat → Int32} {P2 : Int32 → (Nat → Int32) → Prop} {P9 : Int32 → (Nat → Int32) → Prop} {P27 : Int32 → (Nat → Int32) → Prop} {post : (Nat → Int32) → Prop} {x1 : Int32} {x2 : Int32} {x3 : Int32} {x4 : Int32} {x5 : Int32} {ls : Array Slot} {H : Heap} {locs : List Loc}
    (zc : zC p s m args meth c cX7_shorten 7 RX7 none)
    (hK : zK E s)
    (hM : wpW E qp ql qs a_heard a_walked a_total a_longest a_next a_cover a_now a_then lf_huts lf_singers lf_villages lf_dams lf_echoes lf_deep lf_slide la_heights la_ladders la_minutes la_echoFrom la_echoTo la_homes la_talls la_known sf_facts sa_heard sa_huts sa_minutes H)
    (hS : va_S (wpA qp ql qs) s.heap H locs)
    (hP2 : ∀ (x2 : Int32) (a_heard : Nat → Int32) (H : Heap) (locs : List Loc) (ls : Array Slot), P2 x2 a_heard → lv_has ls 7 [(0, .ref (qp + 1)), (1, .int x1), (2, .int x2)] → wpW E qp ql qs a_heard a_walked a_total a_longest a_next a_cover a_now a_then lf_huts lf_singers lf_villages lf_dams lf_echoes lf_deep lf_slide la_heights la_ladders la_minutes la_echoFrom la_echoTo la_homes la_talls la_known sf_facts sa_heard sa_huts sa_minutes H → va_S (wpA qp ql qs) s.heap H locs → W p l e rm_wp_X7_shorten_1 s m args below meth c H locs 0 0 (MQ below (zQv (S := (Nat → Int32)) (fun u => post u) (fun u H => wpW E qp ql qs u a_walked a_total a_longest a_next a_cover a_now a_then lf_huts lf_singers lf_villages lf_dams lf_echoes lf_deep lf_slide la_heights la_ladders la_minutes la_echoFrom la_echoTo la_homes la_talls la_known sf_facts sa_heard sa_huts sa_minutes H) (wpA qp ql qs)) args s 0 0 (wpA qp ql qs)) (F0 m 2 ls []))
    (hP9 : ∀ (x3 : Int32) (a_heard : Nat → Int32) (H : Heap) (locs : List Loc) (ls : Array Slot), P9 x3 a_heard → lv_has ls 7 [(0, .ref (qp + 1)), (1, .int x1), (2, .int x2), (3, .int x3)] → wpW E qp ql qs a_heard a_walked a_total a_longest a_next a_cover a_now a_then lf_huts lf_singers lf_villages lf_dams lf_echoes lf_deep lf_slide la_heights la_ladders la_minutes la_echoFrom la_echoTo la_homes la_talls la_known sf_facts sa_heard sa_huts sa_minutes H → va_S (wpA qp ql qs) s.heap H locs → W p l e rm_wp_X7_shorten_1 s m args below meth c H locs 0 0 (MQ below (zQv (S := (Nat → Int32)) (fun u => post u) (fun u H => wpW E qp ql qs u a_walked a_total a_longest a_next a_cover a_now a_then lf_huts lf_singers lf_villages lf_dams lf_echoes lf_deep lf_slide la_heights la_ladders la_minutes la_echoFrom la_echoTo la_homes la_talls la_known sf_facts sa_heard sa_huts sa_minutes H) (wpA qp ql qs)) args s 0 0 (wpA qp ql qs)) (F0 m 9 ls []))
    (hP27 : ∀ (x5 : Int32) (a_heard : Nat → Int32) (H : Heap) (locs : List Loc) (ls : Array Slot), P27 x5 a_heard → lv_has ls 7 [(0, .ref (qp + 1)), (1, .int x1), (2, .int x2), (3, .int x3), (4, .int x4), (5, .int x5)] → wpW E qp ql qs a_heard a_walked a_total a_longest a_next a_cover a_now a_then lf_huts lf_singers lf_villages lf_dams lf_echoes lf_deep lf_slide la_heights la_ladders la_minutes la_echoFrom la_echoTo la_homes la_talls la_known sf_facts sa_heard sa_huts sa_minutes H → va_S (wpA qp ql qs) s.heap H locs → W p l e rm_wp_X7_shorten_1 s m args below meth c H locs 0 0 (MQ below (zQv (S := (Nat → Int32)) (fun u => post u) (fun u H => wpW E qp ql qs u a_walked a_total a_longest a_next a_cover a_now a_then lf_huts lf_singers lf_villages lf_dams lf_echoes lf_deep lf_slide la_heights la_ladders la_minutes la_echoFrom la_echoTo la_homes la_talls la_known sf_facts sa_heard sa_huts sa_minutes H) (wpA qp ql qs)) args s 0 0 (wpA qp ql qs)) (F0 m 27 ls []))
    (hl : lv_has ls 7 [(0, .ref (qp + 1)), (1, .int x1), (2, .int x2), (3, .int x3), (4, .int x4), (5, .int x5)])
    (hw : q_wp_X7_shorten_1_80 P2 P9 P27 a_heard x1 x2 x3 x4 x5 post) :
    W p l e rm_wp_X7_shorten_1 s m args below meth c H locs 0 0 (MQ below (zQv (S := (Nat → Int32)) (fun u => post u) (fun u H => wpW E qp ql qs u a_walked a_total a_longest a_next a_cover a_now a_then lf_huts lf_singers lf_villages lf_dams lf_echoes lf_deep lf_slide la_heights la_ladders la_minutes la_echoFrom la_echoTo la_homes la_talls la_known sf_facts sa_heard sa_huts sa_minutes H) (wpA qp ql qs)) args s 0 0 (wpA qp ql qs)) (F0 m 80 ls []) := by
  have hx := zc.1
  have hb := zc.2.1
  obtain ⟨v_1, ev_1⟩ : ∃ y : Int32, y = x5 + (1 : Int32) := ⟨_, rfl⟩
  have hw := hw v_1 ev_1
  refine lv_iinc (v := v_1) (k := 5) (lv' := [(5, .int v_1), (0, .ref (qp + 1)), (1, .int x1), (2, .int x2), (3, .int x3), (4, .int x4)]) hx hb dX7_shorten_80 hl rfl (by rw [ev_1]; rfl) (by decide) rfl (fun ls hl => ?_)
  refine lv_goto (tgt := 27) hx hb dX7_shorten_83 (by decide) ?_
  exact hP27 _ _ _ _ _ hw (lv_sub hl [1, 2, 3, 4, 5, 0] rfl) hM hS
set_option maxRecDepth 20000 in
theorem t_wp_X7_shorten_1_86 {p : Program} {l : Launch} {e : Env} {s : State} {m : MethodId} {args : Array Value} {below : List Frame} {meth : Method} {c : Code} {E : zE} {qp ql qs : Nat} {a_heard : Nat → Int32} {a_walked : Nat → Int32} {a_total : Nat → Int32} {a_longest : Nat → Int32} {a_next : Nat → Int32} {a_cover : Nat → Int32} {a_now : Nat → Int32} {a_then : Nat → Int32} {lf_huts : Int32} {lf_singers : Int32} {lf_villages : Int32} {lf_dams : Int32} {lf_echoes : Int32} {lf_deep : Int32} {lf_slide : Int32} {la_heights : Nat → Int32} {la_ladders : Nat → Int32} {la_minutes : Nat → Int32} {la_echoFrom : Nat → Int32} {la_echoTo : Nat → Int32} {la_homes : Nat → Int32} {la_talls : Nat → Int32} {la_known : Nat → Int32} {sf_facts : Int32} {sa_heard : Nat → Int32} {sa_huts : Nat → Int32} {sa_minutes : Nat → Int32} {P2 : Int32 → (Nat → Int32) → Prop} {P9 : Int32 → (Nat → Int32) → Prop} {post : (Nat → Int32) → Prop} {x1 : Int32} {x2 : Int32} {x3 : Int32} {ls : Array Slot} {H : Heap} {locs : List Loc}
    (zc : zC p s m args meth c cX7_shorten 7 RX7 none)
    (hK : zK E s)
    (hM : wpW E qp ql qs a_heard a_walked a_total a_longest a_next a_cover a_now a_then lf_huts lf_singers lf_villages lf_dams lf_echoes lf_deep lf_slide la_heights la_ladders la_minutes la_echoFrom la_echoTo la_homes la_talls la_known sf_facts sa_heard sa_huts sa_minutes H)
    (hS : va_S (wpA qp ql qs) s.heap H locs)
    (hP2 : ∀ (x2 : Int32) (a_heard : Nat → Int32) (H : Heap) (locs : List Loc) (ls : Array Slot), P2 x2 a_heard → lv_has ls 7 [(0, .ref (qp + 1)), (1, .int x1), (2, .int x2)] → wpW E qp ql qs a_heard a_walked a_total a_longest a_next a_cover a_now a_then lf_huts lf_singers lf_villages lf_dams lf_echoes lf_deep lf_slide la_heights la_ladders la_minutes la_echoFrom la_echoTo la_homes la_talls la_known sf_facts sa_heard sa_huts sa_minutes H → va_S (wpA qp ql qs) s.heap H locs → W p l e rm_wp_X7_shorten_1 s m args below meth c H locs 0 0 (MQ below (zQv (S := (Nat → Int32)) (fun u => post u) (fun u H => wpW E qp ql qs u a_walked a_total a_longest a_next a_cover a_now a_then lf_huts lf_singers lf_villages lf_dams lf_echoes lf_deep lf_slide la_heights la_ladders la_minutes la_echoFrom la_echoTo la_homes la_talls la_known sf_facts sa_heard sa_huts sa_minutes H) (wpA qp ql qs)) args s 0 0 (wpA qp ql qs)) (F0 m 2 ls []))
    (hP9 : ∀ (x3 : Int32) (a_heard : Nat → Int32) (H : Heap) (locs : List Loc) (ls : Array Slot), P9 x3 a_heard → lv_has ls 7 [(0, .ref (qp + 1)), (1, .int x1), (2, .int x2), (3, .int x3)] → wpW E qp ql qs a_heard a_walked a_total a_longest a_next a_cover a_now a_then lf_huts lf_singers lf_villages lf_dams lf_echoes lf_deep lf_slide la_heights la_ladders la_minutes la_echoFrom la_echoTo la_homes la_talls la_known sf_facts sa_heard sa_huts sa_minutes H → va_S (wpA qp ql qs) s.heap H locs → W p l e rm_wp_X7_shorten_1 s m args below meth c H locs 0 0 (MQ below (zQv (S := (Nat → Int32)) (fun u => post u) (fun u H => wpW E qp ql qs u a_walked a_total a_longest a_next a_cover a_now a_then lf_huts lf_singers lf_villages lf_dams lf_echoes lf_deep lf_slide la_heights la_ladders la_minutes la_echoFrom la_echoTo la_homes la_talls la_known sf_facts sa_heard sa_huts sa_minutes H) (wpA qp ql qs)) args s 0 0 (wpA qp ql qs)) (F0 m 9 ls []))
    (hl : lv_has ls 7 [(0, .ref (qp + 1)), (1, .int x1), (2, .int x2), (3, .int x3)])
    (hw : q_wp_X7_shorten_1_86 P2 P9 a_heard x1 x2 x3 post) :
    W p l e rm_wp_X7_shorten_1 s m args below meth c H locs 0 0 (MQ below (zQv (S := (Nat → Int32)) (fun u => post u) (fun u H => wpW E qp ql qs u a_walked a_total a_longest a_next a_cover a_now a_then lf_huts lf_singers lf_villages lf_dams lf_echoes lf_deep lf_slide la_heights la_ladders la_minutes la_echoFrom la_echoTo la_homes la_talls la_known sf_facts sa_heard sa_huts sa_minutes H) (wpA qp ql qs)) args s 0 0 (wpA qp ql qs)) (F0 m 86 ls []) := by
  have hx := zc.1
  have hb := zc.2.1
  obtain ⟨v_1, ev_1⟩ : ∃ y : Int32, y = x3 + (1 : Int32) := ⟨_, rfl⟩
  have hw := hw v_1 ev_1
  refine lv_iinc (v := v_1) (k := 3) (lv' := [(3, .int v_1), (0, .ref (qp + 1)), (1, .int x1), (2, .int x2)]) hx hb dX7_shorten_86 hl rfl (by rw [ev_1]; rfl) (by decide) rfl (fun ls hl => ?_)
  refine lv_goto (tgt := 9) hx hb dX7_shorten_89 (by decide) ?_
  exact hP9 _ _ _ _ _ hw (lv_sub hl [1, 2, 3, 0] rfl) hM hS
set_option maxRecDepth 20000 in
theorem t_wp_X7_shorten_1_27 {p : Program} {l : Launch} {e : Env} {s : State} {m : MethodId} {args : Array Value} {below : List Frame} {meth : Method} {c : Code} {E : zE} {qp ql qs : Nat} {a_heard : Nat → Int32} {a_walked : Nat → Int32} {a_total : Nat → Int32} {a_longest : Nat → Int32} {a_next : Nat → Int32} {a_cover : Nat → Int32} {a_now : Nat → Int32} {a_then : Nat → Int32} {lf_huts : Int32} {lf_singers : Int32} {lf_villages : Int32} {lf_dams : Int32} {lf_echoes : Int32} {lf_deep : Int32} {lf_slide : Int32} {la_heights : Nat → Int32} {la_ladders : Nat → Int32} {la_minutes : Nat → Int32} {la_echoFrom : Nat → Int32} {la_echoTo : Nat → Int32} {la_homes : Nat → Int32} {la_talls : Nat → Int32} {la_known : Nat → Int32} {sf_facts : Int32} {sa_heard : Nat → Int32} {sa_huts : Nat → Int32} {sa_minutes : Nat → Int32} {P2 : Int32 → (Nat → Int32) → Prop} {P9 : Int32 → (Nat → Int32) → Prop} {post : (Nat → Int32) → Prop} {x1 : Int32} {x2 : Int32} {x3 : Int32} {x4 : Int32} {x5 : Int32} {ls : Array Slot} {H : Heap} {locs : List Loc}
    (zc : zC p s m args meth c cX7_shorten 7 RX7 none)
    (hK : zK E s)
    (hM : wpW E qp ql qs a_heard a_walked a_total a_longest a_next a_cover a_now a_then lf_huts lf_singers lf_villages lf_dams lf_echoes lf_deep lf_slide la_heights la_ladders la_minutes la_echoFrom la_echoTo la_homes la_talls la_known sf_facts sa_heard sa_huts sa_minutes H)
    (hS : va_S (wpA qp ql qs) s.heap H locs)
    (hP2 : ∀ (x2 : Int32) (a_heard : Nat → Int32) (H : Heap) (locs : List Loc) (ls : Array Slot), P2 x2 a_heard → lv_has ls 7 [(0, .ref (qp + 1)), (1, .int x1), (2, .int x2)] → wpW E qp ql qs a_heard a_walked a_total a_longest a_next a_cover a_now a_then lf_huts lf_singers lf_villages lf_dams lf_echoes lf_deep lf_slide la_heights la_ladders la_minutes la_echoFrom la_echoTo la_homes la_talls la_known sf_facts sa_heard sa_huts sa_minutes H → va_S (wpA qp ql qs) s.heap H locs → W p l e rm_wp_X7_shorten_1 s m args below meth c H locs 0 0 (MQ below (zQv (S := (Nat → Int32)) (fun u => post u) (fun u H => wpW E qp ql qs u a_walked a_total a_longest a_next a_cover a_now a_then lf_huts lf_singers lf_villages lf_dams lf_echoes lf_deep lf_slide la_heights la_ladders la_minutes la_echoFrom la_echoTo la_homes la_talls la_known sf_facts sa_heard sa_huts sa_minutes H) (wpA qp ql qs)) args s 0 0 (wpA qp ql qs)) (F0 m 2 ls []))
    (hP9 : ∀ (x3 : Int32) (a_heard : Nat → Int32) (H : Heap) (locs : List Loc) (ls : Array Slot), P9 x3 a_heard → lv_has ls 7 [(0, .ref (qp + 1)), (1, .int x1), (2, .int x2), (3, .int x3)] → wpW E qp ql qs a_heard a_walked a_total a_longest a_next a_cover a_now a_then lf_huts lf_singers lf_villages lf_dams lf_echoes lf_deep lf_slide la_heights la_ladders la_minutes la_echoFrom la_echoTo la_homes la_talls la_known sf_facts sa_heard sa_huts sa_minutes H → va_S (wpA qp ql qs) s.heap H locs → W p l e rm_wp_X7_shorten_1 s m args below meth c H locs 0 0 (MQ below (zQv (S := (Nat → Int32)) (fun u => post u) (fun u H => wpW E qp ql qs u a_walked a_total a_longest a_next a_cover a_now a_then lf_huts lf_singers lf_villages lf_dams lf_echoes lf_deep lf_slide la_heights la_ladders la_minutes la_echoFrom la_echoTo la_homes la_talls la_known sf_facts sa_heard sa_huts sa_minutes H) (wpA qp ql qs)) args s 0 0 (wpA qp ql qs)) (F0 m 9 ls []))
    (hl : lv_has ls 7 [(0, .ref (qp + 1)), (1, .int x1), (2, .int x2), (3, .int x3), (4, .int x4), (5, .int x5)])
    (hw : q_wp_X7_shorten_1_27 P2 P9 a_heard x1 x2 x3 x4 x5 post) :
    W p l e rm_wp_X7_shorten_1 s m args below meth c H locs 0 0 (MQ below (zQv (S := (Nat → Int32)) (fun u => post u) (fun u H => wpW E qp ql qs u a_walked a_total a_longest a_next a_cover a_now a_then lf_huts lf_singers lf_villages lf_dams lf_echoes lf_deep lf_slide la_heights la_ladders la_minutes la_echoFrom la_echoTo la_homes la_talls la_known sf_facts sa_heard sa_huts sa_minutes H) (wpA qp ql qs)) args s 0 0 (wpA qp ql qs)) (F0 m 27 ls []) := by
  have hx := zc.1
  have hb := zc.2.1
  refine hw (fun x5 a_heard => ∀ (H : Heap) (locs : List Loc) (ls : Array Slot), lv_has ls 7 [(0, .ref (qp + 1)), (1, .int x1), (2, .int x2), (3, .int x3), (4, .int x4), (5, .int x5)] → wpW E qp ql qs a_heard a_walked a_total a_longest a_next a_cover a_now a_then lf_huts lf_singers lf_villages lf_dams lf_echoes lf_deep lf_slide la_heights la_ladders la_minutes la_echoFrom la_echoTo la_homes la_talls la_known sf_facts sa_heard sa_huts sa_minutes H → va_S (wpA qp ql qs) s.heap H locs → W p l e rm_wp_X7_shorten_1 s m args below meth c H locs 0 0 (MQ below (zQv (S := (Nat → Int32)) (fun u => post u) (fun u H => wpW E qp ql qs u a_walked a_total a_longest a_next a_cover a_now a_then lf_huts lf_singers lf_villages lf_dams lf_echoes lf_deep lf_slide la_heights la_ladders la_minutes la_echoFrom la_echoTo la_homes la_talls la_known sf_facts sa_heard sa_huts sa_minutes H) (wpA qp ql qs)) args s 0 0 (wpA qp ql qs)) (F0 m 27 ls [])) ?_ _ _ _ hl hM hS
  intro x5 a_heard hw H locs ls hl hM hS
  refine lv_iload hx hb dX7_shorten_27 (lv_at hl 5 rfl) ?_
  refine lv_iload_n hx hb dX7_shorten_29 rfl (lv_at hl 1 rfl) ?_
  refine lv_icmp_ge (tgt := 86) hx hb dX7_shorten_30 (by decide) (fun hc => ?_) (fun hc => ?_)
  · have hw := hw.1 hc
    exact t_wp_X7_shorten_1_86 zc hK hM hS hP2 hP9 (lv_sub hl [0, 1, 2, 3] rfl) hw
  · have hw := hw.2 hc
    refine lv_iload hx hb dX7_shorten_33 (lv_at hl 4 rfl) ?_
    refine lv_sipush (v := (1000 : Int32)) hx hb dX7_shorten_35 (by decide) ?_
    refine lv_icmp_ge (tgt := 86) hx hb dX7_shorten_38 (by decide) (fun hc => ?_) (fun hc => ?_)
    · have hw := hw.1 hc
      exact t_wp_X7_shorten_1_86 zc hK hM hS hP2 hP9 (lv_sub hl [0, 1, 2, 3] rfl) hw
    · have hw := hw.2 hc
      refine lv_iload hx hb dX7_shorten_41 (lv_at hl 4 rfl) ?_
      refine lv_aload_n hx hb dX7_shorten_43 rfl (lv_at hl 0 rfl) ?_
      refine lv_iload_n hx hb dX7_shorten_44 rfl (lv_at hl 2 rfl) ?_
      refine lv_bipush (v := (9 : Int32)) hx hb dX7_shorten_45 (by decide) ?_
      refine lv_imul hx hb dX7_shorten_47 ?_
      refine lv_iload hx hb dX7_shorten_48 (lv_at hl 5 rfl) ?_
      refine lv_iadd hx hb dX7_shorten_50 ?_
      refine wpld_1 zc hK hM hw.1 dX7_shorten_51 ?_
      have hw := hw.2
      refine lv_iadd hx hb dX7_shorten_52 ?_
      refine lv_topi (fun v_1 ev_1 => ?_)
      have hw := hw v_1 ev_1
      refine lv_istore (lv' := [(6, .int v_1), (0, .ref (qp + 1)), (1, .int x1), (2, .int x2), (3, .int x3), (4, .int x4), (5, .int x5)]) hx hb dX7_shorten_53 hl (by decide) rfl (fun ls hl => ?_)
      refine lv_iload hx hb dX7_shorten_55 (lv_at hl 0 rfl) ?_
      refine lv_aload_n hx hb dX7_shorten_57 rfl (lv_at hl 1 rfl) ?_
      refine lv_iload_n hx hb dX7_shorten_58 rfl (lv_at hl 4 rfl) ?_
      refine lv_bipush (v := (9 : Int32)) hx hb dX7_shorten_59 (by decide) ?_
      refine lv_imul hx hb dX7_shorten_61 ?_
      refine lv_iload hx hb dX7_shorten_62 (lv_at hl 6 rfl) ?_
      refine lv_iadd hx hb dX7_shorten_64 ?_
      refine wpld_1 zc hK hM hw.1 dX7_shorten_65 ?_
      have hw := hw.2
      refine lv_icmp_ge (tgt := 80) hx hb dX7_shorten_66 (by decide) (fun hc => ?_) (fun hc => ?_)
      · have hw := hw.1 hc
        exact t_wp_X7_shorten_1_80 zc hK hM hS hP2 hP9 (fun _ _ H locs ls h hl hM hS => h H locs ls hl hM hS) (lv_sub hl [1, 2, 3, 4, 5, 6] rfl) hw
      · have hw := hw.2 hc
        refine lv_aload_n hx hb dX7_shorten_69 rfl (lv_at hl 1 rfl) ?_
        refine lv_iload_n hx hb dX7_shorten_70 rfl (lv_at hl 4 rfl) ?_
        refine lv_bipush (v := (9 : Int32)) hx hb dX7_shorten_71 (by decide) ?_
        refine lv_imul hx hb dX7_shorten_73 ?_
        refine lv_iload hx hb dX7_shorten_74 (lv_at hl 6 rfl) ?_
        refine lv_iadd hx hb dX7_shorten_76 ?_
        refine lv_iload hx hb dX7_shorten_77 (lv_at hl 0 rfl) ?_
        refine wpst_1 zc hK hM hS hw.1 dX7_shorten_79 (fun a_heard_1 H locs ea_heard_1 hM hS => ?_)
        have hw := hw.2 a_heard_1 ea_heard_1
        exact t_wp_X7_shorten_1_80 zc hK hM hS hP2 hP9 (fun _ _ H locs ls h hl hM hS => h H locs ls hl hM hS) (lv_sub hl [1, 2, 3, 4, 5, 6] rfl) hw
set_option maxRecDepth 20000 in
theorem t_wp_X7_shorten_1_9 {p : Program} {l : Launch} {e : Env} {s : State} {m : MethodId} {args : Array Value} {below : List Frame} {meth : Method} {c : Code} {E : zE} {qp ql qs : Nat} {a_heard : Nat → Int32} {a_walked : Nat → Int32} {a_total : Nat → Int32} {a_longest : Nat → Int32} {a_next : Nat → Int32} {a_cover : Nat → Int32} {a_now : Nat → Int32} {a_then : Nat → Int32} {lf_huts : Int32} {lf_singers : Int32} {lf_villages : Int32} {lf_dams : Int32} {lf_echoes : Int32} {lf_deep : Int32} {lf_slide : Int32} {la_heights : Nat → Int32} {la_ladders : Nat → Int32} {la_minutes : Nat → Int32} {la_echoFrom : Nat → Int32} {la_echoTo : Nat → Int32} {la_homes : Nat → Int32} {la_talls : Nat → Int32} {la_known : Nat → Int32} {sf_facts : Int32} {sa_heard : Nat → Int32} {sa_huts : Nat → Int32} {sa_minutes : Nat → Int32} {P2 : Int32 → (Nat → Int32) → Prop} {post : (Nat → Int32) → Prop} {x1 : Int32} {x2 : Int32} {x3 : Int32} {ls : Array Slot} {H : Heap} {locs : List Loc}
    (zc : zC p s m args meth c cX7_shorten 7 RX7 none)
    (hK : zK E s)
    (hM : wpW E qp ql qs a_heard a_walked a_total a_longest a_next a_cover a_now a_then lf_huts lf_singers lf_villages lf_dams lf_echoes lf_deep lf_slide la_heights la_ladders la_minutes la_echoFrom la_echoTo la_homes la_talls la_known sf_facts sa_heard sa_huts sa_minutes H)
    (hS : va_S (wpA qp ql qs) s.heap H locs)
    (hP2 : ∀ (x2 : Int32) (a_heard : Nat → Int32) (H : Heap) (locs : List Loc) (ls : Array Slot), P2 x2 a_heard → lv_has ls 7 [(0, .ref (qp + 1)), (1, .int x1), (2, .int x2)] → wpW E qp ql qs a_heard a_walked a_total a_longest a_next a_cover a_now a_then lf_huts lf_singers lf_villages lf_dams lf_echoes lf_deep lf_slide la_heights la_ladders la_minutes la_echoFrom la_echoTo la_homes la_talls la_known sf_facts sa_heard sa_huts sa_minutes H → va_S (wpA qp ql qs) s.heap H locs → W p l e rm_wp_X7_shorten_1 s m args below meth c H locs 0 0 (MQ below (zQv (S := (Nat → Int32)) (fun u => post u) (fun u H => wpW E qp ql qs u a_walked a_total a_longest a_next a_cover a_now a_then lf_huts lf_singers lf_villages lf_dams lf_echoes lf_deep lf_slide la_heights la_ladders la_minutes la_echoFrom la_echoTo la_homes la_talls la_known sf_facts sa_heard sa_huts sa_minutes H) (wpA qp ql qs)) args s 0 0 (wpA qp ql qs)) (F0 m 2 ls []))
    (hl : lv_has ls 7 [(0, .ref (qp + 1)), (1, .int x1), (2, .int x2), (3, .int x3)])
    (hw : q_wp_X7_shorten_1_9 P2 a_heard x1 x2 x3 post) :
    W p l e rm_wp_X7_shorten_1 s m args below meth c H locs 0 0 (MQ below (zQv (S := (Nat → Int32)) (fun u => post u) (fun u H => wpW E qp ql qs u a_walked a_total a_longest a_next a_cover a_now a_then lf_huts lf_singers lf_villages lf_dams lf_echoes lf_deep lf_slide la_heights la_ladders la_minutes la_echoFrom la_echoTo la_homes la_talls la_known sf_facts sa_heard sa_huts sa_minutes H) (wpA qp ql qs)) args s 0 0 (wpA qp ql qs)) (F0 m 9 ls []) := by
  have hx := zc.1
  have hb := zc.2.1
  refine hw (fun x3 a_heard => ∀ (H : Heap) (locs : List Loc) (ls : Array Slot), lv_has ls 7 [(0, .ref (qp + 1)), (1, .int x1), (2, .int x2), (3, .int x3)] → wpW E qp ql qs a_heard a_walked a_total a_longest a_next a_cover a_now a_then lf_huts lf_singers lf_villages lf_dams lf_echoes lf_deep lf_slide la_heights la_ladders la_minutes la_echoFrom la_echoTo la_homes la_talls la_known sf_facts sa_heard sa_huts sa_minutes H → va_S (wpA qp ql qs) s.heap H locs → W p l e rm_wp_X7_shorten_1 s m args below meth c H locs 0 0 (MQ below (zQv (S := (Nat → Int32)) (fun u => post u) (fun u H => wpW E qp ql qs u a_walked a_total a_longest a_next a_cover a_now a_then lf_huts lf_singers lf_villages lf_dams lf_echoes lf_deep lf_slide la_heights la_ladders la_minutes la_echoFrom la_echoTo la_homes la_talls la_known sf_facts sa_heard sa_huts sa_minutes H) (wpA qp ql qs)) args s 0 0 (wpA qp ql qs)) (F0 m 9 ls [])) ?_ _ _ _ hl hM hS
  intro x3 a_heard hw H locs ls hl hM hS
  refine lv_iload_n hx hb dX7_shorten_9 rfl (lv_at hl 3 rfl) ?_
  refine lv_iload_n hx hb dX7_shorten_10 rfl (lv_at hl 1 rfl) ?_
  refine lv_icmp_ge (tgt := 92) hx hb dX7_shorten_11 (by decide) (fun hc => ?_) (fun hc => ?_)
  · have hw := hw.1 hc
    obtain ⟨v_1, ev_1⟩ : ∃ y : Int32, y = x2 + (1 : Int32) := ⟨_, rfl⟩
    have hw := hw v_1 ev_1
    refine lv_iinc (v := v_1) (k := 2) (lv' := [(2, .int v_1), (0, .ref (qp + 1)), (1, .int x1), (3, .int x3)]) hx hb dX7_shorten_92 hl rfl (by rw [ev_1]; rfl) (by decide) rfl (fun ls hl => ?_)
    refine lv_goto (tgt := 2) hx hb dX7_shorten_95 (by decide) ?_
    exact hP2 _ _ _ _ _ hw (lv_sub hl [1, 2, 0] rfl) hM hS
  · have hw := hw.2 hc
    refine lv_aload_n hx hb dX7_shorten_14 rfl (lv_at hl 0 rfl) ?_
    refine lv_iload_n hx hb dX7_shorten_15 rfl (lv_at hl 3 rfl) ?_
    refine lv_bipush (v := (9 : Int32)) hx hb dX7_shorten_16 (by decide) ?_
    refine lv_imul hx hb dX7_shorten_18 ?_
    refine lv_iload_n hx hb dX7_shorten_19 rfl (lv_at hl 2 rfl) ?_
    refine lv_iadd hx hb dX7_shorten_20 ?_
    refine wpld_1 zc hK hM hw.1 dX7_shorten_21 ?_
    have hw := hw.2
    refine lv_topi (fun v_2 ev_2 => ?_)
    have hw := hw v_2 ev_2
    refine lv_istore (lv' := [(4, .int v_2), (0, .ref (qp + 1)), (1, .int x1), (2, .int x2), (3, .int x3)]) hx hb dX7_shorten_22 hl (by decide) rfl (fun ls hl => ?_)
    refine lv_iconst (v := (0 : Int32)) hx hb dX7_shorten_24 (by decide) ?_
    refine lv_istore (lv' := [(5, .int (0 : Int32)), (4, .int v_2), (0, .ref (qp + 1)), (1, .int x1), (2, .int x2), (3, .int x3)]) hx hb dX7_shorten_25 hl (by decide) rfl (fun ls hl => ?_)
    exact t_wp_X7_shorten_1_27 zc hK hM hS hP2 (fun _ _ H locs ls h hl hM hS => h H locs ls hl hM hS) (lv_sub hl [2, 3, 4, 5, 1, 0] rfl) hw
set_option maxRecDepth 20000 in
theorem t_wp_X7_shorten_1_2 {p : Program} {l : Launch} {e : Env} {s : State} {m : MethodId} {args : Array Value} {below : List Frame} {meth : Method} {c : Code} {E : zE} {qp ql qs : Nat} {a_heard : Nat → Int32} {a_walked : Nat → Int32} {a_total : Nat → Int32} {a_longest : Nat → Int32} {a_next : Nat → Int32} {a_cover : Nat → Int32} {a_now : Nat → Int32} {a_then : Nat → Int32} {lf_huts : Int32} {lf_singers : Int32} {lf_villages : Int32} {lf_dams : Int32} {lf_echoes : Int32} {lf_deep : Int32} {lf_slide : Int32} {la_heights : Nat → Int32} {la_ladders : Nat → Int32} {la_minutes : Nat → Int32} {la_echoFrom : Nat → Int32} {la_echoTo : Nat → Int32} {la_homes : Nat → Int32} {la_talls : Nat → Int32} {la_known : Nat → Int32} {sf_facts : Int32} {sa_heard : Nat → Int32} {sa_huts : Nat → Int32} {sa_minutes : Nat → Int32} {post : (Nat → Int32) → Prop} {x1 : Int32} {x2 : Int32} {ls : Array Slot} {H : Heap} {locs : List Loc}
    (zc : zC p s m args meth c cX7_shorten 7 RX7 none)
    (hK : zK E s)
    (hM : wpW E qp ql qs a_heard a_walked a_total a_longest a_next a_cover a_now a_then lf_huts lf_singers lf_villages lf_dams lf_echoes lf_deep lf_slide la_heights la_ladders la_minutes la_echoFrom la_echoTo la_homes la_talls la_known sf_facts sa_heard sa_huts sa_minutes H)
    (hS : va_S (wpA qp ql qs) s.heap H locs)
    (hl : lv_has ls 7 [(0, .ref (qp + 1)), (1, .int x1), (2, .int x2)])
    (hw : q_wp_X7_shorten_1_2 a_heard x1 x2 post) :
    W p l e rm_wp_X7_shorten_1 s m args below meth c H locs 0 0 (MQ below (zQv (S := (Nat → Int32)) (fun u => post u) (fun u H => wpW E qp ql qs u a_walked a_total a_longest a_next a_cover a_now a_then lf_huts lf_singers lf_villages lf_dams lf_echoes lf_deep lf_slide la_heights la_ladders la_minutes la_echoFrom la_echoTo la_homes la_talls la_known sf_facts sa_heard sa_huts sa_minutes H) (wpA qp ql qs)) args s 0 0 (wpA qp ql qs)) (F0 m 2 ls []) := by
  have hx := zc.1
  have hb := zc.2.1
  refine hw (fun x2 a_heard => ∀ (H : Heap) (locs : List Loc) (ls : Array Slot), lv_has ls 7 [(0, .ref (qp + 1)), (1, .int x1), (2, .int x2)] → wpW E qp ql qs a_heard a_walked a_total a_longest a_next a_cover a_now a_then lf_huts lf_singers lf_villages lf_dams lf_echoes lf_deep lf_slide la_heights la_ladders la_minutes la_echoFrom la_echoTo la_homes la_talls la_known sf_facts sa_heard sa_huts sa_minutes H → va_S (wpA qp ql qs) s.heap H locs → W p l e rm_wp_X7_shorten_1 s m args below meth c H locs 0 0 (MQ below (zQv (S := (Nat → Int32)) (fun u => post u) (fun u H => wpW E qp ql qs u a_walked a_total a_longest a_next a_cover a_now a_then lf_huts lf_singers lf_villages lf_dams lf_echoes lf_deep lf_slide la_heights la_ladders la_minutes la_echoFrom la_echoTo la_homes la_talls la_known sf_facts sa_heard sa_huts sa_minutes H) (wpA qp ql qs)) args s 0 0 (wpA qp ql qs)) (F0 m 2 ls [])) ?_ _ _ _ hl hM hS
  intro x2 a_heard hw H locs ls hl hM hS
  refine lv_iload_n hx hb dX7_shorten_2 rfl (lv_at hl 2 rfl) ?_
  refine lv_iload_n hx hb dX7_shorten_3 rfl (lv_at hl 1 rfl) ?_
  refine lv_icmp_ge (tgt := 98) hx hb dX7_shorten_4 (by decide) (fun hc => ?_) (fun hc => ?_)
  · have hw := hw.1 hc
    exact zret_vw a_heard zc hS hw hM dX7_shorten_98
  · have hw := hw.2 hc
    refine lv_iconst (v := (0 : Int32)) hx hb dX7_shorten_7 (by decide) ?_
    refine lv_istore_n (lv' := [(3, .int (0 : Int32)), (0, .ref (qp + 1)), (1, .int x1), (2, .int x2)]) hx hb dX7_shorten_8 rfl hl (by decide) rfl (fun ls hl => ?_)
    exact t_wp_X7_shorten_1_9 zc hK hM hS (fun _ _ H locs ls h hl hM hS => h H locs ls hl hM hS) (lv_sub hl [1, 2, 3, 0] rfl) hw
set_option maxRecDepth 20000 in
theorem t_wp_X7_shorten_1_0 {p : Program} {l : Launch} {e : Env} {s : State} {m : MethodId} {args : Array Value} {below : List Frame} {meth : Method} {c : Code} {E : zE} {qp ql qs : Nat} {a_heard : Nat → Int32} {a_walked : Nat → Int32} {a_total : Nat → Int32} {a_longest : Nat → Int32} {a_next : Nat → Int32} {a_cover : Nat → Int32} {a_now : Nat → Int32} {a_then : Nat → Int32} {lf_huts : Int32} {lf_singers : Int32} {lf_villages : Int32} {lf_dams : Int32} {lf_echoes : Int32} {lf_deep : Int32} {lf_slide : Int32} {la_heights : Nat → Int32} {la_ladders : Nat → Int32} {la_minutes : Nat → Int32} {la_echoFrom : Nat → Int32} {la_echoTo : Nat → Int32} {la_homes : Nat → Int32} {la_talls : Nat → Int32} {la_known : Nat → Int32} {sf_facts : Int32} {sa_heard : Nat → Int32} {sa_huts : Nat → Int32} {sa_minutes : Nat → Int32} {post : (Nat → Int32) → Prop} {x1 : Int32} {ls : Array Slot} {H : Heap} {locs : List Loc}
    (zc : zC p s m args meth c cX7_shorten 7 RX7 none)
    (hK : zK E s)
    (hM : wpW E qp ql qs a_heard a_walked a_total a_longest a_next a_cover a_now a_then lf_huts lf_singers lf_villages lf_dams lf_echoes lf_deep lf_slide la_heights la_ladders la_minutes la_echoFrom la_echoTo la_homes la_talls la_known sf_facts sa_heard sa_huts sa_minutes H)
    (hS : va_S (wpA qp ql qs) s.heap H locs)
    (hl : lv_has ls 7 [(0, .ref (qp + 1)), (1, .int x1)])
    (hw : q_wp_X7_shorten_1_0 a_heard x1 post) :
    W p l e rm_wp_X7_shorten_1 s m args below meth c H locs 0 0 (MQ below (zQv (S := (Nat → Int32)) (fun u => post u) (fun u H => wpW E qp ql qs u a_walked a_total a_longest a_next a_cover a_now a_then lf_huts lf_singers lf_villages lf_dams lf_echoes lf_deep lf_slide la_heights la_ladders la_minutes la_echoFrom la_echoTo la_homes la_talls la_known sf_facts sa_heard sa_huts sa_minutes H) (wpA qp ql qs)) args s 0 0 (wpA qp ql qs)) (F0 m 0 ls []) := by
  have hx := zc.1
  have hb := zc.2.1
  refine lv_iconst (v := (0 : Int32)) hx hb dX7_shorten_0 (by decide) ?_
  refine lv_istore_n (lv' := [(2, .int (0 : Int32)), (0, .ref (qp + 1)), (1, .int x1)]) hx hb dX7_shorten_1 rfl hl (by decide) rfl (fun ls hl => ?_)
  exact t_wp_X7_shorten_1_2 zc hK hM hS  (lv_sub hl [1, 2, 0] rfl) hw
set_option maxRecDepth 20000 in
theorem c_wp_X7_shorten_1 (l : Launch) {E : zE} {qp ql qs : Nat} {a_heard : Nat → Int32} {a_walked : Nat → Int32} {a_total : Nat → Int32} {a_longest : Nat → Int32} {a_next : Nat → Int32} {a_cover : Nat → Int32} {a_now : Nat → Int32} {a_then : Nat → Int32} {lf_huts : Int32} {lf_singers : Int32} {lf_villages : Int32} {lf_dams : Int32} {lf_echoes : Int32} {lf_deep : Int32} {lf_slide : Int32} {la_heights : Nat → Int32} {la_ladders : Nat → Int32} {la_minutes : Nat → Int32} {la_echoFrom : Nat → Int32} {la_echoTo : Nat → Int32} {la_homes : Nat → Int32} {la_talls : Nat → Int32} {la_known : Nat → Int32} {sf_facts : Int32} {sa_heard : Nat → Int32} {sa_huts : Nat → Int32} {sa_minutes : Nat → Int32} {x1 : Int32} {post : (Nat → Int32) → Prop} (hw : q_wp_X7_shorten_1_0 a_heard x1 post) : Met l yX7_shorten (Cond.code yX7_shorten cX7_shorten 7 none :: zb) rm_wp_X7_shorten_1 (va_Pc [.ref (qp + 1), .int x1] (fun U => wpW E qp ql qs a_heard a_walked a_total a_longest a_next a_cover a_now a_then lf_huts lf_singers lf_villages lf_dams lf_echoes lf_deep lf_slide la_heights la_ladders la_minutes la_echoFrom la_echoTo la_homes la_talls la_known sf_facts sa_heard sa_huts sa_minutes U.heap ∧ zK E U)) (zQv (S := (Nat → Int32)) (fun u => post u) (fun u H => wpW E qp ql qs u a_walked a_total a_longest a_next a_cover a_now a_then lf_huts lf_singers lf_villages lf_dams lf_echoes lf_deep lf_slide la_heights la_ladders la_minutes la_echoFrom la_echoTo la_homes la_talls la_known sf_facts sa_heard sa_huts sa_minutes H) (wpA qp ql qs)) 0 0 (wpA qp ql qs) := by
  refine Met.ofW (cc := cX7_shorten) (maxL := 7) (ret := none) (by decide) rfl ?_
  intro p e s m args below meth c s₁ B hml hv
  obtain ⟨rfl, hM, hK⟩ := hv
  have zc := zc_of B hml
  have hl := lv_entry ([.ref (qp + 1), .int x1]) (n := 7) (Nat.le_of_ble_eq_true rfl)
  rw [lg_entry_eq]
  generalize (lg_sl ([.ref (qp + 1), .int x1]) ++ List.replicate (7 - (lg_sl ([.ref (qp + 1), .int x1])).length) Slot.unset).toArray = ls at hl ⊢
  have hl : lv_has ls 7 [(0, .ref (qp + 1)), (1, .int x1)] := hl
  exact t_wp_X7_shorten_1_0 zc hK hM va_S.rf (lv_sub hl [0, 1] rfl) hw
-- wp_X7_markAtOnce
abbrev rm_wp_X7_markAtOnce : Room := { frames := 1, cells := 0, slots := 0, locals := 21 }
def q_wp_X7_markAtOnce_28 (P2 : Int32 → (Nat → Int32) → Prop) (a_heard : Nat → Int32) (x1 : Int32) (x2 : Int32) (x3 : Int32) (post : (Nat → Int32) → Prop) : Prop :=
  ∀ v_1 : Int32, v_1 = x3 + (1 : Int32) → (P2 v_1 a_heard)
def q_wp_X7_markAtOnce_2 (a_heard : Nat → Int32) (x1 : Int32) (x2 : Int32) (x3 : Int32) (post : (Nat → Int32) → Prop) : Prop :=
  ∀ P2 : Int32 → (Nat → Int32) → Prop, (∀ (x3 : Int32) (a_heard : Nat → Int32), (((9 : Int32) ≤ x3 → (post a_heard)) ∧ (¬ (9 : Int32) ≤ x3 → (q_z_X10_has_0 x2 x3 (fun r_1 => (r_1 = 0 → (q_wp_X7_markAtOnce_28 P2 a_heard x1 x2 x3 post)) ∧ (¬ r_1 = 0 → (vp_in ((x1 * (9 : Int32)) + x3) 81 ∧ (∀ a_heard_1 : Nat → Int32, a_heard_1 = upd a_heard (Int32.toNatClampNeg ((x1 * (9 : Int32)) + x3)) (0 : Int32) → (q_wp_X7_markAtOnce_28 P2 a_heard_1 x1 x2 x3 post)))))))) → P2 x3 a_heard) → P2 x3 a_heard
def q_wp_X7_markAtOnce_0 (a_heard : Nat → Int32) (x1 : Int32) (x2 : Int32) (post : (Nat → Int32) → Prop) : Prop :=
  q_wp_X7_markAtOnce_2 a_heard x1 x2 (0 : Int32) post
set_option maxRecDepth 20000 in
theorem t_wp_X7_markAtOnce_28 {p : Program} {l : Launch} {e : Env} {s : State} {m : MethodId} {args : Array Value} {below : List Frame} {meth : Method} {c : Code} {E : zE} {qp ql qs : Nat} {a_heard : Nat → Int32} {a_walked : Nat → Int32} {a_total : Nat → Int32} {a_longest : Nat → Int32} {a_next : Nat → Int32} {a_cover : Nat → Int32} {a_now : Nat → Int32} {a_then : Nat → Int32} {lf_huts : Int32} {lf_singers : Int32} {lf_villages : Int32} {lf_dams : Int32} {lf_echoes : Int32} {lf_deep : Int32} {lf_slide : Int32} {la_heights : Nat → Int32} {la_ladders : Nat → Int32} {la_minutes : Nat → Int32} {la_echoFrom : Nat → Int32} {la_echoTo : Nat → Int32} {la_homes : Nat → Int32} {la_talls : Nat → Int32} {la_known : Nat → Int32} {sf_facts : Int32} {sa_heard : Nat → Int32} {sa_huts : Nat → Int32} {sa_minutes : Nat → Int32} {P2 : Int32 → (Nat → Int32) → Prop} {post : (Nat → Int32) → Prop} {x1 : Int32} {x2 : Int32} {x3 : Int32} {ls : Array Slot} {H : Heap} {locs : List Loc}
    (zc : zC p s m args meth c cX7_markAtOnce 4 RX7 none)
    (hK : zK E s)
    (hM : wpW E qp ql qs a_heard a_walked a_total a_longest a_next a_cover a_now a_then lf_huts lf_singers lf_villages lf_dams lf_echoes lf_deep lf_slide la_heights la_ladders la_minutes la_echoFrom la_echoTo la_homes la_talls la_known sf_facts sa_heard sa_huts sa_minutes H)
    (hS : va_S (wpA qp ql qs) s.heap H locs)
    (hP2 : ∀ (x3 : Int32) (a_heard : Nat → Int32) (H : Heap) (locs : List Loc) (ls : Array Slot), P2 x3 a_heard → lv_has ls 4 [(0, .ref qp), (1, .int x1), (2, .int x2), (3, .int x3)] → wpW E qp ql qs a_heard a_walked a_total a_longest a_next a_cover a_now a_then lf_huts lf_singers lf_villages lf_dams lf_echoes lf_deep lf_slide la_heights la_ladders la_minutes la_echoFrom la_echoTo la_homes la_talls la_known sf_facts sa_heard sa_huts sa_minutes H → va_S (wpA qp ql qs) s.heap H locs → W p l e rm_wp_X7_markAtOnce s m args below meth c H locs 0 0 (MQ below (zQv (S := (Nat → Int32)) (fun u => post u) (fun u H => wpW E qp ql qs u a_walked a_total a_longest a_next a_cover a_now a_then lf_huts lf_singers lf_villages lf_dams lf_echoes lf_deep lf_slide la_heights la_ladders la_minutes la_echoFrom la_echoTo la_homes la_talls la_known sf_facts sa_heard sa_huts sa_minutes H) (wpA qp ql qs)) args s 0 0 (wpA qp ql qs)) (F0 m 2 ls []))
    (hl : lv_has ls 4 [(0, .ref qp), (1, .int x1), (2, .int x2), (3, .int x3)])
    (hw : q_wp_X7_markAtOnce_28 P2 a_heard x1 x2 x3 post) :
    W p l e rm_wp_X7_markAtOnce s m args below meth c H locs 0 0 (MQ below (zQv (S := (Nat → Int32)) (fun u => post u) (fun u H => wpW E qp ql qs u a_walked a_total a_longest a_next a_cover a_now a_then lf_huts lf_singers lf_villages lf_dams lf_echoes lf_deep lf_slide la_heights la_ladders la_minutes la_echoFrom la_echoTo la_homes la_talls la_known sf_facts sa_heard sa_huts sa_minutes H) (wpA qp ql qs)) args s 0 0 (wpA qp ql qs)) (F0 m 28 ls []) := by
  have hx := zc.1
  have hb := zc.2.1
  obtain ⟨v_1, ev_1⟩ : ∃ y : Int32, y = x3 + (1 : Int32) := ⟨_, rfl⟩
  have hw := hw v_1 ev_1
  refine lv_iinc (v := v_1) (k := 3) (lv' := [(3, .int v_1), (0, .ref qp), (1, .int x1), (2, .int x2)]) hx hb dX7_markAtOnce_28 hl rfl (by rw [ev_1]; rfl) (by decide) rfl (fun ls hl => ?_)
  refine lv_goto (tgt := 2) hx hb dX7_markAtOnce_31 (by decide) ?_
  exact hP2 _ _ _ _ _ hw (lv_sub hl [1, 2, 3, 0] rfl) hM hS
set_option maxRecDepth 20000 in
theorem t_wp_X7_markAtOnce_2 {p : Program} {l : Launch} {e : Env} {s : State} {m : MethodId} {args : Array Value} {below : List Frame} {meth : Method} {c : Code} {E : zE} {qp ql qs : Nat} {a_heard : Nat → Int32} {a_walked : Nat → Int32} {a_total : Nat → Int32} {a_longest : Nat → Int32} {a_next : Nat → Int32} {a_cover : Nat → Int32} {a_now : Nat → Int32} {a_then : Nat → Int32} {lf_huts : Int32} {lf_singers : Int32} {lf_villages : Int32} {lf_dams : Int32} {lf_echoes : Int32} {lf_deep : Int32} {lf_slide : Int32} {la_heights : Nat → Int32} {la_ladders : Nat → Int32} {la_minutes : Nat → Int32} {la_echoFrom : Nat → Int32} {la_echoTo : Nat → Int32} {la_homes : Nat → Int32} {la_talls : Nat → Int32} {la_known : Nat → Int32} {sf_facts : Int32} {sa_heard : Nat → Int32} {sa_huts : Nat → Int32} {sa_minutes : Nat → Int32} {post : (Nat → Int32) → Prop} {x1 : Int32} {x2 : Int32} {x3 : Int32} {ls : Array Slot} {H : Heap} {locs : List Loc}
    (zc : zC p s m args meth c cX7_markAtOnce 4 RX7 none)
    (hK : zK E s)
    (hM : wpW E qp ql qs a_heard a_walked a_total a_longest a_next a_cover a_now a_then lf_huts lf_singers lf_villages lf_dams lf_echoes lf_deep lf_slide la_heights la_ladders la_minutes la_echoFrom la_echoTo la_homes la_talls la_known sf_facts sa_heard sa_huts sa_minutes H)
    (hS : va_S (wpA qp ql qs) s.heap H locs)
    (hl : lv_has ls 4 [(0, .ref qp), (1, .int x1), (2, .int x2), (3, .int x3)])
    (hw : q_wp_X7_markAtOnce_2 a_heard x1 x2 x3 post) :
    W p l e rm_wp_X7_markAtOnce s m args below meth c H locs 0 0 (MQ below (zQv (S := (Nat → Int32)) (fun u => post u) (fun u H => wpW E qp ql qs u a_walked a_total a_longest a_next a_cover a_now a_then lf_huts lf_singers lf_villages lf_dams lf_echoes lf_deep lf_slide la_heights la_ladders la_minutes la_echoFrom la_echoTo la_homes la_talls la_known sf_facts sa_heard sa_huts sa_minutes H) (wpA qp ql qs)) args s 0 0 (wpA qp ql qs)) (F0 m 2 ls []) := by
  have hx := zc.1
  have hb := zc.2.1
  refine hw (fun x3 a_heard => ∀ (H : Heap) (locs : List Loc) (ls : Array Slot), lv_has ls 4 [(0, .ref qp), (1, .int x1), (2, .int x2), (3, .int x3)] → wpW E qp ql qs a_heard a_walked a_total a_longest a_next a_cover a_now a_then lf_huts lf_singers lf_villages lf_dams lf_echoes lf_deep lf_slide la_heights la_ladders la_minutes la_echoFrom la_echoTo la_homes la_talls la_known sf_facts sa_heard sa_huts sa_minutes H → va_S (wpA qp ql qs) s.heap H locs → W p l e rm_wp_X7_markAtOnce s m args below meth c H locs 0 0 (MQ below (zQv (S := (Nat → Int32)) (fun u => post u) (fun u H => wpW E qp ql qs u a_walked a_total a_longest a_next a_cover a_now a_then lf_huts lf_singers lf_villages lf_dams lf_echoes lf_deep lf_slide la_heights la_ladders la_minutes la_echoFrom la_echoTo la_homes la_talls la_known sf_facts sa_heard sa_huts sa_minutes H) (wpA qp ql qs)) args s 0 0 (wpA qp ql qs)) (F0 m 2 ls [])) ?_ _ _ _ hl hM hS
  intro x3 a_heard hw H locs ls hl hM hS
  refine lv_iload_n hx hb dX7_markAtOnce_2 rfl (lv_at hl 3 rfl) ?_
  refine lv_bipush (v := (9 : Int32)) hx hb dX7_markAtOnce_3 (by decide) ?_
  refine lv_icmp_ge (tgt := 34) hx hb dX7_markAtOnce_5 (by decide) (fun hc => ?_) (fun hc => ?_)
  · have hw := hw.1 hc
    exact zret_vw a_heard zc hS hw hM dX7_markAtOnce_34
  · have hw := hw.2 hc
    refine lv_iload_n hx hb dX7_markAtOnce_8 rfl (lv_at hl 2 rfl) ?_
    refine lv_iload_n hx hb dX7_markAtOnce_9 rfl (lv_at hl 3 rfl) ?_
    refine zSN_i [.int x2, .int x3] [] zc ky_X10_has kz_X10_has (hK.2 _ kn_7_70) (c_z_X10_has l hw) (zPre0 _) rfl rfl hl.1 (Nat.le_of_ble_eq_true rfl) ⟨rfl, rfl⟩ ⟨Nat.le_of_ble_eq_true rfl, Nat.le_of_ble_eq_true rfl⟩ ⟨(Nat.zero_le _), (Nat.zero_le _)⟩ dX7_markAtOnce_10 (fun r_1 hw => ?_)
    refine lv_if_eq (tgt := 28) hx hb dX7_markAtOnce_13 (by decide) (fun hc => ?_) (fun hc => ?_)
    · have hw := hw.1 hc
      exact t_wp_X7_markAtOnce_28 zc hK hM hS (fun _ _ H locs ls h hl hM hS => h H locs ls hl hM hS) (lv_sub hl [0, 1, 2, 3] rfl) hw
    · have hw := hw.2 hc
      refine lv_aload_n hx hb dX7_markAtOnce_16 rfl (lv_at hl 0 rfl) ?_
      refine wpg_7_9_0 zc hK hM dX7_markAtOnce_17 ?_
      refine lv_iload_n hx hb dX7_markAtOnce_20 rfl (lv_at hl 1 rfl) ?_
      refine lv_bipush (v := (9 : Int32)) hx hb dX7_markAtOnce_21 (by decide) ?_
      refine lv_imul hx hb dX7_markAtOnce_23 ?_
      refine lv_iload_n hx hb dX7_markAtOnce_24 rfl (lv_at hl 3 rfl) ?_
      refine lv_iadd hx hb dX7_markAtOnce_25 ?_
      refine lv_iconst (v := (0 : Int32)) hx hb dX7_markAtOnce_26 (by decide) ?_
      refine wpst_1 zc hK hM hS hw.1 dX7_markAtOnce_27 (fun a_heard_1 H locs ea_heard_1 hM hS => ?_)
      have hw := hw.2 a_heard_1 ea_heard_1
      exact t_wp_X7_markAtOnce_28 zc hK hM hS (fun _ _ H locs ls h hl hM hS => h H locs ls hl hM hS) (lv_sub hl [0, 1, 2, 3] rfl) hw
set_option maxRecDepth 20000 in
theorem t_wp_X7_markAtOnce_0 {p : Program} {l : Launch} {e : Env} {s : State} {m : MethodId} {args : Array Value} {below : List Frame} {meth : Method} {c : Code} {E : zE} {qp ql qs : Nat} {a_heard : Nat → Int32} {a_walked : Nat → Int32} {a_total : Nat → Int32} {a_longest : Nat → Int32} {a_next : Nat → Int32} {a_cover : Nat → Int32} {a_now : Nat → Int32} {a_then : Nat → Int32} {lf_huts : Int32} {lf_singers : Int32} {lf_villages : Int32} {lf_dams : Int32} {lf_echoes : Int32} {lf_deep : Int32} {lf_slide : Int32} {la_heights : Nat → Int32} {la_ladders : Nat → Int32} {la_minutes : Nat → Int32} {la_echoFrom : Nat → Int32} {la_echoTo : Nat → Int32} {la_homes : Nat → Int32} {la_talls : Nat → Int32} {la_known : Nat → Int32} {sf_facts : Int32} {sa_heard : Nat → Int32} {sa_huts : Nat → Int32} {sa_minutes : Nat → Int32} {post : (Nat → Int32) → Prop} {x1 : Int32} {x2 : Int32} {ls : Array Slot} {H : Heap} {locs : List Loc}
    (zc : zC p s m args meth c cX7_markAtOnce 4 RX7 none)
    (hK : zK E s)
    (hM : wpW E qp ql qs a_heard a_walked a_total a_longest a_next a_cover a_now a_then lf_huts lf_singers lf_villages lf_dams lf_echoes lf_deep lf_slide la_heights la_ladders la_minutes la_echoFrom la_echoTo la_homes la_talls la_known sf_facts sa_heard sa_huts sa_minutes H)
    (hS : va_S (wpA qp ql qs) s.heap H locs)
    (hl : lv_has ls 4 [(0, .ref qp), (1, .int x1), (2, .int x2)])
    (hw : q_wp_X7_markAtOnce_0 a_heard x1 x2 post) :
    W p l e rm_wp_X7_markAtOnce s m args below meth c H locs 0 0 (MQ below (zQv (S := (Nat → Int32)) (fun u => post u) (fun u H => wpW E qp ql qs u a_walked a_total a_longest a_next a_cover a_now a_then lf_huts lf_singers lf_villages lf_dams lf_echoes lf_deep lf_slide la_heights la_ladders la_minutes la_echoFrom la_echoTo la_homes la_talls la_known sf_facts sa_heard sa_huts sa_minutes H) (wpA qp ql qs)) args s 0 0 (wpA qp ql qs)) (F0 m 0 ls []) := by
  have hx := zc.1
  have hb := zc.2.1
  refine lv_iconst (v := (0 : Int32)) hx hb dX7_markAtOnce_0 (by decide) ?_
  refine lv_istore_n (lv' := [(3, .int (0 : Int32)), (0, .ref qp), (1, .int x1), (2, .int x2)]) hx hb dX7_markAtOnce_1 rfl hl (by decide) rfl (fun ls hl => ?_)
  exact t_wp_X7_markAtOnce_2 zc hK hM hS  (lv_sub hl [1, 2, 3, 0] rfl) hw
set_option maxRecDepth 20000 in
theorem c_wp_X7_markAtOnce (l : Launch) {E : zE} {qp ql qs : Nat} {a_heard : Nat → Int32} {a_walked : Nat → Int32} {a_total : Nat → Int32} {a_longest : Nat → Int32} {a_next : Nat → Int32} {a_cover : Nat → Int32} {a_now : Nat → Int32} {a_then : Nat → Int32} {lf_huts : Int32} {lf_singers : Int32} {lf_villages : Int32} {lf_dams : Int32} {lf_echoes : Int32} {lf_deep : Int32} {lf_slide : Int32} {la_heights : Nat → Int32} {la_ladders : Nat → Int32} {la_minutes : Nat → Int32} {la_echoFrom : Nat → Int32} {la_echoTo : Nat → Int32} {la_homes : Nat → Int32} {la_talls : Nat → Int32} {la_known : Nat → Int32} {sf_facts : Int32} {sa_heard : Nat → Int32} {sa_huts : Nat → Int32} {sa_minutes : Nat → Int32} {x1 : Int32} {x2 : Int32} {post : (Nat → Int32) → Prop} (hw : q_wp_X7_markAtOnce_0 a_heard x1 x2 post) : Met l yX7_markAtOnce (Cond.code yX7_markAtOnce cX7_markAtOnce 4 none :: zb) rm_wp_X7_markAtOnce (va_Pc [.ref qp, .int x1, .int x2] (fun U => wpW E qp ql qs a_heard a_walked a_total a_longest a_next a_cover a_now a_then lf_huts lf_singers lf_villages lf_dams lf_echoes lf_deep lf_slide la_heights la_ladders la_minutes la_echoFrom la_echoTo la_homes la_talls la_known sf_facts sa_heard sa_huts sa_minutes U.heap ∧ zK E U)) (zQv (S := (Nat → Int32)) (fun u => post u) (fun u H => wpW E qp ql qs u a_walked a_total a_longest a_next a_cover a_now a_then lf_huts lf_singers lf_villages lf_dams lf_echoes lf_deep lf_slide la_heights la_ladders la_minutes la_echoFrom la_echoTo la_homes la_talls la_known sf_facts sa_heard sa_huts sa_minutes H) (wpA qp ql qs)) 0 0 (wpA qp ql qs) := by
  refine Met.ofW (cc := cX7_markAtOnce) (maxL := 4) (ret := none) (by decide) rfl ?_
  intro p e s m args below meth c s₁ B hml hv
  obtain ⟨rfl, hM, hK⟩ := hv
  have zc := zc_of B hml
  have hl := lv_entry ([.ref qp, .int x1, .int x2]) (n := 4) (Nat.le_of_ble_eq_true rfl)
  rw [lg_entry_eq]
  generalize (lg_sl ([.ref qp, .int x1, .int x2]) ++ List.replicate (4 - (lg_sl ([.ref qp, .int x1, .int x2])).length) Slot.unset).toArray = ls at hl ⊢
  have hl : lv_has ls 4 [(0, .ref qp), (1, .int x1), (2, .int x2)] := hl
  exact t_wp_X7_markAtOnce_0 zc hK hM va_S.rf (lv_sub hl [0, 1, 2] rfl) hw
-- wp_X7_hear_9
abbrev rm_wp_X7_hear_9 : Room := { frames := 2, cells := 0, slots := 0, locals := 44 }
def q_wp_X7_hear_9_61 (P12 : Int32 → (Nat → Int32) → Prop) (P22 : Int32 → (Nat → Int32) → Prop) (a_heard : Nat → Int32) (lf_huts : Int32) (lf_dams : Int32) (lf_echoes : Int32) (la_heights : Nat → Int32) (la_minutes : Nat → Int32) (la_echoFrom : Nat → Int32) (la_echoTo : Nat → Int32) (x2 : Int32) (x3 : Int32) (post : (Nat → Int32) → Prop) : Prop :=
  ∀ v_1 : Int32, v_1 = x3 + (1 : Int32) → (P22 v_1 a_heard)
def q_wp_X7_hear_9_85 (P12 : Int32 → (Nat → Int32) → Prop) (a_heard : Nat → Int32) (lf_huts : Int32) (lf_dams : Int32) (lf_echoes : Int32) (la_heights : Nat → Int32) (la_minutes : Nat → Int32) (la_echoFrom : Nat → Int32) (la_echoTo : Nat → Int32) (x2 : Int32) (post : (Nat → Int32) → Prop) : Prop :=
  ∀ v_1 : Int32, v_1 = x2 + (1 : Int32) → (P12 v_1 a_heard)
def q_wp_X7_hear_9_22 (P12 : Int32 → (Nat → Int32) → Prop) (a_heard : Nat → Int32) (lf_huts : Int32) (lf_dams : Int32) (lf_echoes : Int32) (la_heights : Nat → Int32) (la_minutes : Nat → Int32) (la_echoFrom : Nat → Int32) (la_echoTo : Nat → Int32) (x2 : Int32) (x3 : Int32) (post : (Nat → Int32) → Prop) : Prop :=
  ∀ P22 : Int32 → (Nat → Int32) → Prop, (∀ (x3 : Int32) (a_heard : Nat → Int32), ((lf_huts ≤ x3 → (q_wl_X2_isDam_0 lf_dams x2 (fun r_1 => (¬ r_1 = 0 → (q_wp_X7_hear_9_85 P12 a_heard lf_huts lf_dams lf_echoes la_heights la_minutes la_echoFrom la_echoTo x2 post)) ∧ (r_1 = 0 → (q_wl_X2_earshot_0 lf_dams lf_echoes la_echoFrom la_echoTo x2 (fun r_2 => q_wp_X7_markAtOnce_0 a_heard x2 r_2 (fun a_heard_1 => q_wp_X7_hear_9_85 P12 a_heard_1 lf_huts lf_dams lf_echoes la_heights la_minutes la_echoFrom la_echoTo x2 post))))))) ∧ (¬ lf_huts ≤ x3 → (q_wl_X2_leads_0 lf_dams la_heights la_minutes x2 x3 (fun r_3 => (r_3 = 0 → (q_wp_X7_hear_9_61 P12 P22 a_heard lf_huts lf_dams lf_echoes la_heights la_minutes la_echoFrom la_echoTo x2 x3 post)) ∧ (¬ r_3 = 0 → (vp_in ((x2 * (9 : Int32)) + x3) 81 ∧ (∀ v_1 : Int32, v_1 = (la_minutes (Int32.toNatClampNeg ((x2 * (9 : Int32)) + x3))) → (vp_in ((x2 * (9 : Int32)) + x3) 81 ∧ (∀ a_heard_2 : Nat → Int32, a_heard_2 = upd a_heard (Int32.toNatClampNeg ((x2 * (9 : Int32)) + x3)) v_1 → (q_wp_X7_hear_9_61 P12 P22 a_heard_2 lf_huts lf_dams lf_echoes la_heights la_minutes la_echoFrom la_echoTo x2 x3 post)))))))))) → P22 x3 a_heard) → P22 x3 a_heard
def q_wp_X7_hear_9_12 (a_heard : Nat → Int32) (lf_huts : Int32) (lf_dams : Int32) (lf_echoes : Int32) (la_heights : Nat → Int32) (la_minutes : Nat → Int32) (la_echoFrom : Nat → Int32) (la_echoTo : Nat → Int32) (x2 : Int32) (post : (Nat → Int32) → Prop) : Prop :=
  ∀ P12 : Int32 → (Nat → Int32) → Prop, (∀ (x2 : Int32) (a_heard : Nat → Int32), ((lf_huts ≤ x2 → (q_wp_X7_shorten_1_0 a_heard lf_huts (fun a_heard_1 => post a_heard_1))) ∧ (¬ lf_huts ≤ x2 → (q_wp_X7_hear_9_22 P12 a_heard lf_huts lf_dams lf_echoes la_heights la_minutes la_echoFrom la_echoTo x2 (0 : Int32) post))) → P12 x2 a_heard) → P12 x2 a_heard
def q_wp_X7_hear_9_0 (a_heard : Nat → Int32) (lf_huts : Int32) (lf_dams : Int32) (lf_echoes : Int32) (la_heights : Nat → Int32) (la_minutes : Nat → Int32) (la_echoFrom : Nat → Int32) (la_echoTo : Nat → Int32) (post : (Nat → Int32) → Prop) : Prop :=
  q_wp_J7_fill_53178_1_0 a_heard (1000 : Int32) (fun a_heard_1 => q_wp_X7_hear_9_12 a_heard_1 lf_huts lf_dams lf_echoes la_heights la_minutes la_echoFrom la_echoTo (0 : Int32) post)
set_option maxRecDepth 20000 in
theorem t_wp_X7_hear_9_61 {p : Program} {l : Launch} {e : Env} {s : State} {m : MethodId} {args : Array Value} {below : List Frame} {meth : Method} {c : Code} {E : zE} {qp ql qs : Nat} {a_heard : Nat → Int32} {a_walked : Nat → Int32} {a_total : Nat → Int32} {a_longest : Nat → Int32} {a_next : Nat → Int32} {a_cover : Nat → Int32} {a_now : Nat → Int32} {a_then : Nat → Int32} {lf_huts : Int32} {lf_singers : Int32} {lf_villages : Int32} {lf_dams : Int32} {lf_echoes : Int32} {lf_deep : Int32} {lf_slide : Int32} {la_heights : Nat → Int32} {la_ladders : Nat → Int32} {la_minutes : Nat → Int32} {la_echoFrom : Nat → Int32} {la_echoTo : Nat → Int32} {la_homes : Nat → Int32} {la_talls : Nat → Int32} {la_known : Nat → Int32} {sf_facts : Int32} {sa_heard : Nat → Int32} {sa_huts : Nat → Int32} {sa_minutes : Nat → Int32} {P12 : Int32 → (Nat → Int32) → Prop} {P22 : Int32 → (Nat → Int32) → Prop} {post : (Nat → Int32) → Prop} {x2 : Int32} {x3 : Int32} {ls : Array Slot} {H : Heap} {locs : List Loc}
    (zc : zC p s m args meth c cX7_hear 4 RX7 none)
    (hK : zK E s)
    (hM : wpW E qp ql qs a_heard a_walked a_total a_longest a_next a_cover a_now a_then lf_huts lf_singers lf_villages lf_dams lf_echoes lf_deep lf_slide la_heights la_ladders la_minutes la_echoFrom la_echoTo la_homes la_talls la_known sf_facts sa_heard sa_huts sa_minutes H)
    (hS : va_S (wpA qp ql qs) s.heap H locs)
    (hP12 : ∀ (x2 : Int32) (a_heard : Nat → Int32) (H : Heap) (locs : List Loc) (ls : Array Slot), P12 x2 a_heard → lv_has ls 4 [(0, .ref qp), (1, .ref ql), (2, .int x2)] → wpW E qp ql qs a_heard a_walked a_total a_longest a_next a_cover a_now a_then lf_huts lf_singers lf_villages lf_dams lf_echoes lf_deep lf_slide la_heights la_ladders la_minutes la_echoFrom la_echoTo la_homes la_talls la_known sf_facts sa_heard sa_huts sa_minutes H → va_S (wpA qp ql qs) s.heap H locs → W p l e rm_wp_X7_hear_9 s m args below meth c H locs 0 0 (MQ below (zQv (S := (Nat → Int32)) (fun u => post u) (fun u H => wpW E qp ql qs u a_walked a_total a_longest a_next a_cover a_now a_then lf_huts lf_singers lf_villages lf_dams lf_echoes lf_deep lf_slide la_heights la_ladders la_minutes la_echoFrom la_echoTo la_homes la_talls la_known sf_facts sa_heard sa_huts sa_minutes H) (wpA qp ql qs)) args s 0 0 (wpA qp ql qs)) (F0 m 12 ls []))
    (hP22 : ∀ (x3 : Int32) (a_heard : Nat → Int32) (H : Heap) (locs : List Loc) (ls : Array Slot), P22 x3 a_heard → lv_has ls 4 [(0, .ref qp), (1, .ref ql), (2, .int x2), (3, .int x3)] → wpW E qp ql qs a_heard a_walked a_total a_longest a_next a_cover a_now a_then lf_huts lf_singers lf_villages lf_dams lf_echoes lf_deep lf_slide la_heights la_ladders la_minutes la_echoFrom la_echoTo la_homes la_talls la_known sf_facts sa_heard sa_huts sa_minutes H → va_S (wpA qp ql qs) s.heap H locs → W p l e rm_wp_X7_hear_9 s m args below meth c H locs 0 0 (MQ below (zQv (S := (Nat → Int32)) (fun u => post u) (fun u H => wpW E qp ql qs u a_walked a_total a_longest a_next a_cover a_now a_then lf_huts lf_singers lf_villages lf_dams lf_echoes lf_deep lf_slide la_heights la_ladders la_minutes la_echoFrom la_echoTo la_homes la_talls la_known sf_facts sa_heard sa_huts sa_minutes H) (wpA qp ql qs)) args s 0 0 (wpA qp ql qs)) (F0 m 22 ls []))
    (hl : lv_has ls 4 [(0, .ref qp), (1, .ref ql), (2, .int x2), (3, .int x3)])
    (hw : q_wp_X7_hear_9_61 P12 P22 a_heard lf_huts lf_dams lf_echoes la_heights la_minutes la_echoFrom la_echoTo x2 x3 post) :
    W p l e rm_wp_X7_hear_9 s m args below meth c H locs 0 0 (MQ below (zQv (S := (Nat → Int32)) (fun u => post u) (fun u H => wpW E qp ql qs u a_walked a_total a_longest a_next a_cover a_now a_then lf_huts lf_singers lf_villages lf_dams lf_echoes lf_deep lf_slide la_heights la_ladders la_minutes la_echoFrom la_echoTo la_homes la_talls la_known sf_facts sa_heard sa_huts sa_minutes H) (wpA qp ql qs)) args s 0 0 (wpA qp ql qs)) (F0 m 61 ls []) := by
  have hx := zc.1
  have hb := zc.2.1
  obtain ⟨v_1, ev_1⟩ : ∃ y : Int32, y = x3 + (1 : Int32) := ⟨_, rfl⟩
  have hw := hw v_1 ev_1
  refine lv_iinc (v := v_1) (k := 3) (lv' := [(3, .int v_1), (0, .ref qp), (1, .ref ql), (2, .int x2)]) hx hb dX7_hear_61 hl rfl (by rw [ev_1]; rfl) (by decide) rfl (fun ls hl => ?_)
  refine lv_goto (tgt := 22) hx hb dX7_hear_64 (by decide) ?_
  exact hP22 _ _ _ _ _ hw (lv_sub hl [1, 2, 3, 0] rfl) hM hS
set_option maxRecDepth 20000 in
theorem t_wp_X7_hear_9_85 {p : Program} {l : Launch} {e : Env} {s : State} {m : MethodId} {args : Array Value} {below : List Frame} {meth : Method} {c : Code} {E : zE} {qp ql qs : Nat} {a_heard : Nat → Int32} {a_walked : Nat → Int32} {a_total : Nat → Int32} {a_longest : Nat → Int32} {a_next : Nat → Int32} {a_cover : Nat → Int32} {a_now : Nat → Int32} {a_then : Nat → Int32} {lf_huts : Int32} {lf_singers : Int32} {lf_villages : Int32} {lf_dams : Int32} {lf_echoes : Int32} {lf_deep : Int32} {lf_slide : Int32} {la_heights : Nat → Int32} {la_ladders : Nat → Int32} {la_minutes : Nat → Int32} {la_echoFrom : Nat → Int32} {la_echoTo : Nat → Int32} {la_homes : Nat → Int32} {la_talls : Nat → Int32} {la_known : Nat → Int32} {sf_facts : Int32} {sa_heard : Nat → Int32} {sa_huts : Nat → Int32} {sa_minutes : Nat → Int32} {P12 : Int32 → (Nat → Int32) → Prop} {post : (Nat → Int32) → Prop} {x2 : Int32} {ls : Array Slot} {H : Heap} {locs : List Loc}
    (zc : zC p s m args meth c cX7_hear 4 RX7 none)
    (hK : zK E s)
    (hM : wpW E qp ql qs a_heard a_walked a_total a_longest a_next a_cover a_now a_then lf_huts lf_singers lf_villages lf_dams lf_echoes lf_deep lf_slide la_heights la_ladders la_minutes la_echoFrom la_echoTo la_homes la_talls la_known sf_facts sa_heard sa_huts sa_minutes H)
    (hS : va_S (wpA qp ql qs) s.heap H locs)
    (hP12 : ∀ (x2 : Int32) (a_heard : Nat → Int32) (H : Heap) (locs : List Loc) (ls : Array Slot), P12 x2 a_heard → lv_has ls 4 [(0, .ref qp), (1, .ref ql), (2, .int x2)] → wpW E qp ql qs a_heard a_walked a_total a_longest a_next a_cover a_now a_then lf_huts lf_singers lf_villages lf_dams lf_echoes lf_deep lf_slide la_heights la_ladders la_minutes la_echoFrom la_echoTo la_homes la_talls la_known sf_facts sa_heard sa_huts sa_minutes H → va_S (wpA qp ql qs) s.heap H locs → W p l e rm_wp_X7_hear_9 s m args below meth c H locs 0 0 (MQ below (zQv (S := (Nat → Int32)) (fun u => post u) (fun u H => wpW E qp ql qs u a_walked a_total a_longest a_next a_cover a_now a_then lf_huts lf_singers lf_villages lf_dams lf_echoes lf_deep lf_slide la_heights la_ladders la_minutes la_echoFrom la_echoTo la_homes la_talls la_known sf_facts sa_heard sa_huts sa_minutes H) (wpA qp ql qs)) args s 0 0 (wpA qp ql qs)) (F0 m 12 ls []))
    (hl : lv_has ls 4 [(0, .ref qp), (1, .ref ql), (2, .int x2)])
    (hw : q_wp_X7_hear_9_85 P12 a_heard lf_huts lf_dams lf_echoes la_heights la_minutes la_echoFrom la_echoTo x2 post) :
    W p l e rm_wp_X7_hear_9 s m args below meth c H locs 0 0 (MQ below (zQv (S := (Nat → Int32)) (fun u => post u) (fun u H => wpW E qp ql qs u a_walked a_total a_longest a_next a_cover a_now a_then lf_huts lf_singers lf_villages lf_dams lf_echoes lf_deep lf_slide la_heights la_ladders la_minutes la_echoFrom la_echoTo la_homes la_talls la_known sf_facts sa_heard sa_huts sa_minutes H) (wpA qp ql qs)) args s 0 0 (wpA qp ql qs)) (F0 m 85 ls []) := by
  have hx := zc.1
  have hb := zc.2.1
  obtain ⟨v_1, ev_1⟩ : ∃ y : Int32, y = x2 + (1 : Int32) := ⟨_, rfl⟩
  have hw := hw v_1 ev_1
  refine lv_iinc (v := v_1) (k := 2) (lv' := [(2, .int v_1), (0, .ref qp), (1, .ref ql)]) hx hb dX7_hear_85 hl rfl (by rw [ev_1]; rfl) (by decide) rfl (fun ls hl => ?_)
  refine lv_goto (tgt := 12) hx hb dX7_hear_88 (by decide) ?_
  exact hP12 _ _ _ _ _ hw (lv_sub hl [1, 2, 0] rfl) hM hS
set_option maxRecDepth 20000 in
theorem t_wp_X7_hear_9_22 {p : Program} {l : Launch} {e : Env} {s : State} {m : MethodId} {args : Array Value} {below : List Frame} {meth : Method} {c : Code} {E : zE} {qp ql qs : Nat} {a_heard : Nat → Int32} {a_walked : Nat → Int32} {a_total : Nat → Int32} {a_longest : Nat → Int32} {a_next : Nat → Int32} {a_cover : Nat → Int32} {a_now : Nat → Int32} {a_then : Nat → Int32} {lf_huts : Int32} {lf_singers : Int32} {lf_villages : Int32} {lf_dams : Int32} {lf_echoes : Int32} {lf_deep : Int32} {lf_slide : Int32} {la_heights : Nat → Int32} {la_ladders : Nat → Int32} {la_minutes : Nat → Int32} {la_echoFrom : Nat → Int32} {la_echoTo : Nat → Int32} {la_homes : Nat → Int32} {la_talls : Nat → Int32} {la_known : Nat → Int32} {sf_facts : Int32} {sa_heard : Nat → Int32} {sa_huts : Nat → Int32} {sa_minutes : Nat → Int32} {P12 : Int32 → (Nat → Int32) → Prop} {post : (Nat → Int32) → Prop} {x2 : Int32} {x3 : Int32} {ls : Array Slot} {H : Heap} {locs : List Loc}
    (zc : zC p s m args meth c cX7_hear 4 RX7 none)
    (hK : zK E s)
    (hM : wpW E qp ql qs a_heard a_walked a_total a_longest a_next a_cover a_now a_then lf_huts lf_singers lf_villages lf_dams lf_echoes lf_deep lf_slide la_heights la_ladders la_minutes la_echoFrom la_echoTo la_homes la_talls la_known sf_facts sa_heard sa_huts sa_minutes H)
    (hS : va_S (wpA qp ql qs) s.heap H locs)
    (hP12 : ∀ (x2 : Int32) (a_heard : Nat → Int32) (H : Heap) (locs : List Loc) (ls : Array Slot), P12 x2 a_heard → lv_has ls 4 [(0, .ref qp), (1, .ref ql), (2, .int x2)] → wpW E qp ql qs a_heard a_walked a_total a_longest a_next a_cover a_now a_then lf_huts lf_singers lf_villages lf_dams lf_echoes lf_deep lf_slide la_heights la_ladders la_minutes la_echoFrom la_echoTo la_homes la_talls la_known sf_facts sa_heard sa_huts sa_minutes H → va_S (wpA qp ql qs) s.heap H locs → W p l e rm_wp_X7_hear_9 s m args below meth c H locs 0 0 (MQ below (zQv (S := (Nat → Int32)) (fun u => post u) (fun u H => wpW E qp ql qs u a_walked a_total a_longest a_next a_cover a_now a_then lf_huts lf_singers lf_villages lf_dams lf_echoes lf_deep lf_slide la_heights la_ladders la_minutes la_echoFrom la_echoTo la_homes la_talls la_known sf_facts sa_heard sa_huts sa_minutes H) (wpA qp ql qs)) args s 0 0 (wpA qp ql qs)) (F0 m 12 ls []))
    (hl : lv_has ls 4 [(0, .ref qp), (1, .ref ql), (2, .int x2), (3, .int x3)])
    (hw : q_wp_X7_hear_9_22 P12 a_heard lf_huts lf_dams lf_echoes la_heights la_minutes la_echoFrom la_echoTo x2 x3 post) :
    W p l e rm_wp_X7_hear_9 s m args below meth c H locs 0 0 (MQ below (zQv (S := (Nat → Int32)) (fun u => post u) (fun u H => wpW E qp ql qs u a_walked a_total a_longest a_next a_cover a_now a_then lf_huts lf_singers lf_villages lf_dams lf_echoes lf_deep lf_slide la_heights la_ladders la_minutes la_echoFrom la_echoTo la_homes la_talls la_known sf_facts sa_heard sa_huts sa_minutes H) (wpA qp ql qs)) args s 0 0 (wpA qp ql qs)) (F0 m 22 ls []) := by
  have hx := zc.1
  have hb := zc.2.1
  refine hw (fun x3 a_heard => ∀ (H : Heap) (locs : List Loc) (ls : Array Slot), lv_has ls 4 [(0, .ref qp), (1, .ref ql), (2, .int x2), (3, .int x3)] → wpW E qp ql qs a_heard a_walked a_total a_longest a_next a_cover a_now a_then lf_huts lf_singers lf_villages lf_dams lf_echoes lf_deep lf_slide la_heights la_ladders la_minutes la_echoFrom la_echoTo la_homes la_talls la_known sf_facts sa_heard sa_huts sa_minutes H → va_S (wpA qp ql qs) s.heap H locs → W p l e rm_wp_X7_hear_9 s m args below meth c H locs 0 0 (MQ below (zQv (S := (Nat → Int32)) (fun u => post u) (fun u H => wpW E qp ql qs u a_walked a_total a_longest a_next a_cover a_now a_then lf_huts lf_singers lf_villages lf_dams lf_echoes lf_deep lf_slide la_heights la_ladders la_minutes la_echoFrom la_echoTo la_homes la_talls la_known sf_facts sa_heard sa_huts sa_minutes H) (wpA qp ql qs)) args s 0 0 (wpA qp ql qs)) (F0 m 22 ls [])) ?_ _ _ _ hl hM hS
  intro x3 a_heard hw H locs ls hl hM hS
  refine lv_iload_n hx hb dX7_hear_22 rfl (lv_at hl 3 rfl) ?_
  refine lv_aload_n hx hb dX7_hear_23 rfl (lv_at hl 1 rfl) ?_
  refine wpg_7_42_9 zc hK hM dX7_hear_24 ?_
  refine lv_icmp_ge (tgt := 67) hx hb dX7_hear_27 (by decide) (fun hc => ?_) (fun hc => ?_)
  · have hw := hw.1 hc
    refine lv_aload_n hx hb dX7_hear_67 rfl (lv_at hl 1 rfl) ?_
    refine lv_iload_n hx hb dX7_hear_68 rfl (lv_at hl 2 rfl) ?_
    refine zV_i [.int x2] [] zc ky_X2_isDam kz_X2_isDam km_7_55 (c_wl_X2_isDam l hw) (wlPreV0 hK (pj_wp_wl_9 hM)) rfl rfl hl.1 (Nat.le_of_ble_eq_true rfl) ⟨rfl, rfl⟩ ⟨Nat.le_of_ble_eq_true rfl, Nat.le_of_ble_eq_true rfl⟩ ⟨(Nat.zero_le _), (Nat.zero_le _)⟩ dX7_hear_69 (fun r_1 hw => ?_)
    refine lv_if_ne (tgt := 85) hx hb dX7_hear_72 (by decide) (fun hc => ?_) (fun hc => ?_)
    · have hw := hw.1 hc
      exact t_wp_X7_hear_9_85 zc hK hM hS hP12 (lv_sub hl [0, 1, 2] rfl) hw
    · have hw := hw.2 hc
      refine lv_aload_n hx hb dX7_hear_75 rfl (lv_at hl 0 rfl) ?_
      refine lv_iload_n hx hb dX7_hear_76 rfl (lv_at hl 2 rfl) ?_
      refine lv_aload_n hx hb dX7_hear_77 rfl (lv_at hl 1 rfl) ?_
      refine lv_iload_n hx hb dX7_hear_78 rfl (lv_at hl 2 rfl) ?_
      refine zV_i [.int x2] [.int x2, .ref qp] zc ky_X2_earshot kz_X2_earshot km_7_59 (c_wl_X2_earshot l hw) (wlPreV0 hK (pj_wp_wl_9 hM)) rfl rfl hl.1 (Nat.le_of_ble_eq_true rfl) ⟨rfl, rfl⟩ ⟨Nat.le_of_ble_eq_true rfl, Nat.le_of_ble_eq_true rfl⟩ ⟨(Nat.zero_le _), (Nat.zero_le _)⟩ dX7_hear_79 (fun r_2 hw => ?_)
      refine zVw_v [.int x2, .int r_2] [] zc ky_X7_markAtOnce kz_X7_markAtOnce km_7_63 (c_wp_X7_markAtOnce l hw) (wpPreV0 hK hM) hS rfl rfl hl.1 (Nat.le_of_ble_eq_true rfl) ⟨rfl, rfl⟩ ⟨Nat.le_of_ble_eq_true rfl, Nat.le_of_ble_eq_true rfl⟩ ⟨(Nat.zero_le _), (Nat.zero_le _)⟩ dX7_hear_82 (fun a_heard_1 H locs hw hM hS => ?_)
      exact t_wp_X7_hear_9_85 zc hK hM hS hP12 (lv_sub hl [0, 1, 2] rfl) hw
  · have hw := hw.2 hc
    refine lv_aload_n hx hb dX7_hear_30 rfl (lv_at hl 1 rfl) ?_
    refine lv_iload_n hx hb dX7_hear_31 rfl (lv_at hl 2 rfl) ?_
    refine lv_iload_n hx hb dX7_hear_32 rfl (lv_at hl 3 rfl) ?_
    refine zV_i [.int x2, .int x3] [] zc ky_X2_leads kz_X2_leads km_7_48 (c_wl_X2_leads l hw) (wlPreV0 hK (pj_wp_wl_9 hM)) rfl rfl hl.1 (Nat.le_of_ble_eq_true rfl) ⟨rfl, rfl⟩ ⟨Nat.le_of_ble_eq_true rfl, Nat.le_of_ble_eq_true rfl⟩ ⟨(Nat.zero_le _), (Nat.zero_le _)⟩ dX7_hear_33 (fun r_3 hw => ?_)
    refine lv_if_eq (tgt := 61) hx hb dX7_hear_36 (by decide) (fun hc => ?_) (fun hc => ?_)
    · have hw := hw.1 hc
      exact t_wp_X7_hear_9_61 zc hK hM hS hP12 (fun _ _ H locs ls h hl hM hS => h H locs ls hl hM hS) (lv_sub hl [0, 1, 2, 3] rfl) hw
    · have hw := hw.2 hc
      refine lv_aload_n hx hb dX7_hear_39 rfl (lv_at hl 0 rfl) ?_
      refine wpg_7_9_0 zc hK hM dX7_hear_40 ?_
      refine lv_iload_n hx hb dX7_hear_43 rfl (lv_at hl 2 rfl) ?_
      refine lv_bipush (v := (9 : Int32)) hx hb dX7_hear_44 (by decide) ?_
      refine lv_imul hx hb dX7_hear_46 ?_
      refine lv_iload_n hx hb dX7_hear_47 rfl (lv_at hl 3 rfl) ?_
      refine lv_iadd hx hb dX7_hear_48 ?_
      refine lv_aload_n hx hb dX7_hear_49 rfl (lv_at hl 1 rfl) ?_
      refine wpg_7_52_9 zc hK hM dX7_hear_50 ?_
      refine lv_iload_n hx hb dX7_hear_53 rfl (lv_at hl 2 rfl) ?_
      refine lv_bipush (v := (9 : Int32)) hx hb dX7_hear_54 (by decide) ?_
      refine lv_imul hx hb dX7_hear_56 ?_
      refine lv_iload_n hx hb dX7_hear_57 rfl (lv_at hl 3 rfl) ?_
      refine lv_iadd hx hb dX7_hear_58 ?_
      refine wpld_12 zc hK hM hw.1 dX7_hear_59 ?_
      have hw := hw.2
      refine lv_topi (fun v_1 ev_1 => ?_)
      have hw := hw v_1 ev_1
      refine wpst_1 zc hK hM hS hw.1 dX7_hear_60 (fun a_heard_2 H locs ea_heard_2 hM hS => ?_)
      have hw := hw.2 a_heard_2 ea_heard_2
      exact t_wp_X7_hear_9_61 zc hK hM hS hP12 (fun _ _ H locs ls h hl hM hS => h H locs ls hl hM hS) (lv_sub hl [0, 1, 2, 3] rfl) hw
set_option maxRecDepth 20000 in
theorem t_wp_X7_hear_9_12 {p : Program} {l : Launch} {e : Env} {s : State} {m : MethodId} {args : Array Value} {below : List Frame} {meth : Method} {c : Code} {E : zE} {qp ql qs : Nat} {a_heard : Nat → Int32} {a_walked : Nat → Int32} {a_total : Nat → Int32} {a_longest : Nat → Int32} {a_next : Nat → Int32} {a_cover : Nat → Int32} {a_now : Nat → Int32} {a_then : Nat → Int32} {lf_huts : Int32} {lf_singers : Int32} {lf_villages : Int32} {lf_dams : Int32} {lf_echoes : Int32} {lf_deep : Int32} {lf_slide : Int32} {la_heights : Nat → Int32} {la_ladders : Nat → Int32} {la_minutes : Nat → Int32} {la_echoFrom : Nat → Int32} {la_echoTo : Nat → Int32} {la_homes : Nat → Int32} {la_talls : Nat → Int32} {la_known : Nat → Int32} {sf_facts : Int32} {sa_heard : Nat → Int32} {sa_huts : Nat → Int32} {sa_minutes : Nat → Int32} {post : (Nat → Int32) → Prop} {x2 : Int32} {ls : Array Slot} {H : Heap} {locs : List Loc}
    (zc : zC p s m args meth c cX7_hear 4 RX7 none)
    (hK : zK E s)
    (hM : wpW E qp ql qs a_heard a_walked a_total a_longest a_next a_cover a_now a_then lf_huts lf_singers lf_villages lf_dams lf_echoes lf_deep lf_slide la_heights la_ladders la_minutes la_echoFrom la_echoTo la_homes la_talls la_known sf_facts sa_heard sa_huts sa_minutes H)
    (hS : va_S (wpA qp ql qs) s.heap H locs)
    (hl : lv_has ls 4 [(0, .ref qp), (1, .ref ql), (2, .int x2)])
    (hw : q_wp_X7_hear_9_12 a_heard lf_huts lf_dams lf_echoes la_heights la_minutes la_echoFrom la_echoTo x2 post) :
    W p l e rm_wp_X7_hear_9 s m args below meth c H locs 0 0 (MQ below (zQv (S := (Nat → Int32)) (fun u => post u) (fun u H => wpW E qp ql qs u a_walked a_total a_longest a_next a_cover a_now a_then lf_huts lf_singers lf_villages lf_dams lf_echoes lf_deep lf_slide la_heights la_ladders la_minutes la_echoFrom la_echoTo la_homes la_talls la_known sf_facts sa_heard sa_huts sa_minutes H) (wpA qp ql qs)) args s 0 0 (wpA qp ql qs)) (F0 m 12 ls []) := by
  have hx := zc.1
  have hb := zc.2.1
  refine hw (fun x2 a_heard => ∀ (H : Heap) (locs : List Loc) (ls : Array Slot), lv_has ls 4 [(0, .ref qp), (1, .ref ql), (2, .int x2)] → wpW E qp ql qs a_heard a_walked a_total a_longest a_next a_cover a_now a_then lf_huts lf_singers lf_villages lf_dams lf_echoes lf_deep lf_slide la_heights la_ladders la_minutes la_echoFrom la_echoTo la_homes la_talls la_known sf_facts sa_heard sa_huts sa_minutes H → va_S (wpA qp ql qs) s.heap H locs → W p l e rm_wp_X7_hear_9 s m args below meth c H locs 0 0 (MQ below (zQv (S := (Nat → Int32)) (fun u => post u) (fun u H => wpW E qp ql qs u a_walked a_total a_longest a_next a_cover a_now a_then lf_huts lf_singers lf_villages lf_dams lf_echoes lf_deep lf_slide la_heights la_ladders la_minutes la_echoFrom la_echoTo la_homes la_talls la_known sf_facts sa_heard sa_huts sa_minutes H) (wpA qp ql qs)) args s 0 0 (wpA qp ql qs)) (F0 m 12 ls [])) ?_ _ _ _ hl hM hS
  intro x2 a_heard hw H locs ls hl hM hS
  refine lv_iload_n hx hb dX7_hear_12 rfl (lv_at hl 2 rfl) ?_
  refine lv_aload_n hx hb dX7_hear_13 rfl (lv_at hl 1 rfl) ?_
  refine wpg_7_42_9 zc hK hM dX7_hear_14 ?_
  refine lv_icmp_ge (tgt := 91) hx hb dX7_hear_17 (by decide) (fun hc => ?_) (fun hc => ?_)
  · have hw := hw.1 hc
    refine lv_aload_n hx hb dX7_hear_91 rfl (lv_at hl 0 rfl) ?_
    refine wpg_7_9_0 zc hK hM dX7_hear_92 ?_
    refine lv_aload_n hx hb dX7_hear_95 rfl (lv_at hl 1 rfl) ?_
    refine wpg_7_42_9 zc hK hM dX7_hear_96 ?_
    refine zSw_v [.ref (qp + 1), .int lf_huts] [] zc ky_X7_shorten kz_X7_shorten km_7_67 (c_wp_X7_shorten_1 l hw) (wpPreS hK hM) hS rfl rfl hl.1 (Nat.le_of_ble_eq_true rfl) ⟨rfl, rfl⟩ ⟨Nat.le_of_ble_eq_true rfl, Nat.le_of_ble_eq_true rfl⟩ ⟨(Nat.zero_le _), (Nat.zero_le _)⟩ dX7_hear_99 (fun a_heard_1 H locs hw hM hS => ?_)
    exact zret_vw a_heard_1 zc hS hw hM dX7_hear_102
  · have hw := hw.2 hc
    refine lv_iconst (v := (0 : Int32)) hx hb dX7_hear_20 (by decide) ?_
    refine lv_istore_n (lv' := [(3, .int (0 : Int32)), (0, .ref qp), (1, .ref ql), (2, .int x2)]) hx hb dX7_hear_21 rfl hl (by decide) rfl (fun ls hl => ?_)
    exact t_wp_X7_hear_9_22 zc hK hM hS (fun _ _ H locs ls h hl hM hS => h H locs ls hl hM hS) (lv_sub hl [1, 2, 3, 0] rfl) hw
set_option maxRecDepth 20000 in
theorem t_wp_X7_hear_9_0 {p : Program} {l : Launch} {e : Env} {s : State} {m : MethodId} {args : Array Value} {below : List Frame} {meth : Method} {c : Code} {E : zE} {qp ql qs : Nat} {a_heard : Nat → Int32} {a_walked : Nat → Int32} {a_total : Nat → Int32} {a_longest : Nat → Int32} {a_next : Nat → Int32} {a_cover : Nat → Int32} {a_now : Nat → Int32} {a_then : Nat → Int32} {lf_huts : Int32} {lf_singers : Int32} {lf_villages : Int32} {lf_dams : Int32} {lf_echoes : Int32} {lf_deep : Int32} {lf_slide : Int32} {la_heights : Nat → Int32} {la_ladders : Nat → Int32} {la_minutes : Nat → Int32} {la_echoFrom : Nat → Int32} {la_echoTo : Nat → Int32} {la_homes : Nat → Int32} {la_talls : Nat → Int32} {la_known : Nat → Int32} {sf_facts : Int32} {sa_heard : Nat → Int32} {sa_huts : Nat → Int32} {sa_minutes : Nat → Int32} {post : (Nat → Int32) → Prop} {ls : Array Slot} {H : Heap} {locs : List Loc}
    (zc : zC p s m args meth c cX7_hear 4 RX7 none)
    (hK : zK E s)
    (hM : wpW E qp ql qs a_heard a_walked a_total a_longest a_next a_cover a_now a_then lf_huts lf_singers lf_villages lf_dams lf_echoes lf_deep lf_slide la_heights la_ladders la_minutes la_echoFrom la_echoTo la_homes la_talls la_known sf_facts sa_heard sa_huts sa_minutes H)
    (hS : va_S (wpA qp ql qs) s.heap H locs)
    (hl : lv_has ls 4 [(0, .ref qp), (1, .ref ql)])
    (hw : q_wp_X7_hear_9_0 a_heard lf_huts lf_dams lf_echoes la_heights la_minutes la_echoFrom la_echoTo post) :
    W p l e rm_wp_X7_hear_9 s m args below meth c H locs 0 0 (MQ below (zQv (S := (Nat → Int32)) (fun u => post u) (fun u H => wpW E qp ql qs u a_walked a_total a_longest a_next a_cover a_now a_then lf_huts lf_singers lf_villages lf_dams lf_echoes lf_deep lf_slide la_heights la_ladders la_minutes la_echoFrom la_echoTo la_homes la_talls la_known sf_facts sa_heard sa_huts sa_minutes H) (wpA qp ql qs)) args s 0 0 (wpA qp ql qs)) (F0 m 0 ls []) := by
  have hx := zc.1
  have hb := zc.2.1
  refine lv_aload_n hx hb dX7_hear_0 rfl (lv_at hl 0 rfl) ?_
  refine wpg_7_9_0 zc hK hM dX7_hear_1 ?_
  refine lv_sipush (v := (1000 : Int32)) hx hb dX7_hear_4 (by decide) ?_
  refine zSw_v [.ref (qp + 1), .int (1000 : Int32)] [] zc ky_J7_fill_53178 kz_J7_fill_53178 km_7_36 (c_wp_J7_fill_53178_1 l hw) (wpPreS hK hM) hS rfl rfl hl.1 (Nat.le_of_ble_eq_true rfl) ⟨rfl, rfl⟩ ⟨Nat.le_of_ble_eq_true rfl, Nat.le_of_ble_eq_true rfl⟩ ⟨(Nat.zero_le _), (Nat.zero_le _)⟩ dX7_hear_7 (fun a_heard_1 H locs hw hM hS => ?_)
  refine lv_iconst (v := (0 : Int32)) hx hb dX7_hear_10 (by decide) ?_
  refine lv_istore_n (lv' := [(2, .int (0 : Int32)), (0, .ref qp), (1, .ref ql)]) hx hb dX7_hear_11 rfl hl (by decide) rfl (fun ls hl => ?_)
  exact t_wp_X7_hear_9_12 zc hK hM hS  (lv_sub hl [1, 2, 0] rfl) hw
set_option maxRecDepth 20000 in
theorem c_wp_X7_hear_9 (l : Launch) {E : zE} {qp ql qs : Nat} {a_heard : Nat → Int32} {a_walked : Nat → Int32} {a_total : Nat → Int32} {a_longest : Nat → Int32} {a_next : Nat → Int32} {a_cover : Nat → Int32} {a_now : Nat → Int32} {a_then : Nat → Int32} {lf_huts : Int32} {lf_singers : Int32} {lf_villages : Int32} {lf_dams : Int32} {lf_echoes : Int32} {lf_deep : Int32} {lf_slide : Int32} {la_heights : Nat → Int32} {la_ladders : Nat → Int32} {la_minutes : Nat → Int32} {la_echoFrom : Nat → Int32} {la_echoTo : Nat → Int32} {la_homes : Nat → Int32} {la_talls : Nat → Int32} {la_known : Nat → Int32} {sf_facts : Int32} {sa_heard : Nat → Int32} {sa_huts : Nat → Int32} {sa_minutes : Nat → Int32} {post : (Nat → Int32) → Prop} (hw : q_wp_X7_hear_9_0 a_heard lf_huts lf_dams lf_echoes la_heights la_minutes la_echoFrom la_echoTo post) : Met l yX7_hear (Cond.code yX7_hear cX7_hear 4 none :: zb) rm_wp_X7_hear_9 (va_Pc [.ref qp, .ref ql] (fun U => wpW E qp ql qs a_heard a_walked a_total a_longest a_next a_cover a_now a_then lf_huts lf_singers lf_villages lf_dams lf_echoes lf_deep lf_slide la_heights la_ladders la_minutes la_echoFrom la_echoTo la_homes la_talls la_known sf_facts sa_heard sa_huts sa_minutes U.heap ∧ zK E U)) (zQv (S := (Nat → Int32)) (fun u => post u) (fun u H => wpW E qp ql qs u a_walked a_total a_longest a_next a_cover a_now a_then lf_huts lf_singers lf_villages lf_dams lf_echoes lf_deep lf_slide la_heights la_ladders la_minutes la_echoFrom la_echoTo la_homes la_talls la_known sf_facts sa_heard sa_huts sa_minutes H) (wpA qp ql qs)) 0 0 (wpA qp ql qs) := by
  refine Met.ofW (cc := cX7_hear) (maxL := 4) (ret := none) (by decide) rfl ?_
  intro p e s m args below meth c s₁ B hml hv
  obtain ⟨rfl, hM, hK⟩ := hv
  have zc := zc_of B hml
  have hl := lv_entry ([.ref qp, .ref ql]) (n := 4) (Nat.le_of_ble_eq_true rfl)
  rw [lg_entry_eq]
  generalize (lg_sl ([.ref qp, .ref ql]) ++ List.replicate (4 - (lg_sl ([.ref qp, .ref ql])).length) Slot.unset).toArray = ls at hl ⊢
  have hl : lv_has ls 4 [(0, .ref qp), (1, .ref ql)] := hl
  exact t_wp_X7_hear_9_0 zc hK hM va_S.rf (lv_sub hl [0, 1] rfl) hw
-- wp_J7_fill_53178_2
abbrev rm_wp_J7_fill_53178_2 : Room := { frames := 0, cells := 0, slots := 0, locals := 0 }
def q_wp_J7_fill_53178_2_5 (a_walked : Nat → Int32) (x1 : Int32) (x2 : Int32) (x3 : Int32) (post : (Nat → Int32) → Prop) : Prop :=
  ∀ P5 : Int32 → (Nat → Int32) → Prop, (∀ (x2 : Int32) (a_walked : Nat → Int32), ((x3 ≤ x2 → (post a_walked)) ∧ (¬ x3 ≤ x2 → (vp_in x2 81 ∧ (∀ a_walked_1 : Nat → Int32, a_walked_1 = upd a_walked (Int32.toNatClampNeg x2) x1 → (∀ v_1 : Int32, v_1 = x2 + (1 : Int32) → (P5 v_1 a_walked_1)))))) → P5 x2 a_walked) → P5 x2 a_walked
def q_wp_J7_fill_53178_2_0 (a_walked : Nat → Int32) (x1 : Int32) (post : (Nat → Int32) → Prop) : Prop :=
  q_wp_J7_fill_53178_2_5 a_walked x1 (0 : Int32) (81 : Int32) post
set_option maxRecDepth 20000 in
theorem t_wp_J7_fill_53178_2_5 {p : Program} {l : Launch} {e : Env} {s : State} {m : MethodId} {args : Array Value} {below : List Frame} {meth : Method} {c : Code} {E : zE} {qp ql qs : Nat} {a_heard : Nat → Int32} {a_walked : Nat → Int32} {a_total : Nat → Int32} {a_longest : Nat → Int32} {a_next : Nat → Int32} {a_cover : Nat → Int32} {a_now : Nat → Int32} {a_then : Nat → Int32} {lf_huts : Int32} {lf_singers : Int32} {lf_villages : Int32} {lf_dams : Int32} {lf_echoes : Int32} {lf_deep : Int32} {lf_slide : Int32} {la_heights : Nat → Int32} {la_ladders : Nat → Int32} {la_minutes : Nat → Int32} {la_echoFrom : Nat → Int32} {la_echoTo : Nat → Int32} {la_homes : Nat → Int32} {la_talls : Nat → Int32} {la_known : Nat → Int32} {sf_facts : Int32} {sa_heard : Nat → Int32} {sa_huts : Nat → Int32} {sa_minutes : Nat → Int32} {post : (Nat → Int32) → Prop} {x1 : Int32} {x2 : Int32} {x3 : Int32} {ls : Array Slot} {H : Heap} {locs : List Loc}
    (zc : zC p s m args meth c cJ7_fill_53178 4 RJ7 none)
    (hK : zK E s)
    (hM : wpW E qp ql qs a_heard a_walked a_total a_longest a_next a_cover a_now a_then lf_huts lf_singers lf_villages lf_dams lf_echoes lf_deep lf_slide la_heights la_ladders la_minutes la_echoFrom la_echoTo la_homes la_talls la_known sf_facts sa_heard sa_huts sa_minutes H)
    (hS : va_S (wpA qp ql qs) s.heap H locs)
    (hl : lv_has ls 4 [(0, .ref (qp + 2)), (1, .int x1), (2, .int x2), (3, .int x3)])
    (hw : q_wp_J7_fill_53178_2_5 a_walked x1 x2 x3 post) :
    W p l e rm_wp_J7_fill_53178_2 s m args below meth c H locs 0 0 (MQ below (zQv (S := (Nat → Int32)) (fun u => post u) (fun u H => wpW E qp ql qs a_heard u a_total a_longest a_next a_cover a_now a_then lf_huts lf_singers lf_villages lf_dams lf_echoes lf_deep lf_slide la_heights la_ladders la_minutes la_echoFrom la_echoTo la_homes la_talls la_known sf_facts sa_heard sa_huts sa_minutes H) (wpA qp ql qs)) args s 0 0 (wpA qp ql qs)) (F0 m 5 ls []) := by
  have hx := zc.1
  have hb := zc.2.1
  refine hw (fun x2 a_walked => ∀ (H : Heap) (locs : List Loc) (ls : Array Slot), lv_has ls 4 [(0, .ref (qp + 2)), (1, .int x1), (2, .int x2), (3, .int x3)] → wpW E qp ql qs a_heard a_walked a_total a_longest a_next a_cover a_now a_then lf_huts lf_singers lf_villages lf_dams lf_echoes lf_deep lf_slide la_heights la_ladders la_minutes la_echoFrom la_echoTo la_homes la_talls la_known sf_facts sa_heard sa_huts sa_minutes H → va_S (wpA qp ql qs) s.heap H locs → W p l e rm_wp_J7_fill_53178_2 s m args below meth c H locs 0 0 (MQ below (zQv (S := (Nat → Int32)) (fun u => post u) (fun u H => wpW E qp ql qs a_heard u a_total a_longest a_next a_cover a_now a_then lf_huts lf_singers lf_villages lf_dams lf_echoes lf_deep lf_slide la_heights la_ladders la_minutes la_echoFrom la_echoTo la_homes la_talls la_known sf_facts sa_heard sa_huts sa_minutes H) (wpA qp ql qs)) args s 0 0 (wpA qp ql qs)) (F0 m 5 ls [])) ?_ _ _ _ hl hM hS
  intro x2 a_walked hw H locs ls hl hM hS
  refine lv_iload_n hx hb dJ7_fill_53178_5 rfl (lv_at hl 2 rfl) ?_
  refine lv_iload_n hx hb dJ7_fill_53178_6 rfl (lv_at hl 3 rfl) ?_
  refine lv_icmp_ge (tgt := 20) hx hb dJ7_fill_53178_7 (by decide) (fun hc => ?_) (fun hc => ?_)
  · have hw := hw.1 hc
    exact zret_vw a_walked zc hS hw hM dJ7_fill_53178_20
  · have hw := hw.2 hc
    refine lv_aload_n hx hb dJ7_fill_53178_10 rfl (lv_at hl 0 rfl) ?_
    refine lv_iload_n hx hb dJ7_fill_53178_11 rfl (lv_at hl 2 rfl) ?_
    refine lv_iload_n hx hb dJ7_fill_53178_12 rfl (lv_at hl 1 rfl) ?_
    refine wpst_2 zc hK hM hS hw.1 dJ7_fill_53178_13 (fun a_walked_1 H locs ea_walked_1 hM hS => ?_)
    have hw := hw.2 a_walked_1 ea_walked_1
    obtain ⟨v_1, ev_1⟩ : ∃ y : Int32, y = x2 + (1 : Int32) := ⟨_, rfl⟩
    have hw := hw v_1 ev_1
    refine lv_iinc (v := v_1) (k := 2) (lv' := [(2, .int v_1), (0, .ref (qp + 2)), (1, .int x1), (3, .int x3)]) hx hb dJ7_fill_53178_14 hl rfl (by rw [ev_1]; rfl) (by decide) rfl (fun ls hl => ?_)
    refine lv_goto (tgt := 5) hx hb dJ7_fill_53178_17 (by decide) ?_
    exact hw _ _ _ (lv_sub hl [1, 2, 0, 3] rfl) hM hS
set_option maxRecDepth 20000 in
theorem t_wp_J7_fill_53178_2_0 {p : Program} {l : Launch} {e : Env} {s : State} {m : MethodId} {args : Array Value} {below : List Frame} {meth : Method} {c : Code} {E : zE} {qp ql qs : Nat} {a_heard : Nat → Int32} {a_walked : Nat → Int32} {a_total : Nat → Int32} {a_longest : Nat → Int32} {a_next : Nat → Int32} {a_cover : Nat → Int32} {a_now : Nat → Int32} {a_then : Nat → Int32} {lf_huts : Int32} {lf_singers : Int32} {lf_villages : Int32} {lf_dams : Int32} {lf_echoes : Int32} {lf_deep : Int32} {lf_slide : Int32} {la_heights : Nat → Int32} {la_ladders : Nat → Int32} {la_minutes : Nat → Int32} {la_echoFrom : Nat → Int32} {la_echoTo : Nat → Int32} {la_homes : Nat → Int32} {la_talls : Nat → Int32} {la_known : Nat → Int32} {sf_facts : Int32} {sa_heard : Nat → Int32} {sa_huts : Nat → Int32} {sa_minutes : Nat → Int32} {post : (Nat → Int32) → Prop} {x1 : Int32} {ls : Array Slot} {H : Heap} {locs : List Loc}
    (zc : zC p s m args meth c cJ7_fill_53178 4 RJ7 none)
    (hK : zK E s)
    (hM : wpW E qp ql qs a_heard a_walked a_total a_longest a_next a_cover a_now a_then lf_huts lf_singers lf_villages lf_dams lf_echoes lf_deep lf_slide la_heights la_ladders la_minutes la_echoFrom la_echoTo la_homes la_talls la_known sf_facts sa_heard sa_huts sa_minutes H)
    (hS : va_S (wpA qp ql qs) s.heap H locs)
    (hl : lv_has ls 4 [(0, .ref (qp + 2)), (1, .int x1)])
    (hw : q_wp_J7_fill_53178_2_0 a_walked x1 post) :
    W p l e rm_wp_J7_fill_53178_2 s m args below meth c H locs 0 0 (MQ below (zQv (S := (Nat → Int32)) (fun u => post u) (fun u H => wpW E qp ql qs a_heard u a_total a_longest a_next a_cover a_now a_then lf_huts lf_singers lf_villages lf_dams lf_echoes lf_deep lf_slide la_heights la_ladders la_minutes la_echoFrom la_echoTo la_homes la_talls la_known sf_facts sa_heard sa_huts sa_minutes H) (wpA qp ql qs)) args s 0 0 (wpA qp ql qs)) (F0 m 0 ls []) := by
  have hx := zc.1
  have hb := zc.2.1
  refine lv_iconst (v := (0 : Int32)) hx hb dJ7_fill_53178_0 (by decide) ?_
  refine lv_istore_n (lv' := [(2, .int (0 : Int32)), (0, .ref (qp + 2)), (1, .int x1)]) hx hb dJ7_fill_53178_1 rfl hl (by decide) rfl (fun ls hl => ?_)
  refine lv_aload_n hx hb dJ7_fill_53178_2 rfl (lv_at hl 1 rfl) ?_
  refine va_alen (v := (81 : Int32)) hx hb hK.1 hM.1 2 1 rfl rfl rfl dJ7_fill_53178_3 ?_
  refine lv_istore_n (lv' := [(3, .int (81 : Int32)), (2, .int (0 : Int32)), (0, .ref (qp + 2)), (1, .int x1)]) hx hb dJ7_fill_53178_4 rfl hl (by decide) rfl (fun ls hl => ?_)
  exact t_wp_J7_fill_53178_2_5 zc hK hM hS  (lv_sub hl [2, 3, 1, 0] rfl) hw
set_option maxRecDepth 20000 in
theorem c_wp_J7_fill_53178_2 (l : Launch) {E : zE} {qp ql qs : Nat} {a_heard : Nat → Int32} {a_walked : Nat → Int32} {a_total : Nat → Int32} {a_longest : Nat → Int32} {a_next : Nat → Int32} {a_cover : Nat → Int32} {a_now : Nat → Int32} {a_then : Nat → Int32} {lf_huts : Int32} {lf_singers : Int32} {lf_villages : Int32} {lf_dams : Int32} {lf_echoes : Int32} {lf_deep : Int32} {lf_slide : Int32} {la_heights : Nat → Int32} {la_ladders : Nat → Int32} {la_minutes : Nat → Int32} {la_echoFrom : Nat → Int32} {la_echoTo : Nat → Int32} {la_homes : Nat → Int32} {la_talls : Nat → Int32} {la_known : Nat → Int32} {sf_facts : Int32} {sa_heard : Nat → Int32} {sa_huts : Nat → Int32} {sa_minutes : Nat → Int32} {x1 : Int32} {post : (Nat → Int32) → Prop} (hw : q_wp_J7_fill_53178_2_0 a_walked x1 post) : Met l yJ7_fill_53178 (Cond.code yJ7_fill_53178 cJ7_fill_53178 4 none :: zb) rm_wp_J7_fill_53178_2 (va_Pc [.ref (qp + 2), .int x1] (fun U => wpW E qp ql qs a_heard a_walked a_total a_longest a_next a_cover a_now a_then lf_huts lf_singers lf_villages lf_dams lf_echoes lf_deep lf_slide la_heights la_ladders la_minutes la_echoFrom la_echoTo la_homes la_talls la_known sf_facts sa_heard sa_huts sa_minutes U.heap ∧ zK E U)) (zQv (S := (Nat → Int32)) (fun u => post u) (fun u H => wpW E qp ql qs a_heard u a_total a_longest a_next a_cover a_now a_then lf_huts lf_singers lf_villages lf_dams lf_echoes lf_deep lf_slide la_heights la_ladders la_minutes la_echoFrom la_echoTo la_homes la_talls la_known sf_facts sa_heard sa_huts sa_minutes H) (wpA qp ql qs)) 0 0 (wpA qp ql qs) := by
  refine Met.ofW (cc := cJ7_fill_53178) (maxL := 4) (ret := none) (by decide) rfl ?_
  intro p e s m args below meth c s₁ B hml hv
  obtain ⟨rfl, hM, hK⟩ := hv
  have zc := zc_of B hml
  have hl := lv_entry ([.ref (qp + 2), .int x1]) (n := 4) (Nat.le_of_ble_eq_true rfl)
  rw [lg_entry_eq]
  generalize (lg_sl ([.ref (qp + 2), .int x1]) ++ List.replicate (4 - (lg_sl ([.ref (qp + 2), .int x1])).length) Slot.unset).toArray = ls at hl ⊢
  have hl : lv_has ls 4 [(0, .ref (qp + 2)), (1, .int x1)] := hl
  exact t_wp_J7_fill_53178_2_0 zc hK hM va_S.rf (lv_sub hl [0, 1] rfl) hw
-- wp_X7_shorten_2
abbrev rm_wp_X7_shorten_2 : Room := { frames := 0, cells := 0, slots := 0, locals := 0 }
def q_wp_X7_shorten_2_80 (P2 : Int32 → (Nat → Int32) → Prop) (P9 : Int32 → (Nat → Int32) → Prop) (P27 : Int32 → (Nat → Int32) → Prop) (a_walked : Nat → Int32) (x1 : Int32) (x2 : Int32) (x3 : Int32) (x4 : Int32) (x5 : Int32) (post : (Nat → Int32) → Prop) : Prop :=
  ∀ v_1 : Int32, v_1 = x5 + (1 : Int32) → (P27 v_1 a_walked)
def q_wp_X7_shorten_2_86 (P2 : Int32 → (Nat → Int32) → Prop) (P9 : Int32 → (Nat → Int32) → Prop) (a_walked : Nat → Int32) (x1 : Int32) (x2 : Int32) (x3 : Int32) (post : (Nat → Int32) → Prop) : Prop :=
  ∀ v_1 : Int32, v_1 = x3 + (1 : Int32) → (P9 v_1 a_walked)
def q_wp_X7_shorten_2_27 (P2 : Int32 → (Nat → Int32) → Prop) (P9 : Int32 → (Nat → Int32) → Prop) (a_walked : Nat → Int32) (x1 : Int32) (x2 : Int32) (x3 : Int32) (x4 : Int32) (x5 : Int32) (post : (Nat → Int32) → Prop) : Prop :=
  ∀ P27 : Int32 → (Nat → Int32) → Prop, (∀ (x5 : Int32) (a_walked : Nat → Int32), ((x1 ≤ x5 → (q_wp_X7_shorten_2_86 P2 P9 a_walked x1 x2 x3 post)) ∧ (¬ x1 ≤ x5 → (((1000 : Int32) ≤ x4 → (q_wp_X7_shorten_2_86 P2 P9 a_walked x1 x2 x3 post)) ∧ (¬ (1000 : Int32) ≤ x4 → (vp_in ((x2 * (9 : Int32)) + x5) 81 ∧ (∀ v_1 : Int32, v_1 = (x4 + (a_walked (Int32.toNatClampNeg ((x2 * (9 : Int32)) + x5)))) → (vp_in ((x3 * (9 : Int32)) + x5) 81 ∧ (((a_walked (Int32.toNatClampNeg ((x3 * (9 : Int32)) + x5))) ≤ v_1 → (q_wp_X7_shorten_2_80 P2 P9 P27 a_walked x1 x2 x3 x4 x5 post)) ∧ (¬ (a_walked (Int32.toNatClampNeg ((x3 * (9 : Int32)) + x5))) ≤ v_1 → (vp_in ((x3 * (9 : Int32)) + x5) 81 ∧ (∀ a_walked_1 : Nat → Int32, a_walked_1 = upd a_walked (Int32.toNatClampNeg ((x3 * (9 : Int32)) + x5)) v_1 → (q_wp_X7_shorten_2_80 P2 P9 P27 a_walked_1 x1 x2 x3 x4 x5 post)))))))))))) → P27 x5 a_walked) → P27 x5 a_walked
def q_wp_X7_shorten_2_9 (P2 : Int32 → (Nat → Int32) → Prop) (a_walked : Nat → Int32) (x1 : Int32) (x2 : Int32) (x3 : Int32) (post : (Nat → Int32) → Prop) : Prop :=
  ∀ P9 : Int32 → (Nat → Int32) → Prop, (∀ (x3 : Int32) (a_walked : Nat → Int32), ((x1 ≤ x3 → (∀ v_1 : Int32, v_1 = x2 + (1 : Int32) → (P2 v_1 a_walked))) ∧ (¬ x1 ≤ x3 → (vp_in ((x3 * (9 : Int32)) + x2) 81 ∧ (∀ v_2 : Int32, v_2 = (a_walked (Int32.toNatClampNeg ((x3 * (9 : Int32)) + x2))) → (q_wp_X7_shorten_2_27 P2 P9 a_walked x1 x2 x3 v_2 (0 : Int32) post))))) → P9 x3 a_walked) → P9 x3 a_walked
def q_wp_X7_shorten_2_2 (a_walked : Nat → Int32) (x1 : Int32) (x2 : Int32) (post : (Nat → Int32) → Prop) : Prop :=
  ∀ P2 : Int32 → (Nat → Int32) → Prop, (∀ (x2 : Int32) (a_walked : Nat → Int32), ((x1 ≤ x2 → (post a_walked)) ∧ (¬ x1 ≤ x2 → (q_wp_X7_shorten_2_9 P2 a_walked x1 x2 (0 : Int32) post))) → P2 x2 a_walked) → P2 x2 a_walked
def q_wp_X7_shorten_2_0 (a_walked : Nat → Int32) (x1 : Int32) (post : (Nat → Int32) → Prop) : Prop :=
  q_wp_X7_shorten_2_2 a_walked x1 (0 : Int32) post
set_option maxRecDepth 20000 in
theorem t_wp_X7_shorten_2_80 {p : Program} {l : Launch} {e : Env} {s : State} {m : MethodId} {args : Array Value} {below : List Frame} {meth : Method} {c : Code} {E : zE} {qp ql qs : Nat} {a_heard : Nat → Int32} {a_walked : Nat → Int32} {a_total : Nat → Int32} {a_longest : Nat → Int32} {a_next : Nat → Int32} {a_cover : Nat → Int32} {a_now : Nat → Int32} {a_then : Nat → Int32} {lf_huts : Int32} {lf_singers : Int32} {lf_villages : Int32} {lf_dams : Int32} {lf_echoes : Int32} {lf_deep : Int32} {lf_slide : Int32} {la_heights : Nat → Int32} {la_ladders : Nat → Int32} {la_minutes : Nat → Int32} {la_echoFrom : Nat → Int32} {la_echoTo : Nat → Int32} {la_homes : Nat → Int32} {la_talls : Nat → Int32} {la_known : Nat → Int32} {sf_facts : Int32} {sa_heard : Nat → Int32} {sa_huts : Nat → Int32} {sa_minutes : Nat → Int32} {P2 : Int32 → (Nat → Int32) → Prop} {P9 : Int32 → (Nat → Int32) → Prop} {P27 : Int32 → (Nat → Int32) → Prop} {post : (Nat → Int32) → Prop} {x1 : Int32} {x2 : Int32} {x3 : Int32} {x4 : Int32} {x5 : Int32} {ls : Array Slot} {H : Heap} {locs : List Loc}
    (zc : zC p s m args meth c cX7_shorten 7 RX7 none)
    (hK : zK E s)
    (hM : wpW E qp ql qs a_heard a_walked a_total a_longest a_next a_cover a_now a_then lf_huts lf_singers lf_villages lf_dams lf_echoes lf_deep lf_slide la_heights la_ladders la_minutes la_echoFrom la_echoTo la_homes la_talls la_known sf_facts sa_heard sa_huts sa_minutes H)
    (hS : va_S (wpA qp ql qs) s.heap H locs)
    (hP2 : ∀ (x2 : Int32) (a_walked : Nat → Int32) (H : Heap) (locs : List Loc) (ls : Array Slot), P2 x2 a_walked → lv_has ls 7 [(0, .ref (qp + 2)), (1, .int x1), (2, .int x2)] → wpW E qp ql qs a_heard a_walked a_total a_longest a_next a_cover a_now a_then lf_huts lf_singers lf_villages lf_dams lf_echoes lf_deep lf_slide la_heights la_ladders la_minutes la_echoFrom la_echoTo la_homes la_talls la_known sf_facts sa_heard sa_huts sa_minutes H → va_S (wpA qp ql qs) s.heap H locs → W p l e rm_wp_X7_shorten_2 s m args below meth c H locs 0 0 (MQ below (zQv (S := (Nat → Int32)) (fun u => post u) (fun u H => wpW E qp ql qs a_heard u a_total a_longest a_next a_cover a_now a_then lf_huts lf_singers lf_villages lf_dams lf_echoes lf_deep lf_slide la_heights la_ladders la_minutes la_echoFrom la_echoTo la_homes la_talls la_known sf_facts sa_heard sa_huts sa_minutes H) (wpA qp ql qs)) args s 0 0 (wpA qp ql qs)) (F0 m 2 ls []))
    (hP9 : ∀ (x3 : Int32) (a_walked : Nat → Int32) (H : Heap) (locs : List Loc) (ls : Array Slot), P9 x3 a_walked → lv_has ls 7 [(0, .ref (qp + 2)), (1, .int x1), (2, .int x2), (3, .int x3)] → wpW E qp ql qs a_heard a_walked a_total a_longest a_next a_cover a_now a_then lf_huts lf_singers lf_villages lf_dams lf_echoes lf_deep lf_slide la_heights la_ladders la_minutes la_echoFrom la_echoTo la_homes la_talls la_known sf_facts sa_heard sa_huts sa_minutes H → va_S (wpA qp ql qs) s.heap H locs → W p l e rm_wp_X7_shorten_2 s m args below meth c H locs 0 0 (MQ below (zQv (S := (Nat → Int32)) (fun u => post u) (fun u H => wpW E qp ql qs a_heard u a_total a_longest a_next a_cover a_now a_then lf_huts lf_singers lf_villages lf_dams lf_echoes lf_deep lf_slide la_heights la_ladders la_minutes la_echoFrom la_echoTo la_homes la_talls la_known sf_facts sa_heard sa_huts sa_minutes H) (wpA qp ql qs)) args s 0 0 (wpA qp ql qs)) (F0 m 9 ls []))
    (hP27 : ∀ (x5 : Int32) (a_walked : Nat → Int32) (H : Heap) (locs : List Loc) (ls : Array Slot), P27 x5 a_walked → lv_has ls 7 [(0, .ref (qp + 2)), (1, .int x1), (2, .int x2), (3, .int x3), (4, .int x4), (5, .int x5)] → wpW E qp ql qs a_heard a_walked a_total a_longest a_next a_cover a_now a_then lf_huts lf_singers lf_villages lf_dams lf_echoes lf_deep lf_slide la_heights la_ladders la_minutes la_echoFrom la_echoTo la_homes la_talls la_known sf_facts sa_heard sa_huts sa_minutes H → va_S (wpA qp ql qs) s.heap H locs → W p l e rm_wp_X7_shorten_2 s m args below meth c H locs 0 0 (MQ below (zQv (S := (Nat → Int32)) (fun u => post u) (fun u H => wpW E qp ql qs a_heard u a_total a_longest a_next a_cover a_now a_then lf_huts lf_singers lf_villages lf_dams lf_echoes lf_deep lf_slide la_heights la_ladders la_minutes la_echoFrom la_echoTo la_homes la_talls la_known sf_facts sa_heard sa_huts sa_minutes H) (wpA qp ql qs)) args s 0 0 (wpA qp ql qs)) (F0 m 27 ls []))
    (hl : lv_has ls 7 [(0, .ref (qp + 2)), (1, .int x1), (2, .int x2), (3, .int x3), (4, .int x4), (5, .int x5)])
    (hw : q_wp_X7_shorten_2_80 P2 P9 P27 a_walked x1 x2 x3 x4 x5 post) :
    W p l e rm_wp_X7_shorten_2 s m args below meth c H locs 0 0 (MQ below (zQv (S := (Nat → Int32)) (fun u => post u) (fun u H => wpW E qp ql qs a_heard u a_total a_longest a_next a_cover a_now a_then lf_huts lf_singers lf_villages lf_dams lf_echoes lf_deep lf_slide la_heights la_ladders la_minutes la_echoFrom la_echoTo la_homes la_talls la_known sf_facts sa_heard sa_huts sa_minutes H) (wpA qp ql qs)) args s 0 0 (wpA qp ql qs)) (F0 m 80 ls []) := by
  have hx := zc.1
  have hb := zc.2.1
  obtain ⟨v_1, ev_1⟩ : ∃ y : Int32, y = x5 + (1 : Int32) := ⟨_, rfl⟩
  have hw := hw v_1 ev_1
  refine lv_iinc (v := v_1) (k := 5) (lv' := [(5, .int v_1), (0, .ref (qp + 2)), (1, .int x1), (2, .int x2), (3, .int x3), (4, .int x4)]) hx hb dX7_shorten_80 hl rfl (by rw [ev_1]; rfl) (by decide) rfl (fun ls hl => ?_)
  refine lv_goto (tgt := 27) hx hb dX7_shorten_83 (by decide) ?_
  exact hP27 _ _ _ _ _ hw (lv_sub hl [1, 2, 3, 4, 5, 0] rfl) hM hS
set_option maxRecDepth 20000 in
theorem t_wp_X7_shorten_2_86 {p : Program} {l : Launch} {e : Env} {s : State} {m : MethodId} {args : Array Value} {below : List Frame} {meth : Method} {c : Code} {E : zE} {qp ql qs : Nat} {a_heard : Nat → Int32} {a_walked : Nat → Int32} {a_total : Nat → Int32} {a_longest : Nat → Int32} {a_next : Nat → Int32} {a_cover : Nat → Int32} {a_now : Nat → Int32} {a_then : Nat → Int32} {lf_huts : Int32} {lf_singers : Int32} {lf_villages : Int32} {lf_dams : Int32} {lf_echoes : Int32} {lf_deep : Int32} {lf_slide : Int32} {la_heights : Nat → Int32} {la_ladders : Nat → Int32} {la_minutes : Nat → Int32} {la_echoFrom : Nat → Int32} {la_echoTo : Nat → Int32} {la_homes : Nat → Int32} {la_talls : Nat → Int32} {la_known : Nat → Int32} {sf_facts : Int32} {sa_heard : Nat → Int32} {sa_huts : Nat → Int32} {sa_minutes : Nat → Int32} {P2 : Int32 → (Nat → Int32) → Prop} {P9 : Int32 → (Nat → Int32) → Prop} {post : (Nat → Int32) → Prop} {x1 : Int32} {x2 : Int32} {x3 : Int32} {ls : Array Slot} {H : Heap} {locs : List Loc}
    (zc : zC p s m args meth c cX7_shorten 7 RX7 none)
    (hK : zK E s)
    (hM : wpW E qp ql qs a_heard a_walked a_total a_longest a_next a_cover a_now a_then lf_huts lf_singers lf_villages lf_dams lf_echoes lf_deep lf_slide la_heights la_ladders la_minutes la_echoFrom la_echoTo la_homes la_talls la_known sf_facts sa_heard sa_huts sa_minutes H)
    (hS : va_S (wpA qp ql qs) s.heap H locs)
    (hP2 : ∀ (x2 : Int32) (a_walked : Nat → Int32) (H : Heap) (locs : List Loc) (ls : Array Slot), P2 x2 a_walked → lv_has ls 7 [(0, .ref (qp + 2)), (1, .int x1), (2, .int x2)] → wpW E qp ql qs a_heard a_walked a_total a_longest a_next a_cover a_now a_then lf_huts lf_singers lf_villages lf_dams lf_echoes lf_deep lf_slide la_heights la_ladders la_minutes la_echoFrom la_echoTo la_homes la_talls la_known sf_facts sa_heard sa_huts sa_minutes H → va_S (wpA qp ql qs) s.heap H locs → W p l e rm_wp_X7_shorten_2 s m args below meth c H locs 0 0 (MQ below (zQv (S := (Nat → Int32)) (fun u => post u) (fun u H => wpW E qp ql qs a_heard u a_total a_longest a_next a_cover a_now a_then lf_huts lf_singers lf_villages lf_dams lf_echoes lf_deep lf_slide la_heights la_ladders la_minutes la_echoFrom la_echoTo la_homes la_talls la_known sf_facts sa_heard sa_huts sa_minutes H) (wpA qp ql qs)) args s 0 0 (wpA qp ql qs)) (F0 m 2 ls []))
    (hP9 : ∀ (x3 : Int32) (a_walked : Nat → Int32) (H : Heap) (locs : List Loc) (ls : Array Slot), P9 x3 a_walked → lv_has ls 7 [(0, .ref (qp + 2)), (1, .int x1), (2, .int x2), (3, .int x3)] → wpW E qp ql qs a_heard a_walked a_total a_longest a_next a_cover a_now a_then lf_huts lf_singers lf_villages lf_dams lf_echoes lf_deep lf_slide la_heights la_ladders la_minutes la_echoFrom la_echoTo la_homes la_talls la_known sf_facts sa_heard sa_huts sa_minutes H → va_S (wpA qp ql qs) s.heap H locs → W p l e rm_wp_X7_shorten_2 s m args below meth c H locs 0 0 (MQ below (zQv (S := (Nat → Int32)) (fun u => post u) (fun u H => wpW E qp ql qs a_heard u a_total a_longest a_next a_cover a_now a_then lf_huts lf_singers lf_villages lf_dams lf_echoes lf_deep lf_slide la_heights la_ladders la_minutes la_echoFrom la_echoTo la_homes la_talls la_known sf_facts sa_heard sa_huts sa_minutes H) (wpA qp ql qs)) args s 0 0 (wpA qp ql qs)) (F0 m 9 ls []))
    (hl : lv_has ls 7 [(0, .ref (qp + 2)), (1, .int x1), (2, .int x2), (3, .int x3)])
    (hw : q_wp_X7_shorten_2_86 P2 P9 a_walked x1 x2 x3 post) :
    W p l e rm_wp_X7_shorten_2 s m args below meth c H locs 0 0 (MQ below (zQv (S := (Nat → Int32)) (fun u => post u) (fun u H => wpW E qp ql qs a_heard u a_total a_longest a_next a_cover a_now a_then lf_huts lf_singers lf_villages lf_dams lf_echoes lf_deep lf_slide la_heights la_ladders la_minutes la_echoFrom la_echoTo la_homes la_talls la_known sf_facts sa_heard sa_huts sa_minutes H) (wpA qp ql qs)) args s 0 0 (wpA qp ql qs)) (F0 m 86 ls []) := by
  have hx := zc.1
  have hb := zc.2.1
  obtain ⟨v_1, ev_1⟩ : ∃ y : Int32, y = x3 + (1 : Int32) := ⟨_, rfl⟩
  have hw := hw v_1 ev_1
  refine lv_iinc (v := v_1) (k := 3) (lv' := [(3, .int v_1), (0, .ref (qp + 2)), (1, .int x1), (2, .int x2)]) hx hb dX7_shorten_86 hl rfl (by rw [ev_1]; rfl) (by decide) rfl (fun ls hl => ?_)
  refine lv_goto (tgt := 9) hx hb dX7_shorten_89 (by decide) ?_
  exact hP9 _ _ _ _ _ hw (lv_sub hl [1, 2, 3, 0] rfl) hM hS
set_option maxRecDepth 20000 in
theorem t_wp_X7_shorten_2_27 {p : Program} {l : Launch} {e : Env} {s : State} {m : MethodId} {args : Array Value} {below : List Frame} {meth : Method} {c : Code} {E : zE} {qp ql qs : Nat} {a_heard : Nat → Int32} {a_walked : Nat → Int32} {a_total : Nat → Int32} {a_longest : Nat → Int32} {a_next : Nat → Int32} {a_cover : Nat → Int32} {a_now : Nat → Int32} {a_then : Nat → Int32} {lf_huts : Int32} {lf_singers : Int32} {lf_villages : Int32} {lf_dams : Int32} {lf_echoes : Int32} {lf_deep : Int32} {lf_slide : Int32} {la_heights : Nat → Int32} {la_ladders : Nat → Int32} {la_minutes : Nat → Int32} {la_echoFrom : Nat → Int32} {la_echoTo : Nat → Int32} {la_homes : Nat → Int32} {la_talls : Nat → Int32} {la_known : Nat → Int32} {sf_facts : Int32} {sa_heard : Nat → Int32} {sa_huts : Nat → Int32} {sa_minutes : Nat → Int32} {P2 : Int32 → (Nat → Int32) → Prop} {P9 : Int32 → (Nat → Int32) → Prop} {post : (Nat → Int32) → Prop} {x1 : Int32} {x2 : Int32} {x3 : Int32} {x4 : Int32} {x5 : Int32} {ls : Array Slot} {H : Heap} {locs : List Loc}
    (zc : zC p s m args meth c cX7_shorten 7 RX7 none)
    (hK : zK E s)
    (hM : wpW E qp ql qs a_heard a_walked a_total a_longest a_next a_cover a_now a_then lf_huts lf_singers lf_villages lf_dams lf_echoes lf_deep lf_slide la_heights la_ladders la_minutes la_echoFrom la_echoTo la_homes la_talls la_known sf_facts sa_heard sa_huts sa_minutes H)
    (hS : va_S (wpA qp ql qs) s.heap H locs)
    (hP2 : ∀ (x2 : Int32) (a_walked : Nat → Int32) (H : Heap) (locs : List Loc) (ls : Array Slot), P2 x2 a_walked → lv_has ls 7 [(0, .ref (qp + 2)), (1, .int x1), (2, .int x2)] → wpW E qp ql qs a_heard a_walked a_total a_longest a_next a_cover a_now a_then lf_huts lf_singers lf_villages lf_dams lf_echoes lf_deep lf_slide la_heights la_ladders la_minutes la_echoFrom la_echoTo la_homes la_talls la_known sf_facts sa_heard sa_huts sa_minutes H → va_S (wpA qp ql qs) s.heap H locs → W p l e rm_wp_X7_shorten_2 s m args below meth c H locs 0 0 (MQ below (zQv (S := (Nat → Int32)) (fun u => post u) (fun u H => wpW E qp ql qs a_heard u a_total a_longest a_next a_cover a_now a_then lf_huts lf_singers lf_villages lf_dams lf_echoes lf_deep lf_slide la_heights la_ladders la_minutes la_echoFrom la_echoTo la_homes la_talls la_known sf_facts sa_heard sa_huts sa_minutes H) (wpA qp ql qs)) args s 0 0 (wpA qp ql qs)) (F0 m 2 ls []))
    (hP9 : ∀ (x3 : Int32) (a_walked : Nat → Int32) (H : Heap) (locs : List Loc) (ls : Array Slot), P9 x3 a_walked → lv_has ls 7 [(0, .ref (qp + 2)), (1, .int x1), (2, .int x2), (3, .int x3)] → wpW E qp ql qs a_heard a_walked a_total a_longest a_next a_cover a_now a_then lf_huts lf_singers lf_villages lf_dams lf_echoes lf_deep lf_slide la_heights la_ladders la_minutes la_echoFrom la_echoTo la_homes la_talls la_known sf_facts sa_heard sa_huts sa_minutes H → va_S (wpA qp ql qs) s.heap H locs → W p l e rm_wp_X7_shorten_2 s m args below meth c H locs 0 0 (MQ below (zQv (S := (Nat → Int32)) (fun u => post u) (fun u H => wpW E qp ql qs a_heard u a_total a_longest a_next a_cover a_now a_then lf_huts lf_singers lf_villages lf_dams lf_echoes lf_deep lf_slide la_heights la_ladders la_minutes la_echoFrom la_echoTo la_homes la_talls la_known sf_facts sa_heard sa_huts sa_minutes H) (wpA qp ql qs)) args s 0 0 (wpA qp ql qs)) (F0 m 9 ls []))
    (hl : lv_has ls 7 [(0, .ref (qp + 2)), (1, .int x1), (2, .int x2), (3, .int x3), (4, .int x4), (5, .int x5)])
    (hw : q_wp_X7_shorten_2_27 P2 P9 a_walked x1 x2 x3 x4 x5 post) :
    W p l e rm_wp_X7_shorten_2 s m args below meth c H locs 0 0 (MQ below (zQv (S := (Nat → Int32)) (fun u => post u) (fun u H => wpW E qp ql qs a_heard u a_total a_longest a_next a_cover a_now a_then lf_huts lf_singers lf_villages lf_dams lf_echoes lf_deep lf_slide la_heights la_ladders la_minutes la_echoFrom la_echoTo la_homes la_talls la_known sf_facts sa_heard sa_huts sa_minutes H) (wpA qp ql qs)) args s 0 0 (wpA qp ql qs)) (F0 m 27 ls []) := by
  have hx := zc.1
  have hb := zc.2.1
  refine hw (fun x5 a_walked => ∀ (H : Heap) (locs : List Loc) (ls : Array Slot), lv_has ls 7 [(0, .ref (qp + 2)), (1, .int x1), (2, .int x2), (3, .int x3), (4, .int x4), (5, .int x5)] → wpW E qp ql qs a_heard a_walked a_total a_longest a_next a_cover a_now a_then lf_huts lf_singers lf_villages lf_dams lf_echoes lf_deep lf_slide la_heights la_ladders la_minutes la_echoFrom la_echoTo la_homes la_talls la_known sf_facts sa_heard sa_huts sa_minutes H → va_S (wpA qp ql qs) s.heap H locs → W p l e rm_wp_X7_shorten_2 s m args below meth c H locs 0 0 (MQ below (zQv (S := (Nat → Int32)) (fun u => post u) (fun u H => wpW E qp ql qs a_heard u a_total a_longest a_next a_cover a_now a_then lf_huts lf_singers lf_villages lf_dams lf_echoes lf_deep lf_slide la_heights la_ladders la_minutes la_echoFrom la_echoTo la_homes la_talls la_known sf_facts sa_heard sa_huts sa_minutes H) (wpA qp ql qs)) args s 0 0 (wpA qp ql qs)) (F0 m 27 ls [])) ?_ _ _ _ hl hM hS
  intro x5 a_walked hw H locs ls hl hM hS
  refine lv_iload hx hb dX7_shorten_27 (lv_at hl 5 rfl) ?_
  refine lv_iload_n hx hb dX7_shorten_29 rfl (lv_at hl 1 rfl) ?_
  refine lv_icmp_ge (tgt := 86) hx hb dX7_shorten_30 (by decide) (fun hc => ?_) (fun hc => ?_)
  · have hw := hw.1 hc
    exact t_wp_X7_shorten_2_86 zc hK hM hS hP2 hP9 (lv_sub hl [0, 1, 2, 3] rfl) hw
  · have hw := hw.2 hc
    refine lv_iload hx hb dX7_shorten_33 (lv_at hl 4 rfl) ?_
    refine lv_sipush (v := (1000 : Int32)) hx hb dX7_shorten_35 (by decide) ?_
    refine lv_icmp_ge (tgt := 86) hx hb dX7_shorten_38 (by decide) (fun hc => ?_) (fun hc => ?_)
    · have hw := hw.1 hc
      exact t_wp_X7_shorten_2_86 zc hK hM hS hP2 hP9 (lv_sub hl [0, 1, 2, 3] rfl) hw
    · have hw := hw.2 hc
      refine lv_iload hx hb dX7_shorten_41 (lv_at hl 4 rfl) ?_
      refine lv_aload_n hx hb dX7_shorten_43 rfl (lv_at hl 0 rfl) ?_
      refine lv_iload_n hx hb dX7_shorten_44 rfl (lv_at hl 2 rfl) ?_
      refine lv_bipush (v := (9 : Int32)) hx hb dX7_shorten_45 (by decide) ?_
      refine lv_imul hx hb dX7_shorten_47 ?_
      refine lv_iload hx hb dX7_shorten_48 (lv_at hl 5 rfl) ?_
      refine lv_iadd hx hb dX7_shorten_50 ?_
      refine wpld_2 zc hK hM hw.1 dX7_shorten_51 ?_
      have hw := hw.2
      refine lv_iadd hx hb dX7_shorten_52 ?_
      refine lv_topi (fun v_1 ev_1 => ?_)
      have hw := hw v_1 ev_1
      refine lv_istore (lv' := [(6, .int v_1), (0, .ref (qp + 2)), (1, .int x1), (2, .int x2), (3, .int x3), (4, .int x4), (5, .int x5)]) hx hb dX7_shorten_53 hl (by decide) rfl (fun ls hl => ?_)
      refine lv_iload hx hb dX7_shorten_55 (lv_at hl 0 rfl) ?_
      refine lv_aload_n hx hb dX7_shorten_57 rfl (lv_at hl 1 rfl) ?_
      refine lv_iload_n hx hb dX7_shorten_58 rfl (lv_at hl 4 rfl) ?_
      refine lv_bipush (v := (9 : Int32)) hx hb dX7_shorten_59 (by decide) ?_
      refine lv_imul hx hb dX7_shorten_61 ?_
      refine lv_iload hx hb dX7_shorten_62 (lv_at hl 6 rfl) ?_
      refine lv_iadd hx hb dX7_shorten_64 ?_
      refine wpld_2 zc hK hM hw.1 dX7_shorten_65 ?_
      have hw := hw.2
      refine lv_icmp_ge (tgt := 80) hx hb dX7_shorten_66 (by decide) (fun hc => ?_) (fun hc => ?_)
      · have hw := hw.1 hc
        exact t_wp_X7_shorten_2_80 zc hK hM hS hP2 hP9 (fun _ _ H locs ls h hl hM hS => h H locs ls hl hM hS) (lv_sub hl [1, 2, 3, 4, 5, 6] rfl) hw
      · have hw := hw.2 hc
        refine lv_aload_n hx hb dX7_shorten_69 rfl (lv_at hl 1 rfl) ?_
        refine lv_iload_n hx hb dX7_shorten_70 rfl (lv_at hl 4 rfl) ?_
        refine lv_bipush (v := (9 : Int32)) hx hb dX7_shorten_71 (by decide) ?_
        refine lv_imul hx hb dX7_shorten_73 ?_
        refine lv_iload hx hb dX7_shorten_74 (lv_at hl 6 rfl) ?_
        refine lv_iadd hx hb dX7_shorten_76 ?_
        refine lv_iload hx hb dX7_shorten_77 (lv_at hl 0 rfl) ?_
        refine wpst_2 zc hK hM hS hw.1 dX7_shorten_79 (fun a_walked_1 H locs ea_walked_1 hM hS => ?_)
        have hw := hw.2 a_walked_1 ea_walked_1
        exact t_wp_X7_shorten_2_80 zc hK hM hS hP2 hP9 (fun _ _ H locs ls h hl hM hS => h H locs ls hl hM hS) (lv_sub hl [1, 2, 3, 4, 5, 6] rfl) hw
set_option maxRecDepth 20000 in
theorem t_wp_X7_shorten_2_9 {p : Program} {l : Launch} {e : Env} {s : State} {m : MethodId} {args : Array Value} {below : List Frame} {meth : Method} {c : Code} {E : zE} {qp ql qs : Nat} {a_heard : Nat → Int32} {a_walked : Nat → Int32} {a_total : Nat → Int32} {a_longest : Nat → Int32} {a_next : Nat → Int32} {a_cover : Nat → Int32} {a_now : Nat → Int32} {a_then : Nat → Int32} {lf_huts : Int32} {lf_singers : Int32} {lf_villages : Int32} {lf_dams : Int32} {lf_echoes : Int32} {lf_deep : Int32} {lf_slide : Int32} {la_heights : Nat → Int32} {la_ladders : Nat → Int32} {la_minutes : Nat → Int32} {la_echoFrom : Nat → Int32} {la_echoTo : Nat → Int32} {la_homes : Nat → Int32} {la_talls : Nat → Int32} {la_known : Nat → Int32} {sf_facts : Int32} {sa_heard : Nat → Int32} {sa_huts : Nat → Int32} {sa_minutes : Nat → Int32} {P2 : Int32 → (Nat → Int32) → Prop} {post : (Nat → Int32) → Prop} {x1 : Int32} {x2 : Int32} {x3 : Int32} {ls : Array Slot} {H : Heap} {locs : List Loc}
    (zc : zC p s m args meth c cX7_shorten 7 RX7 none)
    (hK : zK E s)
    (hM : wpW E qp ql qs a_heard a_walked a_total a_longest a_next a_cover a_now a_then lf_huts lf_singers lf_villages lf_dams lf_echoes lf_deep lf_slide la_heights la_ladders la_minutes la_echoFrom la_echoTo la_homes la_talls la_known sf_facts sa_heard sa_huts sa_minutes H)
    (hS : va_S (wpA qp ql qs) s.heap H locs)
    (hP2 : ∀ (x2 : Int32) (a_walked : Nat → Int32) (H : Heap) (locs : List Loc) (ls : Array Slot), P2 x2 a_walked → lv_has ls 7 [(0, .ref (qp + 2)), (1, .int x1), (2, .int x2)] → wpW E qp ql qs a_heard a_walked a_total a_longest a_next a_cover a_now a_then lf_huts lf_singers lf_villages lf_dams lf_echoes lf_deep lf_slide la_heights la_ladders la_minutes la_echoFrom la_echoTo la_homes la_talls la_known sf_facts sa_heard sa_huts sa_minutes H → va_S (wpA qp ql qs) s.heap H locs → W p l e rm_wp_X7_shorten_2 s m args below meth c H locs 0 0 (MQ below (zQv (S := (Nat → Int32)) (fun u => post u) (fun u H => wpW E qp ql qs a_heard u a_total a_longest a_next a_cover a_now a_then lf_huts lf_singers lf_villages lf_dams lf_echoes lf_deep lf_slide la_heights la_ladders la_minutes la_echoFrom la_echoTo la_homes la_talls la_known sf_facts sa_heard sa_huts sa_minutes H) (wpA qp ql qs)) args s 0 0 (wpA qp ql qs)) (F0 m 2 ls []))
    (hl : lv_has ls 7 [(0, .ref (qp + 2)), (1, .int x1), (2, .int x2), (3, .int x3)])
    (hw : q_wp_X7_shorten_2_9 P2 a_walked x1 x2 x3 post) :
    W p l e rm_wp_X7_shorten_2 s m args below meth c H locs 0 0 (MQ below (zQv (S := (Nat → Int32)) (fun u => post u) (fun u H => wpW E qp ql qs a_heard u a_total a_longest a_next a_cover a_now a_then lf_huts lf_singers lf_villages lf_dams lf_echoes lf_deep lf_slide la_heights la_ladders la_minutes la_echoFrom la_echoTo la_homes la_talls la_known sf_facts sa_heard sa_huts sa_minutes H) (wpA qp ql qs)) args s 0 0 (wpA qp ql qs)) (F0 m 9 ls []) := by
  have hx := zc.1
  have hb := zc.2.1
  refine hw (fun x3 a_walked => ∀ (H : Heap) (locs : List Loc) (ls : Array Slot), lv_has ls 7 [(0, .ref (qp + 2)), (1, .int x1), (2, .int x2), (3, .int x3)] → wpW E qp ql qs a_heard a_walked a_total a_longest a_next a_cover a_now a_then lf_huts lf_singers lf_villages lf_dams lf_echoes lf_deep lf_slide la_heights la_ladders la_minutes la_echoFrom la_echoTo la_homes la_talls la_known sf_facts sa_heard sa_huts sa_minutes H → va_S (wpA qp ql qs) s.heap H locs → W p l e rm_wp_X7_shorten_2 s m args below meth c H locs 0 0 (MQ below (zQv (S := (Nat → Int32)) (fun u => post u) (fun u H => wpW E qp ql qs a_heard u a_total a_longest a_next a_cover a_now a_then lf_huts lf_singers lf_villages lf_dams lf_echoes lf_deep lf_slide la_heights la_ladders la_minutes la_echoFrom la_echoTo la_homes la_talls la_known sf_facts sa_heard sa_huts sa_minutes H) (wpA qp ql qs)) args s 0 0 (wpA qp ql qs)) (F0 m 9 ls [])) ?_ _ _ _ hl hM hS
  intro x3 a_walked hw H locs ls hl hM hS
  refine lv_iload_n hx hb dX7_shorten_9 rfl (lv_at hl 3 rfl) ?_
  refine lv_iload_n hx hb dX7_shorten_10 rfl (lv_at hl 1 rfl) ?_
  refine lv_icmp_ge (tgt := 92) hx hb dX7_shorten_11 (by decide) (fun hc => ?_) (fun hc => ?_)
  · have hw := hw.1 hc
    obtain ⟨v_1, ev_1⟩ : ∃ y : Int32, y = x2 + (1 : Int32) := ⟨_, rfl⟩
    have hw := hw v_1 ev_1
    refine lv_iinc (v := v_1) (k := 2) (lv' := [(2, .int v_1), (0, .ref (qp + 2)), (1, .int x1), (3, .int x3)]) hx hb dX7_shorten_92 hl rfl (by rw [ev_1]; rfl) (by decide) rfl (fun ls hl => ?_)
    refine lv_goto (tgt := 2) hx hb dX7_shorten_95 (by decide) ?_
    exact hP2 _ _ _ _ _ hw (lv_sub hl [1, 2, 0] rfl) hM hS
  · have hw := hw.2 hc
    refine lv_aload_n hx hb dX7_shorten_14 rfl (lv_at hl 0 rfl) ?_
    refine lv_iload_n hx hb dX7_shorten_15 rfl (lv_at hl 3 rfl) ?_
    refine lv_bipush (v := (9 : Int32)) hx hb dX7_shorten_16 (by decide) ?_
    refine lv_imul hx hb dX7_shorten_18 ?_
    refine lv_iload_n hx hb dX7_shorten_19 rfl (lv_at hl 2 rfl) ?_
    refine lv_iadd hx hb dX7_shorten_20 ?_
    refine wpld_2 zc hK hM hw.1 dX7_shorten_21 ?_
    have hw := hw.2
    refine lv_topi (fun v_2 ev_2 => ?_)
    have hw := hw v_2 ev_2
    refine lv_istore (lv' := [(4, .int v_2), (0, .ref (qp + 2)), (1, .int x1), (2, .int x2), (3, .int x3)]) hx hb dX7_shorten_22 hl (by decide) rfl (fun ls hl => ?_)
    refine lv_iconst (v := (0 : Int32)) hx hb dX7_shorten_24 (by decide) ?_
    refine lv_istore (lv' := [(5, .int (0 : Int32)), (4, .int v_2), (0, .ref (qp + 2)), (1, .int x1), (2, .int x2), (3, .int x3)]) hx hb dX7_shorten_25 hl (by decide) rfl (fun ls hl => ?_)
    exact t_wp_X7_shorten_2_27 zc hK hM hS hP2 (fun _ _ H locs ls h hl hM hS => h H locs ls hl hM hS) (lv_sub hl [2, 3, 4, 5, 1, 0] rfl) hw
set_option maxRecDepth 20000 in
theorem t_wp_X7_shorten_2_2 {p : Program} {l : Launch} {e : Env} {s : State} {m : MethodId} {args : Array Value} {below : List Frame} {meth : Method} {c : Code} {E : zE} {qp ql qs : Nat} {a_heard : Nat → Int32} {a_walked : Nat → Int32} {a_total : Nat → Int32} {a_longest : Nat → Int32} {a_next : Nat → Int32} {a_cover : Nat → Int32} {a_now : Nat → Int32} {a_then : Nat → Int32} {lf_huts : Int32} {lf_singers : Int32} {lf_villages : Int32} {lf_dams : Int32} {lf_echoes : Int32} {lf_deep : Int32} {lf_slide : Int32} {la_heights : Nat → Int32} {la_ladders : Nat → Int32} {la_minutes : Nat → Int32} {la_echoFrom : Nat → Int32} {la_echoTo : Nat → Int32} {la_homes : Nat → Int32} {la_talls : Nat → Int32} {la_known : Nat → Int32} {sf_facts : Int32} {sa_heard : Nat → Int32} {sa_huts : Nat → Int32} {sa_minutes : Nat → Int32} {post : (Nat → Int32) → Prop} {x1 : Int32} {x2 : Int32} {ls : Array Slot} {H : Heap} {locs : List Loc}
    (zc : zC p s m args meth c cX7_shorten 7 RX7 none)
    (hK : zK E s)
    (hM : wpW E qp ql qs a_heard a_walked a_total a_longest a_next a_cover a_now a_then lf_huts lf_singers lf_villages lf_dams lf_echoes lf_deep lf_slide la_heights la_ladders la_minutes la_echoFrom la_echoTo la_homes la_talls la_known sf_facts sa_heard sa_huts sa_minutes H)
    (hS : va_S (wpA qp ql qs) s.heap H locs)
    (hl : lv_has ls 7 [(0, .ref (qp + 2)), (1, .int x1), (2, .int x2)])
    (hw : q_wp_X7_shorten_2_2 a_walked x1 x2 post) :
    W p l e rm_wp_X7_shorten_2 s m args below meth c H locs 0 0 (MQ below (zQv (S := (Nat → Int32)) (fun u => post u) (fun u H => wpW E qp ql qs a_heard u a_total a_longest a_next a_cover a_now a_then lf_huts lf_singers lf_villages lf_dams lf_echoes lf_deep lf_slide la_heights la_ladders la_minutes la_echoFrom la_echoTo la_homes la_talls la_known sf_facts sa_heard sa_huts sa_minutes H) (wpA qp ql qs)) args s 0 0 (wpA qp ql qs)) (F0 m 2 ls []) := by
  have hx := zc.1
  have hb := zc.2.1
  refine hw (fun x2 a_walked => ∀ (H : Heap) (locs : List Loc) (ls : Array Slot), lv_has ls 7 [(0, .ref (qp + 2)), (1, .int x1), (2, .int x2)] → wpW E qp ql qs a_heard a_walked a_total a_longest a_next a_cover a_now a_then lf_huts lf_singers lf_villages lf_dams lf_echoes lf_deep lf_slide la_heights la_ladders la_minutes la_echoFrom la_echoTo la_homes la_talls la_known sf_facts sa_heard sa_huts sa_minutes H → va_S (wpA qp ql qs) s.heap H locs → W p l e rm_wp_X7_shorten_2 s m args below meth c H locs 0 0 (MQ below (zQv (S := (Nat → Int32)) (fun u => post u) (fun u H => wpW E qp ql qs a_heard u a_total a_longest a_next a_cover a_now a_then lf_huts lf_singers lf_villages lf_dams lf_echoes lf_deep lf_slide la_heights la_ladders la_minutes la_echoFrom la_echoTo la_homes la_talls la_known sf_facts sa_heard sa_huts sa_minutes H) (wpA qp ql qs)) args s 0 0 (wpA qp ql qs)) (F0 m 2 ls [])) ?_ _ _ _ hl hM hS
  intro x2 a_walked hw H locs ls hl hM hS
  refine lv_iload_n hx hb dX7_shorten_2 rfl (lv_at hl 2 rfl) ?_
  refine lv_iload_n hx hb dX7_shorten_3 rfl (lv_at hl 1 rfl) ?_
  refine lv_icmp_ge (tgt := 98) hx hb dX7_shorten_4 (by decide) (fun hc => ?_) (fun hc => ?_)
  · have hw := hw.1 hc
    exact zret_vw a_walked zc hS hw hM dX7_shorten_98
  · have hw := hw.2 hc
    refine lv_iconst (v := (0 : Int32)) hx hb dX7_shorten_7 (by decide) ?_
    refine lv_istore_n (lv' := [(3, .int (0 : Int32)), (0, .ref (qp + 2)), (1, .int x1), (2, .int x2)]) hx hb dX7_shorten_8 rfl hl (by decide) rfl (fun ls hl => ?_)
    exact t_wp_X7_shorten_2_9 zc hK hM hS (fun _ _ H locs ls h hl hM hS => h H locs ls hl hM hS) (lv_sub hl [1, 2, 3, 0] rfl) hw
set_option maxRecDepth 20000 in
theorem t_wp_X7_shorten_2_0 {p : Program} {l : Launch} {e : Env} {s : State} {m : MethodId} {args : Array Value} {below : List Frame} {meth : Method} {c : Code} {E : zE} {qp ql qs : Nat} {a_heard : Nat → Int32} {a_walked : Nat → Int32} {a_total : Nat → Int32} {a_longest : Nat → Int32} {a_next : Nat → Int32} {a_cover : Nat → Int32} {a_now : Nat → Int32} {a_then : Nat → Int32} {lf_huts : Int32} {lf_singers : Int32} {lf_villages : Int32} {lf_dams : Int32} {lf_echoes : Int32} {lf_deep : Int32} {lf_slide : Int32} {la_heights : Nat → Int32} {la_ladders : Nat → Int32} {la_minutes : Nat → Int32} {la_echoFrom : Nat → Int32} {la_echoTo : Nat → Int32} {la_homes : Nat → Int32} {la_talls : Nat → Int32} {la_known : Nat → Int32} {sf_facts : Int32} {sa_heard : Nat → Int32} {sa_huts : Nat → Int32} {sa_minutes : Nat → Int32} {post : (Nat → Int32) → Prop} {x1 : Int32} {ls : Array Slot} {H : Heap} {locs : List Loc}
    (zc : zC p s m args meth c cX7_shorten 7 RX7 none)
    (hK : zK E s)
    (hM : wpW E qp ql qs a_heard a_walked a_total a_longest a_next a_cover a_now a_then lf_huts lf_singers lf_villages lf_dams lf_echoes lf_deep lf_slide la_heights la_ladders la_minutes la_echoFrom la_echoTo la_homes la_talls la_known sf_facts sa_heard sa_huts sa_minutes H)
    (hS : va_S (wpA qp ql qs) s.heap H locs)
    (hl : lv_has ls 7 [(0, .ref (qp + 2)), (1, .int x1)])
    (hw : q_wp_X7_shorten_2_0 a_walked x1 post) :
    W p l e rm_wp_X7_shorten_2 s m args below meth c H locs 0 0 (MQ below (zQv (S := (Nat → Int32)) (fun u => post u) (fun u H => wpW E qp ql qs a_heard u a_total a_longest a_next a_cover a_now a_then lf_huts lf_singers lf_villages lf_dams lf_echoes lf_deep lf_slide la_heights la_ladders la_minutes la_echoFrom la_echoTo la_homes la_talls la_known sf_facts sa_heard sa_huts sa_minutes H) (wpA qp ql qs)) args s 0 0 (wpA qp ql qs)) (F0 m 0 ls []) := by
  have hx := zc.1
  have hb := zc.2.1
  refine lv_iconst (v := (0 : Int32)) hx hb dX7_shorten_0 (by decide) ?_
  refine lv_istore_n (lv' := [(2, .int (0 : Int32)), (0, .ref (qp + 2)), (1, .int x1)]) hx hb dX7_shorten_1 rfl hl (by decide) rfl (fun ls hl => ?_)
  exact t_wp_X7_shorten_2_2 zc hK hM hS  (lv_sub hl [1, 2, 0] rfl) hw
set_option maxRecDepth 20000 in
theorem c_wp_X7_shorten_2 (l : Launch) {E : zE} {qp ql qs : Nat} {a_heard : Nat → Int32} {a_walked : Nat → Int32} {a_total : Nat → Int32} {a_longest : Nat → Int32} {a_next : Nat → Int32} {a_cover : Nat → Int32} {a_now : Nat → Int32} {a_then : Nat → Int32} {lf_huts : Int32} {lf_singers : Int32} {lf_villages : Int32} {lf_dams : Int32} {lf_echoes : Int32} {lf_deep : Int32} {lf_slide : Int32} {la_heights : Nat → Int32} {la_ladders : Nat → Int32} {la_minutes : Nat → Int32} {la_echoFrom : Nat → Int32} {la_echoTo : Nat → Int32} {la_homes : Nat → Int32} {la_talls : Nat → Int32} {la_known : Nat → Int32} {sf_facts : Int32} {sa_heard : Nat → Int32} {sa_huts : Nat → Int32} {sa_minutes : Nat → Int32} {x1 : Int32} {post : (Nat → Int32) → Prop} (hw : q_wp_X7_shorten_2_0 a_walked x1 post) : Met l yX7_shorten (Cond.code yX7_shorten cX7_shorten 7 none :: zb) rm_wp_X7_shorten_2 (va_Pc [.ref (qp + 2), .int x1] (fun U => wpW E qp ql qs a_heard a_walked a_total a_longest a_next a_cover a_now a_then lf_huts lf_singers lf_villages lf_dams lf_echoes lf_deep lf_slide la_heights la_ladders la_minutes la_echoFrom la_echoTo la_homes la_talls la_known sf_facts sa_heard sa_huts sa_minutes U.heap ∧ zK E U)) (zQv (S := (Nat → Int32)) (fun u => post u) (fun u H => wpW E qp ql qs a_heard u a_total a_longest a_next a_cover a_now a_then lf_huts lf_singers lf_villages lf_dams lf_echoes lf_deep lf_slide la_heights la_ladders la_minutes la_echoFrom la_echoTo la_homes la_talls la_known sf_facts sa_heard sa_huts sa_minutes H) (wpA qp ql qs)) 0 0 (wpA qp ql qs) := by
  refine Met.ofW (cc := cX7_shorten) (maxL := 7) (ret := none) (by decide) rfl ?_
  intro p e s m args below meth c s₁ B hml hv
  obtain ⟨rfl, hM, hK⟩ := hv
  have zc := zc_of B hml
  have hl := lv_entry ([.ref (qp + 2), .int x1]) (n := 7) (Nat.le_of_ble_eq_true rfl)
  rw [lg_entry_eq]
  generalize (lg_sl ([.ref (qp + 2), .int x1]) ++ List.replicate (7 - (lg_sl ([.ref (qp + 2), .int x1])).length) Slot.unset).toArray = ls at hl ⊢
  have hl : lv_has ls 7 [(0, .ref (qp + 2)), (1, .int x1)] := hl
  exact t_wp_X7_shorten_2_0 zc hK hM va_S.rf (lv_sub hl [0, 1] rfl) hw
-- wp_X7_walk_9
abbrev rm_wp_X7_walk_9 : Room := { frames := 1, cells := 0, slots := 0, locals := 26 }
def q_wp_X7_walk_9_61 (P12 : Int32 → (Nat → Int32) → Prop) (P22 : Int32 → (Nat → Int32) → Prop) (a_walked : Nat → Int32) (lf_huts : Int32) (la_minutes : Nat → Int32) (x2 : Int32) (x3 : Int32) (post : (Nat → Int32) → Prop) : Prop :=
  ∀ v_1 : Int32, v_1 = x3 + (1 : Int32) → (P22 v_1 a_walked)
def q_wp_X7_walk_9_22 (P12 : Int32 → (Nat → Int32) → Prop) (a_walked : Nat → Int32) (lf_huts : Int32) (la_minutes : Nat → Int32) (x2 : Int32) (x3 : Int32) (post : (Nat → Int32) → Prop) : Prop :=
  ∀ P22 : Int32 → (Nat → Int32) → Prop, (∀ (x3 : Int32) (a_walked : Nat → Int32), ((lf_huts ≤ x3 → (vp_in ((x2 * (9 : Int32)) + x2) 81 ∧ (∀ a_walked_1 : Nat → Int32, a_walked_1 = upd a_walked (Int32.toNatClampNeg ((x2 * (9 : Int32)) + x2)) (0 : Int32) → (∀ v_1 : Int32, v_1 = x2 + (1 : Int32) → (P12 v_1 a_walked_1))))) ∧ (¬ lf_huts ≤ x3 → (vp_in ((x2 * (9 : Int32)) + x3) 81 ∧ (∀ v_2 : Int32, v_2 = (la_minutes (Int32.toNatClampNeg ((x2 * (9 : Int32)) + x3))) → ((v_2 ≤ 0 → (q_wp_X7_walk_9_61 P12 P22 a_walked lf_huts la_minutes x2 x3 post)) ∧ (¬ v_2 ≤ 0 → (vp_in ((x2 * (9 : Int32)) + x3) 81 ∧ (∀ a_walked_2 : Nat → Int32, a_walked_2 = upd a_walked (Int32.toNatClampNeg ((x2 * (9 : Int32)) + x3)) v_2 → (q_wp_X7_walk_9_61 P12 P22 a_walked_2 lf_huts la_minutes x2 x3 post))))))))) → P22 x3 a_walked) → P22 x3 a_walked
def q_wp_X7_walk_9_12 (a_walked : Nat → Int32) (lf_huts : Int32) (la_minutes : Nat → Int32) (x2 : Int32) (post : (Nat → Int32) → Prop) : Prop :=
  ∀ P12 : Int32 → (Nat → Int32) → Prop, (∀ (x2 : Int32) (a_walked : Nat → Int32), ((lf_huts ≤ x2 → (q_wp_X7_shorten_2_0 a_walked lf_huts (fun a_walked_1 => post a_walked_1))) ∧ (¬ lf_huts ≤ x2 → (q_wp_X7_walk_9_22 P12 a_walked lf_huts la_minutes x2 (0 : Int32) post))) → P12 x2 a_walked) → P12 x2 a_walked
def q_wp_X7_walk_9_0 (a_walked : Nat → Int32) (lf_huts : Int32) (la_minutes : Nat → Int32) (post : (Nat → Int32) → Prop) : Prop :=
  q_wp_J7_fill_53178_2_0 a_walked (1000 : Int32) (fun a_walked_1 => q_wp_X7_walk_9_12 a_walked_1 lf_huts la_minutes (0 : Int32) post)
set_option maxRecDepth 20000 in
theorem t_wp_X7_walk_9_61 {p : Program} {l : Launch} {e : Env} {s : State} {m : MethodId} {args : Array Value} {below : List Frame} {meth : Method} {c : Code} {E : zE} {qp ql qs : Nat} {a_heard : Nat → Int32} {a_walked : Nat → Int32} {a_total : Nat → Int32} {a_longest : Nat → Int32} {a_next : Nat → Int32} {a_cover : Nat → Int32} {a_now : Nat → Int32} {a_then : Nat → Int32} {lf_huts : Int32} {lf_singers : Int32} {lf_villages : Int32} {lf_dams : Int32} {lf_echoes : Int32} {lf_deep : Int32} {lf_slide : Int32} {la_heights : Nat → Int32} {la_ladders : Nat → Int32} {la_minutes : Nat → Int32} {la_echoFrom : Nat → Int32} {la_echoTo : Nat → Int32} {la_homes : Nat → Int32} {la_talls : Nat → Int32} {la_known : Nat → Int32} {sf_facts : Int32} {sa_heard : Nat → Int32} {sa_huts : Nat → Int32} {sa_minutes : Nat → Int32} {P12 : Int32 → (Nat → Int32) → Prop} {P22 : Int32 → (Nat → Int32) → Prop} {post : (Nat → Int32) → Prop} {x2 : Int32} {x3 : Int32} {ls : Array Slot} {H : Heap} {locs : List Loc}
    (zc : zC p s m args meth c cX7_walk 5 RX7 none)
    (hK : zK E s)
    (hM : wpW E qp ql qs a_heard a_walked a_total a_longest a_next a_cover a_now a_then lf_huts lf_singers lf_villages lf_dams lf_echoes lf_deep lf_slide la_heights la_ladders la_minutes la_echoFrom la_echoTo la_homes la_talls la_known sf_facts sa_heard sa_huts sa_minutes H)
    (hS : va_S (wpA qp ql qs) s.heap H locs)
    (hP12 : ∀ (x2 : Int32) (a_walked : Nat → Int32) (H : Heap) (locs : List Loc) (ls : Array Slot), P12 x2 a_walked → lv_has ls 5 [(0, .ref qp), (1, .ref ql), (2, .int x2)] → wpW E qp ql qs a_heard a_walked a_total a_longest a_next a_cover a_now a_then lf_huts lf_singers lf_villages lf_dams lf_echoes lf_deep lf_slide la_heights la_ladders la_minutes la_echoFrom la_echoTo la_homes la_talls la_known sf_facts sa_heard sa_huts sa_minutes H → va_S (wpA qp ql qs) s.heap H locs → W p l e rm_wp_X7_walk_9 s m args below meth c H locs 0 0 (MQ below (zQv (S := (Nat → Int32)) (fun u => post u) (fun u H => wpW E qp ql qs a_heard u a_total a_longest a_next a_cover a_now a_then lf_huts lf_singers lf_villages lf_dams lf_echoes lf_deep lf_slide la_heights la_ladders la_minutes la_echoFrom la_echoTo la_homes la_talls la_known sf_facts sa_heard sa_huts sa_minutes H) (wpA qp ql qs)) args s 0 0 (wpA qp ql qs)) (F0 m 12 ls []))
    (hP22 : ∀ (x3 : Int32) (a_walked : Nat → Int32) (H : Heap) (locs : List Loc) (ls : Array Slot), P22 x3 a_walked → lv_has ls 5 [(0, .ref qp), (1, .ref ql), (2, .int x2), (3, .int x3)] → wpW E qp ql qs a_heard a_walked a_total a_longest a_next a_cover a_now a_then lf_huts lf_singers lf_villages lf_dams lf_echoes lf_deep lf_slide la_heights la_ladders la_minutes la_echoFrom la_echoTo la_homes la_talls la_known sf_facts sa_heard sa_huts sa_minutes H → va_S (wpA qp ql qs) s.heap H locs → W p l e rm_wp_X7_walk_9 s m args below meth c H locs 0 0 (MQ below (zQv (S := (Nat → Int32)) (fun u => post u) (fun u H => wpW E qp ql qs a_heard u a_total a_longest a_next a_cover a_now a_then lf_huts lf_singers lf_villages lf_dams lf_echoes lf_deep lf_slide la_heights la_ladders la_minutes la_echoFrom la_echoTo la_homes la_talls la_known sf_facts sa_heard sa_huts sa_minutes H) (wpA qp ql qs)) args s 0 0 (wpA qp ql qs)) (F0 m 22 ls []))
    (hl : lv_has ls 5 [(0, .ref qp), (1, .ref ql), (2, .int x2), (3, .int x3)])
    (hw : q_wp_X7_walk_9_61 P12 P22 a_walked lf_huts la_minutes x2 x3 post) :
    W p l e rm_wp_X7_walk_9 s m args below meth c H locs 0 0 (MQ below (zQv (S := (Nat → Int32)) (fun u => post u) (fun u H => wpW E qp ql qs a_heard u a_total a_longest a_next a_cover a_now a_then lf_huts lf_singers lf_villages lf_dams lf_echoes lf_deep lf_slide la_heights la_ladders la_minutes la_echoFrom la_echoTo la_homes la_talls la_known sf_facts sa_heard sa_huts sa_minutes H) (wpA qp ql qs)) args s 0 0 (wpA qp ql qs)) (F0 m 61 ls []) := by
  have hx := zc.1
  have hb := zc.2.1
  obtain ⟨v_1, ev_1⟩ : ∃ y : Int32, y = x3 + (1 : Int32) := ⟨_, rfl⟩
  have hw := hw v_1 ev_1
  refine lv_iinc (v := v_1) (k := 3) (lv' := [(3, .int v_1), (0, .ref qp), (1, .ref ql), (2, .int x2)]) hx hb dX7_walk_61 hl rfl (by rw [ev_1]; rfl) (by decide) rfl (fun ls hl => ?_)
  refine lv_goto (tgt := 22) hx hb dX7_walk_64 (by decide) ?_
  exact hP22 _ _ _ _ _ hw (lv_sub hl [1, 2, 3, 0] rfl) hM hS
set_option maxRecDepth 20000 in
theorem t_wp_X7_walk_9_22 {p : Program} {l : Launch} {e : Env} {s : State} {m : MethodId} {args : Array Value} {below : List Frame} {meth : Method} {c : Code} {E : zE} {qp ql qs : Nat} {a_heard : Nat → Int32} {a_walked : Nat → Int32} {a_total : Nat → Int32} {a_longest : Nat → Int32} {a_next : Nat → Int32} {a_cover : Nat → Int32} {a_now : Nat → Int32} {a_then : Nat → Int32} {lf_huts : Int32} {lf_singers : Int32} {lf_villages : Int32} {lf_dams : Int32} {lf_echoes : Int32} {lf_deep : Int32} {lf_slide : Int32} {la_heights : Nat → Int32} {la_ladders : Nat → Int32} {la_minutes : Nat → Int32} {la_echoFrom : Nat → Int32} {la_echoTo : Nat → Int32} {la_homes : Nat → Int32} {la_talls : Nat → Int32} {la_known : Nat → Int32} {sf_facts : Int32} {sa_heard : Nat → Int32} {sa_huts : Nat → Int32} {sa_minutes : Nat → Int32} {P12 : Int32 → (Nat → Int32) → Prop} {post : (Nat → Int32) → Prop} {x2 : Int32} {x3 : Int32} {ls : Array Slot} {H : Heap} {locs : List Loc}
    (zc : zC p s m args meth c cX7_walk 5 RX7 none)
    (hK : zK E s)
    (hM : wpW E qp ql qs a_heard a_walked a_total a_longest a_next a_cover a_now a_then lf_huts lf_singers lf_villages lf_dams lf_echoes lf_deep lf_slide la_heights la_ladders la_minutes la_echoFrom la_echoTo la_homes la_talls la_known sf_facts sa_heard sa_huts sa_minutes H)
    (hS : va_S (wpA qp ql qs) s.heap H locs)
    (hP12 : ∀ (x2 : Int32) (a_walked : Nat → Int32) (H : Heap) (locs : List Loc) (ls : Array Slot), P12 x2 a_walked → lv_has ls 5 [(0, .ref qp), (1, .ref ql), (2, .int x2)] → wpW E qp ql qs a_heard a_walked a_total a_longest a_next a_cover a_now a_then lf_huts lf_singers lf_villages lf_dams lf_echoes lf_deep lf_slide la_heights la_ladders la_minutes la_echoFrom la_echoTo la_homes la_talls la_known sf_facts sa_heard sa_huts sa_minutes H → va_S (wpA qp ql qs) s.heap H locs → W p l e rm_wp_X7_walk_9 s m args below meth c H locs 0 0 (MQ below (zQv (S := (Nat → Int32)) (fun u => post u) (fun u H => wpW E qp ql qs a_heard u a_total a_longest a_next a_cover a_now a_then lf_huts lf_singers lf_villages lf_dams lf_echoes lf_deep lf_slide la_heights la_ladders la_minutes la_echoFrom la_echoTo la_homes la_talls la_known sf_facts sa_heard sa_huts sa_minutes H) (wpA qp ql qs)) args s 0 0 (wpA qp ql qs)) (F0 m 12 ls []))
    (hl : lv_has ls 5 [(0, .ref qp), (1, .ref ql), (2, .int x2), (3, .int x3)])
    (hw : q_wp_X7_walk_9_22 P12 a_walked lf_huts la_minutes x2 x3 post) :
    W p l e rm_wp_X7_walk_9 s m args below meth c H locs 0 0 (MQ below (zQv (S := (Nat → Int32)) (fun u => post u) (fun u H => wpW E qp ql qs a_heard u a_total a_longest a_next a_cover a_now a_then lf_huts lf_singers lf_villages lf_dams lf_echoes lf_deep lf_slide la_heights la_ladders la_minutes la_echoFrom la_echoTo la_homes la_talls la_known sf_facts sa_heard sa_huts sa_minutes H) (wpA qp ql qs)) args s 0 0 (wpA qp ql qs)) (F0 m 22 ls []) := by
  have hx := zc.1
  have hb := zc.2.1
  refine hw (fun x3 a_walked => ∀ (H : Heap) (locs : List Loc) (ls : Array Slot), lv_has ls 5 [(0, .ref qp), (1, .ref ql), (2, .int x2), (3, .int x3)] → wpW E qp ql qs a_heard a_walked a_total a_longest a_next a_cover a_now a_then lf_huts lf_singers lf_villages lf_dams lf_echoes lf_deep lf_slide la_heights la_ladders la_minutes la_echoFrom la_echoTo la_homes la_talls la_known sf_facts sa_heard sa_huts sa_minutes H → va_S (wpA qp ql qs) s.heap H locs → W p l e rm_wp_X7_walk_9 s m args below meth c H locs 0 0 (MQ below (zQv (S := (Nat → Int32)) (fun u => post u) (fun u H => wpW E qp ql qs a_heard u a_total a_longest a_next a_cover a_now a_then lf_huts lf_singers lf_villages lf_dams lf_echoes lf_deep lf_slide la_heights la_ladders la_minutes la_echoFrom la_echoTo la_homes la_talls la_known sf_facts sa_heard sa_huts sa_minutes H) (wpA qp ql qs)) args s 0 0 (wpA qp ql qs)) (F0 m 22 ls [])) ?_ _ _ _ hl hM hS
  intro x3 a_walked hw H locs ls hl hM hS
  refine lv_iload_n hx hb dX7_walk_22 rfl (lv_at hl 3 rfl) ?_
  refine lv_aload_n hx hb dX7_walk_23 rfl (lv_at hl 1 rfl) ?_
  refine wpg_7_42_9 zc hK hM dX7_walk_24 ?_
  refine lv_icmp_ge (tgt := 67) hx hb dX7_walk_27 (by decide) (fun hc => ?_) (fun hc => ?_)
  · have hw := hw.1 hc
    refine lv_aload_n hx hb dX7_walk_67 rfl (lv_at hl 0 rfl) ?_
    refine wpg_7_15_0 zc hK hM dX7_walk_68 ?_
    refine lv_iload_n hx hb dX7_walk_71 rfl (lv_at hl 2 rfl) ?_
    refine lv_bipush (v := (9 : Int32)) hx hb dX7_walk_72 (by decide) ?_
    refine lv_imul hx hb dX7_walk_74 ?_
    refine lv_iload_n hx hb dX7_walk_75 rfl (lv_at hl 2 rfl) ?_
    refine lv_iadd hx hb dX7_walk_76 ?_
    refine lv_iconst (v := (0 : Int32)) hx hb dX7_walk_77 (by decide) ?_
    refine wpst_2 zc hK hM hS hw.1 dX7_walk_78 (fun a_walked_1 H locs ea_walked_1 hM hS => ?_)
    have hw := hw.2 a_walked_1 ea_walked_1
    obtain ⟨v_1, ev_1⟩ : ∃ y : Int32, y = x2 + (1 : Int32) := ⟨_, rfl⟩
    have hw := hw v_1 ev_1
    refine lv_iinc (v := v_1) (k := 2) (lv' := [(2, .int v_1), (0, .ref qp), (1, .ref ql), (3, .int x3)]) hx hb dX7_walk_79 hl rfl (by rw [ev_1]; rfl) (by decide) rfl (fun ls hl => ?_)
    refine lv_goto (tgt := 12) hx hb dX7_walk_82 (by decide) ?_
    exact hP12 _ _ _ _ _ hw (lv_sub hl [1, 2, 0] rfl) hM hS
  · have hw := hw.2 hc
    refine lv_aload_n hx hb dX7_walk_30 rfl (lv_at hl 1 rfl) ?_
    refine wpg_7_52_9 zc hK hM dX7_walk_31 ?_
    refine lv_iload_n hx hb dX7_walk_34 rfl (lv_at hl 2 rfl) ?_
    refine lv_bipush (v := (9 : Int32)) hx hb dX7_walk_35 (by decide) ?_
    refine lv_imul hx hb dX7_walk_37 ?_
    refine lv_iload_n hx hb dX7_walk_38 rfl (lv_at hl 3 rfl) ?_
    refine lv_iadd hx hb dX7_walk_39 ?_
    refine wpld_12 zc hK hM hw.1 dX7_walk_40 ?_
    have hw := hw.2
    refine lv_topi (fun v_2 ev_2 => ?_)
    have hw := hw v_2 ev_2
    refine lv_istore (lv' := [(4, .int v_2), (0, .ref qp), (1, .ref ql), (2, .int x2), (3, .int x3)]) hx hb dX7_walk_41 hl (by decide) rfl (fun ls hl => ?_)
    refine lv_iload hx hb dX7_walk_43 (lv_at hl 0 rfl) ?_
    refine lv_if_le (tgt := 61) hx hb dX7_walk_45 (by decide) (fun hc => ?_) (fun hc => ?_)
    · have hw := hw.1 hc
      exact t_wp_X7_walk_9_61 zc hK hM hS hP12 (fun _ _ H locs ls h hl hM hS => h H locs ls hl hM hS) (lv_sub hl [1, 2, 3, 4] rfl) hw
    · have hw := hw.2 hc
      refine lv_aload_n hx hb dX7_walk_48 rfl (lv_at hl 1 rfl) ?_
      refine wpg_7_15_0 zc hK hM dX7_walk_49 ?_
      refine lv_iload_n hx hb dX7_walk_52 rfl (lv_at hl 3 rfl) ?_
      refine lv_bipush (v := (9 : Int32)) hx hb dX7_walk_53 (by decide) ?_
      refine lv_imul hx hb dX7_walk_55 ?_
      refine lv_iload_n hx hb dX7_walk_56 rfl (lv_at hl 4 rfl) ?_
      refine lv_iadd hx hb dX7_walk_57 ?_
      refine lv_iload hx hb dX7_walk_58 (lv_at hl 0 rfl) ?_
      refine wpst_2 zc hK hM hS hw.1 dX7_walk_60 (fun a_walked_2 H locs ea_walked_2 hM hS => ?_)
      have hw := hw.2 a_walked_2 ea_walked_2
      exact t_wp_X7_walk_9_61 zc hK hM hS hP12 (fun _ _ H locs ls h hl hM hS => h H locs ls hl hM hS) (lv_sub hl [1, 2, 3, 4] rfl) hw
set_option maxRecDepth 20000 in
theorem t_wp_X7_walk_9_12 {p : Program} {l : Launch} {e : Env} {s : State} {m : MethodId} {args : Array Value} {below : List Frame} {meth : Method} {c : Code} {E : zE} {qp ql qs : Nat} {a_heard : Nat → Int32} {a_walked : Nat → Int32} {a_total : Nat → Int32} {a_longest : Nat → Int32} {a_next : Nat → Int32} {a_cover : Nat → Int32} {a_now : Nat → Int32} {a_then : Nat → Int32} {lf_huts : Int32} {lf_singers : Int32} {lf_villages : Int32} {lf_dams : Int32} {lf_echoes : Int32} {lf_deep : Int32} {lf_slide : Int32} {la_heights : Nat → Int32} {la_ladders : Nat → Int32} {la_minutes : Nat → Int32} {la_echoFrom : Nat → Int32} {la_echoTo : Nat → Int32} {la_homes : Nat → Int32} {la_talls : Nat → Int32} {la_known : Nat → Int32} {sf_facts : Int32} {sa_heard : Nat → Int32} {sa_huts : Nat → Int32} {sa_minutes : Nat → Int32} {post : (Nat → Int32) → Prop} {x2 : Int32} {ls : Array Slot} {H : Heap} {locs : List Loc}
    (zc : zC p s m args meth c cX7_walk 5 RX7 none)
    (hK : zK E s)
    (hM : wpW E qp ql qs a_heard a_walked a_total a_longest a_next a_cover a_now a_then lf_huts lf_singers lf_villages lf_dams lf_echoes lf_deep lf_slide la_heights la_ladders la_minutes la_echoFrom la_echoTo la_homes la_talls la_known sf_facts sa_heard sa_huts sa_minutes H)
    (hS : va_S (wpA qp ql qs) s.heap H locs)
    (hl : lv_has ls 5 [(0, .ref qp), (1, .ref ql), (2, .int x2)])
    (hw : q_wp_X7_walk_9_12 a_walked lf_huts la_minutes x2 post) :
    W p l e rm_wp_X7_walk_9 s m args below meth c H locs 0 0 (MQ below (zQv (S := (Nat → Int32)) (fun u => post u) (fun u H => wpW E qp ql qs a_heard u a_total a_longest a_next a_cover a_now a_then lf_huts lf_singers lf_villages lf_dams lf_echoes lf_deep lf_slide la_heights la_ladders la_minutes la_echoFrom la_echoTo la_homes la_talls la_known sf_facts sa_heard sa_huts sa_minutes H) (wpA qp ql qs)) args s 0 0 (wpA qp ql qs)) (F0 m 12 ls []) := by
  have hx := zc.1
  have hb := zc.2.1
  refine hw (fun x2 a_walked => ∀ (H : Heap) (locs : List Loc) (ls : Array Slot), lv_has ls 5 [(0, .ref qp), (1, .ref ql), (2, .int x2)] → wpW E qp ql qs a_heard a_walked a_total a_longest a_next a_cover a_now a_then lf_huts lf_singers lf_villages lf_dams lf_echoes lf_deep lf_slide la_heights la_ladders la_minutes la_echoFrom la_echoTo la_homes la_talls la_known sf_facts sa_heard sa_huts sa_minutes H → va_S (wpA qp ql qs) s.heap H locs → W p l e rm_wp_X7_walk_9 s m args below meth c H locs 0 0 (MQ below (zQv (S := (Nat → Int32)) (fun u => post u) (fun u H => wpW E qp ql qs a_heard u a_total a_longest a_next a_cover a_now a_then lf_huts lf_singers lf_villages lf_dams lf_echoes lf_deep lf_slide la_heights la_ladders la_minutes la_echoFrom la_echoTo la_homes la_talls la_known sf_facts sa_heard sa_huts sa_minutes H) (wpA qp ql qs)) args s 0 0 (wpA qp ql qs)) (F0 m 12 ls [])) ?_ _ _ _ hl hM hS
  intro x2 a_walked hw H locs ls hl hM hS
  refine lv_iload_n hx hb dX7_walk_12 rfl (lv_at hl 2 rfl) ?_
  refine lv_aload_n hx hb dX7_walk_13 rfl (lv_at hl 1 rfl) ?_
  refine wpg_7_42_9 zc hK hM dX7_walk_14 ?_
  refine lv_icmp_ge (tgt := 85) hx hb dX7_walk_17 (by decide) (fun hc => ?_) (fun hc => ?_)
  · have hw := hw.1 hc
    refine lv_aload_n hx hb dX7_walk_85 rfl (lv_at hl 0 rfl) ?_
    refine wpg_7_15_0 zc hK hM dX7_walk_86 ?_
    refine lv_aload_n hx hb dX7_walk_89 rfl (lv_at hl 1 rfl) ?_
    refine wpg_7_42_9 zc hK hM dX7_walk_90 ?_
    refine zSw_v [.ref (qp + 2), .int lf_huts] [] zc ky_X7_shorten kz_X7_shorten km_7_67 (c_wp_X7_shorten_2 l hw) (wpPreS hK hM) hS rfl rfl hl.1 (Nat.le_of_ble_eq_true rfl) ⟨rfl, rfl⟩ ⟨Nat.le_of_ble_eq_true rfl, Nat.le_of_ble_eq_true rfl⟩ ⟨(Nat.zero_le _), (Nat.zero_le _)⟩ dX7_walk_93 (fun a_walked_1 H locs hw hM hS => ?_)
    exact zret_vw a_walked_1 zc hS hw hM dX7_walk_96
  · have hw := hw.2 hc
    refine lv_iconst (v := (0 : Int32)) hx hb dX7_walk_20 (by decide) ?_
    refine lv_istore_n (lv' := [(3, .int (0 : Int32)), (0, .ref qp), (1, .ref ql), (2, .int x2)]) hx hb dX7_walk_21 rfl hl (by decide) rfl (fun ls hl => ?_)
    exact t_wp_X7_walk_9_22 zc hK hM hS (fun _ _ H locs ls h hl hM hS => h H locs ls hl hM hS) (lv_sub hl [1, 2, 3, 0] rfl) hw
set_option maxRecDepth 20000 in
theorem t_wp_X7_walk_9_0 {p : Program} {l : Launch} {e : Env} {s : State} {m : MethodId} {args : Array Value} {below : List Frame} {meth : Method} {c : Code} {E : zE} {qp ql qs : Nat} {a_heard : Nat → Int32} {a_walked : Nat → Int32} {a_total : Nat → Int32} {a_longest : Nat → Int32} {a_next : Nat → Int32} {a_cover : Nat → Int32} {a_now : Nat → Int32} {a_then : Nat → Int32} {lf_huts : Int32} {lf_singers : Int32} {lf_villages : Int32} {lf_dams : Int32} {lf_echoes : Int32} {lf_deep : Int32} {lf_slide : Int32} {la_heights : Nat → Int32} {la_ladders : Nat → Int32} {la_minutes : Nat → Int32} {la_echoFrom : Nat → Int32} {la_echoTo : Nat → Int32} {la_homes : Nat → Int32} {la_talls : Nat → Int32} {la_known : Nat → Int32} {sf_facts : Int32} {sa_heard : Nat → Int32} {sa_huts : Nat → Int32} {sa_minutes : Nat → Int32} {post : (Nat → Int32) → Prop} {ls : Array Slot} {H : Heap} {locs : List Loc}
    (zc : zC p s m args meth c cX7_walk 5 RX7 none)
    (hK : zK E s)
    (hM : wpW E qp ql qs a_heard a_walked a_total a_longest a_next a_cover a_now a_then lf_huts lf_singers lf_villages lf_dams lf_echoes lf_deep lf_slide la_heights la_ladders la_minutes la_echoFrom la_echoTo la_homes la_talls la_known sf_facts sa_heard sa_huts sa_minutes H)
    (hS : va_S (wpA qp ql qs) s.heap H locs)
    (hl : lv_has ls 5 [(0, .ref qp), (1, .ref ql)])
    (hw : q_wp_X7_walk_9_0 a_walked lf_huts la_minutes post) :
    W p l e rm_wp_X7_walk_9 s m args below meth c H locs 0 0 (MQ below (zQv (S := (Nat → Int32)) (fun u => post u) (fun u H => wpW E qp ql qs a_heard u a_total a_longest a_next a_cover a_now a_then lf_huts lf_singers lf_villages lf_dams lf_echoes lf_deep lf_slide la_heights la_ladders la_minutes la_echoFrom la_echoTo la_homes la_talls la_known sf_facts sa_heard sa_huts sa_minutes H) (wpA qp ql qs)) args s 0 0 (wpA qp ql qs)) (F0 m 0 ls []) := by
  have hx := zc.1
  have hb := zc.2.1
  refine lv_aload_n hx hb dX7_walk_0 rfl (lv_at hl 0 rfl) ?_
  refine wpg_7_15_0 zc hK hM dX7_walk_1 ?_
  refine lv_sipush (v := (1000 : Int32)) hx hb dX7_walk_4 (by decide) ?_
  refine zSw_v [.ref (qp + 2), .int (1000 : Int32)] [] zc ky_J7_fill_53178 kz_J7_fill_53178 km_7_36 (c_wp_J7_fill_53178_2 l hw) (wpPreS hK hM) hS rfl rfl hl.1 (Nat.le_of_ble_eq_true rfl) ⟨rfl, rfl⟩ ⟨Nat.le_of_ble_eq_true rfl, Nat.le_of_ble_eq_true rfl⟩ ⟨(Nat.zero_le _), (Nat.zero_le _)⟩ dX7_walk_7 (fun a_walked_1 H locs hw hM hS => ?_)
  refine lv_iconst (v := (0 : Int32)) hx hb dX7_walk_10 (by decide) ?_
  refine lv_istore_n (lv' := [(2, .int (0 : Int32)), (0, .ref qp), (1, .ref ql)]) hx hb dX7_walk_11 rfl hl (by decide) rfl (fun ls hl => ?_)
  exact t_wp_X7_walk_9_12 zc hK hM hS  (lv_sub hl [1, 2, 0] rfl) hw
set_option maxRecDepth 20000 in
theorem c_wp_X7_walk_9 (l : Launch) {E : zE} {qp ql qs : Nat} {a_heard : Nat → Int32} {a_walked : Nat → Int32} {a_total : Nat → Int32} {a_longest : Nat → Int32} {a_next : Nat → Int32} {a_cover : Nat → Int32} {a_now : Nat → Int32} {a_then : Nat → Int32} {lf_huts : Int32} {lf_singers : Int32} {lf_villages : Int32} {lf_dams : Int32} {lf_echoes : Int32} {lf_deep : Int32} {lf_slide : Int32} {la_heights : Nat → Int32} {la_ladders : Nat → Int32} {la_minutes : Nat → Int32} {la_echoFrom : Nat → Int32} {la_echoTo : Nat → Int32} {la_homes : Nat → Int32} {la_talls : Nat → Int32} {la_known : Nat → Int32} {sf_facts : Int32} {sa_heard : Nat → Int32} {sa_huts : Nat → Int32} {sa_minutes : Nat → Int32} {post : (Nat → Int32) → Prop} (hw : q_wp_X7_walk_9_0 a_walked lf_huts la_minutes post) : Met l yX7_walk (Cond.code yX7_walk cX7_walk 5 none :: zb) rm_wp_X7_walk_9 (va_Pc [.ref qp, .ref ql] (fun U => wpW E qp ql qs a_heard a_walked a_total a_longest a_next a_cover a_now a_then lf_huts lf_singers lf_villages lf_dams lf_echoes lf_deep lf_slide la_heights la_ladders la_minutes la_echoFrom la_echoTo la_homes la_talls la_known sf_facts sa_heard sa_huts sa_minutes U.heap ∧ zK E U)) (zQv (S := (Nat → Int32)) (fun u => post u) (fun u H => wpW E qp ql qs a_heard u a_total a_longest a_next a_cover a_now a_then lf_huts lf_singers lf_villages lf_dams lf_echoes lf_deep lf_slide la_heights la_ladders la_minutes la_echoFrom la_echoTo la_homes la_talls la_known sf_facts sa_heard sa_huts sa_minutes H) (wpA qp ql qs)) 0 0 (wpA qp ql qs) := by
  refine Met.ofW (cc := cX7_walk) (maxL := 5) (ret := none) (by decide) rfl ?_
  intro p e s m args below meth c s₁ B hml hv
  obtain ⟨rfl, hM, hK⟩ := hv
  have zc := zc_of B hml
  have hl := lv_entry ([.ref qp, .ref ql]) (n := 5) (Nat.le_of_ble_eq_true rfl)
  rw [lg_entry_eq]
  generalize (lg_sl ([.ref qp, .ref ql]) ++ List.replicate (5 - (lg_sl ([.ref qp, .ref ql])).length) Slot.unset).toArray = ls at hl ⊢
  have hl : lv_has ls 5 [(0, .ref qp), (1, .ref ql)] := hl
  exact t_wp_X7_walk_9_0 zc hK hM va_S.rf (lv_sub hl [0, 1] rfl) hw
-- wp_X7_link_9
abbrev rm_wp_X7_link_9 : Room := { frames := 2, cells := 0, slots := 0, locals := 44 }
def q_wp_X7_link_9_64 (P2 : Int32 → (Nat → Int32) → Prop) (P35 : Int32 → (Nat → Int32) → Prop) (a_next : Nat → Int32) (lf_huts : Int32) (lf_dams : Int32) (lf_echoes : Int32) (la_heights : Nat → Int32) (la_minutes : Nat → Int32) (la_echoFrom : Nat → Int32) (la_echoTo : Nat → Int32) (x2 : Int32) (x3 : Int32) (post : (Nat → Int32) → Prop) : Prop :=
  ∀ v_1 : Int32, v_1 = x3 + (1 : Int32) → (P35 v_1 a_next)
def q_wp_X7_link_9_35 (P2 : Int32 → (Nat → Int32) → Prop) (a_next : Nat → Int32) (lf_huts : Int32) (lf_dams : Int32) (lf_echoes : Int32) (la_heights : Nat → Int32) (la_minutes : Nat → Int32) (la_echoFrom : Nat → Int32) (la_echoTo : Nat → Int32) (x2 : Int32) (x3 : Int32) (post : (Nat → Int32) → Prop) : Prop :=
  ∀ P35 : Int32 → (Nat → Int32) → Prop, (∀ (x3 : Int32) (a_next : Nat → Int32), ((lf_huts ≤ x3 → (∀ v_1 : Int32, v_1 = x2 + (1 : Int32) → (P2 v_1 a_next))) ∧ (¬ lf_huts ≤ x3 → (q_wl_X2_leads_0 lf_dams la_heights la_minutes x2 x3 (fun r_1 => (r_1 = 0 → (q_wp_X7_link_9_64 P2 P35 a_next lf_huts lf_dams lf_echoes la_heights la_minutes la_echoFrom la_echoTo x2 x3 post)) ∧ (¬ r_1 = 0 → (vp_in x2 9 ∧ (∀ v_2 : Int32, v_2 = ((a_next (Int32.toNatClampNeg x2)) ||| ((1 : Int32) <<< (x3 &&& 31))) → (vp_in x2 9 ∧ (∀ a_next_1 : Nat → Int32, a_next_1 = upd a_next (Int32.toNatClampNeg x2) v_2 → (q_wp_X7_link_9_64 P2 P35 a_next_1 lf_huts lf_dams lf_echoes la_heights la_minutes la_echoFrom la_echoTo x2 x3 post)))))))))) → P35 x3 a_next) → P35 x3 a_next
def q_wp_X7_link_9_32 (P2 : Int32 → (Nat → Int32) → Prop) (a_next : Nat → Int32) (lf_huts : Int32) (lf_dams : Int32) (lf_echoes : Int32) (la_heights : Nat → Int32) (la_minutes : Nat → Int32) (la_echoFrom : Nat → Int32) (la_echoTo : Nat → Int32) (x2 : Int32) (y0 : Int32) (y1 : Int32) (post : (Nat → Int32) → Prop) : Prop :=
  vp_in y0 9 ∧ (∀ a_next_1 : Nat → Int32, a_next_1 = upd a_next (Int32.toNatClampNeg y0) y1 → (q_wp_X7_link_9_35 P2 a_next_1 lf_huts lf_dams lf_echoes la_heights la_minutes la_echoFrom la_echoTo x2 (0 : Int32) post))
def q_wp_X7_link_9_2 (a_next : Nat → Int32) (lf_huts : Int32) (lf_dams : Int32) (lf_echoes : Int32) (la_heights : Nat → Int32) (la_minutes : Nat → Int32) (la_echoFrom : Nat → Int32) (la_echoTo : Nat → Int32) (x2 : Int32) (post : (Nat → Int32) → Prop) : Prop :=
  ∀ P2 : Int32 → (Nat → Int32) → Prop, (∀ (x2 : Int32) (a_next : Nat → Int32), ((lf_huts ≤ x2 → (post a_next)) ∧ (¬ lf_huts ≤ x2 → (q_wl_X2_isDam_0 lf_dams x2 (fun r_1 => (r_1 = 0 → (q_wl_X2_earshot_0 lf_dams lf_echoes la_echoFrom la_echoTo x2 (fun r_2 => q_wp_X7_link_9_32 P2 a_next lf_huts lf_dams lf_echoes la_heights la_minutes la_echoFrom la_echoTo x2 x2 r_2 post))) ∧ (¬ r_1 = 0 → (q_wp_X7_link_9_32 P2 a_next lf_huts lf_dams lf_echoes la_heights la_minutes la_echoFrom la_echoTo x2 x2 (0 : Int32) post)))))) → P2 x2 a_next) → P2 x2 a_next
def q_wp_X7_link_9_0 (a_next : Nat → Int32) (lf_huts : Int32) (lf_dams : Int32) (lf_echoes : Int32) (la_heights : Nat → Int32) (la_minutes : Nat → Int32) (la_echoFrom : Nat → Int32) (la_echoTo : Nat → Int32) (post : (Nat → Int32) → Prop) : Prop :=
  q_wp_X7_link_9_2 a_next lf_huts lf_dams lf_echoes la_heights la_minutes la_echoFrom la_echoTo (0 : Int32) post
set_option maxRecDepth 20000 in
theorem t_wp_X7_link_9_64 {p : Program} {l : Launch} {e : Env} {s : State} {m : MethodId} {args : Array Value} {below : List Frame} {meth : Method} {c : Code} {E : zE} {qp ql qs : Nat} {a_heard : Nat → Int32} {a_walked : Nat → Int32} {a_total : Nat → Int32} {a_longest : Nat → Int32} {a_next : Nat → Int32} {a_cover : Nat → Int32} {a_now : Nat → Int32} {a_then : Nat → Int32} {lf_huts : Int32} {lf_singers : Int32} {lf_villages : Int32} {lf_dams : Int32} {lf_echoes : Int32} {lf_deep : Int32} {lf_slide : Int32} {la_heights : Nat → Int32} {la_ladders : Nat → Int32} {la_minutes : Nat → Int32} {la_echoFrom : Nat → Int32} {la_echoTo : Nat → Int32} {la_homes : Nat → Int32} {la_talls : Nat → Int32} {la_known : Nat → Int32} {sf_facts : Int32} {sa_heard : Nat → Int32} {sa_huts : Nat → Int32} {sa_minutes : Nat → Int32} {P2 : Int32 → (Nat → Int32) → Prop} {P35 : Int32 → (Nat → Int32) → Prop} {post : (Nat → Int32) → Prop} {x2 : Int32} {x3 : Int32} {ls : Array Slot} {H : Heap} {locs : List Loc}
    (zc : zC p s m args meth c cX7_link 4 RX7 none)
    (hK : zK E s)
    (hM : wpW E qp ql qs a_heard a_walked a_total a_longest a_next a_cover a_now a_then lf_huts lf_singers lf_villages lf_dams lf_echoes lf_deep lf_slide la_heights la_ladders la_minutes la_echoFrom la_echoTo la_homes la_talls la_known sf_facts sa_heard sa_huts sa_minutes H)
    (hS : va_S (wpA qp ql qs) s.heap H locs)
    (hP2 : ∀ (x2 : Int32) (a_next : Nat → Int32) (H : Heap) (locs : List Loc) (ls : Array Slot), P2 x2 a_next → lv_has ls 4 [(0, .ref qp), (1, .ref ql), (2, .int x2)] → wpW E qp ql qs a_heard a_walked a_total a_longest a_next a_cover a_now a_then lf_huts lf_singers lf_villages lf_dams lf_echoes lf_deep lf_slide la_heights la_ladders la_minutes la_echoFrom la_echoTo la_homes la_talls la_known sf_facts sa_heard sa_huts sa_minutes H → va_S (wpA qp ql qs) s.heap H locs → W p l e rm_wp_X7_link_9 s m args below meth c H locs 0 0 (MQ below (zQv (S := (Nat → Int32)) (fun u => post u) (fun u H => wpW E qp ql qs a_heard a_walked a_total a_longest u a_cover a_now a_then lf_huts lf_singers lf_villages lf_dams lf_echoes lf_deep lf_slide la_heights la_ladders la_minutes la_echoFrom la_echoTo la_homes la_talls la_known sf_facts sa_heard sa_huts sa_minutes H) (wpA qp ql qs)) args s 0 0 (wpA qp ql qs)) (F0 m 2 ls []))
    (hP35 : ∀ (x3 : Int32) (a_next : Nat → Int32) (H : Heap) (locs : List Loc) (ls : Array Slot), P35 x3 a_next → lv_has ls 4 [(0, .ref qp), (1, .ref ql), (2, .int x2), (3, .int x3)] → wpW E qp ql qs a_heard a_walked a_total a_longest a_next a_cover a_now a_then lf_huts lf_singers lf_villages lf_dams lf_echoes lf_deep lf_slide la_heights la_ladders la_minutes la_echoFrom la_echoTo la_homes la_talls la_known sf_facts sa_heard sa_huts sa_minutes H → va_S (wpA qp ql qs) s.heap H locs → W p l e rm_wp_X7_link_9 s m args below meth c H locs 0 0 (MQ below (zQv (S := (Nat → Int32)) (fun u => post u) (fun u H => wpW E qp ql qs a_heard a_walked a_total a_longest u a_cover a_now a_then lf_huts lf_singers lf_villages lf_dams lf_echoes lf_deep lf_slide la_heights la_ladders la_minutes la_echoFrom la_echoTo la_homes la_talls la_known sf_facts sa_heard sa_huts sa_minutes H) (wpA qp ql qs)) args s 0 0 (wpA qp ql qs)) (F0 m 35 ls []))
    (hl : lv_has ls 4 [(0, .ref qp), (1, .ref ql), (2, .int x2), (3, .int x3)])
    (hw : q_wp_X7_link_9_64 P2 P35 a_next lf_huts lf_dams lf_echoes la_heights la_minutes la_echoFrom la_echoTo x2 x3 post) :
    W p l e rm_wp_X7_link_9 s m args below meth c H locs 0 0 (MQ below (zQv (S := (Nat → Int32)) (fun u => post u) (fun u H => wpW E qp ql qs a_heard a_walked a_total a_longest u a_cover a_now a_then lf_huts lf_singers lf_villages lf_dams lf_echoes lf_deep lf_slide la_heights la_ladders la_minutes la_echoFrom la_echoTo la_homes la_talls la_known sf_facts sa_heard sa_huts sa_minutes H) (wpA qp ql qs)) args s 0 0 (wpA qp ql qs)) (F0 m 64 ls []) := by
  have hx := zc.1
  have hb := zc.2.1
  obtain ⟨v_1, ev_1⟩ : ∃ y : Int32, y = x3 + (1 : Int32) := ⟨_, rfl⟩
  have hw := hw v_1 ev_1
  refine lv_iinc (v := v_1) (k := 3) (lv' := [(3, .int v_1), (0, .ref qp), (1, .ref ql), (2, .int x2)]) hx hb dX7_link_64 hl rfl (by rw [ev_1]; rfl) (by decide) rfl (fun ls hl => ?_)
  refine lv_goto (tgt := 35) hx hb dX7_link_67 (by decide) ?_
  exact hP35 _ _ _ _ _ hw (lv_sub hl [1, 2, 3, 0] rfl) hM hS
set_option maxRecDepth 20000 in
theorem t_wp_X7_link_9_35 {p : Program} {l : Launch} {e : Env} {s : State} {m : MethodId} {args : Array Value} {below : List Frame} {meth : Method} {c : Code} {E : zE} {qp ql qs : Nat} {a_heard : Nat → Int32} {a_walked : Nat → Int32} {a_total : Nat → Int32} {a_longest : Nat → Int32} {a_next : Nat → Int32} {a_cover : Nat → Int32} {a_now : Nat → Int32} {a_then : Nat → Int32} {lf_huts : Int32} {lf_singers : Int32} {lf_villages : Int32} {lf_dams : Int32} {lf_echoes : Int32} {lf_deep : Int32} {lf_slide : Int32} {la_heights : Nat → Int32} {la_ladders : Nat → Int32} {la_minutes : Nat → Int32} {la_echoFrom : Nat → Int32} {la_echoTo : Nat → Int32} {la_homes : Nat → Int32} {la_talls : Nat → Int32} {la_known : Nat → Int32} {sf_facts : Int32} {sa_heard : Nat → Int32} {sa_huts : Nat → Int32} {sa_minutes : Nat → Int32} {P2 : Int32 → (Nat → Int32) → Prop} {post : (Nat → Int32) → Prop} {x2 : Int32} {x3 : Int32} {ls : Array Slot} {H : Heap} {locs : List Loc}
    (zc : zC p s m args meth c cX7_link 4 RX7 none)
    (hK : zK E s)
    (hM : wpW E qp ql qs a_heard a_walked a_total a_longest a_next a_cover a_now a_then lf_huts lf_singers lf_villages lf_dams lf_echoes lf_deep lf_slide la_heights la_ladders la_minutes la_echoFrom la_echoTo la_homes la_talls la_known sf_facts sa_heard sa_huts sa_minutes H)
    (hS : va_S (wpA qp ql qs) s.heap H locs)
    (hP2 : ∀ (x2 : Int32) (a_next : Nat → Int32) (H : Heap) (locs : List Loc) (ls : Array Slot), P2 x2 a_next → lv_has ls 4 [(0, .ref qp), (1, .ref ql), (2, .int x2)] → wpW E qp ql qs a_heard a_walked a_total a_longest a_next a_cover a_now a_then lf_huts lf_singers lf_villages lf_dams lf_echoes lf_deep lf_slide la_heights la_ladders la_minutes la_echoFrom la_echoTo la_homes la_talls la_known sf_facts sa_heard sa_huts sa_minutes H → va_S (wpA qp ql qs) s.heap H locs → W p l e rm_wp_X7_link_9 s m args below meth c H locs 0 0 (MQ below (zQv (S := (Nat → Int32)) (fun u => post u) (fun u H => wpW E qp ql qs a_heard a_walked a_total a_longest u a_cover a_now a_then lf_huts lf_singers lf_villages lf_dams lf_echoes lf_deep lf_slide la_heights la_ladders la_minutes la_echoFrom la_echoTo la_homes la_talls la_known sf_facts sa_heard sa_huts sa_minutes H) (wpA qp ql qs)) args s 0 0 (wpA qp ql qs)) (F0 m 2 ls []))
    (hl : lv_has ls 4 [(0, .ref qp), (1, .ref ql), (2, .int x2), (3, .int x3)])
    (hw : q_wp_X7_link_9_35 P2 a_next lf_huts lf_dams lf_echoes la_heights la_minutes la_echoFrom la_echoTo x2 x3 post) :
    W p l e rm_wp_X7_link_9 s m args below meth c H locs 0 0 (MQ below (zQv (S := (Nat → Int32)) (fun u => post u) (fun u H => wpW E qp ql qs a_heard a_walked a_total a_longest u a_cover a_now a_then lf_huts lf_singers lf_villages lf_dams lf_echoes lf_deep lf_slide la_heights la_ladders la_minutes la_echoFrom la_echoTo la_homes la_talls la_known sf_facts sa_heard sa_huts sa_minutes H) (wpA qp ql qs)) args s 0 0 (wpA qp ql qs)) (F0 m 35 ls []) := by
  have hx := zc.1
  have hb := zc.2.1
  refine hw (fun x3 a_next => ∀ (H : Heap) (locs : List Loc) (ls : Array Slot), lv_has ls 4 [(0, .ref qp), (1, .ref ql), (2, .int x2), (3, .int x3)] → wpW E qp ql qs a_heard a_walked a_total a_longest a_next a_cover a_now a_then lf_huts lf_singers lf_villages lf_dams lf_echoes lf_deep lf_slide la_heights la_ladders la_minutes la_echoFrom la_echoTo la_homes la_talls la_known sf_facts sa_heard sa_huts sa_minutes H → va_S (wpA qp ql qs) s.heap H locs → W p l e rm_wp_X7_link_9 s m args below meth c H locs 0 0 (MQ below (zQv (S := (Nat → Int32)) (fun u => post u) (fun u H => wpW E qp ql qs a_heard a_walked a_total a_longest u a_cover a_now a_then lf_huts lf_singers lf_villages lf_dams lf_echoes lf_deep lf_slide la_heights la_ladders la_minutes la_echoFrom la_echoTo la_homes la_talls la_known sf_facts sa_heard sa_huts sa_minutes H) (wpA qp ql qs)) args s 0 0 (wpA qp ql qs)) (F0 m 35 ls [])) ?_ _ _ _ hl hM hS
  intro x3 a_next hw H locs ls hl hM hS
  refine lv_iload_n hx hb dX7_link_35 rfl (lv_at hl 3 rfl) ?_
  refine lv_aload_n hx hb dX7_link_36 rfl (lv_at hl 1 rfl) ?_
  refine wpg_7_42_9 zc hK hM dX7_link_37 ?_
  refine lv_icmp_ge (tgt := 70) hx hb dX7_link_40 (by decide) (fun hc => ?_) (fun hc => ?_)
  · have hw := hw.1 hc
    obtain ⟨v_1, ev_1⟩ : ∃ y : Int32, y = x2 + (1 : Int32) := ⟨_, rfl⟩
    have hw := hw v_1 ev_1
    refine lv_iinc (v := v_1) (k := 2) (lv' := [(2, .int v_1), (0, .ref qp), (1, .ref ql), (3, .int x3)]) hx hb dX7_link_70 hl rfl (by rw [ev_1]; rfl) (by decide) rfl (fun ls hl => ?_)
    refine lv_goto (tgt := 2) hx hb dX7_link_73 (by decide) ?_
    exact hP2 _ _ _ _ _ hw (lv_sub hl [1, 2, 0] rfl) hM hS
  · have hw := hw.2 hc
    refine lv_aload_n hx hb dX7_link_43 rfl (lv_at hl 1 rfl) ?_
    refine lv_iload_n hx hb dX7_link_44 rfl (lv_at hl 2 rfl) ?_
    refine lv_iload_n hx hb dX7_link_45 rfl (lv_at hl 3 rfl) ?_
    refine zV_i [.int x2, .int x3] [] zc ky_X2_leads kz_X2_leads km_7_48 (c_wl_X2_leads l hw) (wlPreV0 hK (pj_wp_wl_9 hM)) rfl rfl hl.1 (Nat.le_of_ble_eq_true rfl) ⟨rfl, rfl⟩ ⟨Nat.le_of_ble_eq_true rfl, Nat.le_of_ble_eq_true rfl⟩ ⟨(Nat.zero_le _), (Nat.zero_le _)⟩ dX7_link_46 (fun r_1 hw => ?_)
    refine lv_if_eq (tgt := 64) hx hb dX7_link_49 (by decide) (fun hc => ?_) (fun hc => ?_)
    · have hw := hw.1 hc
      exact t_wp_X7_link_9_64 zc hK hM hS hP2 (fun _ _ H locs ls h hl hM hS => h H locs ls hl hM hS) (lv_sub hl [0, 1, 2, 3] rfl) hw
    · have hw := hw.2 hc
      refine lv_aload_n hx hb dX7_link_52 rfl (lv_at hl 0 rfl) ?_
      refine wpg_7_24_0 zc hK hM dX7_link_53 ?_
      refine lv_iload_n hx hb dX7_link_56 rfl (lv_at hl 2 rfl) ?_
      refine lv_dup2_11 hx hb dX7_link_57 rfl rfl ?_
      refine wpld_5 zc hK hM hw.1 dX7_link_58 ?_
      have hw := hw.2
      refine lv_iconst (v := (1 : Int32)) hx hb dX7_link_59 (by decide) ?_
      refine lv_iload_n hx hb dX7_link_60 rfl (lv_at hl 3 rfl) ?_
      refine lv_ishl hx hb dX7_link_61 ?_
      refine lv_ior hx hb dX7_link_62 ?_
      refine lv_topi (fun v_2 ev_2 => ?_)
      have hw := hw v_2 ev_2
      refine wpst_5 zc hK hM hS hw.1 dX7_link_63 (fun a_next_1 H locs ea_next_1 hM hS => ?_)
      have hw := hw.2 a_next_1 ea_next_1
      exact t_wp_X7_link_9_64 zc hK hM hS hP2 (fun _ _ H locs ls h hl hM hS => h H locs ls hl hM hS) (lv_sub hl [0, 1, 2, 3] rfl) hw
set_option maxRecDepth 20000 in
theorem t_wp_X7_link_9_32 {p : Program} {l : Launch} {e : Env} {s : State} {m : MethodId} {args : Array Value} {below : List Frame} {meth : Method} {c : Code} {E : zE} {qp ql qs : Nat} {a_heard : Nat → Int32} {a_walked : Nat → Int32} {a_total : Nat → Int32} {a_longest : Nat → Int32} {a_next : Nat → Int32} {a_cover : Nat → Int32} {a_now : Nat → Int32} {a_then : Nat → Int32} {lf_huts : Int32} {lf_singers : Int32} {lf_villages : Int32} {lf_dams : Int32} {lf_echoes : Int32} {lf_deep : Int32} {lf_slide : Int32} {la_heights : Nat → Int32} {la_ladders : Nat → Int32} {la_minutes : Nat → Int32} {la_echoFrom : Nat → Int32} {la_echoTo : Nat → Int32} {la_homes : Nat → Int32} {la_talls : Nat → Int32} {la_known : Nat → Int32} {sf_facts : Int32} {sa_heard : Nat → Int32} {sa_huts : Nat → Int32} {sa_minutes : Nat → Int32} {P2 : Int32 → (Nat → Int32) → Prop} {post : (Nat → Int32) → Prop} {x2 : Int32} {y0 : Int32} {y1 : Int32} {ls : Array Slot} {H : Heap} {locs : List Loc}
    (zc : zC p s m args meth c cX7_link 4 RX7 none)
    (hK : zK E s)
    (hM : wpW E qp ql qs a_heard a_walked a_total a_longest a_next a_cover a_now a_then lf_huts lf_singers lf_villages lf_dams lf_echoes lf_deep lf_slide la_heights la_ladders la_minutes la_echoFrom la_echoTo la_homes la_talls la_known sf_facts sa_heard sa_huts sa_minutes H)
    (hS : va_S (wpA qp ql qs) s.heap H locs)
    (hP2 : ∀ (x2 : Int32) (a_next : Nat → Int32) (H : Heap) (locs : List Loc) (ls : Array Slot), P2 x2 a_next → lv_has ls 4 [(0, .ref qp), (1, .ref ql), (2, .int x2)] → wpW E qp ql qs a_heard a_walked a_total a_longest a_next a_cover a_now a_then lf_huts lf_singers lf_villages lf_dams lf_echoes lf_deep lf_slide la_heights la_ladders la_minutes la_echoFrom la_echoTo la_homes la_talls la_known sf_facts sa_heard sa_huts sa_minutes H → va_S (wpA qp ql qs) s.heap H locs → W p l e rm_wp_X7_link_9 s m args below meth c H locs 0 0 (MQ below (zQv (S := (Nat → Int32)) (fun u => post u) (fun u H => wpW E qp ql qs a_heard a_walked a_total a_longest u a_cover a_now a_then lf_huts lf_singers lf_villages lf_dams lf_echoes lf_deep lf_slide la_heights la_ladders la_minutes la_echoFrom la_echoTo la_homes la_talls la_known sf_facts sa_heard sa_huts sa_minutes H) (wpA qp ql qs)) args s 0 0 (wpA qp ql qs)) (F0 m 2 ls []))
    (hl : lv_has ls 4 [(0, .ref qp), (1, .ref ql), (2, .int x2)])
    (hw : q_wp_X7_link_9_32 P2 a_next lf_huts lf_dams lf_echoes la_heights la_minutes la_echoFrom la_echoTo x2 y0 y1 post) :
    W p l e rm_wp_X7_link_9 s m args below meth c H locs 0 0 (MQ below (zQv (S := (Nat → Int32)) (fun u => post u) (fun u H => wpW E qp ql qs a_heard a_walked a_total a_longest u a_cover a_now a_then lf_huts lf_singers lf_villages lf_dams lf_echoes lf_deep lf_slide la_heights la_ladders la_minutes la_echoFrom la_echoTo la_homes la_talls la_known sf_facts sa_heard sa_huts sa_minutes H) (wpA qp ql qs)) args s 0 0 (wpA qp ql qs)) (F0 m 32 ls [.int y1, .int y0, .ref (qp + 5)]) := by
  have hx := zc.1
  have hb := zc.2.1
  refine wpst_5 zc hK hM hS hw.1 dX7_link_32 (fun a_next_1 H locs ea_next_1 hM hS => ?_)
  have hw := hw.2 a_next_1 ea_next_1
  refine lv_iconst (v := (0 : Int32)) hx hb dX7_link_33 (by decide) ?_
  refine lv_istore_n (lv' := [(3, .int (0 : Int32)), (0, .ref qp), (1, .ref ql), (2, .int x2)]) hx hb dX7_link_34 rfl hl (by decide) rfl (fun ls hl => ?_)
  exact t_wp_X7_link_9_35 zc hK hM hS hP2 (lv_sub hl [1, 2, 3, 0] rfl) hw
set_option maxRecDepth 20000 in
theorem t_wp_X7_link_9_2 {p : Program} {l : Launch} {e : Env} {s : State} {m : MethodId} {args : Array Value} {below : List Frame} {meth : Method} {c : Code} {E : zE} {qp ql qs : Nat} {a_heard : Nat → Int32} {a_walked : Nat → Int32} {a_total : Nat → Int32} {a_longest : Nat → Int32} {a_next : Nat → Int32} {a_cover : Nat → Int32} {a_now : Nat → Int32} {a_then : Nat → Int32} {lf_huts : Int32} {lf_singers : Int32} {lf_villages : Int32} {lf_dams : Int32} {lf_echoes : Int32} {lf_deep : Int32} {lf_slide : Int32} {la_heights : Nat → Int32} {la_ladders : Nat → Int32} {la_minutes : Nat → Int32} {la_echoFrom : Nat → Int32} {la_echoTo : Nat → Int32} {la_homes : Nat → Int32} {la_talls : Nat → Int32} {la_known : Nat → Int32} {sf_facts : Int32} {sa_heard : Nat → Int32} {sa_huts : Nat → Int32} {sa_minutes : Nat → Int32} {post : (Nat → Int32) → Prop} {x2 : Int32} {ls : Array Slot} {H : Heap} {locs : List Loc}
    (zc : zC p s m args meth c cX7_link 4 RX7 none)
    (hK : zK E s)
    (hM : wpW E qp ql qs a_heard a_walked a_total a_longest a_next a_cover a_now a_then lf_huts lf_singers lf_villages lf_dams lf_echoes lf_deep lf_slide la_heights la_ladders la_minutes la_echoFrom la_echoTo la_homes la_talls la_known sf_facts sa_heard sa_huts sa_minutes H)
    (hS : va_S (wpA qp ql qs) s.heap H locs)
    (hl : lv_has ls 4 [(0, .ref qp), (1, .ref ql), (2, .int x2)])
    (hw : q_wp_X7_link_9_2 a_next lf_huts lf_dams lf_echoes la_heights la_minutes la_echoFrom la_echoTo x2 post) :
    W p l e rm_wp_X7_link_9 s m args below meth c H locs 0 0 (MQ below (zQv (S := (Nat → Int32)) (fun u => post u) (fun u H => wpW E qp ql qs a_heard a_walked a_total a_longest u a_cover a_now a_then lf_huts lf_singers lf_villages lf_dams lf_echoes lf_deep lf_slide la_heights la_ladders la_minutes la_echoFrom la_echoTo la_homes la_talls la_known sf_facts sa_heard sa_huts sa_minutes H) (wpA qp ql qs)) args s 0 0 (wpA qp ql qs)) (F0 m 2 ls []) := by
  have hx := zc.1
  have hb := zc.2.1
  refine hw (fun x2 a_next => ∀ (H : Heap) (locs : List Loc) (ls : Array Slot), lv_has ls 4 [(0, .ref qp), (1, .ref ql), (2, .int x2)] → wpW E qp ql qs a_heard a_walked a_total a_longest a_next a_cover a_now a_then lf_huts lf_singers lf_villages lf_dams lf_echoes lf_deep lf_slide la_heights la_ladders la_minutes la_echoFrom la_echoTo la_homes la_talls la_known sf_facts sa_heard sa_huts sa_minutes H → va_S (wpA qp ql qs) s.heap H locs → W p l e rm_wp_X7_link_9 s m args below meth c H locs 0 0 (MQ below (zQv (S := (Nat → Int32)) (fun u => post u) (fun u H => wpW E qp ql qs a_heard a_walked a_total a_longest u a_cover a_now a_then lf_huts lf_singers lf_villages lf_dams lf_echoes lf_deep lf_slide la_heights la_ladders la_minutes la_echoFrom la_echoTo la_homes la_talls la_known sf_facts sa_heard sa_huts sa_minutes H) (wpA qp ql qs)) args s 0 0 (wpA qp ql qs)) (F0 m 2 ls [])) ?_ _ _ _ hl hM hS
  intro x2 a_next hw H locs ls hl hM hS
  refine lv_iload_n hx hb dX7_link_2 rfl (lv_at hl 2 rfl) ?_
  refine lv_aload_n hx hb dX7_link_3 rfl (lv_at hl 1 rfl) ?_
  refine wpg_7_42_9 zc hK hM dX7_link_4 ?_
  refine lv_icmp_ge (tgt := 76) hx hb dX7_link_7 (by decide) (fun hc => ?_) (fun hc => ?_)
  · have hw := hw.1 hc
    exact zret_vw a_next zc hS hw hM dX7_link_76
  · have hw := hw.2 hc
    refine lv_aload_n hx hb dX7_link_10 rfl (lv_at hl 0 rfl) ?_
    refine wpg_7_24_0 zc hK hM dX7_link_11 ?_
    refine lv_iload_n hx hb dX7_link_14 rfl (lv_at hl 2 rfl) ?_
    refine lv_aload_n hx hb dX7_link_15 rfl (lv_at hl 1 rfl) ?_
    refine lv_iload_n hx hb dX7_link_16 rfl (lv_at hl 2 rfl) ?_
    refine zV_i [.int x2] [.int x2, .ref (qp + 5)] zc ky_X2_isDam kz_X2_isDam km_7_55 (c_wl_X2_isDam l hw) (wlPreV0 hK (pj_wp_wl_9 hM)) rfl rfl hl.1 (Nat.le_of_ble_eq_true rfl) ⟨rfl, rfl⟩ ⟨Nat.le_of_ble_eq_true rfl, Nat.le_of_ble_eq_true rfl⟩ ⟨(Nat.zero_le _), (Nat.zero_le _)⟩ dX7_link_17 (fun r_1 hw => ?_)
    refine lv_if_eq (tgt := 27) hx hb dX7_link_20 (by decide) (fun hc => ?_) (fun hc => ?_)
    · have hw := hw.1 hc
      refine lv_aload_n hx hb dX7_link_27 rfl (lv_at hl 1 rfl) ?_
      refine lv_iload_n hx hb dX7_link_28 rfl (lv_at hl 2 rfl) ?_
      refine zV_i [.int x2] [.int x2, .ref (qp + 5)] zc ky_X2_earshot kz_X2_earshot km_7_59 (c_wl_X2_earshot l hw) (wlPreV0 hK (pj_wp_wl_9 hM)) rfl rfl hl.1 (Nat.le_of_ble_eq_true rfl) ⟨rfl, rfl⟩ ⟨Nat.le_of_ble_eq_true rfl, Nat.le_of_ble_eq_true rfl⟩ ⟨(Nat.zero_le _), (Nat.zero_le _)⟩ dX7_link_29 (fun r_2 hw => ?_)
      exact t_wp_X7_link_9_32 zc hK hM hS (fun _ _ H locs ls h hl hM hS => h H locs ls hl hM hS) (lv_sub hl [0, 1, 2] rfl) hw
    · have hw := hw.2 hc
      refine lv_iconst (v := (0 : Int32)) hx hb dX7_link_23 (by decide) ?_
      refine lv_goto (tgt := 32) hx hb dX7_link_24 (by decide) ?_
      exact t_wp_X7_link_9_32 zc hK hM hS (fun _ _ H locs ls h hl hM hS => h H locs ls hl hM hS) (lv_sub hl [0, 1, 2] rfl) hw
set_option maxRecDepth 20000 in
theorem t_wp_X7_link_9_0 {p : Program} {l : Launch} {e : Env} {s : State} {m : MethodId} {args : Array Value} {below : List Frame} {meth : Method} {c : Code} {E : zE} {qp ql qs : Nat} {a_heard : Nat → Int32} {a_walked : Nat → Int32} {a_total : Nat → Int32} {a_longest : Nat → Int32} {a_next : Nat → Int32} {a_cover : Nat → Int32} {a_now : Nat → Int32} {a_then : Nat → Int32} {lf_huts : Int32} {lf_singers : Int32} {lf_villages : Int32} {lf_dams : Int32} {lf_echoes : Int32} {lf_deep : Int32} {lf_slide : Int32} {la_heights : Nat → Int32} {la_ladders : Nat → Int32} {la_minutes : Nat → Int32} {la_echoFrom : Nat → Int32} {la_echoTo : Nat → Int32} {la_homes : Nat → Int32} {la_talls : Nat → Int32} {la_known : Nat → Int32} {sf_facts : Int32} {sa_heard : Nat → Int32} {sa_huts : Nat → Int32} {sa_minutes : Nat → Int32} {post : (Nat → Int32) → Prop} {ls : Array Slot} {H : Heap} {locs : List Loc}
    (zc : zC p s m args meth c cX7_link 4 RX7 none)
    (hK : zK E s)
    (hM : wpW E qp ql qs a_heard a_walked a_total a_longest a_next a_cover a_now a_then lf_huts lf_singers lf_villages lf_dams lf_echoes lf_deep lf_slide la_heights la_ladders la_minutes la_echoFrom la_echoTo la_homes la_talls la_known sf_facts sa_heard sa_huts sa_minutes H)
    (hS : va_S (wpA qp ql qs) s.heap H locs)
    (hl : lv_has ls 4 [(0, .ref qp), (1, .ref ql)])
    (hw : q_wp_X7_link_9_0 a_next lf_huts lf_dams lf_echoes la_heights la_minutes la_echoFrom la_echoTo post) :
    W p l e rm_wp_X7_link_9 s m args below meth c H locs 0 0 (MQ below (zQv (S := (Nat → Int32)) (fun u => post u) (fun u H => wpW E qp ql qs a_heard a_walked a_total a_longest u a_cover a_now a_then lf_huts lf_singers lf_villages lf_dams lf_echoes lf_deep lf_slide la_heights la_ladders la_minutes la_echoFrom la_echoTo la_homes la_talls la_known sf_facts sa_heard sa_huts sa_minutes H) (wpA qp ql qs)) args s 0 0 (wpA qp ql qs)) (F0 m 0 ls []) := by
  have hx := zc.1
  have hb := zc.2.1
  refine lv_iconst (v := (0 : Int32)) hx hb dX7_link_0 (by decide) ?_
  refine lv_istore_n (lv' := [(2, .int (0 : Int32)), (0, .ref qp), (1, .ref ql)]) hx hb dX7_link_1 rfl hl (by decide) rfl (fun ls hl => ?_)
  exact t_wp_X7_link_9_2 zc hK hM hS  (lv_sub hl [1, 2, 0] rfl) hw
set_option maxRecDepth 20000 in
theorem c_wp_X7_link_9 (l : Launch) {E : zE} {qp ql qs : Nat} {a_heard : Nat → Int32} {a_walked : Nat → Int32} {a_total : Nat → Int32} {a_longest : Nat → Int32} {a_next : Nat → Int32} {a_cover : Nat → Int32} {a_now : Nat → Int32} {a_then : Nat → Int32} {lf_huts : Int32} {lf_singers : Int32} {lf_villages : Int32} {lf_dams : Int32} {lf_echoes : Int32} {lf_deep : Int32} {lf_slide : Int32} {la_heights : Nat → Int32} {la_ladders : Nat → Int32} {la_minutes : Nat → Int32} {la_echoFrom : Nat → Int32} {la_echoTo : Nat → Int32} {la_homes : Nat → Int32} {la_talls : Nat → Int32} {la_known : Nat → Int32} {sf_facts : Int32} {sa_heard : Nat → Int32} {sa_huts : Nat → Int32} {sa_minutes : Nat → Int32} {post : (Nat → Int32) → Prop} (hw : q_wp_X7_link_9_0 a_next lf_huts lf_dams lf_echoes la_heights la_minutes la_echoFrom la_echoTo post) : Met l yX7_link (Cond.code yX7_link cX7_link 4 none :: zb) rm_wp_X7_link_9 (va_Pc [.ref qp, .ref ql] (fun U => wpW E qp ql qs a_heard a_walked a_total a_longest a_next a_cover a_now a_then lf_huts lf_singers lf_villages lf_dams lf_echoes lf_deep lf_slide la_heights la_ladders la_minutes la_echoFrom la_echoTo la_homes la_talls la_known sf_facts sa_heard sa_huts sa_minutes U.heap ∧ zK E U)) (zQv (S := (Nat → Int32)) (fun u => post u) (fun u H => wpW E qp ql qs a_heard a_walked a_total a_longest u a_cover a_now a_then lf_huts lf_singers lf_villages lf_dams lf_echoes lf_deep lf_slide la_heights la_ladders la_minutes la_echoFrom la_echoTo la_homes la_talls la_known sf_facts sa_heard sa_huts sa_minutes H) (wpA qp ql qs)) 0 0 (wpA qp ql qs) := by
  refine Met.ofW (cc := cX7_link) (maxL := 4) (ret := none) (by decide) rfl ?_
  intro p e s m args below meth c s₁ B hml hv
  obtain ⟨rfl, hM, hK⟩ := hv
  have zc := zc_of B hml
  have hl := lv_entry ([.ref qp, .ref ql]) (n := 4) (Nat.le_of_ble_eq_true rfl)
  rw [lg_entry_eq]
  generalize (lg_sl ([.ref qp, .ref ql]) ++ List.replicate (4 - (lg_sl ([.ref qp, .ref ql])).length) Slot.unset).toArray = ls at hl ⊢
  have hl : lv_has ls 4 [(0, .ref qp), (1, .ref ql)] := hl
  exact t_wp_X7_link_9_0 zc hK hM va_S.rf (lv_sub hl [0, 1] rfl) hw
-- wp_X7_lastVillage_9
abbrev rm_wp_X7_lastVillage_9 : Room := { frames := 1, cells := 0, slots := 0, locals := 40 }
def q_wp_X7_lastVillage_9_52 (P5 : Int32 → Int32 → Prop) (a_heard : Nat → Int32) (lf_huts : Int32) (lf_villages : Int32) (lf_dams : Int32) (x2 : Int32) (x3 : Int32) (x4 : Int32) (post : Int32 → Prop) : Prop :=
  ∀ v_1 : Int32, v_1 = x4 + (1 : Int32) → (P5 x3 v_1)
def q_wp_X7_lastVillage_9_5 (a_heard : Nat → Int32) (lf_huts : Int32) (lf_villages : Int32) (lf_dams : Int32) (x2 : Int32) (x3 : Int32) (x4 : Int32) (post : Int32 → Prop) : Prop :=
  ∀ P5 : Int32 → Int32 → Prop, (∀ (x3 : Int32) (x4 : Int32), ((lf_huts ≤ x4 → (post x3)) ∧ (¬ lf_huts ≤ x4 → (q_z_X10_has_0 lf_villages x4 (fun r_1 => (r_1 = 0 → (q_wp_X7_lastVillage_9_52 P5 a_heard lf_huts lf_villages lf_dams x2 x3 x4 post)) ∧ (¬ r_1 = 0 → (q_wl_X2_isDam_0 lf_dams x4 (fun r_2 => (¬ r_2 = 0 → (q_wp_X7_lastVillage_9_52 P5 a_heard lf_huts lf_villages lf_dams x2 x3 x4 post)) ∧ (r_2 = 0 → (vp_in ((x2 * (9 : Int32)) + x4) 81 ∧ (∀ v_1 : Int32, v_1 = (if x3 < (a_heard (Int32.toNatClampNeg ((x2 * (9 : Int32)) + x4))) then (a_heard (Int32.toNatClampNeg ((x2 * (9 : Int32)) + x4))) else x3) → (q_wp_X7_lastVillage_9_52 P5 a_heard lf_huts lf_villages lf_dams x2 v_1 x4 post))))))))))) → P5 x3 x4) → P5 x3 x4
def q_wp_X7_lastVillage_9_0 (a_heard : Nat → Int32) (lf_huts : Int32) (lf_villages : Int32) (lf_dams : Int32) (x2 : Int32) (post : Int32 → Prop) : Prop :=
  q_wp_X7_lastVillage_9_5 a_heard lf_huts lf_villages lf_dams x2 (0 : Int32) (0 : Int32) post
set_option maxRecDepth 20000 in
theorem t_wp_X7_lastVillage_9_52 {p : Program} {l : Launch} {e : Env} {s : State} {m : MethodId} {args : Array Value} {below : List Frame} {meth : Method} {c : Code} {E : zE} {qp ql qs : Nat} {a_heard : Nat → Int32} {a_walked : Nat → Int32} {a_total : Nat → Int32} {a_longest : Nat → Int32} {a_next : Nat → Int32} {a_cover : Nat → Int32} {a_now : Nat → Int32} {a_then : Nat → Int32} {lf_huts : Int32} {lf_singers : Int32} {lf_villages : Int32} {lf_dams : Int32} {lf_echoes : Int32} {lf_deep : Int32} {lf_slide : Int32} {la_heights : Nat → Int32} {la_ladders : Nat → Int32} {la_minutes : Nat → Int32} {la_echoFrom : Nat → Int32} {la_echoTo : Nat → Int32} {la_homes : Nat → Int32} {la_talls : Nat → Int32} {la_known : Nat → Int32} {sf_facts : Int32} {sa_heard : Nat → Int32} {sa_huts : Nat → Int32} {sa_minutes : Nat → Int32} {P5 : Int32 → Int32 → Prop} {post : Int32 → Prop} {x2 : Int32} {x3 : Int32} {x4 : Int32} {ls : Array Slot}
    (zc : zC p s m args meth c cX7_lastVillage 5 RX7 (some .int))
    (hK : zK E s)
    (hM : wpW E qp ql qs a_heard a_walked a_total a_longest a_next a_cover a_now a_then lf_huts lf_singers lf_villages lf_dams lf_echoes lf_deep lf_slide la_heights la_ladders la_minutes la_echoFrom la_echoTo la_homes la_talls la_known sf_facts sa_heard sa_huts sa_minutes s.heap)
    (hP5 : ∀ (x3 : Int32) (x4 : Int32) (ls : Array Slot), P5 x3 x4 → lv_has ls 5 [(0, .ref qp), (1, .ref ql), (2, .int x2), (3, .int x3), (4, .int x4)] → W p l e rm_wp_X7_lastVillage_9 s m args below meth c s.heap [] 0 0 (MQ below (vp_Si post) args s 0 0 (fun _ => False)) (F0 m 5 ls []))
    (hl : lv_has ls 5 [(0, .ref qp), (1, .ref ql), (2, .int x2), (3, .int x3), (4, .int x4)])
    (hw : q_wp_X7_lastVillage_9_52 P5 a_heard lf_huts lf_villages lf_dams x2 x3 x4 post) :
    W p l e rm_wp_X7_lastVillage_9 s m args below meth c s.heap [] 0 0 (MQ below (vp_Si post) args s 0 0 (fun _ => False)) (F0 m 52 ls []) := by
  have hx := zc.1
  have hb := zc.2.1
  obtain ⟨v_1, ev_1⟩ : ∃ y : Int32, y = x4 + (1 : Int32) := ⟨_, rfl⟩
  have hw := hw v_1 ev_1
  refine lv_iinc (v := v_1) (k := 4) (lv' := [(4, .int v_1), (0, .ref qp), (1, .ref ql), (2, .int x2), (3, .int x3)]) hx hb dX7_lastVillage_52 hl rfl (by rw [ev_1]; rfl) (by decide) rfl (fun ls hl => ?_)
  refine lv_goto (tgt := 5) hx hb dX7_lastVillage_55 (by decide) ?_
  exact hP5 _ _ _ hw (lv_sub hl [1, 2, 3, 4, 0] rfl)
set_option maxRecDepth 20000 in
theorem t_wp_X7_lastVillage_9_5 {p : Program} {l : Launch} {e : Env} {s : State} {m : MethodId} {args : Array Value} {below : List Frame} {meth : Method} {c : Code} {E : zE} {qp ql qs : Nat} {a_heard : Nat → Int32} {a_walked : Nat → Int32} {a_total : Nat → Int32} {a_longest : Nat → Int32} {a_next : Nat → Int32} {a_cover : Nat → Int32} {a_now : Nat → Int32} {a_then : Nat → Int32} {lf_huts : Int32} {lf_singers : Int32} {lf_villages : Int32} {lf_dams : Int32} {lf_echoes : Int32} {lf_deep : Int32} {lf_slide : Int32} {la_heights : Nat → Int32} {la_ladders : Nat → Int32} {la_minutes : Nat → Int32} {la_echoFrom : Nat → Int32} {la_echoTo : Nat → Int32} {la_homes : Nat → Int32} {la_talls : Nat → Int32} {la_known : Nat → Int32} {sf_facts : Int32} {sa_heard : Nat → Int32} {sa_huts : Nat → Int32} {sa_minutes : Nat → Int32} {post : Int32 → Prop} {x2 : Int32} {x3 : Int32} {x4 : Int32} {ls : Array Slot}
    (zc : zC p s m args meth c cX7_lastVillage 5 RX7 (some .int))
    (hK : zK E s)
    (hM : wpW E qp ql qs a_heard a_walked a_total a_longest a_next a_cover a_now a_then lf_huts lf_singers lf_villages lf_dams lf_echoes lf_deep lf_slide la_heights la_ladders la_minutes la_echoFrom la_echoTo la_homes la_talls la_known sf_facts sa_heard sa_huts sa_minutes s.heap)
    (hl : lv_has ls 5 [(0, .ref qp), (1, .ref ql), (2, .int x2), (3, .int x3), (4, .int x4)])
    (hw : q_wp_X7_lastVillage_9_5 a_heard lf_huts lf_villages lf_dams x2 x3 x4 post) :
    W p l e rm_wp_X7_lastVillage_9 s m args below meth c s.heap [] 0 0 (MQ below (vp_Si post) args s 0 0 (fun _ => False)) (F0 m 5 ls []) := by
  have hx := zc.1
  have hb := zc.2.1
  refine hw (fun x3 x4 => ∀ (ls : Array Slot), lv_has ls 5 [(0, .ref qp), (1, .ref ql), (2, .int x2), (3, .int x3), (4, .int x4)] → W p l e rm_wp_X7_lastVillage_9 s m args below meth c s.heap [] 0 0 (MQ below (vp_Si post) args s 0 0 (fun _ => False)) (F0 m 5 ls [])) ?_ _ hl
  intro x3 x4 hw ls hl
  refine lv_iload hx hb dX7_lastVillage_5 (lv_at hl 4 rfl) ?_
  refine lv_aload_n hx hb dX7_lastVillage_7 rfl (lv_at hl 1 rfl) ?_
  refine wpg_7_42_9 zc hK hM dX7_lastVillage_8 ?_
  refine lv_icmp_ge (tgt := 58) hx hb dX7_lastVillage_11 (by decide) (fun hc => ?_) (fun hc => ?_)
  · have hw := hw.1 hc
    refine lv_iload_n hx hb dX7_lastVillage_58 rfl (lv_at hl 3 rfl) ?_
    exact zret_i zc hw dX7_lastVillage_59
  · have hw := hw.2 hc
    refine lv_aload_n hx hb dX7_lastVillage_14 rfl (lv_at hl 1 rfl) ?_
    refine wpg_7_73_9 zc hK hM dX7_lastVillage_15 ?_
    refine lv_iload hx hb dX7_lastVillage_18 (lv_at hl 4 rfl) ?_
    refine zSN_i [.int lf_villages, .int x4] [] zc ky_X10_has kz_X10_has (hK.2 _ kn_7_70) (c_z_X10_has l hw) (zPre0 _) rfl rfl hl.1 (Nat.le_of_ble_eq_true rfl) ⟨rfl, rfl⟩ ⟨Nat.le_of_ble_eq_true rfl, Nat.le_of_ble_eq_true rfl⟩ ⟨(Nat.zero_le _), (Nat.zero_le _)⟩ dX7_lastVillage_20 (fun r_1 hw => ?_)
    refine lv_if_eq (tgt := 52) hx hb dX7_lastVillage_23 (by decide) (fun hc => ?_) (fun hc => ?_)
    · have hw := hw.1 hc
      exact t_wp_X7_lastVillage_9_52 zc hK hM (fun _ _ ls h hl => h ls hl) (lv_sub hl [0, 1, 2, 3, 4] rfl) hw
    · have hw := hw.2 hc
      refine lv_aload_n hx hb dX7_lastVillage_26 rfl (lv_at hl 1 rfl) ?_
      refine lv_iload hx hb dX7_lastVillage_27 (lv_at hl 4 rfl) ?_
      refine zV_i [.int x4] [] zc ky_X2_isDam kz_X2_isDam km_7_55 (c_wl_X2_isDam l hw) (wlPreV0 hK (pj_wp_wl_9 hM)) rfl rfl hl.1 (Nat.le_of_ble_eq_true rfl) ⟨rfl, rfl⟩ ⟨Nat.le_of_ble_eq_true rfl, Nat.le_of_ble_eq_true rfl⟩ ⟨(Nat.zero_le _), (Nat.zero_le _)⟩ dX7_lastVillage_29 (fun r_2 hw => ?_)
      refine lv_if_ne (tgt := 52) hx hb dX7_lastVillage_32 (by decide) (fun hc => ?_) (fun hc => ?_)
      · have hw := hw.1 hc
        exact t_wp_X7_lastVillage_9_52 zc hK hM (fun _ _ ls h hl => h ls hl) (lv_sub hl [0, 1, 2, 3, 4] rfl) hw
      · have hw := hw.2 hc
        refine lv_iload_n hx hb dX7_lastVillage_35 rfl (lv_at hl 3 rfl) ?_
        refine lv_aload_n hx hb dX7_lastVillage_36 rfl (lv_at hl 0 rfl) ?_
        refine wpg_7_9_0 zc hK hM dX7_lastVillage_37 ?_
        refine lv_iload_n hx hb dX7_lastVillage_40 rfl (lv_at hl 2 rfl) ?_
        refine lv_bipush (v := (9 : Int32)) hx hb dX7_lastVillage_41 (by decide) ?_
        refine lv_imul hx hb dX7_lastVillage_43 ?_
        refine lv_iload hx hb dX7_lastVillage_44 (lv_at hl 4 rfl) ?_
        refine lv_iadd hx hb dX7_lastVillage_46 ?_
        refine wpld_1 zc hK hM hw.1 dX7_lastVillage_47 ?_
        have hw := hw.2
        refine va_mmax hx hb (zc.2.2.1.trans hl.1.symm) zc.2.2.2.1 (zc.2.2.2.2.1 _ km_7_76) (zc.2.2.2.2.1 _ k_mmaxs) (zc.2.2.2.2.1 _ k_mini) (zc.2.2.2.2.1 _ k_mmaxc) (Nat.le_of_ble_eq_true rfl) (Nat.le_of_ble_eq_true rfl) (Nat.zero_le _) (Nat.zero_le _) dX7_lastVillage_48 ?_
        refine lv_topi (fun v_1 ev_1 => ?_)
        have hw := hw v_1 ev_1
        refine lv_istore_n (lv' := [(3, .int v_1), (0, .ref qp), (1, .ref ql), (2, .int x2), (4, .int x4)]) hx hb dX7_lastVillage_51 rfl hl (by decide) rfl (fun ls hl => ?_)
        exact t_wp_X7_lastVillage_9_52 zc hK hM (fun _ _ ls h hl => h ls hl) (lv_sub hl [1, 2, 3, 0, 4] rfl) hw
set_option maxRecDepth 20000 in
theorem t_wp_X7_lastVillage_9_0 {p : Program} {l : Launch} {e : Env} {s : State} {m : MethodId} {args : Array Value} {below : List Frame} {meth : Method} {c : Code} {E : zE} {qp ql qs : Nat} {a_heard : Nat → Int32} {a_walked : Nat → Int32} {a_total : Nat → Int32} {a_longest : Nat → Int32} {a_next : Nat → Int32} {a_cover : Nat → Int32} {a_now : Nat → Int32} {a_then : Nat → Int32} {lf_huts : Int32} {lf_singers : Int32} {lf_villages : Int32} {lf_dams : Int32} {lf_echoes : Int32} {lf_deep : Int32} {lf_slide : Int32} {la_heights : Nat → Int32} {la_ladders : Nat → Int32} {la_minutes : Nat → Int32} {la_echoFrom : Nat → Int32} {la_echoTo : Nat → Int32} {la_homes : Nat → Int32} {la_talls : Nat → Int32} {la_known : Nat → Int32} {sf_facts : Int32} {sa_heard : Nat → Int32} {sa_huts : Nat → Int32} {sa_minutes : Nat → Int32} {post : Int32 → Prop} {x2 : Int32} {ls : Array Slot}
    (zc : zC p s m args meth c cX7_lastVillage 5 RX7 (some .int))
    (hK : zK E s)
    (hM : wpW E qp ql qs a_heard a_walked a_total a_longest a_next a_cover a_now a_then lf_huts lf_singers lf_villages lf_dams lf_echoes lf_deep lf_slide la_heights la_ladders la_minutes la_echoFrom la_echoTo la_homes la_talls la_known sf_facts sa_heard sa_huts sa_minutes s.heap)
    (hl : lv_has ls 5 [(0, .ref qp), (1, .ref ql), (2, .int x2)])
    (hw : q_wp_X7_lastVillage_9_0 a_heard lf_huts lf_villages lf_dams x2 post) :
    W p l e rm_wp_X7_lastVillage_9 s m args below meth c s.heap [] 0 0 (MQ below (vp_Si post) args s 0 0 (fun _ => False)) (F0 m 0 ls []) := by
  have hx := zc.1
  have hb := zc.2.1
  refine lv_iconst (v := (0 : Int32)) hx hb dX7_lastVillage_0 (by decide) ?_
  refine lv_istore_n (lv' := [(3, .int (0 : Int32)), (0, .ref qp), (1, .ref ql), (2, .int x2)]) hx hb dX7_lastVillage_1 rfl hl (by decide) rfl (fun ls hl => ?_)
  refine lv_iconst (v := (0 : Int32)) hx hb dX7_lastVillage_2 (by decide) ?_
  refine lv_istore (lv' := [(4, .int (0 : Int32)), (3, .int (0 : Int32)), (0, .ref qp), (1, .ref ql), (2, .int x2)]) hx hb dX7_lastVillage_3 hl (by decide) rfl (fun ls hl => ?_)
  exact t_wp_X7_lastVillage_9_5 zc hK hM  (lv_sub hl [2, 3, 4, 1, 0] rfl) hw
set_option maxRecDepth 20000 in
theorem c_wp_X7_lastVillage_9 (l : Launch) {E : zE} {qp ql qs : Nat} {a_heard : Nat → Int32} {a_walked : Nat → Int32} {a_total : Nat → Int32} {a_longest : Nat → Int32} {a_next : Nat → Int32} {a_cover : Nat → Int32} {a_now : Nat → Int32} {a_then : Nat → Int32} {lf_huts : Int32} {lf_singers : Int32} {lf_villages : Int32} {lf_dams : Int32} {lf_echoes : Int32} {lf_deep : Int32} {lf_slide : Int32} {la_heights : Nat → Int32} {la_ladders : Nat → Int32} {la_minutes : Nat → Int32} {la_echoFrom : Nat → Int32} {la_echoTo : Nat → Int32} {la_homes : Nat → Int32} {la_talls : Nat → Int32} {la_known : Nat → Int32} {sf_facts : Int32} {sa_heard : Nat → Int32} {sa_huts : Nat → Int32} {sa_minutes : Nat → Int32} {x2 : Int32} {post : Int32 → Prop} (hw : q_wp_X7_lastVillage_9_0 a_heard lf_huts lf_villages lf_dams x2 post) : Met l yX7_lastVillage (Cond.code yX7_lastVillage cX7_lastVillage 5 (some .int) :: zb) rm_wp_X7_lastVillage_9 (va_Pc [.ref qp, .ref ql, .int x2] (fun U => wpW E qp ql qs a_heard a_walked a_total a_longest a_next a_cover a_now a_then lf_huts lf_singers lf_villages lf_dams lf_echoes lf_deep lf_slide la_heights la_ladders la_minutes la_echoFrom la_echoTo la_homes la_talls la_known sf_facts sa_heard sa_huts sa_minutes U.heap ∧ zK E U)) (vp_Si post) 0 0 (fun _ => False) := by
  refine Met.ofW (cc := cX7_lastVillage) (maxL := 5) (ret := (some .int)) (by decide) rfl ?_
  intro p e s m args below meth c s₁ B hml hv
  obtain ⟨rfl, hM, hK⟩ := hv
  have zc := zc_of B hml
  have hl := lv_entry ([.ref qp, .ref ql, .int x2]) (n := 5) (Nat.le_of_ble_eq_true rfl)
  rw [lg_entry_eq]
  generalize (lg_sl ([.ref qp, .ref ql, .int x2]) ++ List.replicate (5 - (lg_sl ([.ref qp, .ref ql, .int x2])).length) Slot.unset).toArray = ls at hl ⊢
  have hl : lv_has ls 5 [(0, .ref qp), (1, .ref ql), (2, .int x2)] := hl
  exact t_wp_X7_lastVillage_9_0 zc hK hM (lv_sub hl [0, 1, 2] rfl) hw
end
section
-- wp_X7_allBy_9
abbrev rm_wp_X7_allBy_9 : Room := { frames := 2, cells := 0, slots := 0, locals := 64 }
def q_wp_X7_allBy_9_41 (P5 : Int32 → Int32 → Prop) (a_heard : Nat → Int32) (lf_huts : Int32) (lf_villages : Int32) (lf_dams : Int32) (x2 : Int32) (x3 : Int32) (x4 : Int32) (post : Int32 → Prop) : Prop :=
  ∀ v_1 : Int32, v_1 = x4 + (1 : Int32) → (P5 x3 v_1)
def q_wp_X7_allBy_9_5 (a_heard : Nat → Int32) (lf_huts : Int32) (lf_villages : Int32) (lf_dams : Int32) (x2 : Int32) (x3 : Int32) (x4 : Int32) (post : Int32 → Prop) : Prop :=
  ∀ P5 : Int32 → Int32 → Prop, (∀ (x3 : Int32) (x4 : Int32), ((lf_huts ≤ x4 → (post x3)) ∧ (¬ lf_huts ≤ x4 → (q_wl_X2_isDam_0 lf_dams x4 (fun r_1 => (¬ r_1 = 0 → (q_wp_X7_allBy_9_41 P5 a_heard lf_huts lf_villages lf_dams x2 x3 x4 post)) ∧ (r_1 = 0 → (q_wp_X7_lastVillage_9_0 a_heard lf_huts lf_villages lf_dams x4 (fun r_2 => (x2 < r_2 → (q_wp_X7_allBy_9_41 P5 a_heard lf_huts lf_villages lf_dams x2 x3 x4 post)) ∧ (¬ x2 < r_2 → (∀ v_1 : Int32, v_1 = (x3 ||| ((1 : Int32) <<< (x4 &&& 31))) → (q_wp_X7_allBy_9_41 P5 a_heard lf_huts lf_villages lf_dams x2 v_1 x4 post)))))))))) → P5 x3 x4) → P5 x3 x4
def q_wp_X7_allBy_9_0 (a_heard : Nat → Int32) (lf_huts : Int32) (lf_villages : Int32) (lf_dams : Int32) (x2 : Int32) (post : Int32 → Prop) : Prop :=
  q_wp_X7_allBy_9_5 a_heard lf_huts lf_villages lf_dams x2 (0 : Int32) (0 : Int32) post
set_option maxRecDepth 20000 in
theorem t_wp_X7_allBy_9_41 {p : Program} {l : Launch} {e : Env} {s : State} {m : MethodId} {args : Array Value} {below : List Frame} {meth : Method} {c : Code} {E : zE} {qp ql qs : Nat} {a_heard : Nat → Int32} {a_walked : Nat → Int32} {a_total : Nat → Int32} {a_longest : Nat → Int32} {a_next : Nat → Int32} {a_cover : Nat → Int32} {a_now : Nat → Int32} {a_then : Nat → Int32} {lf_huts : Int32} {lf_singers : Int32} {lf_villages : Int32} {lf_dams : Int32} {lf_echoes : Int32} {lf_deep : Int32} {lf_slide : Int32} {la_heights : Nat → Int32} {la_ladders : Nat → Int32} {la_minutes : Nat → Int32} {la_echoFrom : Nat → Int32} {la_echoTo : Nat → Int32} {la_homes : Nat → Int32} {la_talls : Nat → Int32} {la_known : Nat → Int32} {sf_facts : Int32} {sa_heard : Nat → Int32} {sa_huts : Nat → Int32} {sa_minutes : Nat → Int32} {P5 : Int32 → Int32 → Prop} {post : Int32 → Prop} {x2 : Int32} {x3 : Int32} {x4 : Int32} {ls : Array Slot}
    (zc : zC p s m args meth c cX7_allBy 5 RX7 (some .int))
    (hK : zK E s)
    (hM : wpW E qp ql qs a_heard a_walked a_total a_longest a_next a_cover a_now a_then lf_huts lf_singers lf_villages lf_dams lf_echoes lf_deep lf_slide la_heights la_ladders la_minutes la_echoFrom la_echoTo la_homes la_talls la_known sf_facts sa_heard sa_huts sa_minutes s.heap)
    (hP5 : ∀ (x3 : Int32) (x4 : Int32) (ls : Array Slot), P5 x3 x4 → lv_has ls 5 [(0, .ref qp), (1, .ref ql), (2, .int x2), (3, .int x3), (4, .int x4)] → W p l e rm_wp_X7_allBy_9 s m args below meth c s.heap [] 0 0 (MQ below (vp_Si post) args s 0 0 (fun _ => False)) (F0 m 5 ls []))
    (hl : lv_has ls 5 [(0, .ref qp), (1, .ref ql), (2, .int x2), (3, .int x3), (4, .int x4)])
    (hw : q_wp_X7_allBy_9_41 P5 a_heard lf_huts lf_villages lf_dams x2 x3 x4 post) :
    W p l e rm_wp_X7_allBy_9 s m args below meth c s.heap [] 0 0 (MQ below (vp_Si post) args s 0 0 (fun _ => False)) (F0 m 41 ls []) := by
  have hx := zc.1
  have hb := zc.2.1
  obtain ⟨v_1, ev_1⟩ : ∃ y : Int32, y = x4 + (1 : Int32) := ⟨_, rfl⟩
  have hw := hw v_1 ev_1
  refine lv_iinc (v := v_1) (k := 4) (lv' := [(4, .int v_1), (0, .ref qp), (1, .ref ql), (2, .int x2), (3, .int x3)]) hx hb dX7_allBy_41 hl rfl (by rw [ev_1]; rfl) (by decide) rfl (fun ls hl => ?_)
  refine lv_goto (tgt := 5) hx hb dX7_allBy_44 (by decide) ?_
  exact hP5 _ _ _ hw (lv_sub hl [1, 2, 3, 4, 0] rfl)
set_option maxRecDepth 20000 in
theorem t_wp_X7_allBy_9_5 {p : Program} {l : Launch} {e : Env} {s : State} {m : MethodId} {args : Array Value} {below : List Frame} {meth : Method} {c : Code} {E : zE} {qp ql qs : Nat} {a_heard : Nat → Int32} {a_walked : Nat → Int32} {a_total : Nat → Int32} {a_longest : Nat → Int32} {a_next : Nat → Int32} {a_cover : Nat → Int32} {a_now : Nat → Int32} {a_then : Nat → Int32} {lf_huts : Int32} {lf_singers : Int32} {lf_villages : Int32} {lf_dams : Int32} {lf_echoes : Int32} {lf_deep : Int32} {lf_slide : Int32} {la_heights : Nat → Int32} {la_ladders : Nat → Int32} {la_minutes : Nat → Int32} {la_echoFrom : Nat → Int32} {la_echoTo : Nat → Int32} {la_homes : Nat → Int32} {la_talls : Nat → Int32} {la_known : Nat → Int32} {sf_facts : Int32} {sa_heard : Nat → Int32} {sa_huts : Nat → Int32} {sa_minutes : Nat → Int32} {post : Int32 → Prop} {x2 : Int32} {x3 : Int32} {x4 : Int32} {ls : Array Slot}
    (zc : zC p s m args meth c cX7_allBy 5 RX7 (some .int))
    (hK : zK E s)
    (hM : wpW E qp ql qs a_heard a_walked a_total a_longest a_next a_cover a_now a_then lf_huts lf_singers lf_villages lf_dams lf_echoes lf_deep lf_slide la_heights la_ladders la_minutes la_echoFrom la_echoTo la_homes la_talls la_known sf_facts sa_heard sa_huts sa_minutes s.heap)
    (hl : lv_has ls 5 [(0, .ref qp), (1, .ref ql), (2, .int x2), (3, .int x3), (4, .int x4)])
    (hw : q_wp_X7_allBy_9_5 a_heard lf_huts lf_villages lf_dams x2 x3 x4 post) :
    W p l e rm_wp_X7_allBy_9 s m args below meth c s.heap [] 0 0 (MQ below (vp_Si post) args s 0 0 (fun _ => False)) (F0 m 5 ls []) := by
  have hx := zc.1
  have hb := zc.2.1
  refine hw (fun x3 x4 => ∀ (ls : Array Slot), lv_has ls 5 [(0, .ref qp), (1, .ref ql), (2, .int x2), (3, .int x3), (4, .int x4)] → W p l e rm_wp_X7_allBy_9 s m args below meth c s.heap [] 0 0 (MQ below (vp_Si post) args s 0 0 (fun _ => False)) (F0 m 5 ls [])) ?_ _ hl
  intro x3 x4 hw ls hl
  refine lv_iload hx hb dX7_allBy_5 (lv_at hl 4 rfl) ?_
  refine lv_aload_n hx hb dX7_allBy_7 rfl (lv_at hl 1 rfl) ?_
  refine wpg_7_42_9 zc hK hM dX7_allBy_8 ?_
  refine lv_icmp_ge (tgt := 47) hx hb dX7_allBy_11 (by decide) (fun hc => ?_) (fun hc => ?_)
  · have hw := hw.1 hc
    refine lv_iload_n hx hb dX7_allBy_47 rfl (lv_at hl 3 rfl) ?_
    exact zret_i zc hw dX7_allBy_48
  · have hw := hw.2 hc
    refine lv_aload_n hx hb dX7_allBy_14 rfl (lv_at hl 1 rfl) ?_
    refine lv_iload hx hb dX7_allBy_15 (lv_at hl 4 rfl) ?_
    refine zV_i [.int x4] [] zc ky_X2_isDam kz_X2_isDam km_7_55 (c_wl_X2_isDam l hw) (wlPreV0 hK (pj_wp_wl_9 hM)) rfl rfl hl.1 (Nat.le_of_ble_eq_true rfl) ⟨rfl, rfl⟩ ⟨Nat.le_of_ble_eq_true rfl, Nat.le_of_ble_eq_true rfl⟩ ⟨(Nat.zero_le _), (Nat.zero_le _)⟩ dX7_allBy_17 (fun r_1 hw => ?_)
    refine lv_if_ne (tgt := 41) hx hb dX7_allBy_20 (by decide) (fun hc => ?_) (fun hc => ?_)
    · have hw := hw.1 hc
      exact t_wp_X7_allBy_9_41 zc hK hM (fun _ _ ls h hl => h ls hl) (lv_sub hl [0, 1, 2, 3, 4] rfl) hw
    · have hw := hw.2 hc
      refine lv_aload_n hx hb dX7_allBy_23 rfl (lv_at hl 0 rfl) ?_
      refine lv_aload_n hx hb dX7_allBy_24 rfl (lv_at hl 1 rfl) ?_
      refine lv_iload hx hb dX7_allBy_25 (lv_at hl 4 rfl) ?_
      refine zV_i [.ref ql, .int x4] [] zc ky_X7_lastVillage kz_X7_lastVillage km_7_82 (c_wp_X7_lastVillage_9 l hw) (wpPreV0 hK hM) rfl rfl hl.1 (Nat.le_of_ble_eq_true rfl) ⟨rfl, rfl⟩ ⟨Nat.le_of_ble_eq_true rfl, Nat.le_of_ble_eq_true rfl⟩ ⟨(Nat.zero_le _), (Nat.zero_le _)⟩ dX7_allBy_27 (fun r_2 hw => ?_)
      refine lv_iload_n hx hb dX7_allBy_30 rfl (lv_at hl 2 rfl) ?_
      refine lv_icmp_gt (tgt := 41) hx hb dX7_allBy_31 (by decide) (fun hc => ?_) (fun hc => ?_)
      · have hw := hw.1 hc
        exact t_wp_X7_allBy_9_41 zc hK hM (fun _ _ ls h hl => h ls hl) (lv_sub hl [0, 1, 2, 3, 4] rfl) hw
      · have hw := hw.2 hc
        refine lv_iload_n hx hb dX7_allBy_34 rfl (lv_at hl 3 rfl) ?_
        refine lv_iconst (v := (1 : Int32)) hx hb dX7_allBy_35 (by decide) ?_
        refine lv_iload hx hb dX7_allBy_36 (lv_at hl 4 rfl) ?_
        refine lv_ishl hx hb dX7_allBy_38 ?_
        refine lv_ior hx hb dX7_allBy_39 ?_
        refine lv_topi (fun v_1 ev_1 => ?_)
        have hw := hw v_1 ev_1
        refine lv_istore_n (lv' := [(3, .int v_1), (0, .ref qp), (1, .ref ql), (2, .int x2), (4, .int x4)]) hx hb dX7_allBy_40 rfl hl (by decide) rfl (fun ls hl => ?_)
        exact t_wp_X7_allBy_9_41 zc hK hM (fun _ _ ls h hl => h ls hl) (lv_sub hl [1, 2, 3, 0, 4] rfl) hw
set_option maxRecDepth 20000 in
theorem t_wp_X7_allBy_9_0 {p : Program} {l : Launch} {e : Env} {s : State} {m : MethodId} {args : Array Value} {below : List Frame} {meth : Method} {c : Code} {E : zE} {qp ql qs : Nat} {a_heard : Nat → Int32} {a_walked : Nat → Int32} {a_total : Nat → Int32} {a_longest : Nat → Int32} {a_next : Nat → Int32} {a_cover : Nat → Int32} {a_now : Nat → Int32} {a_then : Nat → Int32} {lf_huts : Int32} {lf_singers : Int32} {lf_villages : Int32} {lf_dams : Int32} {lf_echoes : Int32} {lf_deep : Int32} {lf_slide : Int32} {la_heights : Nat → Int32} {la_ladders : Nat → Int32} {la_minutes : Nat → Int32} {la_echoFrom : Nat → Int32} {la_echoTo : Nat → Int32} {la_homes : Nat → Int32} {la_talls : Nat → Int32} {la_known : Nat → Int32} {sf_facts : Int32} {sa_heard : Nat → Int32} {sa_huts : Nat → Int32} {sa_minutes : Nat → Int32} {post : Int32 → Prop} {x2 : Int32} {ls : Array Slot}
    (zc : zC p s m args meth c cX7_allBy 5 RX7 (some .int))
    (hK : zK E s)
    (hM : wpW E qp ql qs a_heard a_walked a_total a_longest a_next a_cover a_now a_then lf_huts lf_singers lf_villages lf_dams lf_echoes lf_deep lf_slide la_heights la_ladders la_minutes la_echoFrom la_echoTo la_homes la_talls la_known sf_facts sa_heard sa_huts sa_minutes s.heap)
    (hl : lv_has ls 5 [(0, .ref qp), (1, .ref ql), (2, .int x2)])
    (hw : q_wp_X7_allBy_9_0 a_heard lf_huts lf_villages lf_dams x2 post) :
    W p l e rm_wp_X7_allBy_9 s m args below meth c s.heap [] 0 0 (MQ below (vp_Si post) args s 0 0 (fun _ => False)) (F0 m 0 ls []) := by
  have hx := zc.1
  have hb := zc.2.1
  refine lv_iconst (v := (0 : Int32)) hx hb dX7_allBy_0 (by decide) ?_
  refine lv_istore_n (lv' := [(3, .int (0 : Int32)), (0, .ref qp), (1, .ref ql), (2, .int x2)]) hx hb dX7_allBy_1 rfl hl (by decide) rfl (fun ls hl => ?_)
  refine lv_iconst (v := (0 : Int32)) hx hb dX7_allBy_2 (by decide) ?_
  refine lv_istore (lv' := [(4, .int (0 : Int32)), (3, .int (0 : Int32)), (0, .ref qp), (1, .ref ql), (2, .int x2)]) hx hb dX7_allBy_3 hl (by decide) rfl (fun ls hl => ?_)
  exact t_wp_X7_allBy_9_5 zc hK hM  (lv_sub hl [2, 3, 4, 1, 0] rfl) hw
set_option maxRecDepth 20000 in
theorem c_wp_X7_allBy_9 (l : Launch) {E : zE} {qp ql qs : Nat} {a_heard : Nat → Int32} {a_walked : Nat → Int32} {a_total : Nat → Int32} {a_longest : Nat → Int32} {a_next : Nat → Int32} {a_cover : Nat → Int32} {a_now : Nat → Int32} {a_then : Nat → Int32} {lf_huts : Int32} {lf_singers : Int32} {lf_villages : Int32} {lf_dams : Int32} {lf_echoes : Int32} {lf_deep : Int32} {lf_slide : Int32} {la_heights : Nat → Int32} {la_ladders : Nat → Int32} {la_minutes : Nat → Int32} {la_echoFrom : Nat → Int32} {la_echoTo : Nat → Int32} {la_homes : Nat → Int32} {la_talls : Nat → Int32} {la_known : Nat → Int32} {sf_facts : Int32} {sa_heard : Nat → Int32} {sa_huts : Nat → Int32} {sa_minutes : Nat → Int32} {x2 : Int32} {post : Int32 → Prop} (hw : q_wp_X7_allBy_9_0 a_heard lf_huts lf_villages lf_dams x2 post) : Met l yX7_allBy (Cond.code yX7_allBy cX7_allBy 5 (some .int) :: zb) rm_wp_X7_allBy_9 (va_Pc [.ref qp, .ref ql, .int x2] (fun U => wpW E qp ql qs a_heard a_walked a_total a_longest a_next a_cover a_now a_then lf_huts lf_singers lf_villages lf_dams lf_echoes lf_deep lf_slide la_heights la_ladders la_minutes la_echoFrom la_echoTo la_homes la_talls la_known sf_facts sa_heard sa_huts sa_minutes U.heap ∧ zK E U)) (vp_Si post) 0 0 (fun _ => False) := by
  refine Met.ofW (cc := cX7_allBy) (maxL := 5) (ret := (some .int)) (by decide) rfl ?_
  intro p e s m args below meth c s₁ B hml hv
  obtain ⟨rfl, hM, hK⟩ := hv
  have zc := zc_of B hml
  have hl := lv_entry ([.ref qp, .ref ql, .int x2]) (n := 5) (Nat.le_of_ble_eq_true rfl)
  rw [lg_entry_eq]
  generalize (lg_sl ([.ref qp, .ref ql, .int x2]) ++ List.replicate (5 - (lg_sl ([.ref qp, .ref ql, .int x2])).length) Slot.unset).toArray = ls at hl ⊢
  have hl : lv_has ls 5 [(0, .ref qp), (1, .ref ql), (2, .int x2)] := hl
  exact t_wp_X7_allBy_9_0 zc hK hM (lv_sub hl [0, 1, 2] rfl) hw
-- wp_X7_bestHut_9
abbrev rm_wp_X7_bestHut_9 : Room := { frames := 2, cells := 0, slots := 0, locals := 64 }
def q_wp_X7_bestHut_9_49 (P9 : Int32 → Int32 → Int32 → Prop) (a_heard : Nat → Int32) (lf_huts : Int32) (lf_villages : Int32) (lf_dams : Int32) (x2 : Int32) (x3 : Int32) (x4 : Int32) (post : Int32 → Prop) : Prop :=
  ∀ v_1 : Int32, v_1 = x4 + (1 : Int32) → (P9 x2 x3 v_1)
def q_wp_X7_bestHut_9_9 (a_heard : Nat → Int32) (lf_huts : Int32) (lf_villages : Int32) (lf_dams : Int32) (x2 : Int32) (x3 : Int32) (x4 : Int32) (post : Int32 → Prop) : Prop :=
  ∀ P9 : Int32 → Int32 → Int32 → Prop, (∀ (x2 : Int32) (x3 : Int32) (x4 : Int32), ((lf_huts ≤ x4 → (post x2)) ∧ (¬ lf_huts ≤ x4 → (q_wl_X2_isDam_0 lf_dams x4 (fun r_1 => (¬ r_1 = 0 → (q_wp_X7_bestHut_9_49 P9 a_heard lf_huts lf_villages lf_dams x2 x3 x4 post)) ∧ (r_1 = 0 → (q_wp_X7_lastVillage_9_0 a_heard lf_huts lf_villages lf_dams x4 (fun r_2 => (x3 ≤ r_2 → (q_wp_X7_bestHut_9_49 P9 a_heard lf_huts lf_villages lf_dams x2 x3 x4 post)) ∧ (¬ x3 ≤ r_2 → (q_wp_X7_lastVillage_9_0 a_heard lf_huts lf_villages lf_dams x4 (fun r_3 => q_wp_X7_bestHut_9_49 P9 a_heard lf_huts lf_villages lf_dams x4 r_3 x4 post)))))))))) → P9 x2 x3 x4) → P9 x2 x3 x4
def q_wp_X7_bestHut_9_0 (a_heard : Nat → Int32) (lf_huts : Int32) (lf_villages : Int32) (lf_dams : Int32) (post : Int32 → Prop) : Prop :=
  q_wp_X7_bestHut_9_9 a_heard lf_huts lf_villages lf_dams (-1 : Int32) (1000 : Int32) (0 : Int32) post
set_option maxRecDepth 20000 in
theorem t_wp_X7_bestHut_9_49 {p : Program} {l : Launch} {e : Env} {s : State} {m : MethodId} {args : Array Value} {below : List Frame} {meth : Method} {c : Code} {E : zE} {qp ql qs : Nat} {a_heard : Nat → Int32} {a_walked : Nat → Int32} {a_total : Nat → Int32} {a_longest : Nat → Int32} {a_next : Nat → Int32} {a_cover : Nat → Int32} {a_now : Nat → Int32} {a_then : Nat → Int32} {lf_huts : Int32} {lf_singers : Int32} {lf_villages : Int32} {lf_dams : Int32} {lf_echoes : Int32} {lf_deep : Int32} {lf_slide : Int32} {la_heights : Nat → Int32} {la_ladders : Nat → Int32} {la_minutes : Nat → Int32} {la_echoFrom : Nat → Int32} {la_echoTo : Nat → Int32} {la_homes : Nat → Int32} {la_talls : Nat → Int32} {la_known : Nat → Int32} {sf_facts : Int32} {sa_heard : Nat → Int32} {sa_huts : Nat → Int32} {sa_minutes : Nat → Int32} {P9 : Int32 → Int32 → Int32 → Prop} {post : Int32 → Prop} {x2 : Int32} {x3 : Int32} {x4 : Int32} {ls : Array Slot}
    (zc : zC p s m args meth c cX7_bestHut 5 RX7 (some .int))
    (hK : zK E s)
    (hM : wpW E qp ql qs a_heard a_walked a_total a_longest a_next a_cover a_now a_then lf_huts lf_singers lf_villages lf_dams lf_echoes lf_deep lf_slide la_heights la_ladders la_minutes la_echoFrom la_echoTo la_homes la_talls la_known sf_facts sa_heard sa_huts sa_minutes s.heap)
    (hP9 : ∀ (x2 : Int32) (x3 : Int32) (x4 : Int32) (ls : Array Slot), P9 x2 x3 x4 → lv_has ls 5 [(0, .ref qp), (1, .ref ql), (2, .int x2), (3, .int x3), (4, .int x4)] → W p l e rm_wp_X7_bestHut_9 s m args below meth c s.heap [] 0 0 (MQ below (vp_Si post) args s 0 0 (fun _ => False)) (F0 m 9 ls []))
    (hl : lv_has ls 5 [(0, .ref qp), (1, .ref ql), (2, .int x2), (3, .int x3), (4, .int x4)])
    (hw : q_wp_X7_bestHut_9_49 P9 a_heard lf_huts lf_villages lf_dams x2 x3 x4 post) :
    W p l e rm_wp_X7_bestHut_9 s m args below meth c s.heap [] 0 0 (MQ below (vp_Si post) args s 0 0 (fun _ => False)) (F0 m 49 ls []) := by
  have hx := zc.1
  have hb := zc.2.1
  obtain ⟨v_1, ev_1⟩ : ∃ y : Int32, y = x4 + (1 : Int32) := ⟨_, rfl⟩
  have hw := hw v_1 ev_1
  refine lv_iinc (v := v_1) (k := 4) (lv' := [(4, .int v_1), (0, .ref qp), (1, .ref ql), (2, .int x2), (3, .int x3)]) hx hb dX7_bestHut_49 hl rfl (by rw [ev_1]; rfl) (by decide) rfl (fun ls hl => ?_)
  refine lv_goto (tgt := 9) hx hb dX7_bestHut_52 (by decide) ?_
  exact hP9 _ _ _ _ hw (lv_sub hl [1, 2, 3, 4, 0] rfl)
set_option maxRecDepth 20000 in
theorem t_wp_X7_bestHut_9_9 {p : Program} {l : Launch} {e : Env} {s : State} {m : MethodId} {args : Array Value} {below : List Frame} {meth : Method} {c : Code} {E : zE} {qp ql qs : Nat} {a_heard : Nat → Int32} {a_walked : Nat → Int32} {a_total : Nat → Int32} {a_longest : Nat → Int32} {a_next : Nat → Int32} {a_cover : Nat → Int32} {a_now : Nat → Int32} {a_then : Nat → Int32} {lf_huts : Int32} {lf_singers : Int32} {lf_villages : Int32} {lf_dams : Int32} {lf_echoes : Int32} {lf_deep : Int32} {lf_slide : Int32} {la_heights : Nat → Int32} {la_ladders : Nat → Int32} {la_minutes : Nat → Int32} {la_echoFrom : Nat → Int32} {la_echoTo : Nat → Int32} {la_homes : Nat → Int32} {la_talls : Nat → Int32} {la_known : Nat → Int32} {sf_facts : Int32} {sa_heard : Nat → Int32} {sa_huts : Nat → Int32} {sa_minutes : Nat → Int32} {post : Int32 → Prop} {x2 : Int32} {x3 : Int32} {x4 : Int32} {ls : Array Slot}
    (zc : zC p s m args meth c cX7_bestHut 5 RX7 (some .int))
    (hK : zK E s)
    (hM : wpW E qp ql qs a_heard a_walked a_total a_longest a_next a_cover a_now a_then lf_huts lf_singers lf_villages lf_dams lf_echoes lf_deep lf_slide la_heights la_ladders la_minutes la_echoFrom la_echoTo la_homes la_talls la_known sf_facts sa_heard sa_huts sa_minutes s.heap)
    (hl : lv_has ls 5 [(0, .ref qp), (1, .ref ql), (2, .int x2), (3, .int x3), (4, .int x4)])
    (hw : q_wp_X7_bestHut_9_9 a_heard lf_huts lf_villages lf_dams x2 x3 x4 post) :
    W p l e rm_wp_X7_bestHut_9 s m args below meth c s.heap [] 0 0 (MQ below (vp_Si post) args s 0 0 (fun _ => False)) (F0 m 9 ls []) := by
  have hx := zc.1
  have hb := zc.2.1
  refine hw (fun x2 x3 x4 => ∀ (ls : Array Slot), lv_has ls 5 [(0, .ref qp), (1, .ref ql), (2, .int x2), (3, .int x3), (4, .int x4)] → W p l e rm_wp_X7_bestHut_9 s m args below meth c s.heap [] 0 0 (MQ below (vp_Si post) args s 0 0 (fun _ => False)) (F0 m 9 ls [])) ?_ _ hl
  intro x2 x3 x4 hw ls hl
  refine lv_iload hx hb dX7_bestHut_9 (lv_at hl 4 rfl) ?_
  refine lv_aload_n hx hb dX7_bestHut_11 rfl (lv_at hl 1 rfl) ?_
  refine wpg_7_42_9 zc hK hM dX7_bestHut_12 ?_
  refine lv_icmp_ge (tgt := 55) hx hb dX7_bestHut_15 (by decide) (fun hc => ?_) (fun hc => ?_)
  · have hw := hw.1 hc
    refine lv_iload_n hx hb dX7_bestHut_55 rfl (lv_at hl 2 rfl) ?_
    exact zret_i zc hw dX7_bestHut_56
  · have hw := hw.2 hc
    refine lv_aload_n hx hb dX7_bestHut_18 rfl (lv_at hl 1 rfl) ?_
    refine lv_iload hx hb dX7_bestHut_19 (lv_at hl 4 rfl) ?_
    refine zV_i [.int x4] [] zc ky_X2_isDam kz_X2_isDam km_7_55 (c_wl_X2_isDam l hw) (wlPreV0 hK (pj_wp_wl_9 hM)) rfl rfl hl.1 (Nat.le_of_ble_eq_true rfl) ⟨rfl, rfl⟩ ⟨Nat.le_of_ble_eq_true rfl, Nat.le_of_ble_eq_true rfl⟩ ⟨(Nat.zero_le _), (Nat.zero_le _)⟩ dX7_bestHut_21 (fun r_1 hw => ?_)
    refine lv_if_ne (tgt := 49) hx hb dX7_bestHut_24 (by decide) (fun hc => ?_) (fun hc => ?_)
    · have hw := hw.1 hc
      exact t_wp_X7_bestHut_9_49 zc hK hM (fun _ _ _ ls h hl => h ls hl) (lv_sub hl [0, 1, 2, 3, 4] rfl) hw
    · have hw := hw.2 hc
      refine lv_aload_n hx hb dX7_bestHut_27 rfl (lv_at hl 0 rfl) ?_
      refine lv_aload_n hx hb dX7_bestHut_28 rfl (lv_at hl 1 rfl) ?_
      refine lv_iload hx hb dX7_bestHut_29 (lv_at hl 4 rfl) ?_
      refine zV_i [.ref ql, .int x4] [] zc ky_X7_lastVillage kz_X7_lastVillage km_7_82 (c_wp_X7_lastVillage_9 l hw) (wpPreV0 hK hM) rfl rfl hl.1 (Nat.le_of_ble_eq_true rfl) ⟨rfl, rfl⟩ ⟨Nat.le_of_ble_eq_true rfl, Nat.le_of_ble_eq_true rfl⟩ ⟨(Nat.zero_le _), (Nat.zero_le _)⟩ dX7_bestHut_31 (fun r_2 hw => ?_)
      refine lv_iload_n hx hb dX7_bestHut_34 rfl (lv_at hl 3 rfl) ?_
      refine lv_icmp_ge (tgt := 49) hx hb dX7_bestHut_35 (by decide) (fun hc => ?_) (fun hc => ?_)
      · have hw := hw.1 hc
        exact t_wp_X7_bestHut_9_49 zc hK hM (fun _ _ _ ls h hl => h ls hl) (lv_sub hl [0, 1, 2, 3, 4] rfl) hw
      · have hw := hw.2 hc
        refine lv_iload hx hb dX7_bestHut_38 (lv_at hl 4 rfl) ?_
        refine lv_istore_n (lv' := [(2, .int x4), (0, .ref qp), (1, .ref ql), (3, .int x3), (4, .int x4)]) hx hb dX7_bestHut_40 rfl hl (by decide) rfl (fun ls hl => ?_)
        refine lv_aload_n hx hb dX7_bestHut_41 rfl (lv_at hl 1 rfl) ?_
        refine lv_aload_n hx hb dX7_bestHut_42 rfl (lv_at hl 2 rfl) ?_
        refine lv_iload hx hb dX7_bestHut_43 (lv_at hl 4 rfl) ?_
        refine zV_i [.ref ql, .int x4] [] zc ky_X7_lastVillage kz_X7_lastVillage km_7_82 (c_wp_X7_lastVillage_9 l hw) (wpPreV0 hK hM) rfl rfl hl.1 (Nat.le_of_ble_eq_true rfl) ⟨rfl, rfl⟩ ⟨Nat.le_of_ble_eq_true rfl, Nat.le_of_ble_eq_true rfl⟩ ⟨(Nat.zero_le _), (Nat.zero_le _)⟩ dX7_bestHut_45 (fun r_3 hw => ?_)
        refine lv_istore_n (lv' := [(3, .int r_3), (2, .int x4), (0, .ref qp), (1, .ref ql), (4, .int x4)]) hx hb dX7_bestHut_48 rfl hl (by decide) rfl (fun ls hl => ?_)
        exact t_wp_X7_bestHut_9_49 zc hK hM (fun _ _ _ ls h hl => h ls hl) (lv_sub hl [2, 3, 1, 0, 4] rfl) hw
set_option maxRecDepth 20000 in
theorem t_wp_X7_bestHut_9_0 {p : Program} {l : Launch} {e : Env} {s : State} {m : MethodId} {args : Array Value} {below : List Frame} {meth : Method} {c : Code} {E : zE} {qp ql qs : Nat} {a_heard : Nat → Int32} {a_walked : Nat → Int32} {a_total : Nat → Int32} {a_longest : Nat → Int32} {a_next : Nat → Int32} {a_cover : Nat → Int32} {a_now : Nat → Int32} {a_then : Nat → Int32} {lf_huts : Int32} {lf_singers : Int32} {lf_villages : Int32} {lf_dams : Int32} {lf_echoes : Int32} {lf_deep : Int32} {lf_slide : Int32} {la_heights : Nat → Int32} {la_ladders : Nat → Int32} {la_minutes : Nat → Int32} {la_echoFrom : Nat → Int32} {la_echoTo : Nat → Int32} {la_homes : Nat → Int32} {la_talls : Nat → Int32} {la_known : Nat → Int32} {sf_facts : Int32} {sa_heard : Nat → Int32} {sa_huts : Nat → Int32} {sa_minutes : Nat → Int32} {post : Int32 → Prop} {ls : Array Slot}
    (zc : zC p s m args meth c cX7_bestHut 5 RX7 (some .int))
    (hK : zK E s)
    (hM : wpW E qp ql qs a_heard a_walked a_total a_longest a_next a_cover a_now a_then lf_huts lf_singers lf_villages lf_dams lf_echoes lf_deep lf_slide la_heights la_ladders la_minutes la_echoFrom la_echoTo la_homes la_talls la_known sf_facts sa_heard sa_huts sa_minutes s.heap)
    (hl : lv_has ls 5 [(0, .ref qp), (1, .ref ql)])
    (hw : q_wp_X7_bestHut_9_0 a_heard lf_huts lf_villages lf_dams post) :
    W p l e rm_wp_X7_bestHut_9 s m args below meth c s.heap [] 0 0 (MQ below (vp_Si post) args s 0 0 (fun _ => False)) (F0 m 0 ls []) := by
  have hx := zc.1
  have hb := zc.2.1
  refine lv_iconst (v := (-1 : Int32)) hx hb dX7_bestHut_0 (by decide) ?_
  refine lv_istore_n (lv' := [(2, .int (-1 : Int32)), (0, .ref qp), (1, .ref ql)]) hx hb dX7_bestHut_1 rfl hl (by decide) rfl (fun ls hl => ?_)
  refine lv_sipush (v := (1000 : Int32)) hx hb dX7_bestHut_2 (by decide) ?_
  refine lv_istore_n (lv' := [(3, .int (1000 : Int32)), (2, .int (-1 : Int32)), (0, .ref qp), (1, .ref ql)]) hx hb dX7_bestHut_5 rfl hl (by decide) rfl (fun ls hl => ?_)
  refine lv_iconst (v := (0 : Int32)) hx hb dX7_bestHut_6 (by decide) ?_
  refine lv_istore (lv' := [(4, .int (0 : Int32)), (3, .int (1000 : Int32)), (2, .int (-1 : Int32)), (0, .ref qp), (1, .ref ql)]) hx hb dX7_bestHut_7 hl (by decide) rfl (fun ls hl => ?_)
  exact t_wp_X7_bestHut_9_9 zc hK hM  (lv_sub hl [3, 4, 2, 1, 0] rfl) hw
set_option maxRecDepth 20000 in
theorem c_wp_X7_bestHut_9 (l : Launch) {E : zE} {qp ql qs : Nat} {a_heard : Nat → Int32} {a_walked : Nat → Int32} {a_total : Nat → Int32} {a_longest : Nat → Int32} {a_next : Nat → Int32} {a_cover : Nat → Int32} {a_now : Nat → Int32} {a_then : Nat → Int32} {lf_huts : Int32} {lf_singers : Int32} {lf_villages : Int32} {lf_dams : Int32} {lf_echoes : Int32} {lf_deep : Int32} {lf_slide : Int32} {la_heights : Nat → Int32} {la_ladders : Nat → Int32} {la_minutes : Nat → Int32} {la_echoFrom : Nat → Int32} {la_echoTo : Nat → Int32} {la_homes : Nat → Int32} {la_talls : Nat → Int32} {la_known : Nat → Int32} {sf_facts : Int32} {sa_heard : Nat → Int32} {sa_huts : Nat → Int32} {sa_minutes : Nat → Int32} {post : Int32 → Prop} (hw : q_wp_X7_bestHut_9_0 a_heard lf_huts lf_villages lf_dams post) : Met l yX7_bestHut (Cond.code yX7_bestHut cX7_bestHut 5 (some .int) :: zb) rm_wp_X7_bestHut_9 (va_Pc [.ref qp, .ref ql] (fun U => wpW E qp ql qs a_heard a_walked a_total a_longest a_next a_cover a_now a_then lf_huts lf_singers lf_villages lf_dams lf_echoes lf_deep lf_slide la_heights la_ladders la_minutes la_echoFrom la_echoTo la_homes la_talls la_known sf_facts sa_heard sa_huts sa_minutes U.heap ∧ zK E U)) (vp_Si post) 0 0 (fun _ => False) := by
  refine Met.ofW (cc := cX7_bestHut) (maxL := 5) (ret := (some .int)) (by decide) rfl ?_
  intro p e s m args below meth c s₁ B hml hv
  obtain ⟨rfl, hM, hK⟩ := hv
  have zc := zc_of B hml
  have hl := lv_entry ([.ref qp, .ref ql]) (n := 5) (Nat.le_of_ble_eq_true rfl)
  rw [lg_entry_eq]
  generalize (lg_sl ([.ref qp, .ref ql]) ++ List.replicate (5 - (lg_sl ([.ref qp, .ref ql])).length) Slot.unset).toArray = ls at hl ⊢
  have hl : lv_has ls 5 [(0, .ref qp), (1, .ref ql)] := hl
  exact t_wp_X7_bestHut_9_0 zc hK hM (lv_sub hl [0, 1] rfl) hw
-- wp_X7_coverBy_1
abbrev rm_wp_X7_coverBy_1 : Room := { frames := 0, cells := 0, slots := 0, locals := 0 }
def q_wp_X7_coverBy_1_54 (P3 : Int32 → (Nat → Int32) → Prop) (P20 : Int32 → (Nat → Int32) → Prop) (a_heard : Nat → Int32) (a_cover : Nat → Int32) (x2 : Int32) (x3 : Int32) (x4 : Int32) (x5 : Int32) (post : (Nat → Int32) → Prop) : Prop :=
  ∀ v_1 : Int32, v_1 = x5 + (1 : Int32) → (P20 v_1 a_cover)
def q_wp_X7_coverBy_1_20 (P3 : Int32 → (Nat → Int32) → Prop) (a_heard : Nat → Int32) (a_cover : Nat → Int32) (x2 : Int32) (x3 : Int32) (x4 : Int32) (x5 : Int32) (post : (Nat → Int32) → Prop) : Prop :=
  ∀ P20 : Int32 → (Nat → Int32) → Prop, (∀ (x5 : Int32) (a_cover : Nat → Int32), ((x2 ≤ x5 → (∀ v_1 : Int32, v_1 = x4 + (1 : Int32) → (P3 v_1 a_cover))) ∧ (¬ x2 ≤ x5 → (vp_in ((x4 * (9 : Int32)) + x5) 81 ∧ ((x3 < (a_heard (Int32.toNatClampNeg ((x4 * (9 : Int32)) + x5))) → (q_wp_X7_coverBy_1_54 P3 P20 a_heard a_cover x2 x3 x4 x5 post)) ∧ (¬ x3 < (a_heard (Int32.toNatClampNeg ((x4 * (9 : Int32)) + x5))) → (vp_in x4 9 ∧ (∀ v_2 : Int32, v_2 = ((a_cover (Int32.toNatClampNeg x4)) ||| ((1 : Int32) <<< (x5 &&& 31))) → (vp_in x4 9 ∧ (∀ a_cover_1 : Nat → Int32, a_cover_1 = upd a_cover (Int32.toNatClampNeg x4) v_2 → (q_wp_X7_coverBy_1_54 P3 P20 a_heard a_cover_1 x2 x3 x4 x5 post)))))))))) → P20 x5 a_cover) → P20 x5 a_cover
def q_wp_X7_coverBy_1_3 (a_heard : Nat → Int32) (a_cover : Nat → Int32) (x2 : Int32) (x3 : Int32) (x4 : Int32) (post : (Nat → Int32) → Prop) : Prop :=
  ∀ P3 : Int32 → (Nat → Int32) → Prop, (∀ (x4 : Int32) (a_cover : Nat → Int32), ((x2 ≤ x4 → (post a_cover)) ∧ (¬ x2 ≤ x4 → (vp_in x4 9 ∧ (∀ a_cover_1 : Nat → Int32, a_cover_1 = upd a_cover (Int32.toNatClampNeg x4) (0 : Int32) → (q_wp_X7_coverBy_1_20 P3 a_heard a_cover_1 x2 x3 x4 (0 : Int32) post))))) → P3 x4 a_cover) → P3 x4 a_cover
def q_wp_X7_coverBy_1_0 (a_heard : Nat → Int32) (a_cover : Nat → Int32) (x2 : Int32) (x3 : Int32) (post : (Nat → Int32) → Prop) : Prop :=
  q_wp_X7_coverBy_1_3 a_heard a_cover x2 x3 (0 : Int32) post
set_option maxRecDepth 20000 in
theorem t_wp_X7_coverBy_1_54 {p : Program} {l : Launch} {e : Env} {s : State} {m : MethodId} {args : Array Value} {below : List Frame} {meth : Method} {c : Code} {E : zE} {qp ql qs : Nat} {a_heard : Nat → Int32} {a_walked : Nat → Int32} {a_total : Nat → Int32} {a_longest : Nat → Int32} {a_next : Nat → Int32} {a_cover : Nat → Int32} {a_now : Nat → Int32} {a_then : Nat → Int32} {lf_huts : Int32} {lf_singers : Int32} {lf_villages : Int32} {lf_dams : Int32} {lf_echoes : Int32} {lf_deep : Int32} {lf_slide : Int32} {la_heights : Nat → Int32} {la_ladders : Nat → Int32} {la_minutes : Nat → Int32} {la_echoFrom : Nat → Int32} {la_echoTo : Nat → Int32} {la_homes : Nat → Int32} {la_talls : Nat → Int32} {la_known : Nat → Int32} {sf_facts : Int32} {sa_heard : Nat → Int32} {sa_huts : Nat → Int32} {sa_minutes : Nat → Int32} {P3 : Int32 → (Nat → Int32) → Prop} {P20 : Int32 → (Nat → Int32) → Prop} {post : (Nat → Int32) → Prop} {x2 : Int32} {x3 : Int32} {x4 : Int32} {x5 : Int32} {ls : Array Slot} {H : Heap} {locs : List Loc}
    (zc : zC p s m args meth c cX7_coverBy 6 RX7 none)
    (hK : zK E s)
    (hM : wpW E qp ql qs a_heard a_walked a_total a_longest a_next a_cover a_now a_then lf_huts lf_singers lf_villages lf_dams lf_echoes lf_deep lf_slide la_heights la_ladders la_minutes la_echoFrom la_echoTo la_homes la_talls la_known sf_facts sa_heard sa_huts sa_minutes H)
    (hS : va_S (wpA qp ql qs) s.heap H locs)
    (hP3 : ∀ (x4 : Int32) (a_cover : Nat → Int32) (H : Heap) (locs : List Loc) (ls : Array Slot), P3 x4 a_cover → lv_has ls 6 [(0, .ref qp), (1, .ref (qp + 1)), (2, .int x2), (3, .int x3), (4, .int x4)] → wpW E qp ql qs a_heard a_walked a_total a_longest a_next a_cover a_now a_then lf_huts lf_singers lf_villages lf_dams lf_echoes lf_deep lf_slide la_heights la_ladders la_minutes la_echoFrom la_echoTo la_homes la_talls la_known sf_facts sa_heard sa_huts sa_minutes H → va_S (wpA qp ql qs) s.heap H locs → W p l e rm_wp_X7_coverBy_1 s m args below meth c H locs 0 0 (MQ below (zQv (S := (Nat → Int32)) (fun u => post u) (fun u H => wpW E qp ql qs a_heard a_walked a_total a_longest a_next u a_now a_then lf_huts lf_singers lf_villages lf_dams lf_echoes lf_deep lf_slide la_heights la_ladders la_minutes la_echoFrom la_echoTo la_homes la_talls la_known sf_facts sa_heard sa_huts sa_minutes H) (wpA qp ql qs)) args s 0 0 (wpA qp ql qs)) (F0 m 3 ls []))
    (hP20 : ∀ (x5 : Int32) (a_cover : Nat → Int32) (H : Heap) (locs : List Loc) (ls : Array Slot), P20 x5 a_cover → lv_has ls 6 [(0, .ref qp), (1, .ref (qp + 1)), (2, .int x2), (3, .int x3), (4, .int x4), (5, .int x5)] → wpW E qp ql qs a_heard a_walked a_total a_longest a_next a_cover a_now a_then lf_huts lf_singers lf_villages lf_dams lf_echoes lf_deep lf_slide la_heights la_ladders la_minutes la_echoFrom la_echoTo la_homes la_talls la_known sf_facts sa_heard sa_huts sa_minutes H → va_S (wpA qp ql qs) s.heap H locs → W p l e rm_wp_X7_coverBy_1 s m args below meth c H locs 0 0 (MQ below (zQv (S := (Nat → Int32)) (fun u => post u) (fun u H => wpW E qp ql qs a_heard a_walked a_total a_longest a_next u a_now a_then lf_huts lf_singers lf_villages lf_dams lf_echoes lf_deep lf_slide la_heights la_ladders la_minutes la_echoFrom la_echoTo la_homes la_talls la_known sf_facts sa_heard sa_huts sa_minutes H) (wpA qp ql qs)) args s 0 0 (wpA qp ql qs)) (F0 m 20 ls []))
    (hl : lv_has ls 6 [(0, .ref qp), (1, .ref (qp + 1)), (2, .int x2), (3, .int x3), (4, .int x4), (5, .int x5)])
    (hw : q_wp_X7_coverBy_1_54 P3 P20 a_heard a_cover x2 x3 x4 x5 post) :
    W p l e rm_wp_X7_coverBy_1 s m args below meth c H locs 0 0 (MQ below (zQv (S := (Nat → Int32)) (fun u => post u) (fun u H => wpW E qp ql qs a_heard a_walked a_total a_longest a_next u a_now a_then lf_huts lf_singers lf_villages lf_dams lf_echoes lf_deep lf_slide la_heights la_ladders la_minutes la_echoFrom la_echoTo la_homes la_talls la_known sf_facts sa_heard sa_huts sa_minutes H) (wpA qp ql qs)) args s 0 0 (wpA qp ql qs)) (F0 m 54 ls []) := by
  have hx := zc.1
  have hb := zc.2.1
  obtain ⟨v_1, ev_1⟩ : ∃ y : Int32, y = x5 + (1 : Int32) := ⟨_, rfl⟩
  have hw := hw v_1 ev_1
  refine lv_iinc (v := v_1) (k := 5) (lv' := [(5, .int v_1), (0, .ref qp), (1, .ref (qp + 1)), (2, .int x2), (3, .int x3), (4, .int x4)]) hx hb dX7_coverBy_54 hl rfl (by rw [ev_1]; rfl) (by decide) rfl (fun ls hl => ?_)
  refine lv_goto (tgt := 20) hx hb dX7_coverBy_57 (by decide) ?_
  exact hP20 _ _ _ _ _ hw (lv_sub hl [1, 2, 3, 4, 5, 0] rfl) hM hS
set_option maxRecDepth 20000 in
theorem t_wp_X7_coverBy_1_20 {p : Program} {l : Launch} {e : Env} {s : State} {m : MethodId} {args : Array Value} {below : List Frame} {meth : Method} {c : Code} {E : zE} {qp ql qs : Nat} {a_heard : Nat → Int32} {a_walked : Nat → Int32} {a_total : Nat → Int32} {a_longest : Nat → Int32} {a_next : Nat → Int32} {a_cover : Nat → Int32} {a_now : Nat → Int32} {a_then : Nat → Int32} {lf_huts : Int32} {lf_singers : Int32} {lf_villages : Int32} {lf_dams : Int32} {lf_echoes : Int32} {lf_deep : Int32} {lf_slide : Int32} {la_heights : Nat → Int32} {la_ladders : Nat → Int32} {la_minutes : Nat → Int32} {la_echoFrom : Nat → Int32} {la_echoTo : Nat → Int32} {la_homes : Nat → Int32} {la_talls : Nat → Int32} {la_known : Nat → Int32} {sf_facts : Int32} {sa_heard : Nat → Int32} {sa_huts : Nat → Int32} {sa_minutes : Nat → Int32} {P3 : Int32 → (Nat → Int32) → Prop} {post : (Nat → Int32) → Prop} {x2 : Int32} {x3 : Int32} {x4 : Int32} {x5 : Int32} {ls : Array Slot} {H : Heap} {locs : List Loc}
    (zc : zC p s m args meth c cX7_coverBy 6 RX7 none)
    (hK : zK E s)
    (hM : wpW E qp ql qs a_heard a_walked a_total a_longest a_next a_cover a_now a_then lf_huts lf_singers lf_villages lf_dams lf_echoes lf_deep lf_slide la_heights la_ladders la_minutes la_echoFrom la_echoTo la_homes la_talls la_known sf_facts sa_heard sa_huts sa_minutes H)
    (hS : va_S (wpA qp ql qs) s.heap H locs)
    (hP3 : ∀ (x4 : Int32) (a_cover : Nat → Int32) (H : Heap) (locs : List Loc) (ls : Array Slot), P3 x4 a_cover → lv_has ls 6 [(0, .ref qp), (1, .ref (qp + 1)), (2, .int x2), (3, .int x3), (4, .int x4)] → wpW E qp ql qs a_heard a_walked a_total a_longest a_next a_cover a_now a_then lf_huts lf_singers lf_villages lf_dams lf_echoes lf_deep lf_slide la_heights la_ladders la_minutes la_echoFrom la_echoTo la_homes la_talls la_known sf_facts sa_heard sa_huts sa_minutes H → va_S (wpA qp ql qs) s.heap H locs → W p l e rm_wp_X7_coverBy_1 s m args below meth c H locs 0 0 (MQ below (zQv (S := (Nat → Int32)) (fun u => post u) (fun u H => wpW E qp ql qs a_heard a_walked a_total a_longest a_next u a_now a_then lf_huts lf_singers lf_villages lf_dams lf_echoes lf_deep lf_slide la_heights la_ladders la_minutes la_echoFrom la_echoTo la_homes la_talls la_known sf_facts sa_heard sa_huts sa_minutes H) (wpA qp ql qs)) args s 0 0 (wpA qp ql qs)) (F0 m 3 ls []))
    (hl : lv_has ls 6 [(0, .ref qp), (1, .ref (qp + 1)), (2, .int x2), (3, .int x3), (4, .int x4), (5, .int x5)])
    (hw : q_wp_X7_coverBy_1_20 P3 a_heard a_cover x2 x3 x4 x5 post) :
    W p l e rm_wp_X7_coverBy_1 s m args below meth c H locs 0 0 (MQ below (zQv (S := (Nat → Int32)) (fun u => post u) (fun u H => wpW E qp ql qs a_heard a_walked a_total a_longest a_next u a_now a_then lf_huts lf_singers lf_villages lf_dams lf_echoes lf_deep lf_slide la_heights la_ladders la_minutes la_echoFrom la_echoTo la_homes la_talls la_known sf_facts sa_heard sa_huts sa_minutes H) (wpA qp ql qs)) args s 0 0 (wpA qp ql qs)) (F0 m 20 ls []) := by
  have hx := zc.1
  have hb := zc.2.1
  refine hw (fun x5 a_cover => ∀ (H : Heap) (locs : List Loc) (ls : Array Slot), lv_has ls 6 [(0, .ref qp), (1, .ref (qp + 1)), (2, .int x2), (3, .int x3), (4, .int x4), (5, .int x5)] → wpW E qp ql qs a_heard a_walked a_total a_longest a_next a_cover a_now a_then lf_huts lf_singers lf_villages lf_dams lf_echoes lf_deep lf_slide la_heights la_ladders la_minutes la_echoFrom la_echoTo la_homes la_talls la_known sf_facts sa_heard sa_huts sa_minutes H → va_S (wpA qp ql qs) s.heap H locs → W p l e rm_wp_X7_coverBy_1 s m args below meth c H locs 0 0 (MQ below (zQv (S := (Nat → Int32)) (fun u => post u) (fun u H => wpW E qp ql qs a_heard a_walked a_total a_longest a_next u a_now a_then lf_huts lf_singers lf_villages lf_dams lf_echoes lf_deep lf_slide la_heights la_ladders la_minutes la_echoFrom la_echoTo la_homes la_talls la_known sf_facts sa_heard sa_huts sa_minutes H) (wpA qp ql qs)) args s 0 0 (wpA qp ql qs)) (F0 m 20 ls [])) ?_ _ _ _ hl hM hS
  intro x5 a_cover hw H locs ls hl hM hS
  refine lv_iload hx hb dX7_coverBy_20 (lv_at hl 5 rfl) ?_
  refine lv_iload_n hx hb dX7_coverBy_22 rfl (lv_at hl 2 rfl) ?_
  refine lv_icmp_ge (tgt := 60) hx hb dX7_coverBy_23 (by decide) (fun hc => ?_) (fun hc => ?_)
  · have hw := hw.1 hc
    obtain ⟨v_1, ev_1⟩ : ∃ y : Int32, y = x4 + (1 : Int32) := ⟨_, rfl⟩
    have hw := hw v_1 ev_1
    refine lv_iinc (v := v_1) (k := 4) (lv' := [(4, .int v_1), (0, .ref qp), (1, .ref (qp + 1)), (2, .int x2), (3, .int x3), (5, .int x5)]) hx hb dX7_coverBy_60 hl rfl (by rw [ev_1]; rfl) (by decide) rfl (fun ls hl => ?_)
    refine lv_goto (tgt := 3) hx hb dX7_coverBy_63 (by decide) ?_
    exact hP3 _ _ _ _ _ hw (lv_sub hl [1, 2, 3, 4, 0] rfl) hM hS
  · have hw := hw.2 hc
    refine lv_aload_n hx hb dX7_coverBy_26 rfl (lv_at hl 1 rfl) ?_
    refine lv_iload hx hb dX7_coverBy_27 (lv_at hl 4 rfl) ?_
    refine lv_bipush (v := (9 : Int32)) hx hb dX7_coverBy_29 (by decide) ?_
    refine lv_imul hx hb dX7_coverBy_31 ?_
    refine lv_iload hx hb dX7_coverBy_32 (lv_at hl 5 rfl) ?_
    refine lv_iadd hx hb dX7_coverBy_34 ?_
    refine wpld_1 zc hK hM hw.1 dX7_coverBy_35 ?_
    have hw := hw.2
    refine lv_iload_n hx hb dX7_coverBy_36 rfl (lv_at hl 3 rfl) ?_
    refine lv_icmp_gt (tgt := 54) hx hb dX7_coverBy_37 (by decide) (fun hc => ?_) (fun hc => ?_)
    · have hw := hw.1 hc
      exact t_wp_X7_coverBy_1_54 zc hK hM hS hP3 (fun _ _ H locs ls h hl hM hS => h H locs ls hl hM hS) (lv_sub hl [0, 1, 2, 3, 4, 5] rfl) hw
    · have hw := hw.2 hc
      refine lv_aload_n hx hb dX7_coverBy_40 rfl (lv_at hl 0 rfl) ?_
      refine wpg_7_27_0 zc hK hM dX7_coverBy_41 ?_
      refine lv_iload hx hb dX7_coverBy_44 (lv_at hl 4 rfl) ?_
      refine lv_dup2_11 hx hb dX7_coverBy_46 rfl rfl ?_
      refine wpld_6 zc hK hM hw.1 dX7_coverBy_47 ?_
      have hw := hw.2
      refine lv_iconst (v := (1 : Int32)) hx hb dX7_coverBy_48 (by decide) ?_
      refine lv_iload hx hb dX7_coverBy_49 (lv_at hl 5 rfl) ?_
      refine lv_ishl hx hb dX7_coverBy_51 ?_
      refine lv_ior hx hb dX7_coverBy_52 ?_
      refine lv_topi (fun v_2 ev_2 => ?_)
      have hw := hw v_2 ev_2
      refine wpst_6 zc hK hM hS hw.1 dX7_coverBy_53 (fun a_cover_1 H locs ea_cover_1 hM hS => ?_)
      have hw := hw.2 a_cover_1 ea_cover_1
      exact t_wp_X7_coverBy_1_54 zc hK hM hS hP3 (fun _ _ H locs ls h hl hM hS => h H locs ls hl hM hS) (lv_sub hl [0, 1, 2, 3, 4, 5] rfl) hw
set_option maxRecDepth 20000 in
theorem t_wp_X7_coverBy_1_3 {p : Program} {l : Launch} {e : Env} {s : State} {m : MethodId} {args : Array Value} {below : List Frame} {meth : Method} {c : Code} {E : zE} {qp ql qs : Nat} {a_heard : Nat → Int32} {a_walked : Nat → Int32} {a_total : Nat → Int32} {a_longest : Nat → Int32} {a_next : Nat → Int32} {a_cover : Nat → Int32} {a_now : Nat → Int32} {a_then : Nat → Int32} {lf_huts : Int32} {lf_singers : Int32} {lf_villages : Int32} {lf_dams : Int32} {lf_echoes : Int32} {lf_deep : Int32} {lf_slide : Int32} {la_heights : Nat → Int32} {la_ladders : Nat → Int32} {la_minutes : Nat → Int32} {la_echoFrom : Nat → Int32} {la_echoTo : Nat → Int32} {la_homes : Nat → Int32} {la_talls : Nat → Int32} {la_known : Nat → Int32} {sf_facts : Int32} {sa_heard : Nat → Int32} {sa_huts : Nat → Int32} {sa_minutes : Nat → Int32} {post : (Nat → Int32) → Prop} {x2 : Int32} {x3 : Int32} {x4 : Int32} {ls : Array Slot} {H : Heap} {locs : List Loc}
    (zc : zC p s m args meth c cX7_coverBy 6 RX7 none)
    (hK : zK E s)
    (hM : wpW E qp ql qs a_heard a_walked a_total a_longest a_next a_cover a_now a_then lf_huts lf_singers lf_villages lf_dams lf_echoes lf_deep lf_slide la_heights la_ladders la_minutes la_echoFrom la_echoTo la_homes la_talls la_known sf_facts sa_heard sa_huts sa_minutes H)
    (hS : va_S (wpA qp ql qs) s.heap H locs)
    (hl : lv_has ls 6 [(0, .ref qp), (1, .ref (qp + 1)), (2, .int x2), (3, .int x3), (4, .int x4)])
    (hw : q_wp_X7_coverBy_1_3 a_heard a_cover x2 x3 x4 post) :
    W p l e rm_wp_X7_coverBy_1 s m args below meth c H locs 0 0 (MQ below (zQv (S := (Nat → Int32)) (fun u => post u) (fun u H => wpW E qp ql qs a_heard a_walked a_total a_longest a_next u a_now a_then lf_huts lf_singers lf_villages lf_dams lf_echoes lf_deep lf_slide la_heights la_ladders la_minutes la_echoFrom la_echoTo la_homes la_talls la_known sf_facts sa_heard sa_huts sa_minutes H) (wpA qp ql qs)) args s 0 0 (wpA qp ql qs)) (F0 m 3 ls []) := by
  have hx := zc.1
  have hb := zc.2.1
  refine hw (fun x4 a_cover => ∀ (H : Heap) (locs : List Loc) (ls : Array Slot), lv_has ls 6 [(0, .ref qp), (1, .ref (qp + 1)), (2, .int x2), (3, .int x3), (4, .int x4)] → wpW E qp ql qs a_heard a_walked a_total a_longest a_next a_cover a_now a_then lf_huts lf_singers lf_villages lf_dams lf_echoes lf_deep lf_slide la_heights la_ladders la_minutes la_echoFrom la_echoTo la_homes la_talls la_known sf_facts sa_heard sa_huts sa_minutes H → va_S (wpA qp ql qs) s.heap H locs → W p l e rm_wp_X7_coverBy_1 s m args below meth c H locs 0 0 (MQ below (zQv (S := (Nat → Int32)) (fun u => post u) (fun u H => wpW E qp ql qs a_heard a_walked a_total a_longest a_next u a_now a_then lf_huts lf_singers lf_villages lf_dams lf_echoes lf_deep lf_slide la_heights la_ladders la_minutes la_echoFrom la_echoTo la_homes la_talls la_known sf_facts sa_heard sa_huts sa_minutes H) (wpA qp ql qs)) args s 0 0 (wpA qp ql qs)) (F0 m 3 ls [])) ?_ _ _ _ hl hM hS
  intro x4 a_cover hw H locs ls hl hM hS
  refine lv_iload hx hb dX7_coverBy_3 (lv_at hl 4 rfl) ?_
  refine lv_iload_n hx hb dX7_coverBy_5 rfl (lv_at hl 2 rfl) ?_
  refine lv_icmp_ge (tgt := 66) hx hb dX7_coverBy_6 (by decide) (fun hc => ?_) (fun hc => ?_)
  · have hw := hw.1 hc
    exact zret_vw a_cover zc hS hw hM dX7_coverBy_66
  · have hw := hw.2 hc
    refine lv_aload_n hx hb dX7_coverBy_9 rfl (lv_at hl 0 rfl) ?_
    refine wpg_7_27_0 zc hK hM dX7_coverBy_10 ?_
    refine lv_iload hx hb dX7_coverBy_13 (lv_at hl 4 rfl) ?_
    refine lv_iconst (v := (0 : Int32)) hx hb dX7_coverBy_15 (by decide) ?_
    refine wpst_6 zc hK hM hS hw.1 dX7_coverBy_16 (fun a_cover_1 H locs ea_cover_1 hM hS => ?_)
    have hw := hw.2 a_cover_1 ea_cover_1
    refine lv_iconst (v := (0 : Int32)) hx hb dX7_coverBy_17 (by decide) ?_
    refine lv_istore (lv' := [(5, .int (0 : Int32)), (0, .ref qp), (1, .ref (qp + 1)), (2, .int x2), (3, .int x3), (4, .int x4)]) hx hb dX7_coverBy_18 hl (by decide) rfl (fun ls hl => ?_)
    exact t_wp_X7_coverBy_1_20 zc hK hM hS (fun _ _ H locs ls h hl hM hS => h H locs ls hl hM hS) (lv_sub hl [1, 2, 3, 4, 5, 0] rfl) hw
set_option maxRecDepth 20000 in
theorem t_wp_X7_coverBy_1_0 {p : Program} {l : Launch} {e : Env} {s : State} {m : MethodId} {args : Array Value} {below : List Frame} {meth : Method} {c : Code} {E : zE} {qp ql qs : Nat} {a_heard : Nat → Int32} {a_walked : Nat → Int32} {a_total : Nat → Int32} {a_longest : Nat → Int32} {a_next : Nat → Int32} {a_cover : Nat → Int32} {a_now : Nat → Int32} {a_then : Nat → Int32} {lf_huts : Int32} {lf_singers : Int32} {lf_villages : Int32} {lf_dams : Int32} {lf_echoes : Int32} {lf_deep : Int32} {lf_slide : Int32} {la_heights : Nat → Int32} {la_ladders : Nat → Int32} {la_minutes : Nat → Int32} {la_echoFrom : Nat → Int32} {la_echoTo : Nat → Int32} {la_homes : Nat → Int32} {la_talls : Nat → Int32} {la_known : Nat → Int32} {sf_facts : Int32} {sa_heard : Nat → Int32} {sa_huts : Nat → Int32} {sa_minutes : Nat → Int32} {post : (Nat → Int32) → Prop} {x2 : Int32} {x3 : Int32} {ls : Array Slot} {H : Heap} {locs : List Loc}
    (zc : zC p s m args meth c cX7_coverBy 6 RX7 none)
    (hK : zK E s)
    (hM : wpW E qp ql qs a_heard a_walked a_total a_longest a_next a_cover a_now a_then lf_huts lf_singers lf_villages lf_dams lf_echoes lf_deep lf_slide la_heights la_ladders la_minutes la_echoFrom la_echoTo la_homes la_talls la_known sf_facts sa_heard sa_huts sa_minutes H)
    (hS : va_S (wpA qp ql qs) s.heap H locs)
    (hl : lv_has ls 6 [(0, .ref qp), (1, .ref (qp + 1)), (2, .int x2), (3, .int x3)])
    (hw : q_wp_X7_coverBy_1_0 a_heard a_cover x2 x3 post) :
    W p l e rm_wp_X7_coverBy_1 s m args below meth c H locs 0 0 (MQ below (zQv (S := (Nat → Int32)) (fun u => post u) (fun u H => wpW E qp ql qs a_heard a_walked a_total a_longest a_next u a_now a_then lf_huts lf_singers lf_villages lf_dams lf_echoes lf_deep lf_slide la_heights la_ladders la_minutes la_echoFrom la_echoTo la_homes la_talls la_known sf_facts sa_heard sa_huts sa_minutes H) (wpA qp ql qs)) args s 0 0 (wpA qp ql qs)) (F0 m 0 ls []) := by
  have hx := zc.1
  have hb := zc.2.1
  refine lv_iconst (v := (0 : Int32)) hx hb dX7_coverBy_0 (by decide) ?_
  refine lv_istore (lv' := [(4, .int (0 : Int32)), (0, .ref qp), (1, .ref (qp + 1)), (2, .int x2), (3, .int x3)]) hx hb dX7_coverBy_1 hl (by decide) rfl (fun ls hl => ?_)
  exact t_wp_X7_coverBy_1_3 zc hK hM hS  (lv_sub hl [1, 2, 3, 4, 0] rfl) hw
set_option maxRecDepth 20000 in
theorem c_wp_X7_coverBy_1 (l : Launch) {E : zE} {qp ql qs : Nat} {a_heard : Nat → Int32} {a_walked : Nat → Int32} {a_total : Nat → Int32} {a_longest : Nat → Int32} {a_next : Nat → Int32} {a_cover : Nat → Int32} {a_now : Nat → Int32} {a_then : Nat → Int32} {lf_huts : Int32} {lf_singers : Int32} {lf_villages : Int32} {lf_dams : Int32} {lf_echoes : Int32} {lf_deep : Int32} {lf_slide : Int32} {la_heights : Nat → Int32} {la_ladders : Nat → Int32} {la_minutes : Nat → Int32} {la_echoFrom : Nat → Int32} {la_echoTo : Nat → Int32} {la_homes : Nat → Int32} {la_talls : Nat → Int32} {la_known : Nat → Int32} {sf_facts : Int32} {sa_heard : Nat → Int32} {sa_huts : Nat → Int32} {sa_minutes : Nat → Int32} {x2 : Int32} {x3 : Int32} {post : (Nat → Int32) → Prop} (hw : q_wp_X7_coverBy_1_0 a_heard a_cover x2 x3 post) : Met l yX7_coverBy (Cond.code yX7_coverBy cX7_coverBy 6 none :: zb) rm_wp_X7_coverBy_1 (va_Pc [.ref qp, .ref (qp + 1), .int x2, .int x3] (fun U => wpW E qp ql qs a_heard a_walked a_total a_longest a_next a_cover a_now a_then lf_huts lf_singers lf_villages lf_dams lf_echoes lf_deep lf_slide la_heights la_ladders la_minutes la_echoFrom la_echoTo la_homes la_talls la_known sf_facts sa_heard sa_huts sa_minutes U.heap ∧ zK E U)) (zQv (S := (Nat → Int32)) (fun u => post u) (fun u H => wpW E qp ql qs a_heard a_walked a_total a_longest a_next u a_now a_then lf_huts lf_singers lf_villages lf_dams lf_echoes lf_deep lf_slide la_heights la_ladders la_minutes la_echoFrom la_echoTo la_homes la_talls la_known sf_facts sa_heard sa_huts sa_minutes H) (wpA qp ql qs)) 0 0 (wpA qp ql qs) := by
  refine Met.ofW (cc := cX7_coverBy) (maxL := 6) (ret := none) (by decide) rfl ?_
  intro p e s m args below meth c s₁ B hml hv
  obtain ⟨rfl, hM, hK⟩ := hv
  have zc := zc_of B hml
  have hl := lv_entry ([.ref qp, .ref (qp + 1), .int x2, .int x3]) (n := 6) (Nat.le_of_ble_eq_true rfl)
  rw [lg_entry_eq]
  generalize (lg_sl ([.ref qp, .ref (qp + 1), .int x2, .int x3]) ++ List.replicate (6 - (lg_sl ([.ref qp, .ref (qp + 1), .int x2, .int x3])).length) Slot.unset).toArray = ls at hl ⊢
  have hl : lv_has ls 6 [(0, .ref qp), (1, .ref (qp + 1)), (2, .int x2), (3, .int x3)] := hl
  exact t_wp_X7_coverBy_1_0 zc hK hM va_S.rf (lv_sub hl [0, 1, 2, 3] rfl) hw
-- wp_X7_covered
abbrev rm_wp_X7_covered : Room := { frames := 1, cells := 0, slots := 0, locals := 21 }
def q_wp_X7_covered_30 (P5 : Int32 → Int32 → Prop) (a_cover : Nat → Int32) (x1 : Int32) (x2 : Int32) (x3 : Int32) (x4 : Int32) (post : Int32 → Prop) : Prop :=
  ∀ v_1 : Int32, v_1 = x4 + (1 : Int32) → (P5 x3 v_1)
def q_wp_X7_covered_5 (a_cover : Nat → Int32) (x1 : Int32) (x2 : Int32) (x3 : Int32) (x4 : Int32) (post : Int32 → Prop) : Prop :=
  ∀ P5 : Int32 → Int32 → Prop, (∀ (x3 : Int32) (x4 : Int32), ((x2 ≤ x4 → (post x3)) ∧ (¬ x2 ≤ x4 → (q_z_X10_has_0 x1 x4 (fun r_1 => (r_1 = 0 → (q_wp_X7_covered_30 P5 a_cover x1 x2 x3 x4 post)) ∧ (¬ r_1 = 0 → (vp_in x4 9 ∧ (∀ v_1 : Int32, v_1 = (x3 ||| (a_cover (Int32.toNatClampNeg x4))) → (q_wp_X7_covered_30 P5 a_cover x1 x2 v_1 x4 post)))))))) → P5 x3 x4) → P5 x3 x4
def q_wp_X7_covered_0 (a_cover : Nat → Int32) (x1 : Int32) (x2 : Int32) (post : Int32 → Prop) : Prop :=
  q_wp_X7_covered_5 a_cover x1 x2 (0 : Int32) (0 : Int32) post
set_option maxRecDepth 20000 in
theorem t_wp_X7_covered_30 {p : Program} {l : Launch} {e : Env} {s : State} {m : MethodId} {args : Array Value} {below : List Frame} {meth : Method} {c : Code} {E : zE} {qp ql qs : Nat} {a_heard : Nat → Int32} {a_walked : Nat → Int32} {a_total : Nat → Int32} {a_longest : Nat → Int32} {a_next : Nat → Int32} {a_cover : Nat → Int32} {a_now : Nat → Int32} {a_then : Nat → Int32} {lf_huts : Int32} {lf_singers : Int32} {lf_villages : Int32} {lf_dams : Int32} {lf_echoes : Int32} {lf_deep : Int32} {lf_slide : Int32} {la_heights : Nat → Int32} {la_ladders : Nat → Int32} {la_minutes : Nat → Int32} {la_echoFrom : Nat → Int32} {la_echoTo : Nat → Int32} {la_homes : Nat → Int32} {la_talls : Nat → Int32} {la_known : Nat → Int32} {sf_facts : Int32} {sa_heard : Nat → Int32} {sa_huts : Nat → Int32} {sa_minutes : Nat → Int32} {P5 : Int32 → Int32 → Prop} {post : Int32 → Prop} {x1 : Int32} {x2 : Int32} {x3 : Int32} {x4 : Int32} {ls : Array Slot}
    (zc : zC p s m args meth c cX7_covered 5 RX7 (some .int))
    (hK : zK E s)
    (hM : wpW E qp ql qs a_heard a_walked a_total a_longest a_next a_cover a_now a_then lf_huts lf_singers lf_villages lf_dams lf_echoes lf_deep lf_slide la_heights la_ladders la_minutes la_echoFrom la_echoTo la_homes la_talls la_known sf_facts sa_heard sa_huts sa_minutes s.heap)
    (hP5 : ∀ (x3 : Int32) (x4 : Int32) (ls : Array Slot), P5 x3 x4 → lv_has ls 5 [(0, .ref qp), (1, .int x1), (2, .int x2), (3, .int x3), (4, .int x4)] → W p l e rm_wp_X7_covered s m args below meth c s.heap [] 0 0 (MQ below (vp_Si post) args s 0 0 (fun _ => False)) (F0 m 5 ls []))
    (hl : lv_has ls 5 [(0, .ref qp), (1, .int x1), (2, .int x2), (3, .int x3), (4, .int x4)])
    (hw : q_wp_X7_covered_30 P5 a_cover x1 x2 x3 x4 post) :
    W p l e rm_wp_X7_covered s m args below meth c s.heap [] 0 0 (MQ below (vp_Si post) args s 0 0 (fun _ => False)) (F0 m 30 ls []) := by
  have hx := zc.1
  have hb := zc.2.1
  obtain ⟨v_1, ev_1⟩ : ∃ y : Int32, y = x4 + (1 : Int32) := ⟨_, rfl⟩
  have hw := hw v_1 ev_1
  refine lv_iinc (v := v_1) (k := 4) (lv' := [(4, .int v_1), (0, .ref qp), (1, .int x1), (2, .int x2), (3, .int x3)]) hx hb dX7_covered_30 hl rfl (by rw [ev_1]; rfl) (by decide) rfl (fun ls hl => ?_)
  refine lv_goto (tgt := 5) hx hb dX7_covered_33 (by decide) ?_
  exact hP5 _ _ _ hw (lv_sub hl [1, 2, 3, 4, 0] rfl)
set_option maxRecDepth 20000 in
theorem t_wp_X7_covered_5 {p : Program} {l : Launch} {e : Env} {s : State} {m : MethodId} {args : Array Value} {below : List Frame} {meth : Method} {c : Code} {E : zE} {qp ql qs : Nat} {a_heard : Nat → Int32} {a_walked : Nat → Int32} {a_total : Nat → Int32} {a_longest : Nat → Int32} {a_next : Nat → Int32} {a_cover : Nat → Int32} {a_now : Nat → Int32} {a_then : Nat → Int32} {lf_huts : Int32} {lf_singers : Int32} {lf_villages : Int32} {lf_dams : Int32} {lf_echoes : Int32} {lf_deep : Int32} {lf_slide : Int32} {la_heights : Nat → Int32} {la_ladders : Nat → Int32} {la_minutes : Nat → Int32} {la_echoFrom : Nat → Int32} {la_echoTo : Nat → Int32} {la_homes : Nat → Int32} {la_talls : Nat → Int32} {la_known : Nat → Int32} {sf_facts : Int32} {sa_heard : Nat → Int32} {sa_huts : Nat → Int32} {sa_minutes : Nat → Int32} {post : Int32 → Prop} {x1 : Int32} {x2 : Int32} {x3 : Int32} {x4 : Int32} {ls : Array Slot}
    (zc : zC p s m args meth c cX7_covered 5 RX7 (some .int))
    (hK : zK E s)
    (hM : wpW E qp ql qs a_heard a_walked a_total a_longest a_next a_cover a_now a_then lf_huts lf_singers lf_villages lf_dams lf_echoes lf_deep lf_slide la_heights la_ladders la_minutes la_echoFrom la_echoTo la_homes la_talls la_known sf_facts sa_heard sa_huts sa_minutes s.heap)
    (hl : lv_has ls 5 [(0, .ref qp), (1, .int x1), (2, .int x2), (3, .int x3), (4, .int x4)])
    (hw : q_wp_X7_covered_5 a_cover x1 x2 x3 x4 post) :
    W p l e rm_wp_X7_covered s m args below meth c s.heap [] 0 0 (MQ below (vp_Si post) args s 0 0 (fun _ => False)) (F0 m 5 ls []) := by
  have hx := zc.1
  have hb := zc.2.1
  refine hw (fun x3 x4 => ∀ (ls : Array Slot), lv_has ls 5 [(0, .ref qp), (1, .int x1), (2, .int x2), (3, .int x3), (4, .int x4)] → W p l e rm_wp_X7_covered s m args below meth c s.heap [] 0 0 (MQ below (vp_Si post) args s 0 0 (fun _ => False)) (F0 m 5 ls [])) ?_ _ hl
  intro x3 x4 hw ls hl
  refine lv_iload hx hb dX7_covered_5 (lv_at hl 4 rfl) ?_
  refine lv_iload_n hx hb dX7_covered_7 rfl (lv_at hl 2 rfl) ?_
  refine lv_icmp_ge (tgt := 36) hx hb dX7_covered_8 (by decide) (fun hc => ?_) (fun hc => ?_)
  · have hw := hw.1 hc
    refine lv_iload_n hx hb dX7_covered_36 rfl (lv_at hl 3 rfl) ?_
    exact zret_i zc hw dX7_covered_37
  · have hw := hw.2 hc
    refine lv_iload_n hx hb dX7_covered_11 rfl (lv_at hl 1 rfl) ?_
    refine lv_iload hx hb dX7_covered_12 (lv_at hl 4 rfl) ?_
    refine zSN_i [.int x1, .int x4] [] zc ky_X10_has kz_X10_has (hK.2 _ kn_7_70) (c_z_X10_has l hw) (zPre0 _) rfl rfl hl.1 (Nat.le_of_ble_eq_true rfl) ⟨rfl, rfl⟩ ⟨Nat.le_of_ble_eq_true rfl, Nat.le_of_ble_eq_true rfl⟩ ⟨(Nat.zero_le _), (Nat.zero_le _)⟩ dX7_covered_14 (fun r_1 hw => ?_)
    refine lv_if_eq (tgt := 30) hx hb dX7_covered_17 (by decide) (fun hc => ?_) (fun hc => ?_)
    · have hw := hw.1 hc
      exact t_wp_X7_covered_30 zc hK hM (fun _ _ ls h hl => h ls hl) (lv_sub hl [0, 1, 2, 3, 4] rfl) hw
    · have hw := hw.2 hc
      refine lv_iload_n hx hb dX7_covered_20 rfl (lv_at hl 3 rfl) ?_
      refine lv_aload_n hx hb dX7_covered_21 rfl (lv_at hl 0 rfl) ?_
      refine wpg_7_27_0 zc hK hM dX7_covered_22 ?_
      refine lv_iload hx hb dX7_covered_25 (lv_at hl 4 rfl) ?_
      refine wpld_6 zc hK hM hw.1 dX7_covered_27 ?_
      have hw := hw.2
      refine lv_ior hx hb dX7_covered_28 ?_
      refine lv_topi (fun v_1 ev_1 => ?_)
      have hw := hw v_1 ev_1
      refine lv_istore_n (lv' := [(3, .int v_1), (0, .ref qp), (1, .int x1), (2, .int x2), (4, .int x4)]) hx hb dX7_covered_29 rfl hl (by decide) rfl (fun ls hl => ?_)
      exact t_wp_X7_covered_30 zc hK hM (fun _ _ ls h hl => h ls hl) (lv_sub hl [1, 2, 3, 0, 4] rfl) hw
set_option maxRecDepth 20000 in
theorem t_wp_X7_covered_0 {p : Program} {l : Launch} {e : Env} {s : State} {m : MethodId} {args : Array Value} {below : List Frame} {meth : Method} {c : Code} {E : zE} {qp ql qs : Nat} {a_heard : Nat → Int32} {a_walked : Nat → Int32} {a_total : Nat → Int32} {a_longest : Nat → Int32} {a_next : Nat → Int32} {a_cover : Nat → Int32} {a_now : Nat → Int32} {a_then : Nat → Int32} {lf_huts : Int32} {lf_singers : Int32} {lf_villages : Int32} {lf_dams : Int32} {lf_echoes : Int32} {lf_deep : Int32} {lf_slide : Int32} {la_heights : Nat → Int32} {la_ladders : Nat → Int32} {la_minutes : Nat → Int32} {la_echoFrom : Nat → Int32} {la_echoTo : Nat → Int32} {la_homes : Nat → Int32} {la_talls : Nat → Int32} {la_known : Nat → Int32} {sf_facts : Int32} {sa_heard : Nat → Int32} {sa_huts : Nat → Int32} {sa_minutes : Nat → Int32} {post : Int32 → Prop} {x1 : Int32} {x2 : Int32} {ls : Array Slot}
    (zc : zC p s m args meth c cX7_covered 5 RX7 (some .int))
    (hK : zK E s)
    (hM : wpW E qp ql qs a_heard a_walked a_total a_longest a_next a_cover a_now a_then lf_huts lf_singers lf_villages lf_dams lf_echoes lf_deep lf_slide la_heights la_ladders la_minutes la_echoFrom la_echoTo la_homes la_talls la_known sf_facts sa_heard sa_huts sa_minutes s.heap)
    (hl : lv_has ls 5 [(0, .ref qp), (1, .int x1), (2, .int x2)])
    (hw : q_wp_X7_covered_0 a_cover x1 x2 post) :
    W p l e rm_wp_X7_covered s m args below meth c s.heap [] 0 0 (MQ below (vp_Si post) args s 0 0 (fun _ => False)) (F0 m 0 ls []) := by
  have hx := zc.1
  have hb := zc.2.1
  refine lv_iconst (v := (0 : Int32)) hx hb dX7_covered_0 (by decide) ?_
  refine lv_istore_n (lv' := [(3, .int (0 : Int32)), (0, .ref qp), (1, .int x1), (2, .int x2)]) hx hb dX7_covered_1 rfl hl (by decide) rfl (fun ls hl => ?_)
  refine lv_iconst (v := (0 : Int32)) hx hb dX7_covered_2 (by decide) ?_
  refine lv_istore (lv' := [(4, .int (0 : Int32)), (3, .int (0 : Int32)), (0, .ref qp), (1, .int x1), (2, .int x2)]) hx hb dX7_covered_3 hl (by decide) rfl (fun ls hl => ?_)
  exact t_wp_X7_covered_5 zc hK hM  (lv_sub hl [2, 3, 4, 1, 0] rfl) hw
set_option maxRecDepth 20000 in
theorem c_wp_X7_covered (l : Launch) {E : zE} {qp ql qs : Nat} {a_heard : Nat → Int32} {a_walked : Nat → Int32} {a_total : Nat → Int32} {a_longest : Nat → Int32} {a_next : Nat → Int32} {a_cover : Nat → Int32} {a_now : Nat → Int32} {a_then : Nat → Int32} {lf_huts : Int32} {lf_singers : Int32} {lf_villages : Int32} {lf_dams : Int32} {lf_echoes : Int32} {lf_deep : Int32} {lf_slide : Int32} {la_heights : Nat → Int32} {la_ladders : Nat → Int32} {la_minutes : Nat → Int32} {la_echoFrom : Nat → Int32} {la_echoTo : Nat → Int32} {la_homes : Nat → Int32} {la_talls : Nat → Int32} {la_known : Nat → Int32} {sf_facts : Int32} {sa_heard : Nat → Int32} {sa_huts : Nat → Int32} {sa_minutes : Nat → Int32} {x1 : Int32} {x2 : Int32} {post : Int32 → Prop} (hw : q_wp_X7_covered_0 a_cover x1 x2 post) : Met l yX7_covered (Cond.code yX7_covered cX7_covered 5 (some .int) :: zb) rm_wp_X7_covered (va_Pc [.ref qp, .int x1, .int x2] (fun U => wpW E qp ql qs a_heard a_walked a_total a_longest a_next a_cover a_now a_then lf_huts lf_singers lf_villages lf_dams lf_echoes lf_deep lf_slide la_heights la_ladders la_minutes la_echoFrom la_echoTo la_homes la_talls la_known sf_facts sa_heard sa_huts sa_minutes U.heap ∧ zK E U)) (vp_Si post) 0 0 (fun _ => False) := by
  refine Met.ofW (cc := cX7_covered) (maxL := 5) (ret := (some .int)) (by decide) rfl ?_
  intro p e s m args below meth c s₁ B hml hv
  obtain ⟨rfl, hM, hK⟩ := hv
  have zc := zc_of B hml
  have hl := lv_entry ([.ref qp, .int x1, .int x2]) (n := 5) (Nat.le_of_ble_eq_true rfl)
  rw [lg_entry_eq]
  generalize (lg_sl ([.ref qp, .int x1, .int x2]) ++ List.replicate (5 - (lg_sl ([.ref qp, .int x1, .int x2])).length) Slot.unset).toArray = ls at hl ⊢
  have hl : lv_has ls 5 [(0, .ref qp), (1, .int x1), (2, .int x2)] := hl
  exact t_wp_X7_covered_0 zc hK hM (lv_sub hl [0, 1, 2] rfl) hw
-- wp_X7_fewestCovering
abbrev rm_wp_X7_fewestCovering : Room := { frames := 2, cells := 0, slots := 0, locals := 45 }
def q_wp_X7_fewestCovering_52 (P10 : Int32 → Int32 → Int32 → Prop) (a_cover : Nat → Int32) (x1 : Int32) (x2 : Int32) (x3 : Int32) (x4 : Int32) (x5 : Int32) (post : Int32 → Prop) : Prop :=
  ∀ v_1 : Int32, v_1 = x5 + (1 : Int32) → (P10 x3 x4 v_1)
def q_wp_X7_fewestCovering_10 (a_cover : Nat → Int32) (x1 : Int32) (x2 : Int32) (x3 : Int32) (x4 : Int32) (x5 : Int32) (post : Int32 → Prop) : Prop :=
  ∀ P10 : Int32 → Int32 → Int32 → Prop, (∀ (x3 : Int32) (x4 : Int32) (x5 : Int32), ((((1 : Int32) <<< (x2 &&& 31)) ≤ x5 → (post x3)) ∧ (¬ ((1 : Int32) <<< (x2 &&& 31)) ≤ x5 → (q_z_J6_bitCount_0f7a4_0 x5 (fun r_1 => (x4 ≤ r_1 → (q_wp_X7_fewestCovering_52 P10 a_cover x1 x2 x3 x4 x5 post)) ∧ (¬ x4 ≤ r_1 → (q_wp_X7_covered_0 a_cover x5 x2 (fun r_2 => (¬ (x1 &&& (r_2 ^^^ (-1 : Int32))) = 0 → (q_wp_X7_fewestCovering_52 P10 a_cover x1 x2 x3 x4 x5 post)) ∧ ((x1 &&& (r_2 ^^^ (-1 : Int32))) = 0 → (q_z_J6_bitCount_0f7a4_0 x5 (fun r_3 => q_wp_X7_fewestCovering_52 P10 a_cover x1 x2 x5 r_3 x5 post)))))))))) → P10 x3 x4 x5) → P10 x3 x4 x5
def q_wp_X7_fewestCovering_0 (a_cover : Nat → Int32) (x1 : Int32) (x2 : Int32) (post : Int32 → Prop) : Prop :=
  ∀ v_1 : Int32, v_1 = (x2 + (1 : Int32)) → (q_wp_X7_fewestCovering_10 a_cover x1 x2 (-1 : Int32) v_1 (0 : Int32) post)
set_option maxRecDepth 20000 in
theorem t_wp_X7_fewestCovering_52 {p : Program} {l : Launch} {e : Env} {s : State} {m : MethodId} {args : Array Value} {below : List Frame} {meth : Method} {c : Code} {E : zE} {qp ql qs : Nat} {a_heard : Nat → Int32} {a_walked : Nat → Int32} {a_total : Nat → Int32} {a_longest : Nat → Int32} {a_next : Nat → Int32} {a_cover : Nat → Int32} {a_now : Nat → Int32} {a_then : Nat → Int32} {lf_huts : Int32} {lf_singers : Int32} {lf_villages : Int32} {lf_dams : Int32} {lf_echoes : Int32} {lf_deep : Int32} {lf_slide : Int32} {la_heights : Nat → Int32} {la_ladders : Nat → Int32} {la_minutes : Nat → Int32} {la_echoFrom : Nat → Int32} {la_echoTo : Nat → Int32} {la_homes : Nat → Int32} {la_talls : Nat → Int32} {la_known : Nat → Int32} {sf_facts : Int32} {sa_heard : Nat → Int32} {sa_huts : Nat → Int32} {sa_minutes : Nat → Int32} {P10 : Int32 → Int32 → Int32 → Prop} {post : Int32 → Prop} {x1 : Int32} {x2 : Int32} {x3 : Int32} {x4 : Int32} {x5 : Int32} {ls : Array Slot}
    (zc : zC p s m args meth c cX7_fewestCovering 6 RX7 (some .int))
    (hK : zK E s)
    (hM : wpW E qp ql qs a_heard a_walked a_total a_longest a_next a_cover a_now a_then lf_huts lf_singers lf_villages lf_dams lf_echoes lf_deep lf_slide la_heights la_ladders la_minutes la_echoFrom la_echoTo la_homes la_talls la_known sf_facts sa_heard sa_huts sa_minutes s.heap)
    (hP10 : ∀ (x3 : Int32) (x4 : Int32) (x5 : Int32) (ls : Array Slot), P10 x3 x4 x5 → lv_has ls 6 [(0, .ref qp), (1, .int x1), (2, .int x2), (3, .int x3), (4, .int x4), (5, .int x5)] → W p l e rm_wp_X7_fewestCovering s m args below meth c s.heap [] 0 0 (MQ below (vp_Si post) args s 0 0 (fun _ => False)) (F0 m 10 ls []))
    (hl : lv_has ls 6 [(0, .ref qp), (1, .int x1), (2, .int x2), (3, .int x3), (4, .int x4), (5, .int x5)])
    (hw : q_wp_X7_fewestCovering_52 P10 a_cover x1 x2 x3 x4 x5 post) :
    W p l e rm_wp_X7_fewestCovering s m args below meth c s.heap [] 0 0 (MQ below (vp_Si post) args s 0 0 (fun _ => False)) (F0 m 52 ls []) := by
  have hx := zc.1
  have hb := zc.2.1
  obtain ⟨v_1, ev_1⟩ : ∃ y : Int32, y = x5 + (1 : Int32) := ⟨_, rfl⟩
  have hw := hw v_1 ev_1
  refine lv_iinc (v := v_1) (k := 5) (lv' := [(5, .int v_1), (0, .ref qp), (1, .int x1), (2, .int x2), (3, .int x3), (4, .int x4)]) hx hb dX7_fewestCovering_52 hl rfl (by rw [ev_1]; rfl) (by decide) rfl (fun ls hl => ?_)
  refine lv_goto (tgt := 10) hx hb dX7_fewestCovering_55 (by decide) ?_
  exact hP10 _ _ _ _ hw (lv_sub hl [1, 2, 3, 4, 5, 0] rfl)
set_option maxRecDepth 20000 in
theorem t_wp_X7_fewestCovering_10 {p : Program} {l : Launch} {e : Env} {s : State} {m : MethodId} {args : Array Value} {below : List Frame} {meth : Method} {c : Code} {E : zE} {qp ql qs : Nat} {a_heard : Nat → Int32} {a_walked : Nat → Int32} {a_total : Nat → Int32} {a_longest : Nat → Int32} {a_next : Nat → Int32} {a_cover : Nat → Int32} {a_now : Nat → Int32} {a_then : Nat → Int32} {lf_huts : Int32} {lf_singers : Int32} {lf_villages : Int32} {lf_dams : Int32} {lf_echoes : Int32} {lf_deep : Int32} {lf_slide : Int32} {la_heights : Nat → Int32} {la_ladders : Nat → Int32} {la_minutes : Nat → Int32} {la_echoFrom : Nat → Int32} {la_echoTo : Nat → Int32} {la_homes : Nat → Int32} {la_talls : Nat → Int32} {la_known : Nat → Int32} {sf_facts : Int32} {sa_heard : Nat → Int32} {sa_huts : Nat → Int32} {sa_minutes : Nat → Int32} {post : Int32 → Prop} {x1 : Int32} {x2 : Int32} {x3 : Int32} {x4 : Int32} {x5 : Int32} {ls : Array Slot}
    (zc : zC p s m args meth c cX7_fewestCovering 6 RX7 (some .int))
    (hK : zK E s)
    (hM : wpW E qp ql qs a_heard a_walked a_total a_longest a_next a_cover a_now a_then lf_huts lf_singers lf_villages lf_dams lf_echoes lf_deep lf_slide la_heights la_ladders la_minutes la_echoFrom la_echoTo la_homes la_talls la_known sf_facts sa_heard sa_huts sa_minutes s.heap)
    (hl : lv_has ls 6 [(0, .ref qp), (1, .int x1), (2, .int x2), (3, .int x3), (4, .int x4), (5, .int x5)])
    (hw : q_wp_X7_fewestCovering_10 a_cover x1 x2 x3 x4 x5 post) :
    W p l e rm_wp_X7_fewestCovering s m args below meth c s.heap [] 0 0 (MQ below (vp_Si post) args s 0 0 (fun _ => False)) (F0 m 10 ls []) := by
  have hx := zc.1
  have hb := zc.2.1
  refine hw (fun x3 x4 x5 => ∀ (ls : Array Slot), lv_has ls 6 [(0, .ref qp), (1, .int x1), (2, .int x2), (3, .int x3), (4, .int x4), (5, .int x5)] → W p l e rm_wp_X7_fewestCovering s m args below meth c s.heap [] 0 0 (MQ below (vp_Si post) args s 0 0 (fun _ => False)) (F0 m 10 ls [])) ?_ _ hl
  intro x3 x4 x5 hw ls hl
  refine lv_iload hx hb dX7_fewestCovering_10 (lv_at hl 5 rfl) ?_
  refine lv_iconst (v := (1 : Int32)) hx hb dX7_fewestCovering_12 (by decide) ?_
  refine lv_iload_n hx hb dX7_fewestCovering_13 rfl (lv_at hl 2 rfl) ?_
  refine lv_ishl hx hb dX7_fewestCovering_14 ?_
  refine lv_icmp_ge (tgt := 58) hx hb dX7_fewestCovering_15 (by decide) (fun hc => ?_) (fun hc => ?_)
  · have hw := hw.1 hc
    refine lv_iload_n hx hb dX7_fewestCovering_58 rfl (lv_at hl 3 rfl) ?_
    exact zret_i zc hw dX7_fewestCovering_59
  · have hw := hw.2 hc
    refine lv_iload hx hb dX7_fewestCovering_18 (lv_at hl 5 rfl) ?_
    refine zS_i [.int x5] [] zc ky_J6_bitCount_0f7a4 kz_J6_bitCount_0f7a4 km_7_97 (c_z_J6_bitCount_0f7a4 l hw) (zPre0 _) rfl rfl hl.1 (Nat.le_of_ble_eq_true rfl) ⟨rfl, rfl⟩ ⟨Nat.le_of_ble_eq_true rfl, Nat.le_of_ble_eq_true rfl⟩ ⟨(Nat.zero_le _), (Nat.zero_le _)⟩ dX7_fewestCovering_20 (fun r_1 hw => ?_)
    refine lv_iload hx hb dX7_fewestCovering_23 (lv_at hl 4 rfl) ?_
    refine lv_icmp_ge (tgt := 52) hx hb dX7_fewestCovering_25 (by decide) (fun hc => ?_) (fun hc => ?_)
    · have hw := hw.1 hc
      exact t_wp_X7_fewestCovering_52 zc hK hM (fun _ _ _ ls h hl => h ls hl) (lv_sub hl [0, 1, 2, 3, 4, 5] rfl) hw
    · have hw := hw.2 hc
      refine lv_iload_n hx hb dX7_fewestCovering_28 rfl (lv_at hl 1 rfl) ?_
      refine lv_aload_n hx hb dX7_fewestCovering_29 rfl (lv_at hl 0 rfl) ?_
      refine lv_iload hx hb dX7_fewestCovering_30 (lv_at hl 5 rfl) ?_
      refine lv_iload_n hx hb dX7_fewestCovering_32 rfl (lv_at hl 2 rfl) ?_
      refine zV_i [.int x5, .int x2] [.int x1] zc ky_X7_covered kz_X7_covered km_7_102 (c_wp_X7_covered l hw) (wpPreV0 hK hM) rfl rfl hl.1 (Nat.le_of_ble_eq_true rfl) ⟨rfl, rfl⟩ ⟨Nat.le_of_ble_eq_true rfl, Nat.le_of_ble_eq_true rfl⟩ ⟨(Nat.zero_le _), (Nat.zero_le _)⟩ dX7_fewestCovering_33 (fun r_2 hw => ?_)
      refine lv_iconst (v := (-1 : Int32)) hx hb dX7_fewestCovering_36 (by decide) ?_
      refine lv_ixor hx hb dX7_fewestCovering_37 ?_
      refine lv_iand hx hb dX7_fewestCovering_38 ?_
      refine lv_if_ne (tgt := 52) hx hb dX7_fewestCovering_39 (by decide) (fun hc => ?_) (fun hc => ?_)
      · have hw := hw.1 hc
        exact t_wp_X7_fewestCovering_52 zc hK hM (fun _ _ _ ls h hl => h ls hl) (lv_sub hl [0, 1, 2, 3, 4, 5] rfl) hw
      · have hw := hw.2 hc
        refine lv_iload hx hb dX7_fewestCovering_42 (lv_at hl 5 rfl) ?_
        refine lv_istore_n (lv' := [(3, .int x5), (0, .ref qp), (1, .int x1), (2, .int x2), (4, .int x4), (5, .int x5)]) hx hb dX7_fewestCovering_44 rfl hl (by decide) rfl (fun ls hl => ?_)
        refine lv_iload hx hb dX7_fewestCovering_45 (lv_at hl 5 rfl) ?_
        refine zS_i [.int x5] [] zc ky_J6_bitCount_0f7a4 kz_J6_bitCount_0f7a4 km_7_97 (c_z_J6_bitCount_0f7a4 l hw) (zPre0 _) rfl rfl hl.1 (Nat.le_of_ble_eq_true rfl) ⟨rfl, rfl⟩ ⟨Nat.le_of_ble_eq_true rfl, Nat.le_of_ble_eq_true rfl⟩ ⟨(Nat.zero_le _), (Nat.zero_le _)⟩ dX7_fewestCovering_47 (fun r_3 hw => ?_)
        refine lv_istore (lv' := [(4, .int r_3), (3, .int x5), (0, .ref qp), (1, .int x1), (2, .int x2), (5, .int x5)]) hx hb dX7_fewestCovering_50 hl (by decide) rfl (fun ls hl => ?_)
        exact t_wp_X7_fewestCovering_52 zc hK hM (fun _ _ _ ls h hl => h ls hl) (lv_sub hl [2, 3, 4, 1, 0, 5] rfl) hw
set_option maxRecDepth 20000 in
theorem t_wp_X7_fewestCovering_0 {p : Program} {l : Launch} {e : Env} {s : State} {m : MethodId} {args : Array Value} {below : List Frame} {meth : Method} {c : Code} {E : zE} {qp ql qs : Nat} {a_heard : Nat → Int32} {a_walked : Nat → Int32} {a_total : Nat → Int32} {a_longest : Nat → Int32} {a_next : Nat → Int32} {a_cover : Nat → Int32} {a_now : Nat → Int32} {a_then : Nat → Int32} {lf_huts : Int32} {lf_singers : Int32} {lf_villages : Int32} {lf_dams : Int32} {lf_echoes : Int32} {lf_deep : Int32} {lf_slide : Int32} {la_heights : Nat → Int32} {la_ladders : Nat → Int32} {la_minutes : Nat → Int32} {la_echoFrom : Nat → Int32} {la_echoTo : Nat → Int32} {la_homes : Nat → Int32} {la_talls : Nat → Int32} {la_known : Nat → Int32} {sf_facts : Int32} {sa_heard : Nat → Int32} {sa_huts : Nat → Int32} {sa_minutes : Nat → Int32} {post : Int32 → Prop} {x1 : Int32} {x2 : Int32} {ls : Array Slot}
    (zc : zC p s m args meth c cX7_fewestCovering 6 RX7 (some .int))
    (hK : zK E s)
    (hM : wpW E qp ql qs a_heard a_walked a_total a_longest a_next a_cover a_now a_then lf_huts lf_singers lf_villages lf_dams lf_echoes lf_deep lf_slide la_heights la_ladders la_minutes la_echoFrom la_echoTo la_homes la_talls la_known sf_facts sa_heard sa_huts sa_minutes s.heap)
    (hl : lv_has ls 6 [(0, .ref qp), (1, .int x1), (2, .int x2)])
    (hw : q_wp_X7_fewestCovering_0 a_cover x1 x2 post) :
    W p l e rm_wp_X7_fewestCovering s m args below meth c s.heap [] 0 0 (MQ below (vp_Si post) args s 0 0 (fun _ => False)) (F0 m 0 ls []) := by
  have hx := zc.1
  have hb := zc.2.1
  refine lv_iconst (v := (-1 : Int32)) hx hb dX7_fewestCovering_0 (by decide) ?_
  refine lv_istore_n (lv' := [(3, .int (-1 : Int32)), (0, .ref qp), (1, .int x1), (2, .int x2)]) hx hb dX7_fewestCovering_1 rfl hl (by decide) rfl (fun ls hl => ?_)
  refine lv_iload_n hx hb dX7_fewestCovering_2 rfl (lv_at hl 3 rfl) ?_
  refine lv_iconst (v := (1 : Int32)) hx hb dX7_fewestCovering_3 (by decide) ?_
  refine lv_iadd hx hb dX7_fewestCovering_4 ?_
  refine lv_topi (fun v_1 ev_1 => ?_)
  have hw := hw v_1 ev_1
  refine lv_istore (lv' := [(4, .int v_1), (3, .int (-1 : Int32)), (0, .ref qp), (1, .int x1), (2, .int x2)]) hx hb dX7_fewestCovering_5 hl (by decide) rfl (fun ls hl => ?_)
  refine lv_iconst (v := (0 : Int32)) hx hb dX7_fewestCovering_7 (by decide) ?_
  refine lv_istore (lv' := [(5, .int (0 : Int32)), (4, .int v_1), (3, .int (-1 : Int32)), (0, .ref qp), (1, .int x1), (2, .int x2)]) hx hb dX7_fewestCovering_8 hl (by decide) rfl (fun ls hl => ?_)
  exact t_wp_X7_fewestCovering_10 zc hK hM  (lv_sub hl [3, 4, 5, 2, 1, 0] rfl) hw
set_option maxRecDepth 20000 in
theorem c_wp_X7_fewestCovering (l : Launch) {E : zE} {qp ql qs : Nat} {a_heard : Nat → Int32} {a_walked : Nat → Int32} {a_total : Nat → Int32} {a_longest : Nat → Int32} {a_next : Nat → Int32} {a_cover : Nat → Int32} {a_now : Nat → Int32} {a_then : Nat → Int32} {lf_huts : Int32} {lf_singers : Int32} {lf_villages : Int32} {lf_dams : Int32} {lf_echoes : Int32} {lf_deep : Int32} {lf_slide : Int32} {la_heights : Nat → Int32} {la_ladders : Nat → Int32} {la_minutes : Nat → Int32} {la_echoFrom : Nat → Int32} {la_echoTo : Nat → Int32} {la_homes : Nat → Int32} {la_talls : Nat → Int32} {la_known : Nat → Int32} {sf_facts : Int32} {sa_heard : Nat → Int32} {sa_huts : Nat → Int32} {sa_minutes : Nat → Int32} {x1 : Int32} {x2 : Int32} {post : Int32 → Prop} (hw : q_wp_X7_fewestCovering_0 a_cover x1 x2 post) : Met l yX7_fewestCovering (Cond.code yX7_fewestCovering cX7_fewestCovering 6 (some .int) :: zb) rm_wp_X7_fewestCovering (va_Pc [.ref qp, .int x1, .int x2] (fun U => wpW E qp ql qs a_heard a_walked a_total a_longest a_next a_cover a_now a_then lf_huts lf_singers lf_villages lf_dams lf_echoes lf_deep lf_slide la_heights la_ladders la_minutes la_echoFrom la_echoTo la_homes la_talls la_known sf_facts sa_heard sa_huts sa_minutes U.heap ∧ zK E U)) (vp_Si post) 0 0 (fun _ => False) := by
  refine Met.ofW (cc := cX7_fewestCovering) (maxL := 6) (ret := (some .int)) (by decide) rfl ?_
  intro p e s m args below meth c s₁ B hml hv
  obtain ⟨rfl, hM, hK⟩ := hv
  have zc := zc_of B hml
  have hl := lv_entry ([.ref qp, .int x1, .int x2]) (n := 6) (Nat.le_of_ble_eq_true rfl)
  rw [lg_entry_eq]
  generalize (lg_sl ([.ref qp, .int x1, .int x2]) ++ List.replicate (6 - (lg_sl ([.ref qp, .int x1, .int x2])).length) Slot.unset).toArray = ls at hl ⊢
  have hl : lv_has ls 6 [(0, .ref qp), (1, .int x1), (2, .int x2)] := hl
  exact t_wp_X7_fewestCovering_0 zc hK hM (lv_sub hl [0, 1, 2] rfl) hw
-- wp_X7_crewBy_9
abbrev rm_wp_X7_crewBy_9 : Room := { frames := 3, cells := 0, slots := 0, locals := 70 }
def q_wp_X7_crewBy_9_0 (a_heard : Nat → Int32) (a_cover : Nat → Int32) (lf_huts : Int32) (lf_villages : Int32) (x2 : Int32) (post : Int32 → (Nat → Int32) → Prop) : Prop :=
  q_wp_X7_coverBy_1_0 a_heard a_cover lf_huts x2 (fun a_cover_1 => q_wp_X7_fewestCovering_0 a_cover_1 lf_villages lf_huts (fun r_1 => post r_1 a_cover_1))
set_option maxRecDepth 20000 in
theorem t_wp_X7_crewBy_9_0 {p : Program} {l : Launch} {e : Env} {s : State} {m : MethodId} {args : Array Value} {below : List Frame} {meth : Method} {c : Code} {E : zE} {qp ql qs : Nat} {a_heard : Nat → Int32} {a_walked : Nat → Int32} {a_total : Nat → Int32} {a_longest : Nat → Int32} {a_next : Nat → Int32} {a_cover : Nat → Int32} {a_now : Nat → Int32} {a_then : Nat → Int32} {lf_huts : Int32} {lf_singers : Int32} {lf_villages : Int32} {lf_dams : Int32} {lf_echoes : Int32} {lf_deep : Int32} {lf_slide : Int32} {la_heights : Nat → Int32} {la_ladders : Nat → Int32} {la_minutes : Nat → Int32} {la_echoFrom : Nat → Int32} {la_echoTo : Nat → Int32} {la_homes : Nat → Int32} {la_talls : Nat → Int32} {la_known : Nat → Int32} {sf_facts : Int32} {sa_heard : Nat → Int32} {sa_huts : Nat → Int32} {sa_minutes : Nat → Int32} {post : Int32 → (Nat → Int32) → Prop} {x2 : Int32} {ls : Array Slot} {H : Heap} {locs : List Loc}
    (zc : zC p s m args meth c cX7_crewBy 3 RX7 (some .int))
    (hK : zK E s)
    (hM : wpW E qp ql qs a_heard a_walked a_total a_longest a_next a_cover a_now a_then lf_huts lf_singers lf_villages lf_dams lf_echoes lf_deep lf_slide la_heights la_ladders la_minutes la_echoFrom la_echoTo la_homes la_talls la_known sf_facts sa_heard sa_huts sa_minutes H)
    (hS : va_S (wpA qp ql qs) s.heap H locs)
    (hl : lv_has ls 3 [(0, .ref qp), (1, .ref ql), (2, .int x2)])
    (hw : q_wp_X7_crewBy_9_0 a_heard a_cover lf_huts lf_villages x2 post) :
    W p l e rm_wp_X7_crewBy_9 s m args below meth c H locs 0 0 (MQ below (zQi (S := (Nat → Int32)) (fun r u => post r u) (fun u H => wpW E qp ql qs a_heard a_walked a_total a_longest a_next u a_now a_then lf_huts lf_singers lf_villages lf_dams lf_echoes lf_deep lf_slide la_heights la_ladders la_minutes la_echoFrom la_echoTo la_homes la_talls la_known sf_facts sa_heard sa_huts sa_minutes H) (wpA qp ql qs)) args s 0 0 (wpA qp ql qs)) (F0 m 0 ls []) := by
  have hx := zc.1
  have hb := zc.2.1
  refine lv_aload_n hx hb dX7_crewBy_0 rfl (lv_at hl 0 rfl) ?_
  refine lv_aload_n hx hb dX7_crewBy_1 rfl (lv_at hl 0 rfl) ?_
  refine wpg_7_9_0 zc hK hM dX7_crewBy_2 ?_
  refine lv_aload_n hx hb dX7_crewBy_5 rfl (lv_at hl 1 rfl) ?_
  refine wpg_7_42_9 zc hK hM dX7_crewBy_6 ?_
  refine lv_iload_n hx hb dX7_crewBy_9 rfl (lv_at hl 2 rfl) ?_
  refine zVw_v [.ref (qp + 1), .int lf_huts, .int x2] [] zc ky_X7_coverBy kz_X7_coverBy km_7_86 (c_wp_X7_coverBy_1 l hw) (wpPreV0 hK hM) hS rfl rfl hl.1 (Nat.le_of_ble_eq_true rfl) ⟨rfl, rfl⟩ ⟨Nat.le_of_ble_eq_true rfl, Nat.le_of_ble_eq_true rfl⟩ ⟨(Nat.zero_le _), (Nat.zero_le _)⟩ dX7_crewBy_10 (fun a_cover_1 H locs hw hM hS => ?_)
  refine lv_aload_n hx hb dX7_crewBy_13 rfl (lv_at hl 0 rfl) ?_
  refine lv_aload_n hx hb dX7_crewBy_14 rfl (lv_at hl 1 rfl) ?_
  refine wpg_7_73_9 zc hK hM dX7_crewBy_15 ?_
  refine lv_aload_n hx hb dX7_crewBy_18 rfl (lv_at hl 1 rfl) ?_
  refine wpg_7_42_9 zc hK hM dX7_crewBy_19 ?_
  refine zV_i [.int lf_villages, .int lf_huts] [] zc ky_X7_fewestCovering kz_X7_fewestCovering km_7_90 (c_wp_X7_fewestCovering l hw) (wpPreV0 hK hM) rfl rfl hl.1 (Nat.le_of_ble_eq_true rfl) ⟨rfl, rfl⟩ ⟨Nat.le_of_ble_eq_true rfl, Nat.le_of_ble_eq_true rfl⟩ ⟨(Nat.zero_le _), (Nat.zero_le _)⟩ dX7_crewBy_22 (fun r_1 hw => ?_)
  exact zret_iw a_cover_1 zc hS hw hM dX7_crewBy_25
set_option maxRecDepth 20000 in
theorem c_wp_X7_crewBy_9 (l : Launch) {E : zE} {qp ql qs : Nat} {a_heard : Nat → Int32} {a_walked : Nat → Int32} {a_total : Nat → Int32} {a_longest : Nat → Int32} {a_next : Nat → Int32} {a_cover : Nat → Int32} {a_now : Nat → Int32} {a_then : Nat → Int32} {lf_huts : Int32} {lf_singers : Int32} {lf_villages : Int32} {lf_dams : Int32} {lf_echoes : Int32} {lf_deep : Int32} {lf_slide : Int32} {la_heights : Nat → Int32} {la_ladders : Nat → Int32} {la_minutes : Nat → Int32} {la_echoFrom : Nat → Int32} {la_echoTo : Nat → Int32} {la_homes : Nat → Int32} {la_talls : Nat → Int32} {la_known : Nat → Int32} {sf_facts : Int32} {sa_heard : Nat → Int32} {sa_huts : Nat → Int32} {sa_minutes : Nat → Int32} {x2 : Int32} {post : Int32 → (Nat → Int32) → Prop} (hw : q_wp_X7_crewBy_9_0 a_heard a_cover lf_huts lf_villages x2 post) : Met l yX7_crewBy (Cond.code yX7_crewBy cX7_crewBy 3 (some .int) :: zb) rm_wp_X7_crewBy_9 (va_Pc [.ref qp, .ref ql, .int x2] (fun U => wpW E qp ql qs a_heard a_walked a_total a_longest a_next a_cover a_now a_then lf_huts lf_singers lf_villages lf_dams lf_echoes lf_deep lf_slide la_heights la_ladders la_minutes la_echoFrom la_echoTo la_homes la_talls la_known sf_facts sa_heard sa_huts sa_minutes U.heap ∧ zK E U)) (zQi (S := (Nat → Int32)) (fun r u => post r u) (fun u H => wpW E qp ql qs a_heard a_walked a_total a_longest a_next u a_now a_then lf_huts lf_singers lf_villages lf_dams lf_echoes lf_deep lf_slide la_heights la_ladders la_minutes la_echoFrom la_echoTo la_homes la_talls la_known sf_facts sa_heard sa_huts sa_minutes H) (wpA qp ql qs)) 0 0 (wpA qp ql qs) := by
  refine Met.ofW (cc := cX7_crewBy) (maxL := 3) (ret := (some .int)) (by decide) rfl ?_
  intro p e s m args below meth c s₁ B hml hv
  obtain ⟨rfl, hM, hK⟩ := hv
  have zc := zc_of B hml
  have hl := lv_entry ([.ref qp, .ref ql, .int x2]) (n := 3) (Nat.le_of_ble_eq_true rfl)
  rw [lg_entry_eq]
  generalize (lg_sl ([.ref qp, .ref ql, .int x2]) ++ List.replicate (3 - (lg_sl ([.ref qp, .ref ql, .int x2])).length) Slot.unset).toArray = ls at hl ⊢
  have hl : lv_has ls 3 [(0, .ref qp), (1, .ref ql), (2, .int x2)] := hl
  exact t_wp_X7_crewBy_9_0 zc hK hM va_S.rf (lv_sub hl [0, 1, 2] rfl) hw
-- wp_X7_coverBy_2
abbrev rm_wp_X7_coverBy_2 : Room := { frames := 0, cells := 0, slots := 0, locals := 0 }
def q_wp_X7_coverBy_2_54 (P3 : Int32 → (Nat → Int32) → Prop) (P20 : Int32 → (Nat → Int32) → Prop) (a_walked : Nat → Int32) (a_cover : Nat → Int32) (x2 : Int32) (x3 : Int32) (x4 : Int32) (x5 : Int32) (post : (Nat → Int32) → Prop) : Prop :=
  ∀ v_1 : Int32, v_1 = x5 + (1 : Int32) → (P20 v_1 a_cover)
def q_wp_X7_coverBy_2_20 (P3 : Int32 → (Nat → Int32) → Prop) (a_walked : Nat → Int32) (a_cover : Nat → Int32) (x2 : Int32) (x3 : Int32) (x4 : Int32) (x5 : Int32) (post : (Nat → Int32) → Prop) : Prop :=
  ∀ P20 : Int32 → (Nat → Int32) → Prop, (∀ (x5 : Int32) (a_cover : Nat → Int32), ((x2 ≤ x5 → (∀ v_1 : Int32, v_1 = x4 + (1 : Int32) → (P3 v_1 a_cover))) ∧ (¬ x2 ≤ x5 → (vp_in ((x4 * (9 : Int32)) + x5) 81 ∧ ((x3 < (a_walked (Int32.toNatClampNeg ((x4 * (9 : Int32)) + x5))) → (q_wp_X7_coverBy_2_54 P3 P20 a_walked a_cover x2 x3 x4 x5 post)) ∧ (¬ x3 < (a_walked (Int32.toNatClampNeg ((x4 * (9 : Int32)) + x5))) → (vp_in x4 9 ∧ (∀ v_2 : Int32, v_2 = ((a_cover (Int32.toNatClampNeg x4)) ||| ((1 : Int32) <<< (x5 &&& 31))) → (vp_in x4 9 ∧ (∀ a_cover_1 : Nat → Int32, a_cover_1 = upd a_cover (Int32.toNatClampNeg x4) v_2 → (q_wp_X7_coverBy_2_54 P3 P20 a_walked a_cover_1 x2 x3 x4 x5 post)))))))))) → P20 x5 a_cover) → P20 x5 a_cover
def q_wp_X7_coverBy_2_3 (a_walked : Nat → Int32) (a_cover : Nat → Int32) (x2 : Int32) (x3 : Int32) (x4 : Int32) (post : (Nat → Int32) → Prop) : Prop :=
  ∀ P3 : Int32 → (Nat → Int32) → Prop, (∀ (x4 : Int32) (a_cover : Nat → Int32), ((x2 ≤ x4 → (post a_cover)) ∧ (¬ x2 ≤ x4 → (vp_in x4 9 ∧ (∀ a_cover_1 : Nat → Int32, a_cover_1 = upd a_cover (Int32.toNatClampNeg x4) (0 : Int32) → (q_wp_X7_coverBy_2_20 P3 a_walked a_cover_1 x2 x3 x4 (0 : Int32) post))))) → P3 x4 a_cover) → P3 x4 a_cover
def q_wp_X7_coverBy_2_0 (a_walked : Nat → Int32) (a_cover : Nat → Int32) (x2 : Int32) (x3 : Int32) (post : (Nat → Int32) → Prop) : Prop :=
  q_wp_X7_coverBy_2_3 a_walked a_cover x2 x3 (0 : Int32) post
set_option maxRecDepth 20000 in
theorem t_wp_X7_coverBy_2_54 {p : Program} {l : Launch} {e : Env} {s : State} {m : MethodId} {args : Array Value} {below : List Frame} {meth : Method} {c : Code} {E : zE} {qp ql qs : Nat} {a_heard : Nat → Int32} {a_walked : Nat → Int32} {a_total : Nat → Int32} {a_longest : Nat → Int32} {a_next : Nat → Int32} {a_cover : Nat → Int32} {a_now : Nat → Int32} {a_then : Nat → Int32} {lf_huts : Int32} {lf_singers : Int32} {lf_villages : Int32} {lf_dams : Int32} {lf_echoes : Int32} {lf_deep : Int32} {lf_slide : Int32} {la_heights : Nat → Int32} {la_ladders : Nat → Int32} {la_minutes : Nat → Int32} {la_echoFrom : Nat → Int32} {la_echoTo : Nat → Int32} {la_homes : Nat → Int32} {la_talls : Nat → Int32} {la_known : Nat → Int32} {sf_facts : Int32} {sa_heard : Nat → Int32} {sa_huts : Nat → Int32} {sa_minutes : Nat → Int32} {P3 : Int32 → (Nat → Int32) → Prop} {P20 : Int32 → (Nat → Int32) → Prop} {post : (Nat → Int32) → Prop} {x2 : Int32} {x3 : Int32} {x4 : Int32} {x5 : Int32} {ls : Array Slot} {H : Heap} {locs : List Loc}
    (zc : zC p s m args meth c cX7_coverBy 6 RX7 none)
    (hK : zK E s)
    (hM : wpW E qp ql qs a_heard a_walked a_total a_longest a_next a_cover a_now a_then lf_huts lf_singers lf_villages lf_dams lf_echoes lf_deep lf_slide la_heights la_ladders la_minutes la_echoFrom la_echoTo la_homes la_talls la_known sf_facts sa_heard sa_huts sa_minutes H)
    (hS : va_S (wpA qp ql qs) s.heap H locs)
    (hP3 : ∀ (x4 : Int32) (a_cover : Nat → Int32) (H : Heap) (locs : List Loc) (ls : Array Slot), P3 x4 a_cover → lv_has ls 6 [(0, .ref qp), (1, .ref (qp + 2)), (2, .int x2), (3, .int x3), (4, .int x4)] → wpW E qp ql qs a_heard a_walked a_total a_longest a_next a_cover a_now a_then lf_huts lf_singers lf_villages lf_dams lf_echoes lf_deep lf_slide la_heights la_ladders la_minutes la_echoFrom la_echoTo la_homes la_talls la_known sf_facts sa_heard sa_huts sa_minutes H → va_S (wpA qp ql qs) s.heap H locs → W p l e rm_wp_X7_coverBy_2 s m args below meth c H locs 0 0 (MQ below (zQv (S := (Nat → Int32)) (fun u => post u) (fun u H => wpW E qp ql qs a_heard a_walked a_total a_longest a_next u a_now a_then lf_huts lf_singers lf_villages lf_dams lf_echoes lf_deep lf_slide la_heights la_ladders la_minutes la_echoFrom la_echoTo la_homes la_talls la_known sf_facts sa_heard sa_huts sa_minutes H) (wpA qp ql qs)) args s 0 0 (wpA qp ql qs)) (F0 m 3 ls []))
    (hP20 : ∀ (x5 : Int32) (a_cover : Nat → Int32) (H : Heap) (locs : List Loc) (ls : Array Slot), P20 x5 a_cover → lv_has ls 6 [(0, .ref qp), (1, .ref (qp + 2)), (2, .int x2), (3, .int x3), (4, .int x4), (5, .int x5)] → wpW E qp ql qs a_heard a_walked a_total a_longest a_next a_cover a_now a_then lf_huts lf_singers lf_villages lf_dams lf_echoes lf_deep lf_slide la_heights la_ladders la_minutes la_echoFrom la_echoTo la_homes la_talls la_known sf_facts sa_heard sa_huts sa_minutes H → va_S (wpA qp ql qs) s.heap H locs → W p l e rm_wp_X7_coverBy_2 s m args below meth c H locs 0 0 (MQ below (zQv (S := (Nat → Int32)) (fun u => post u) (fun u H => wpW E qp ql qs a_heard a_walked a_total a_longest a_next u a_now a_then lf_huts lf_singers lf_villages lf_dams lf_echoes lf_deep lf_slide la_heights la_ladders la_minutes la_echoFrom la_echoTo la_homes la_talls la_known sf_facts sa_heard sa_huts sa_minutes H) (wpA qp ql qs)) args s 0 0 (wpA qp ql qs)) (F0 m 20 ls []))
    (hl : lv_has ls 6 [(0, .ref qp), (1, .ref (qp + 2)), (2, .int x2), (3, .int x3), (4, .int x4), (5, .int x5)])
    (hw : q_wp_X7_coverBy_2_54 P3 P20 a_walked a_cover x2 x3 x4 x5 post) :
    W p l e rm_wp_X7_coverBy_2 s m args below meth c H locs 0 0 (MQ below (zQv (S := (Nat → Int32)) (fun u => post u) (fun u H => wpW E qp ql qs a_heard a_walked a_total a_longest a_next u a_now a_then lf_huts lf_singers lf_villages lf_dams lf_echoes lf_deep lf_slide la_heights la_ladders la_minutes la_echoFrom la_echoTo la_homes la_talls la_known sf_facts sa_heard sa_huts sa_minutes H) (wpA qp ql qs)) args s 0 0 (wpA qp ql qs)) (F0 m 54 ls []) := by
  have hx := zc.1
  have hb := zc.2.1
  obtain ⟨v_1, ev_1⟩ : ∃ y : Int32, y = x5 + (1 : Int32) := ⟨_, rfl⟩
  have hw := hw v_1 ev_1
  refine lv_iinc (v := v_1) (k := 5) (lv' := [(5, .int v_1), (0, .ref qp), (1, .ref (qp + 2)), (2, .int x2), (3, .int x3), (4, .int x4)]) hx hb dX7_coverBy_54 hl rfl (by rw [ev_1]; rfl) (by decide) rfl (fun ls hl => ?_)
  refine lv_goto (tgt := 20) hx hb dX7_coverBy_57 (by decide) ?_
  exact hP20 _ _ _ _ _ hw (lv_sub hl [1, 2, 3, 4, 5, 0] rfl) hM hS
set_option maxRecDepth 20000 in
theorem t_wp_X7_coverBy_2_20 {p : Program} {l : Launch} {e : Env} {s : State} {m : MethodId} {args : Array Value} {below : List Frame} {meth : Method} {c : Code} {E : zE} {qp ql qs : Nat} {a_heard : Nat → Int32} {a_walked : Nat → Int32} {a_total : Nat → Int32} {a_longest : Nat → Int32} {a_next : Nat → Int32} {a_cover : Nat → Int32} {a_now : Nat → Int32} {a_then : Nat → Int32} {lf_huts : Int32} {lf_singers : Int32} {lf_villages : Int32} {lf_dams : Int32} {lf_echoes : Int32} {lf_deep : Int32} {lf_slide : Int32} {la_heights : Nat → Int32} {la_ladders : Nat → Int32} {la_minutes : Nat → Int32} {la_echoFrom : Nat → Int32} {la_echoTo : Nat → Int32} {la_homes : Nat → Int32} {la_talls : Nat → Int32} {la_known : Nat → Int32} {sf_facts : Int32} {sa_heard : Nat → Int32} {sa_huts : Nat → Int32} {sa_minutes : Nat → Int32} {P3 : Int32 → (Nat → Int32) → Prop} {post : (Nat → Int32) → Prop} {x2 : Int32} {x3 : Int32} {x4 : Int32} {x5 : Int32} {ls : Array Slot} {H : Heap} {locs : List Loc}
    (zc : zC p s m args meth c cX7_coverBy 6 RX7 none)
    (hK : zK E s)
    (hM : wpW E qp ql qs a_heard a_walked a_total a_longest a_next a_cover a_now a_then lf_huts lf_singers lf_villages lf_dams lf_echoes lf_deep lf_slide la_heights la_ladders la_minutes la_echoFrom la_echoTo la_homes la_talls la_known sf_facts sa_heard sa_huts sa_minutes H)
    (hS : va_S (wpA qp ql qs) s.heap H locs)
    (hP3 : ∀ (x4 : Int32) (a_cover : Nat → Int32) (H : Heap) (locs : List Loc) (ls : Array Slot), P3 x4 a_cover → lv_has ls 6 [(0, .ref qp), (1, .ref (qp + 2)), (2, .int x2), (3, .int x3), (4, .int x4)] → wpW E qp ql qs a_heard a_walked a_total a_longest a_next a_cover a_now a_then lf_huts lf_singers lf_villages lf_dams lf_echoes lf_deep lf_slide la_heights la_ladders la_minutes la_echoFrom la_echoTo la_homes la_talls la_known sf_facts sa_heard sa_huts sa_minutes H → va_S (wpA qp ql qs) s.heap H locs → W p l e rm_wp_X7_coverBy_2 s m args below meth c H locs 0 0 (MQ below (zQv (S := (Nat → Int32)) (fun u => post u) (fun u H => wpW E qp ql qs a_heard a_walked a_total a_longest a_next u a_now a_then lf_huts lf_singers lf_villages lf_dams lf_echoes lf_deep lf_slide la_heights la_ladders la_minutes la_echoFrom la_echoTo la_homes la_talls la_known sf_facts sa_heard sa_huts sa_minutes H) (wpA qp ql qs)) args s 0 0 (wpA qp ql qs)) (F0 m 3 ls []))
    (hl : lv_has ls 6 [(0, .ref qp), (1, .ref (qp + 2)), (2, .int x2), (3, .int x3), (4, .int x4), (5, .int x5)])
    (hw : q_wp_X7_coverBy_2_20 P3 a_walked a_cover x2 x3 x4 x5 post) :
    W p l e rm_wp_X7_coverBy_2 s m args below meth c H locs 0 0 (MQ below (zQv (S := (Nat → Int32)) (fun u => post u) (fun u H => wpW E qp ql qs a_heard a_walked a_total a_longest a_next u a_now a_then lf_huts lf_singers lf_villages lf_dams lf_echoes lf_deep lf_slide la_heights la_ladders la_minutes la_echoFrom la_echoTo la_homes la_talls la_known sf_facts sa_heard sa_huts sa_minutes H) (wpA qp ql qs)) args s 0 0 (wpA qp ql qs)) (F0 m 20 ls []) := by
  have hx := zc.1
  have hb := zc.2.1
  refine hw (fun x5 a_cover => ∀ (H : Heap) (locs : List Loc) (ls : Array Slot), lv_has ls 6 [(0, .ref qp), (1, .ref (qp + 2)), (2, .int x2), (3, .int x3), (4, .int x4), (5, .int x5)] → wpW E qp ql qs a_heard a_walked a_total a_longest a_next a_cover a_now a_then lf_huts lf_singers lf_villages lf_dams lf_echoes lf_deep lf_slide la_heights la_ladders la_minutes la_echoFrom la_echoTo la_homes la_talls la_known sf_facts sa_heard sa_huts sa_minutes H → va_S (wpA qp ql qs) s.heap H locs → W p l e rm_wp_X7_coverBy_2 s m args below meth c H locs 0 0 (MQ below (zQv (S := (Nat → Int32)) (fun u => post u) (fun u H => wpW E qp ql qs a_heard a_walked a_total a_longest a_next u a_now a_then lf_huts lf_singers lf_villages lf_dams lf_echoes lf_deep lf_slide la_heights la_ladders la_minutes la_echoFrom la_echoTo la_homes la_talls la_known sf_facts sa_heard sa_huts sa_minutes H) (wpA qp ql qs)) args s 0 0 (wpA qp ql qs)) (F0 m 20 ls [])) ?_ _ _ _ hl hM hS
  intro x5 a_cover hw H locs ls hl hM hS
  refine lv_iload hx hb dX7_coverBy_20 (lv_at hl 5 rfl) ?_
  refine lv_iload_n hx hb dX7_coverBy_22 rfl (lv_at hl 2 rfl) ?_
  refine lv_icmp_ge (tgt := 60) hx hb dX7_coverBy_23 (by decide) (fun hc => ?_) (fun hc => ?_)
  · have hw := hw.1 hc
    obtain ⟨v_1, ev_1⟩ : ∃ y : Int32, y = x4 + (1 : Int32) := ⟨_, rfl⟩
    have hw := hw v_1 ev_1
    refine lv_iinc (v := v_1) (k := 4) (lv' := [(4, .int v_1), (0, .ref qp), (1, .ref (qp + 2)), (2, .int x2), (3, .int x3), (5, .int x5)]) hx hb dX7_coverBy_60 hl rfl (by rw [ev_1]; rfl) (by decide) rfl (fun ls hl => ?_)
    refine lv_goto (tgt := 3) hx hb dX7_coverBy_63 (by decide) ?_
    exact hP3 _ _ _ _ _ hw (lv_sub hl [1, 2, 3, 4, 0] rfl) hM hS
  · have hw := hw.2 hc
    refine lv_aload_n hx hb dX7_coverBy_26 rfl (lv_at hl 1 rfl) ?_
    refine lv_iload hx hb dX7_coverBy_27 (lv_at hl 4 rfl) ?_
    refine lv_bipush (v := (9 : Int32)) hx hb dX7_coverBy_29 (by decide) ?_
    refine lv_imul hx hb dX7_coverBy_31 ?_
    refine lv_iload hx hb dX7_coverBy_32 (lv_at hl 5 rfl) ?_
    refine lv_iadd hx hb dX7_coverBy_34 ?_
    refine wpld_2 zc hK hM hw.1 dX7_coverBy_35 ?_
    have hw := hw.2
    refine lv_iload_n hx hb dX7_coverBy_36 rfl (lv_at hl 3 rfl) ?_
    refine lv_icmp_gt (tgt := 54) hx hb dX7_coverBy_37 (by decide) (fun hc => ?_) (fun hc => ?_)
    · have hw := hw.1 hc
      exact t_wp_X7_coverBy_2_54 zc hK hM hS hP3 (fun _ _ H locs ls h hl hM hS => h H locs ls hl hM hS) (lv_sub hl [0, 1, 2, 3, 4, 5] rfl) hw
    · have hw := hw.2 hc
      refine lv_aload_n hx hb dX7_coverBy_40 rfl (lv_at hl 0 rfl) ?_
      refine wpg_7_27_0 zc hK hM dX7_coverBy_41 ?_
      refine lv_iload hx hb dX7_coverBy_44 (lv_at hl 4 rfl) ?_
      refine lv_dup2_11 hx hb dX7_coverBy_46 rfl rfl ?_
      refine wpld_6 zc hK hM hw.1 dX7_coverBy_47 ?_
      have hw := hw.2
      refine lv_iconst (v := (1 : Int32)) hx hb dX7_coverBy_48 (by decide) ?_
      refine lv_iload hx hb dX7_coverBy_49 (lv_at hl 5 rfl) ?_
      refine lv_ishl hx hb dX7_coverBy_51 ?_
      refine lv_ior hx hb dX7_coverBy_52 ?_
      refine lv_topi (fun v_2 ev_2 => ?_)
      have hw := hw v_2 ev_2
      refine wpst_6 zc hK hM hS hw.1 dX7_coverBy_53 (fun a_cover_1 H locs ea_cover_1 hM hS => ?_)
      have hw := hw.2 a_cover_1 ea_cover_1
      exact t_wp_X7_coverBy_2_54 zc hK hM hS hP3 (fun _ _ H locs ls h hl hM hS => h H locs ls hl hM hS) (lv_sub hl [0, 1, 2, 3, 4, 5] rfl) hw
set_option maxRecDepth 20000 in
theorem t_wp_X7_coverBy_2_3 {p : Program} {l : Launch} {e : Env} {s : State} {m : MethodId} {args : Array Value} {below : List Frame} {meth : Method} {c : Code} {E : zE} {qp ql qs : Nat} {a_heard : Nat → Int32} {a_walked : Nat → Int32} {a_total : Nat → Int32} {a_longest : Nat → Int32} {a_next : Nat → Int32} {a_cover : Nat → Int32} {a_now : Nat → Int32} {a_then : Nat → Int32} {lf_huts : Int32} {lf_singers : Int32} {lf_villages : Int32} {lf_dams : Int32} {lf_echoes : Int32} {lf_deep : Int32} {lf_slide : Int32} {la_heights : Nat → Int32} {la_ladders : Nat → Int32} {la_minutes : Nat → Int32} {la_echoFrom : Nat → Int32} {la_echoTo : Nat → Int32} {la_homes : Nat → Int32} {la_talls : Nat → Int32} {la_known : Nat → Int32} {sf_facts : Int32} {sa_heard : Nat → Int32} {sa_huts : Nat → Int32} {sa_minutes : Nat → Int32} {post : (Nat → Int32) → Prop} {x2 : Int32} {x3 : Int32} {x4 : Int32} {ls : Array Slot} {H : Heap} {locs : List Loc}
    (zc : zC p s m args meth c cX7_coverBy 6 RX7 none)
    (hK : zK E s)
    (hM : wpW E qp ql qs a_heard a_walked a_total a_longest a_next a_cover a_now a_then lf_huts lf_singers lf_villages lf_dams lf_echoes lf_deep lf_slide la_heights la_ladders la_minutes la_echoFrom la_echoTo la_homes la_talls la_known sf_facts sa_heard sa_huts sa_minutes H)
    (hS : va_S (wpA qp ql qs) s.heap H locs)
    (hl : lv_has ls 6 [(0, .ref qp), (1, .ref (qp + 2)), (2, .int x2), (3, .int x3), (4, .int x4)])
    (hw : q_wp_X7_coverBy_2_3 a_walked a_cover x2 x3 x4 post) :
    W p l e rm_wp_X7_coverBy_2 s m args below meth c H locs 0 0 (MQ below (zQv (S := (Nat → Int32)) (fun u => post u) (fun u H => wpW E qp ql qs a_heard a_walked a_total a_longest a_next u a_now a_then lf_huts lf_singers lf_villages lf_dams lf_echoes lf_deep lf_slide la_heights la_ladders la_minutes la_echoFrom la_echoTo la_homes la_talls la_known sf_facts sa_heard sa_huts sa_minutes H) (wpA qp ql qs)) args s 0 0 (wpA qp ql qs)) (F0 m 3 ls []) := by
  have hx := zc.1
  have hb := zc.2.1
  refine hw (fun x4 a_cover => ∀ (H : Heap) (locs : List Loc) (ls : Array Slot), lv_has ls 6 [(0, .ref qp), (1, .ref (qp + 2)), (2, .int x2), (3, .int x3), (4, .int x4)] → wpW E qp ql qs a_heard a_walked a_total a_longest a_next a_cover a_now a_then lf_huts lf_singers lf_villages lf_dams lf_echoes lf_deep lf_slide la_heights la_ladders la_minutes la_echoFrom la_echoTo la_homes la_talls la_known sf_facts sa_heard sa_huts sa_minutes H → va_S (wpA qp ql qs) s.heap H locs → W p l e rm_wp_X7_coverBy_2 s m args below meth c H locs 0 0 (MQ below (zQv (S := (Nat → Int32)) (fun u => post u) (fun u H => wpW E qp ql qs a_heard a_walked a_total a_longest a_next u a_now a_then lf_huts lf_singers lf_villages lf_dams lf_echoes lf_deep lf_slide la_heights la_ladders la_minutes la_echoFrom la_echoTo la_homes la_talls la_known sf_facts sa_heard sa_huts sa_minutes H) (wpA qp ql qs)) args s 0 0 (wpA qp ql qs)) (F0 m 3 ls [])) ?_ _ _ _ hl hM hS
  intro x4 a_cover hw H locs ls hl hM hS
  refine lv_iload hx hb dX7_coverBy_3 (lv_at hl 4 rfl) ?_
  refine lv_iload_n hx hb dX7_coverBy_5 rfl (lv_at hl 2 rfl) ?_
  refine lv_icmp_ge (tgt := 66) hx hb dX7_coverBy_6 (by decide) (fun hc => ?_) (fun hc => ?_)
  · have hw := hw.1 hc
    exact zret_vw a_cover zc hS hw hM dX7_coverBy_66
  · have hw := hw.2 hc
    refine lv_aload_n hx hb dX7_coverBy_9 rfl (lv_at hl 0 rfl) ?_
    refine wpg_7_27_0 zc hK hM dX7_coverBy_10 ?_
    refine lv_iload hx hb dX7_coverBy_13 (lv_at hl 4 rfl) ?_
    refine lv_iconst (v := (0 : Int32)) hx hb dX7_coverBy_15 (by decide) ?_
    refine wpst_6 zc hK hM hS hw.1 dX7_coverBy_16 (fun a_cover_1 H locs ea_cover_1 hM hS => ?_)
    have hw := hw.2 a_cover_1 ea_cover_1
    refine lv_iconst (v := (0 : Int32)) hx hb dX7_coverBy_17 (by decide) ?_
    refine lv_istore (lv' := [(5, .int (0 : Int32)), (0, .ref qp), (1, .ref (qp + 2)), (2, .int x2), (3, .int x3), (4, .int x4)]) hx hb dX7_coverBy_18 hl (by decide) rfl (fun ls hl => ?_)
    exact t_wp_X7_coverBy_2_20 zc hK hM hS (fun _ _ H locs ls h hl hM hS => h H locs ls hl hM hS) (lv_sub hl [1, 2, 3, 4, 5, 0] rfl) hw
set_option maxRecDepth 20000 in
theorem t_wp_X7_coverBy_2_0 {p : Program} {l : Launch} {e : Env} {s : State} {m : MethodId} {args : Array Value} {below : List Frame} {meth : Method} {c : Code} {E : zE} {qp ql qs : Nat} {a_heard : Nat → Int32} {a_walked : Nat → Int32} {a_total : Nat → Int32} {a_longest : Nat → Int32} {a_next : Nat → Int32} {a_cover : Nat → Int32} {a_now : Nat → Int32} {a_then : Nat → Int32} {lf_huts : Int32} {lf_singers : Int32} {lf_villages : Int32} {lf_dams : Int32} {lf_echoes : Int32} {lf_deep : Int32} {lf_slide : Int32} {la_heights : Nat → Int32} {la_ladders : Nat → Int32} {la_minutes : Nat → Int32} {la_echoFrom : Nat → Int32} {la_echoTo : Nat → Int32} {la_homes : Nat → Int32} {la_talls : Nat → Int32} {la_known : Nat → Int32} {sf_facts : Int32} {sa_heard : Nat → Int32} {sa_huts : Nat → Int32} {sa_minutes : Nat → Int32} {post : (Nat → Int32) → Prop} {x2 : Int32} {x3 : Int32} {ls : Array Slot} {H : Heap} {locs : List Loc}
    (zc : zC p s m args meth c cX7_coverBy 6 RX7 none)
    (hK : zK E s)
    (hM : wpW E qp ql qs a_heard a_walked a_total a_longest a_next a_cover a_now a_then lf_huts lf_singers lf_villages lf_dams lf_echoes lf_deep lf_slide la_heights la_ladders la_minutes la_echoFrom la_echoTo la_homes la_talls la_known sf_facts sa_heard sa_huts sa_minutes H)
    (hS : va_S (wpA qp ql qs) s.heap H locs)
    (hl : lv_has ls 6 [(0, .ref qp), (1, .ref (qp + 2)), (2, .int x2), (3, .int x3)])
    (hw : q_wp_X7_coverBy_2_0 a_walked a_cover x2 x3 post) :
    W p l e rm_wp_X7_coverBy_2 s m args below meth c H locs 0 0 (MQ below (zQv (S := (Nat → Int32)) (fun u => post u) (fun u H => wpW E qp ql qs a_heard a_walked a_total a_longest a_next u a_now a_then lf_huts lf_singers lf_villages lf_dams lf_echoes lf_deep lf_slide la_heights la_ladders la_minutes la_echoFrom la_echoTo la_homes la_talls la_known sf_facts sa_heard sa_huts sa_minutes H) (wpA qp ql qs)) args s 0 0 (wpA qp ql qs)) (F0 m 0 ls []) := by
  have hx := zc.1
  have hb := zc.2.1
  refine lv_iconst (v := (0 : Int32)) hx hb dX7_coverBy_0 (by decide) ?_
  refine lv_istore (lv' := [(4, .int (0 : Int32)), (0, .ref qp), (1, .ref (qp + 2)), (2, .int x2), (3, .int x3)]) hx hb dX7_coverBy_1 hl (by decide) rfl (fun ls hl => ?_)
  exact t_wp_X7_coverBy_2_3 zc hK hM hS  (lv_sub hl [1, 2, 3, 4, 0] rfl) hw
set_option maxRecDepth 20000 in
theorem c_wp_X7_coverBy_2 (l : Launch) {E : zE} {qp ql qs : Nat} {a_heard : Nat → Int32} {a_walked : Nat → Int32} {a_total : Nat → Int32} {a_longest : Nat → Int32} {a_next : Nat → Int32} {a_cover : Nat → Int32} {a_now : Nat → Int32} {a_then : Nat → Int32} {lf_huts : Int32} {lf_singers : Int32} {lf_villages : Int32} {lf_dams : Int32} {lf_echoes : Int32} {lf_deep : Int32} {lf_slide : Int32} {la_heights : Nat → Int32} {la_ladders : Nat → Int32} {la_minutes : Nat → Int32} {la_echoFrom : Nat → Int32} {la_echoTo : Nat → Int32} {la_homes : Nat → Int32} {la_talls : Nat → Int32} {la_known : Nat → Int32} {sf_facts : Int32} {sa_heard : Nat → Int32} {sa_huts : Nat → Int32} {sa_minutes : Nat → Int32} {x2 : Int32} {x3 : Int32} {post : (Nat → Int32) → Prop} (hw : q_wp_X7_coverBy_2_0 a_walked a_cover x2 x3 post) : Met l yX7_coverBy (Cond.code yX7_coverBy cX7_coverBy 6 none :: zb) rm_wp_X7_coverBy_2 (va_Pc [.ref qp, .ref (qp + 2), .int x2, .int x3] (fun U => wpW E qp ql qs a_heard a_walked a_total a_longest a_next a_cover a_now a_then lf_huts lf_singers lf_villages lf_dams lf_echoes lf_deep lf_slide la_heights la_ladders la_minutes la_echoFrom la_echoTo la_homes la_talls la_known sf_facts sa_heard sa_huts sa_minutes U.heap ∧ zK E U)) (zQv (S := (Nat → Int32)) (fun u => post u) (fun u H => wpW E qp ql qs a_heard a_walked a_total a_longest a_next u a_now a_then lf_huts lf_singers lf_villages lf_dams lf_echoes lf_deep lf_slide la_heights la_ladders la_minutes la_echoFrom la_echoTo la_homes la_talls la_known sf_facts sa_heard sa_huts sa_minutes H) (wpA qp ql qs)) 0 0 (wpA qp ql qs) := by
  refine Met.ofW (cc := cX7_coverBy) (maxL := 6) (ret := none) (by decide) rfl ?_
  intro p e s m args below meth c s₁ B hml hv
  obtain ⟨rfl, hM, hK⟩ := hv
  have zc := zc_of B hml
  have hl := lv_entry ([.ref qp, .ref (qp + 2), .int x2, .int x3]) (n := 6) (Nat.le_of_ble_eq_true rfl)
  rw [lg_entry_eq]
  generalize (lg_sl ([.ref qp, .ref (qp + 2), .int x2, .int x3]) ++ List.replicate (6 - (lg_sl ([.ref qp, .ref (qp + 2), .int x2, .int x3])).length) Slot.unset).toArray = ls at hl ⊢
  have hl : lv_has ls 6 [(0, .ref qp), (1, .ref (qp + 2)), (2, .int x2), (3, .int x3)] := hl
  exact t_wp_X7_coverBy_2_0 zc hK hM va_S.rf (lv_sub hl [0, 1, 2, 3] rfl) hw
-- wp_X7_massesWithin_9
abbrev rm_wp_X7_massesWithin_9 : Room := { frames := 3, cells := 0, slots := 0, locals := 70 }
def q_wp_X7_massesWithin_9_0 (a_walked : Nat → Int32) (a_cover : Nat → Int32) (lf_huts : Int32) (lf_villages : Int32) (la_minutes : Nat → Int32) (x2 : Int32) (post : Int32 → (Nat → Int32) → (Nat → Int32) → Prop) : Prop :=
  q_wp_X7_walk_9_0 a_walked lf_huts la_minutes (fun a_walked_1 => q_wp_X7_coverBy_2_0 a_walked_1 a_cover lf_huts x2 (fun a_cover_1 => q_wp_X7_fewestCovering_0 a_cover_1 lf_villages lf_huts (fun r_1 => post r_1 a_walked_1 a_cover_1)))
set_option maxRecDepth 20000 in
theorem t_wp_X7_massesWithin_9_0 {p : Program} {l : Launch} {e : Env} {s : State} {m : MethodId} {args : Array Value} {below : List Frame} {meth : Method} {c : Code} {E : zE} {qp ql qs : Nat} {a_heard : Nat → Int32} {a_walked : Nat → Int32} {a_total : Nat → Int32} {a_longest : Nat → Int32} {a_next : Nat → Int32} {a_cover : Nat → Int32} {a_now : Nat → Int32} {a_then : Nat → Int32} {lf_huts : Int32} {lf_singers : Int32} {lf_villages : Int32} {lf_dams : Int32} {lf_echoes : Int32} {lf_deep : Int32} {lf_slide : Int32} {la_heights : Nat → Int32} {la_ladders : Nat → Int32} {la_minutes : Nat → Int32} {la_echoFrom : Nat → Int32} {la_echoTo : Nat → Int32} {la_homes : Nat → Int32} {la_talls : Nat → Int32} {la_known : Nat → Int32} {sf_facts : Int32} {sa_heard : Nat → Int32} {sa_huts : Nat → Int32} {sa_minutes : Nat → Int32} {post : Int32 → (Nat → Int32) → (Nat → Int32) → Prop} {x2 : Int32} {ls : Array Slot} {H : Heap} {locs : List Loc}
    (zc : zC p s m args meth c cX7_massesWithin 3 RX7 (some .int))
    (hK : zK E s)
    (hM : wpW E qp ql qs a_heard a_walked a_total a_longest a_next a_cover a_now a_then lf_huts lf_singers lf_villages lf_dams lf_echoes lf_deep lf_slide la_heights la_ladders la_minutes la_echoFrom la_echoTo la_homes la_talls la_known sf_facts sa_heard sa_huts sa_minutes H)
    (hS : va_S (wpA qp ql qs) s.heap H locs)
    (hl : lv_has ls 3 [(0, .ref qp), (1, .ref ql), (2, .int x2)])
    (hw : q_wp_X7_massesWithin_9_0 a_walked a_cover lf_huts lf_villages la_minutes x2 post) :
    W p l e rm_wp_X7_massesWithin_9 s m args below meth c H locs 0 0 (MQ below (zQi (S := (Nat → Int32) × (Nat → Int32)) (fun r u => post r u.1 u.2) (fun u H => wpW E qp ql qs a_heard u.1 a_total a_longest a_next u.2 a_now a_then lf_huts lf_singers lf_villages lf_dams lf_echoes lf_deep lf_slide la_heights la_ladders la_minutes la_echoFrom la_echoTo la_homes la_talls la_known sf_facts sa_heard sa_huts sa_minutes H) (wpA qp ql qs)) args s 0 0 (wpA qp ql qs)) (F0 m 0 ls []) := by
  have hx := zc.1
  have hb := zc.2.1
  refine lv_aload_n hx hb dX7_massesWithin_0 rfl (lv_at hl 0 rfl) ?_
  refine lv_aload_n hx hb dX7_massesWithin_1 rfl (lv_at hl 1 rfl) ?_
  refine zVw_v [.ref ql] [] zc ky_X7_walk kz_X7_walk km_7_93 (c_wp_X7_walk_9 l hw) (wpPreV0 hK hM) hS rfl rfl hl.1 (Nat.le_of_ble_eq_true rfl) ⟨rfl, rfl⟩ ⟨Nat.le_of_ble_eq_true rfl, Nat.le_of_ble_eq_true rfl⟩ ⟨(Nat.zero_le _), (Nat.zero_le _)⟩ dX7_massesWithin_2 (fun a_walked_1 H locs hw hM hS => ?_)
  refine lv_aload_n hx hb dX7_massesWithin_5 rfl (lv_at hl 0 rfl) ?_
  refine lv_aload_n hx hb dX7_massesWithin_6 rfl (lv_at hl 0 rfl) ?_
  refine wpg_7_15_0 zc hK hM dX7_massesWithin_7 ?_
  refine lv_aload_n hx hb dX7_massesWithin_10 rfl (lv_at hl 1 rfl) ?_
  refine wpg_7_42_9 zc hK hM dX7_massesWithin_11 ?_
  refine lv_iload_n hx hb dX7_massesWithin_14 rfl (lv_at hl 2 rfl) ?_
  refine zVw_v [.ref (qp + 2), .int lf_huts, .int x2] [] zc ky_X7_coverBy kz_X7_coverBy km_7_86 (c_wp_X7_coverBy_2 l hw) (wpPreV0 hK hM) hS rfl rfl hl.1 (Nat.le_of_ble_eq_true rfl) ⟨rfl, rfl⟩ ⟨Nat.le_of_ble_eq_true rfl, Nat.le_of_ble_eq_true rfl⟩ ⟨(Nat.zero_le _), (Nat.zero_le _)⟩ dX7_massesWithin_15 (fun a_cover_1 H locs hw hM hS => ?_)
  refine lv_aload_n hx hb dX7_massesWithin_18 rfl (lv_at hl 0 rfl) ?_
  refine lv_aload_n hx hb dX7_massesWithin_19 rfl (lv_at hl 1 rfl) ?_
  refine wpg_7_73_9 zc hK hM dX7_massesWithin_20 ?_
  refine lv_aload_n hx hb dX7_massesWithin_23 rfl (lv_at hl 1 rfl) ?_
  refine wpg_7_42_9 zc hK hM dX7_massesWithin_24 ?_
  refine zV_i [.int lf_villages, .int lf_huts] [] zc ky_X7_fewestCovering kz_X7_fewestCovering km_7_90 (c_wp_X7_fewestCovering l hw) (wpPreV0 hK hM) rfl rfl hl.1 (Nat.le_of_ble_eq_true rfl) ⟨rfl, rfl⟩ ⟨Nat.le_of_ble_eq_true rfl, Nat.le_of_ble_eq_true rfl⟩ ⟨(Nat.zero_le _), (Nat.zero_le _)⟩ dX7_massesWithin_27 (fun r_1 hw => ?_)
  exact zret_iw ⟨a_walked_1, a_cover_1⟩ zc hS hw hM dX7_massesWithin_30
set_option maxRecDepth 20000 in
theorem c_wp_X7_massesWithin_9 (l : Launch) {E : zE} {qp ql qs : Nat} {a_heard : Nat → Int32} {a_walked : Nat → Int32} {a_total : Nat → Int32} {a_longest : Nat → Int32} {a_next : Nat → Int32} {a_cover : Nat → Int32} {a_now : Nat → Int32} {a_then : Nat → Int32} {lf_huts : Int32} {lf_singers : Int32} {lf_villages : Int32} {lf_dams : Int32} {lf_echoes : Int32} {lf_deep : Int32} {lf_slide : Int32} {la_heights : Nat → Int32} {la_ladders : Nat → Int32} {la_minutes : Nat → Int32} {la_echoFrom : Nat → Int32} {la_echoTo : Nat → Int32} {la_homes : Nat → Int32} {la_talls : Nat → Int32} {la_known : Nat → Int32} {sf_facts : Int32} {sa_heard : Nat → Int32} {sa_huts : Nat → Int32} {sa_minutes : Nat → Int32} {x2 : Int32} {post : Int32 → (Nat → Int32) → (Nat → Int32) → Prop} (hw : q_wp_X7_massesWithin_9_0 a_walked a_cover lf_huts lf_villages la_minutes x2 post) : Met l yX7_massesWithin (Cond.code yX7_massesWithin cX7_massesWithin 3 (some .int) :: zb) rm_wp_X7_massesWithin_9 (va_Pc [.ref qp, .ref ql, .int x2] (fun U => wpW E qp ql qs a_heard a_walked a_total a_longest a_next a_cover a_now a_then lf_huts lf_singers lf_villages lf_dams lf_echoes lf_deep lf_slide la_heights la_ladders la_minutes la_echoFrom la_echoTo la_homes la_talls la_known sf_facts sa_heard sa_huts sa_minutes U.heap ∧ zK E U)) (zQi (S := (Nat → Int32) × (Nat → Int32)) (fun r u => post r u.1 u.2) (fun u H => wpW E qp ql qs a_heard u.1 a_total a_longest a_next u.2 a_now a_then lf_huts lf_singers lf_villages lf_dams lf_echoes lf_deep lf_slide la_heights la_ladders la_minutes la_echoFrom la_echoTo la_homes la_talls la_known sf_facts sa_heard sa_huts sa_minutes H) (wpA qp ql qs)) 0 0 (wpA qp ql qs) := by
  refine Met.ofW (cc := cX7_massesWithin) (maxL := 3) (ret := (some .int)) (by decide) rfl ?_
  intro p e s m args below meth c s₁ B hml hv
  obtain ⟨rfl, hM, hK⟩ := hv
  have zc := zc_of B hml
  have hl := lv_entry ([.ref qp, .ref ql, .int x2]) (n := 3) (Nat.le_of_ble_eq_true rfl)
  rw [lg_entry_eq]
  generalize (lg_sl ([.ref qp, .ref ql, .int x2]) ++ List.replicate (3 - (lg_sl ([.ref qp, .ref ql, .int x2])).length) Slot.unset).toArray = ls at hl ⊢
  have hl : lv_has ls 3 [(0, .ref qp), (1, .ref ql), (2, .int x2)] := hl
  exact t_wp_X7_massesWithin_9_0 zc hK hM va_S.rf (lv_sub hl [0, 1, 2] rfl) hw
-- wp_J7_fill_53178_3
abbrev rm_wp_J7_fill_53178_3 : Room := { frames := 0, cells := 0, slots := 0, locals := 0 }
def q_wp_J7_fill_53178_3_5 (a_total : Nat → Int32) (x1 : Int32) (x2 : Int32) (x3 : Int32) (post : (Nat → Int32) → Prop) : Prop :=
  ∀ P5 : Int32 → (Nat → Int32) → Prop, (∀ (x2 : Int32) (a_total : Nat → Int32), ((x3 ≤ x2 → (post a_total)) ∧ (¬ x3 ≤ x2 → (vp_in x2 9 ∧ (∀ a_total_1 : Nat → Int32, a_total_1 = upd a_total (Int32.toNatClampNeg x2) x1 → (∀ v_1 : Int32, v_1 = x2 + (1 : Int32) → (P5 v_1 a_total_1)))))) → P5 x2 a_total) → P5 x2 a_total
def q_wp_J7_fill_53178_3_0 (a_total : Nat → Int32) (x1 : Int32) (post : (Nat → Int32) → Prop) : Prop :=
  q_wp_J7_fill_53178_3_5 a_total x1 (0 : Int32) (9 : Int32) post
set_option maxRecDepth 20000 in
theorem t_wp_J7_fill_53178_3_5 {p : Program} {l : Launch} {e : Env} {s : State} {m : MethodId} {args : Array Value} {below : List Frame} {meth : Method} {c : Code} {E : zE} {qp ql qs : Nat} {a_heard : Nat → Int32} {a_walked : Nat → Int32} {a_total : Nat → Int32} {a_longest : Nat → Int32} {a_next : Nat → Int32} {a_cover : Nat → Int32} {a_now : Nat → Int32} {a_then : Nat → Int32} {lf_huts : Int32} {lf_singers : Int32} {lf_villages : Int32} {lf_dams : Int32} {lf_echoes : Int32} {lf_deep : Int32} {lf_slide : Int32} {la_heights : Nat → Int32} {la_ladders : Nat → Int32} {la_minutes : Nat → Int32} {la_echoFrom : Nat → Int32} {la_echoTo : Nat → Int32} {la_homes : Nat → Int32} {la_talls : Nat → Int32} {la_known : Nat → Int32} {sf_facts : Int32} {sa_heard : Nat → Int32} {sa_huts : Nat → Int32} {sa_minutes : Nat → Int32} {post : (Nat → Int32) → Prop} {x1 : Int32} {x2 : Int32} {x3 : Int32} {ls : Array Slot} {H : Heap} {locs : List Loc}
    (zc : zC p s m args meth c cJ7_fill_53178 4 RJ7 none)
    (hK : zK E s)
    (hM : wpW E qp ql qs a_heard a_walked a_total a_longest a_next a_cover a_now a_then lf_huts lf_singers lf_villages lf_dams lf_echoes lf_deep lf_slide la_heights la_ladders la_minutes la_echoFrom la_echoTo la_homes la_talls la_known sf_facts sa_heard sa_huts sa_minutes H)
    (hS : va_S (wpA qp ql qs) s.heap H locs)
    (hl : lv_has ls 4 [(0, .ref (qp + 3)), (1, .int x1), (2, .int x2), (3, .int x3)])
    (hw : q_wp_J7_fill_53178_3_5 a_total x1 x2 x3 post) :
    W p l e rm_wp_J7_fill_53178_3 s m args below meth c H locs 0 0 (MQ below (zQv (S := (Nat → Int32)) (fun u => post u) (fun u H => wpW E qp ql qs a_heard a_walked u a_longest a_next a_cover a_now a_then lf_huts lf_singers lf_villages lf_dams lf_echoes lf_deep lf_slide la_heights la_ladders la_minutes la_echoFrom la_echoTo la_homes la_talls la_known sf_facts sa_heard sa_huts sa_minutes H) (wpA qp ql qs)) args s 0 0 (wpA qp ql qs)) (F0 m 5 ls []) := by
  have hx := zc.1
  have hb := zc.2.1
  refine hw (fun x2 a_total => ∀ (H : Heap) (locs : List Loc) (ls : Array Slot), lv_has ls 4 [(0, .ref (qp + 3)), (1, .int x1), (2, .int x2), (3, .int x3)] → wpW E qp ql qs a_heard a_walked a_total a_longest a_next a_cover a_now a_then lf_huts lf_singers lf_villages lf_dams lf_echoes lf_deep lf_slide la_heights la_ladders la_minutes la_echoFrom la_echoTo la_homes la_talls la_known sf_facts sa_heard sa_huts sa_minutes H → va_S (wpA qp ql qs) s.heap H locs → W p l e rm_wp_J7_fill_53178_3 s m args below meth c H locs 0 0 (MQ below (zQv (S := (Nat → Int32)) (fun u => post u) (fun u H => wpW E qp ql qs a_heard a_walked u a_longest a_next a_cover a_now a_then lf_huts lf_singers lf_villages lf_dams lf_echoes lf_deep lf_slide la_heights la_ladders la_minutes la_echoFrom la_echoTo la_homes la_talls la_known sf_facts sa_heard sa_huts sa_minutes H) (wpA qp ql qs)) args s 0 0 (wpA qp ql qs)) (F0 m 5 ls [])) ?_ _ _ _ hl hM hS
  intro x2 a_total hw H locs ls hl hM hS
  refine lv_iload_n hx hb dJ7_fill_53178_5 rfl (lv_at hl 2 rfl) ?_
  refine lv_iload_n hx hb dJ7_fill_53178_6 rfl (lv_at hl 3 rfl) ?_
  refine lv_icmp_ge (tgt := 20) hx hb dJ7_fill_53178_7 (by decide) (fun hc => ?_) (fun hc => ?_)
  · have hw := hw.1 hc
    exact zret_vw a_total zc hS hw hM dJ7_fill_53178_20
  · have hw := hw.2 hc
    refine lv_aload_n hx hb dJ7_fill_53178_10 rfl (lv_at hl 0 rfl) ?_
    refine lv_iload_n hx hb dJ7_fill_53178_11 rfl (lv_at hl 2 rfl) ?_
    refine lv_iload_n hx hb dJ7_fill_53178_12 rfl (lv_at hl 1 rfl) ?_
    refine wpst_3 zc hK hM hS hw.1 dJ7_fill_53178_13 (fun a_total_1 H locs ea_total_1 hM hS => ?_)
    have hw := hw.2 a_total_1 ea_total_1
    obtain ⟨v_1, ev_1⟩ : ∃ y : Int32, y = x2 + (1 : Int32) := ⟨_, rfl⟩
    have hw := hw v_1 ev_1
    refine lv_iinc (v := v_1) (k := 2) (lv' := [(2, .int v_1), (0, .ref (qp + 3)), (1, .int x1), (3, .int x3)]) hx hb dJ7_fill_53178_14 hl rfl (by rw [ev_1]; rfl) (by decide) rfl (fun ls hl => ?_)
    refine lv_goto (tgt := 5) hx hb dJ7_fill_53178_17 (by decide) ?_
    exact hw _ _ _ (lv_sub hl [1, 2, 0, 3] rfl) hM hS
set_option maxRecDepth 20000 in
theorem t_wp_J7_fill_53178_3_0 {p : Program} {l : Launch} {e : Env} {s : State} {m : MethodId} {args : Array Value} {below : List Frame} {meth : Method} {c : Code} {E : zE} {qp ql qs : Nat} {a_heard : Nat → Int32} {a_walked : Nat → Int32} {a_total : Nat → Int32} {a_longest : Nat → Int32} {a_next : Nat → Int32} {a_cover : Nat → Int32} {a_now : Nat → Int32} {a_then : Nat → Int32} {lf_huts : Int32} {lf_singers : Int32} {lf_villages : Int32} {lf_dams : Int32} {lf_echoes : Int32} {lf_deep : Int32} {lf_slide : Int32} {la_heights : Nat → Int32} {la_ladders : Nat → Int32} {la_minutes : Nat → Int32} {la_echoFrom : Nat → Int32} {la_echoTo : Nat → Int32} {la_homes : Nat → Int32} {la_talls : Nat → Int32} {la_known : Nat → Int32} {sf_facts : Int32} {sa_heard : Nat → Int32} {sa_huts : Nat → Int32} {sa_minutes : Nat → Int32} {post : (Nat → Int32) → Prop} {x1 : Int32} {ls : Array Slot} {H : Heap} {locs : List Loc}
    (zc : zC p s m args meth c cJ7_fill_53178 4 RJ7 none)
    (hK : zK E s)
    (hM : wpW E qp ql qs a_heard a_walked a_total a_longest a_next a_cover a_now a_then lf_huts lf_singers lf_villages lf_dams lf_echoes lf_deep lf_slide la_heights la_ladders la_minutes la_echoFrom la_echoTo la_homes la_talls la_known sf_facts sa_heard sa_huts sa_minutes H)
    (hS : va_S (wpA qp ql qs) s.heap H locs)
    (hl : lv_has ls 4 [(0, .ref (qp + 3)), (1, .int x1)])
    (hw : q_wp_J7_fill_53178_3_0 a_total x1 post) :
    W p l e rm_wp_J7_fill_53178_3 s m args below meth c H locs 0 0 (MQ below (zQv (S := (Nat → Int32)) (fun u => post u) (fun u H => wpW E qp ql qs a_heard a_walked u a_longest a_next a_cover a_now a_then lf_huts lf_singers lf_villages lf_dams lf_echoes lf_deep lf_slide la_heights la_ladders la_minutes la_echoFrom la_echoTo la_homes la_talls la_known sf_facts sa_heard sa_huts sa_minutes H) (wpA qp ql qs)) args s 0 0 (wpA qp ql qs)) (F0 m 0 ls []) := by
  have hx := zc.1
  have hb := zc.2.1
  refine lv_iconst (v := (0 : Int32)) hx hb dJ7_fill_53178_0 (by decide) ?_
  refine lv_istore_n (lv' := [(2, .int (0 : Int32)), (0, .ref (qp + 3)), (1, .int x1)]) hx hb dJ7_fill_53178_1 rfl hl (by decide) rfl (fun ls hl => ?_)
  refine lv_aload_n hx hb dJ7_fill_53178_2 rfl (lv_at hl 1 rfl) ?_
  refine va_alen (v := (9 : Int32)) hx hb hK.1 hM.1 3 1 rfl rfl rfl dJ7_fill_53178_3 ?_
  refine lv_istore_n (lv' := [(3, .int (9 : Int32)), (2, .int (0 : Int32)), (0, .ref (qp + 3)), (1, .int x1)]) hx hb dJ7_fill_53178_4 rfl hl (by decide) rfl (fun ls hl => ?_)
  exact t_wp_J7_fill_53178_3_5 zc hK hM hS  (lv_sub hl [2, 3, 1, 0] rfl) hw
set_option maxRecDepth 20000 in
theorem c_wp_J7_fill_53178_3 (l : Launch) {E : zE} {qp ql qs : Nat} {a_heard : Nat → Int32} {a_walked : Nat → Int32} {a_total : Nat → Int32} {a_longest : Nat → Int32} {a_next : Nat → Int32} {a_cover : Nat → Int32} {a_now : Nat → Int32} {a_then : Nat → Int32} {lf_huts : Int32} {lf_singers : Int32} {lf_villages : Int32} {lf_dams : Int32} {lf_echoes : Int32} {lf_deep : Int32} {lf_slide : Int32} {la_heights : Nat → Int32} {la_ladders : Nat → Int32} {la_minutes : Nat → Int32} {la_echoFrom : Nat → Int32} {la_echoTo : Nat → Int32} {la_homes : Nat → Int32} {la_talls : Nat → Int32} {la_known : Nat → Int32} {sf_facts : Int32} {sa_heard : Nat → Int32} {sa_huts : Nat → Int32} {sa_minutes : Nat → Int32} {x1 : Int32} {post : (Nat → Int32) → Prop} (hw : q_wp_J7_fill_53178_3_0 a_total x1 post) : Met l yJ7_fill_53178 (Cond.code yJ7_fill_53178 cJ7_fill_53178 4 none :: zb) rm_wp_J7_fill_53178_3 (va_Pc [.ref (qp + 3), .int x1] (fun U => wpW E qp ql qs a_heard a_walked a_total a_longest a_next a_cover a_now a_then lf_huts lf_singers lf_villages lf_dams lf_echoes lf_deep lf_slide la_heights la_ladders la_minutes la_echoFrom la_echoTo la_homes la_talls la_known sf_facts sa_heard sa_huts sa_minutes U.heap ∧ zK E U)) (zQv (S := (Nat → Int32)) (fun u => post u) (fun u H => wpW E qp ql qs a_heard a_walked u a_longest a_next a_cover a_now a_then lf_huts lf_singers lf_villages lf_dams lf_echoes lf_deep lf_slide la_heights la_ladders la_minutes la_echoFrom la_echoTo la_homes la_talls la_known sf_facts sa_heard sa_huts sa_minutes H) (wpA qp ql qs)) 0 0 (wpA qp ql qs) := by
  refine Met.ofW (cc := cJ7_fill_53178) (maxL := 4) (ret := none) (by decide) rfl ?_
  intro p e s m args below meth c s₁ B hml hv
  obtain ⟨rfl, hM, hK⟩ := hv
  have zc := zc_of B hml
  have hl := lv_entry ([.ref (qp + 3), .int x1]) (n := 4) (Nat.le_of_ble_eq_true rfl)
  rw [lg_entry_eq]
  generalize (lg_sl ([.ref (qp + 3), .int x1]) ++ List.replicate (4 - (lg_sl ([.ref (qp + 3), .int x1])).length) Slot.unset).toArray = ls at hl ⊢
  have hl : lv_has ls 4 [(0, .ref (qp + 3)), (1, .int x1)] := hl
  exact t_wp_J7_fill_53178_3_0 zc hK hM va_S.rf (lv_sub hl [0, 1] rfl) hw
-- wp_J7_fill_53178_4
abbrev rm_wp_J7_fill_53178_4 : Room := { frames := 0, cells := 0, slots := 0, locals := 0 }
def q_wp_J7_fill_53178_4_5 (a_longest : Nat → Int32) (x1 : Int32) (x2 : Int32) (x3 : Int32) (post : (Nat → Int32) → Prop) : Prop :=
  ∀ P5 : Int32 → (Nat → Int32) → Prop, (∀ (x2 : Int32) (a_longest : Nat → Int32), ((x3 ≤ x2 → (post a_longest)) ∧ (¬ x3 ≤ x2 → (vp_in x2 9 ∧ (∀ a_longest_1 : Nat → Int32, a_longest_1 = upd a_longest (Int32.toNatClampNeg x2) x1 → (∀ v_1 : Int32, v_1 = x2 + (1 : Int32) → (P5 v_1 a_longest_1)))))) → P5 x2 a_longest) → P5 x2 a_longest
def q_wp_J7_fill_53178_4_0 (a_longest : Nat → Int32) (x1 : Int32) (post : (Nat → Int32) → Prop) : Prop :=
  q_wp_J7_fill_53178_4_5 a_longest x1 (0 : Int32) (9 : Int32) post
set_option maxRecDepth 20000 in
theorem t_wp_J7_fill_53178_4_5 {p : Program} {l : Launch} {e : Env} {s : State} {m : MethodId} {args : Array Value} {below : List Frame} {meth : Method} {c : Code} {E : zE} {qp ql qs : Nat} {a_heard : Nat → Int32} {a_walked : Nat → Int32} {a_total : Nat → Int32} {a_longest : Nat → Int32} {a_next : Nat → Int32} {a_cover : Nat → Int32} {a_now : Nat → Int32} {a_then : Nat → Int32} {lf_huts : Int32} {lf_singers : Int32} {lf_villages : Int32} {lf_dams : Int32} {lf_echoes : Int32} {lf_deep : Int32} {lf_slide : Int32} {la_heights : Nat → Int32} {la_ladders : Nat → Int32} {la_minutes : Nat → Int32} {la_echoFrom : Nat → Int32} {la_echoTo : Nat → Int32} {la_homes : Nat → Int32} {la_talls : Nat → Int32} {la_known : Nat → Int32} {sf_facts : Int32} {sa_heard : Nat → Int32} {sa_huts : Nat → Int32} {sa_minutes : Nat → Int32} {post : (Nat → Int32) → Prop} {x1 : Int32} {x2 : Int32} {x3 : Int32} {ls : Array Slot} {H : Heap} {locs : List Loc}
    (zc : zC p s m args meth c cJ7_fill_53178 4 RJ7 none)
    (hK : zK E s)
    (hM : wpW E qp ql qs a_heard a_walked a_total a_longest a_next a_cover a_now a_then lf_huts lf_singers lf_villages lf_dams lf_echoes lf_deep lf_slide la_heights la_ladders la_minutes la_echoFrom la_echoTo la_homes la_talls la_known sf_facts sa_heard sa_huts sa_minutes H)
    (hS : va_S (wpA qp ql qs) s.heap H locs)
    (hl : lv_has ls 4 [(0, .ref (qp + 4)), (1, .int x1), (2, .int x2), (3, .int x3)])
    (hw : q_wp_J7_fill_53178_4_5 a_longest x1 x2 x3 post) :
    W p l e rm_wp_J7_fill_53178_4 s m args below meth c H locs 0 0 (MQ below (zQv (S := (Nat → Int32)) (fun u => post u) (fun u H => wpW E qp ql qs a_heard a_walked a_total u a_next a_cover a_now a_then lf_huts lf_singers lf_villages lf_dams lf_echoes lf_deep lf_slide la_heights la_ladders la_minutes la_echoFrom la_echoTo la_homes la_talls la_known sf_facts sa_heard sa_huts sa_minutes H) (wpA qp ql qs)) args s 0 0 (wpA qp ql qs)) (F0 m 5 ls []) := by
  have hx := zc.1
  have hb := zc.2.1
  refine hw (fun x2 a_longest => ∀ (H : Heap) (locs : List Loc) (ls : Array Slot), lv_has ls 4 [(0, .ref (qp + 4)), (1, .int x1), (2, .int x2), (3, .int x3)] → wpW E qp ql qs a_heard a_walked a_total a_longest a_next a_cover a_now a_then lf_huts lf_singers lf_villages lf_dams lf_echoes lf_deep lf_slide la_heights la_ladders la_minutes la_echoFrom la_echoTo la_homes la_talls la_known sf_facts sa_heard sa_huts sa_minutes H → va_S (wpA qp ql qs) s.heap H locs → W p l e rm_wp_J7_fill_53178_4 s m args below meth c H locs 0 0 (MQ below (zQv (S := (Nat → Int32)) (fun u => post u) (fun u H => wpW E qp ql qs a_heard a_walked a_total u a_next a_cover a_now a_then lf_huts lf_singers lf_villages lf_dams lf_echoes lf_deep lf_slide la_heights la_ladders la_minutes la_echoFrom la_echoTo la_homes la_talls la_known sf_facts sa_heard sa_huts sa_minutes H) (wpA qp ql qs)) args s 0 0 (wpA qp ql qs)) (F0 m 5 ls [])) ?_ _ _ _ hl hM hS
  intro x2 a_longest hw H locs ls hl hM hS
  refine lv_iload_n hx hb dJ7_fill_53178_5 rfl (lv_at hl 2 rfl) ?_
  refine lv_iload_n hx hb dJ7_fill_53178_6 rfl (lv_at hl 3 rfl) ?_
  refine lv_icmp_ge (tgt := 20) hx hb dJ7_fill_53178_7 (by decide) (fun hc => ?_) (fun hc => ?_)
  · have hw := hw.1 hc
    exact zret_vw a_longest zc hS hw hM dJ7_fill_53178_20
  · have hw := hw.2 hc
    refine lv_aload_n hx hb dJ7_fill_53178_10 rfl (lv_at hl 0 rfl) ?_
    refine lv_iload_n hx hb dJ7_fill_53178_11 rfl (lv_at hl 2 rfl) ?_
    refine lv_iload_n hx hb dJ7_fill_53178_12 rfl (lv_at hl 1 rfl) ?_
    refine wpst_4 zc hK hM hS hw.1 dJ7_fill_53178_13 (fun a_longest_1 H locs ea_longest_1 hM hS => ?_)
    have hw := hw.2 a_longest_1 ea_longest_1
    obtain ⟨v_1, ev_1⟩ : ∃ y : Int32, y = x2 + (1 : Int32) := ⟨_, rfl⟩
    have hw := hw v_1 ev_1
    refine lv_iinc (v := v_1) (k := 2) (lv' := [(2, .int v_1), (0, .ref (qp + 4)), (1, .int x1), (3, .int x3)]) hx hb dJ7_fill_53178_14 hl rfl (by rw [ev_1]; rfl) (by decide) rfl (fun ls hl => ?_)
    refine lv_goto (tgt := 5) hx hb dJ7_fill_53178_17 (by decide) ?_
    exact hw _ _ _ (lv_sub hl [1, 2, 0, 3] rfl) hM hS
set_option maxRecDepth 20000 in
theorem t_wp_J7_fill_53178_4_0 {p : Program} {l : Launch} {e : Env} {s : State} {m : MethodId} {args : Array Value} {below : List Frame} {meth : Method} {c : Code} {E : zE} {qp ql qs : Nat} {a_heard : Nat → Int32} {a_walked : Nat → Int32} {a_total : Nat → Int32} {a_longest : Nat → Int32} {a_next : Nat → Int32} {a_cover : Nat → Int32} {a_now : Nat → Int32} {a_then : Nat → Int32} {lf_huts : Int32} {lf_singers : Int32} {lf_villages : Int32} {lf_dams : Int32} {lf_echoes : Int32} {lf_deep : Int32} {lf_slide : Int32} {la_heights : Nat → Int32} {la_ladders : Nat → Int32} {la_minutes : Nat → Int32} {la_echoFrom : Nat → Int32} {la_echoTo : Nat → Int32} {la_homes : Nat → Int32} {la_talls : Nat → Int32} {la_known : Nat → Int32} {sf_facts : Int32} {sa_heard : Nat → Int32} {sa_huts : Nat → Int32} {sa_minutes : Nat → Int32} {post : (Nat → Int32) → Prop} {x1 : Int32} {ls : Array Slot} {H : Heap} {locs : List Loc}
    (zc : zC p s m args meth c cJ7_fill_53178 4 RJ7 none)
    (hK : zK E s)
    (hM : wpW E qp ql qs a_heard a_walked a_total a_longest a_next a_cover a_now a_then lf_huts lf_singers lf_villages lf_dams lf_echoes lf_deep lf_slide la_heights la_ladders la_minutes la_echoFrom la_echoTo la_homes la_talls la_known sf_facts sa_heard sa_huts sa_minutes H)
    (hS : va_S (wpA qp ql qs) s.heap H locs)
    (hl : lv_has ls 4 [(0, .ref (qp + 4)), (1, .int x1)])
    (hw : q_wp_J7_fill_53178_4_0 a_longest x1 post) :
    W p l e rm_wp_J7_fill_53178_4 s m args below meth c H locs 0 0 (MQ below (zQv (S := (Nat → Int32)) (fun u => post u) (fun u H => wpW E qp ql qs a_heard a_walked a_total u a_next a_cover a_now a_then lf_huts lf_singers lf_villages lf_dams lf_echoes lf_deep lf_slide la_heights la_ladders la_minutes la_echoFrom la_echoTo la_homes la_talls la_known sf_facts sa_heard sa_huts sa_minutes H) (wpA qp ql qs)) args s 0 0 (wpA qp ql qs)) (F0 m 0 ls []) := by
  have hx := zc.1
  have hb := zc.2.1
  refine lv_iconst (v := (0 : Int32)) hx hb dJ7_fill_53178_0 (by decide) ?_
  refine lv_istore_n (lv' := [(2, .int (0 : Int32)), (0, .ref (qp + 4)), (1, .int x1)]) hx hb dJ7_fill_53178_1 rfl hl (by decide) rfl (fun ls hl => ?_)
  refine lv_aload_n hx hb dJ7_fill_53178_2 rfl (lv_at hl 1 rfl) ?_
  refine va_alen (v := (9 : Int32)) hx hb hK.1 hM.1 4 1 rfl rfl rfl dJ7_fill_53178_3 ?_
  refine lv_istore_n (lv' := [(3, .int (9 : Int32)), (2, .int (0 : Int32)), (0, .ref (qp + 4)), (1, .int x1)]) hx hb dJ7_fill_53178_4 rfl hl (by decide) rfl (fun ls hl => ?_)
  exact t_wp_J7_fill_53178_4_5 zc hK hM hS  (lv_sub hl [2, 3, 1, 0] rfl) hw
set_option maxRecDepth 20000 in
theorem c_wp_J7_fill_53178_4 (l : Launch) {E : zE} {qp ql qs : Nat} {a_heard : Nat → Int32} {a_walked : Nat → Int32} {a_total : Nat → Int32} {a_longest : Nat → Int32} {a_next : Nat → Int32} {a_cover : Nat → Int32} {a_now : Nat → Int32} {a_then : Nat → Int32} {lf_huts : Int32} {lf_singers : Int32} {lf_villages : Int32} {lf_dams : Int32} {lf_echoes : Int32} {lf_deep : Int32} {lf_slide : Int32} {la_heights : Nat → Int32} {la_ladders : Nat → Int32} {la_minutes : Nat → Int32} {la_echoFrom : Nat → Int32} {la_echoTo : Nat → Int32} {la_homes : Nat → Int32} {la_talls : Nat → Int32} {la_known : Nat → Int32} {sf_facts : Int32} {sa_heard : Nat → Int32} {sa_huts : Nat → Int32} {sa_minutes : Nat → Int32} {x1 : Int32} {post : (Nat → Int32) → Prop} (hw : q_wp_J7_fill_53178_4_0 a_longest x1 post) : Met l yJ7_fill_53178 (Cond.code yJ7_fill_53178 cJ7_fill_53178 4 none :: zb) rm_wp_J7_fill_53178_4 (va_Pc [.ref (qp + 4), .int x1] (fun U => wpW E qp ql qs a_heard a_walked a_total a_longest a_next a_cover a_now a_then lf_huts lf_singers lf_villages lf_dams lf_echoes lf_deep lf_slide la_heights la_ladders la_minutes la_echoFrom la_echoTo la_homes la_talls la_known sf_facts sa_heard sa_huts sa_minutes U.heap ∧ zK E U)) (zQv (S := (Nat → Int32)) (fun u => post u) (fun u H => wpW E qp ql qs a_heard a_walked a_total u a_next a_cover a_now a_then lf_huts lf_singers lf_villages lf_dams lf_echoes lf_deep lf_slide la_heights la_ladders la_minutes la_echoFrom la_echoTo la_homes la_talls la_known sf_facts sa_heard sa_huts sa_minutes H) (wpA qp ql qs)) 0 0 (wpA qp ql qs) := by
  refine Met.ofW (cc := cJ7_fill_53178) (maxL := 4) (ret := none) (by decide) rfl ?_
  intro p e s m args below meth c s₁ B hml hv
  obtain ⟨rfl, hM, hK⟩ := hv
  have zc := zc_of B hml
  have hl := lv_entry ([.ref (qp + 4), .int x1]) (n := 4) (Nat.le_of_ble_eq_true rfl)
  rw [lg_entry_eq]
  generalize (lg_sl ([.ref (qp + 4), .int x1]) ++ List.replicate (4 - (lg_sl ([.ref (qp + 4), .int x1])).length) Slot.unset).toArray = ls at hl ⊢
  have hl : lv_has ls 4 [(0, .ref (qp + 4)), (1, .int x1)] := hl
  exact t_wp_J7_fill_53178_4_0 zc hK hM va_S.rf (lv_sub hl [0, 1] rfl) hw
-- wp_J7_fill_53178_7
abbrev rm_wp_J7_fill_53178_7 : Room := { frames := 0, cells := 0, slots := 0, locals := 0 }
def q_wp_J7_fill_53178_7_5 (a_now : Nat → Int32) (x1 : Int32) (x2 : Int32) (x3 : Int32) (post : (Nat → Int32) → Prop) : Prop :=
  ∀ P5 : Int32 → (Nat → Int32) → Prop, (∀ (x2 : Int32) (a_now : Nat → Int32), ((x3 ≤ x2 → (post a_now)) ∧ (¬ x3 ≤ x2 → (vp_in x2 9 ∧ (∀ a_now_1 : Nat → Int32, a_now_1 = upd a_now (Int32.toNatClampNeg x2) x1 → (∀ v_1 : Int32, v_1 = x2 + (1 : Int32) → (P5 v_1 a_now_1)))))) → P5 x2 a_now) → P5 x2 a_now
def q_wp_J7_fill_53178_7_0 (a_now : Nat → Int32) (x1 : Int32) (post : (Nat → Int32) → Prop) : Prop :=
  q_wp_J7_fill_53178_7_5 a_now x1 (0 : Int32) (9 : Int32) post
set_option maxRecDepth 20000 in
theorem t_wp_J7_fill_53178_7_5 {p : Program} {l : Launch} {e : Env} {s : State} {m : MethodId} {args : Array Value} {below : List Frame} {meth : Method} {c : Code} {E : zE} {qp ql qs : Nat} {a_heard : Nat → Int32} {a_walked : Nat → Int32} {a_total : Nat → Int32} {a_longest : Nat → Int32} {a_next : Nat → Int32} {a_cover : Nat → Int32} {a_now : Nat → Int32} {a_then : Nat → Int32} {lf_huts : Int32} {lf_singers : Int32} {lf_villages : Int32} {lf_dams : Int32} {lf_echoes : Int32} {lf_deep : Int32} {lf_slide : Int32} {la_heights : Nat → Int32} {la_ladders : Nat → Int32} {la_minutes : Nat → Int32} {la_echoFrom : Nat → Int32} {la_echoTo : Nat → Int32} {la_homes : Nat → Int32} {la_talls : Nat → Int32} {la_known : Nat → Int32} {sf_facts : Int32} {sa_heard : Nat → Int32} {sa_huts : Nat → Int32} {sa_minutes : Nat → Int32} {post : (Nat → Int32) → Prop} {x1 : Int32} {x2 : Int32} {x3 : Int32} {ls : Array Slot} {H : Heap} {locs : List Loc}
    (zc : zC p s m args meth c cJ7_fill_53178 4 RJ7 none)
    (hK : zK E s)
    (hM : wpW E qp ql qs a_heard a_walked a_total a_longest a_next a_cover a_now a_then lf_huts lf_singers lf_villages lf_dams lf_echoes lf_deep lf_slide la_heights la_ladders la_minutes la_echoFrom la_echoTo la_homes la_talls la_known sf_facts sa_heard sa_huts sa_minutes H)
    (hS : va_S (wpA qp ql qs) s.heap H locs)
    (hl : lv_has ls 4 [(0, .ref (qp + 7)), (1, .int x1), (2, .int x2), (3, .int x3)])
    (hw : q_wp_J7_fill_53178_7_5 a_now x1 x2 x3 post) :
    W p l e rm_wp_J7_fill_53178_7 s m args below meth c H locs 0 0 (MQ below (zQv (S := (Nat → Int32)) (fun u => post u) (fun u H => wpW E qp ql qs a_heard a_walked a_total a_longest a_next a_cover u a_then lf_huts lf_singers lf_villages lf_dams lf_echoes lf_deep lf_slide la_heights la_ladders la_minutes la_echoFrom la_echoTo la_homes la_talls la_known sf_facts sa_heard sa_huts sa_minutes H) (wpA qp ql qs)) args s 0 0 (wpA qp ql qs)) (F0 m 5 ls []) := by
  have hx := zc.1
  have hb := zc.2.1
  refine hw (fun x2 a_now => ∀ (H : Heap) (locs : List Loc) (ls : Array Slot), lv_has ls 4 [(0, .ref (qp + 7)), (1, .int x1), (2, .int x2), (3, .int x3)] → wpW E qp ql qs a_heard a_walked a_total a_longest a_next a_cover a_now a_then lf_huts lf_singers lf_villages lf_dams lf_echoes lf_deep lf_slide la_heights la_ladders la_minutes la_echoFrom la_echoTo la_homes la_talls la_known sf_facts sa_heard sa_huts sa_minutes H → va_S (wpA qp ql qs) s.heap H locs → W p l e rm_wp_J7_fill_53178_7 s m args below meth c H locs 0 0 (MQ below (zQv (S := (Nat → Int32)) (fun u => post u) (fun u H => wpW E qp ql qs a_heard a_walked a_total a_longest a_next a_cover u a_then lf_huts lf_singers lf_villages lf_dams lf_echoes lf_deep lf_slide la_heights la_ladders la_minutes la_echoFrom la_echoTo la_homes la_talls la_known sf_facts sa_heard sa_huts sa_minutes H) (wpA qp ql qs)) args s 0 0 (wpA qp ql qs)) (F0 m 5 ls [])) ?_ _ _ _ hl hM hS
  intro x2 a_now hw H locs ls hl hM hS
  refine lv_iload_n hx hb dJ7_fill_53178_5 rfl (lv_at hl 2 rfl) ?_
  refine lv_iload_n hx hb dJ7_fill_53178_6 rfl (lv_at hl 3 rfl) ?_
  refine lv_icmp_ge (tgt := 20) hx hb dJ7_fill_53178_7 (by decide) (fun hc => ?_) (fun hc => ?_)
  · have hw := hw.1 hc
    exact zret_vw a_now zc hS hw hM dJ7_fill_53178_20
  · have hw := hw.2 hc
    refine lv_aload_n hx hb dJ7_fill_53178_10 rfl (lv_at hl 0 rfl) ?_
    refine lv_iload_n hx hb dJ7_fill_53178_11 rfl (lv_at hl 2 rfl) ?_
    refine lv_iload_n hx hb dJ7_fill_53178_12 rfl (lv_at hl 1 rfl) ?_
    refine wpst_7 zc hK hM hS hw.1 dJ7_fill_53178_13 (fun a_now_1 H locs ea_now_1 hM hS => ?_)
    have hw := hw.2 a_now_1 ea_now_1
    obtain ⟨v_1, ev_1⟩ : ∃ y : Int32, y = x2 + (1 : Int32) := ⟨_, rfl⟩
    have hw := hw v_1 ev_1
    refine lv_iinc (v := v_1) (k := 2) (lv' := [(2, .int v_1), (0, .ref (qp + 7)), (1, .int x1), (3, .int x3)]) hx hb dJ7_fill_53178_14 hl rfl (by rw [ev_1]; rfl) (by decide) rfl (fun ls hl => ?_)
    refine lv_goto (tgt := 5) hx hb dJ7_fill_53178_17 (by decide) ?_
    exact hw _ _ _ (lv_sub hl [1, 2, 0, 3] rfl) hM hS
set_option maxRecDepth 20000 in
theorem t_wp_J7_fill_53178_7_0 {p : Program} {l : Launch} {e : Env} {s : State} {m : MethodId} {args : Array Value} {below : List Frame} {meth : Method} {c : Code} {E : zE} {qp ql qs : Nat} {a_heard : Nat → Int32} {a_walked : Nat → Int32} {a_total : Nat → Int32} {a_longest : Nat → Int32} {a_next : Nat → Int32} {a_cover : Nat → Int32} {a_now : Nat → Int32} {a_then : Nat → Int32} {lf_huts : Int32} {lf_singers : Int32} {lf_villages : Int32} {lf_dams : Int32} {lf_echoes : Int32} {lf_deep : Int32} {lf_slide : Int32} {la_heights : Nat → Int32} {la_ladders : Nat → Int32} {la_minutes : Nat → Int32} {la_echoFrom : Nat → Int32} {la_echoTo : Nat → Int32} {la_homes : Nat → Int32} {la_talls : Nat → Int32} {la_known : Nat → Int32} {sf_facts : Int32} {sa_heard : Nat → Int32} {sa_huts : Nat → Int32} {sa_minutes : Nat → Int32} {post : (Nat → Int32) → Prop} {x1 : Int32} {ls : Array Slot} {H : Heap} {locs : List Loc}
    (zc : zC p s m args meth c cJ7_fill_53178 4 RJ7 none)
    (hK : zK E s)
    (hM : wpW E qp ql qs a_heard a_walked a_total a_longest a_next a_cover a_now a_then lf_huts lf_singers lf_villages lf_dams lf_echoes lf_deep lf_slide la_heights la_ladders la_minutes la_echoFrom la_echoTo la_homes la_talls la_known sf_facts sa_heard sa_huts sa_minutes H)
    (hS : va_S (wpA qp ql qs) s.heap H locs)
    (hl : lv_has ls 4 [(0, .ref (qp + 7)), (1, .int x1)])
    (hw : q_wp_J7_fill_53178_7_0 a_now x1 post) :
    W p l e rm_wp_J7_fill_53178_7 s m args below meth c H locs 0 0 (MQ below (zQv (S := (Nat → Int32)) (fun u => post u) (fun u H => wpW E qp ql qs a_heard a_walked a_total a_longest a_next a_cover u a_then lf_huts lf_singers lf_villages lf_dams lf_echoes lf_deep lf_slide la_heights la_ladders la_minutes la_echoFrom la_echoTo la_homes la_talls la_known sf_facts sa_heard sa_huts sa_minutes H) (wpA qp ql qs)) args s 0 0 (wpA qp ql qs)) (F0 m 0 ls []) := by
  have hx := zc.1
  have hb := zc.2.1
  refine lv_iconst (v := (0 : Int32)) hx hb dJ7_fill_53178_0 (by decide) ?_
  refine lv_istore_n (lv' := [(2, .int (0 : Int32)), (0, .ref (qp + 7)), (1, .int x1)]) hx hb dJ7_fill_53178_1 rfl hl (by decide) rfl (fun ls hl => ?_)
  refine lv_aload_n hx hb dJ7_fill_53178_2 rfl (lv_at hl 1 rfl) ?_
  refine va_alen (v := (9 : Int32)) hx hb hK.1 hM.1 7 1 rfl rfl rfl dJ7_fill_53178_3 ?_
  refine lv_istore_n (lv' := [(3, .int (9 : Int32)), (2, .int (0 : Int32)), (0, .ref (qp + 7)), (1, .int x1)]) hx hb dJ7_fill_53178_4 rfl hl (by decide) rfl (fun ls hl => ?_)
  exact t_wp_J7_fill_53178_7_5 zc hK hM hS  (lv_sub hl [2, 3, 1, 0] rfl) hw
set_option maxRecDepth 20000 in
theorem c_wp_J7_fill_53178_7 (l : Launch) {E : zE} {qp ql qs : Nat} {a_heard : Nat → Int32} {a_walked : Nat → Int32} {a_total : Nat → Int32} {a_longest : Nat → Int32} {a_next : Nat → Int32} {a_cover : Nat → Int32} {a_now : Nat → Int32} {a_then : Nat → Int32} {lf_huts : Int32} {lf_singers : Int32} {lf_villages : Int32} {lf_dams : Int32} {lf_echoes : Int32} {lf_deep : Int32} {lf_slide : Int32} {la_heights : Nat → Int32} {la_ladders : Nat → Int32} {la_minutes : Nat → Int32} {la_echoFrom : Nat → Int32} {la_echoTo : Nat → Int32} {la_homes : Nat → Int32} {la_talls : Nat → Int32} {la_known : Nat → Int32} {sf_facts : Int32} {sa_heard : Nat → Int32} {sa_huts : Nat → Int32} {sa_minutes : Nat → Int32} {x1 : Int32} {post : (Nat → Int32) → Prop} (hw : q_wp_J7_fill_53178_7_0 a_now x1 post) : Met l yJ7_fill_53178 (Cond.code yJ7_fill_53178 cJ7_fill_53178 4 none :: zb) rm_wp_J7_fill_53178_7 (va_Pc [.ref (qp + 7), .int x1] (fun U => wpW E qp ql qs a_heard a_walked a_total a_longest a_next a_cover a_now a_then lf_huts lf_singers lf_villages lf_dams lf_echoes lf_deep lf_slide la_heights la_ladders la_minutes la_echoFrom la_echoTo la_homes la_talls la_known sf_facts sa_heard sa_huts sa_minutes U.heap ∧ zK E U)) (zQv (S := (Nat → Int32)) (fun u => post u) (fun u H => wpW E qp ql qs a_heard a_walked a_total a_longest a_next a_cover u a_then lf_huts lf_singers lf_villages lf_dams lf_echoes lf_deep lf_slide la_heights la_ladders la_minutes la_echoFrom la_echoTo la_homes la_talls la_known sf_facts sa_heard sa_huts sa_minutes H) (wpA qp ql qs)) 0 0 (wpA qp ql qs) := by
  refine Met.ofW (cc := cJ7_fill_53178) (maxL := 4) (ret := none) (by decide) rfl ?_
  intro p e s m args below meth c s₁ B hml hv
  obtain ⟨rfl, hM, hK⟩ := hv
  have zc := zc_of B hml
  have hl := lv_entry ([.ref (qp + 7), .int x1]) (n := 4) (Nat.le_of_ble_eq_true rfl)
  rw [lg_entry_eq]
  generalize (lg_sl ([.ref (qp + 7), .int x1]) ++ List.replicate (4 - (lg_sl ([.ref (qp + 7), .int x1])).length) Slot.unset).toArray = ls at hl ⊢
  have hl : lv_has ls 4 [(0, .ref (qp + 7)), (1, .int x1)] := hl
  exact t_wp_J7_fill_53178_7_0 zc hK hM va_S.rf (lv_sub hl [0, 1] rfl) hw
-- wp_X7_routesOn_9
abbrev rm_wp_X7_routesOn_9 : Room := { frames := 2, cells := 0, slots := 0, locals := 43 }
def q_wp_X7_routesOn_9_34 (P5 : Int32 → Int32 → Prop) (a_now : Nat → Int32) (lf_huts : Int32) (lf_dams : Int32) (la_heights : Nat → Int32) (la_minutes : Nat → Int32) (x2 : Int32) (x3 : Int32) (x4 : Int32) (post : Int32 → Prop) : Prop :=
  ∀ v_1 : Int32, v_1 = x4 + (1 : Int32) → (P5 x3 v_1)
def q_wp_X7_routesOn_9_5 (a_now : Nat → Int32) (lf_huts : Int32) (lf_dams : Int32) (la_heights : Nat → Int32) (la_minutes : Nat → Int32) (x2 : Int32) (x3 : Int32) (x4 : Int32) (post : Int32 → Prop) : Prop :=
  ∀ P5 : Int32 → Int32 → Prop, (∀ (x3 : Int32) (x4 : Int32), ((lf_huts ≤ x4 → (post x3)) ∧ (¬ lf_huts ≤ x4 → (q_wl_X2_leads_0 lf_dams la_heights la_minutes x4 x2 (fun r_1 => (r_1 = 0 → (q_wp_X7_routesOn_9_34 P5 a_now lf_huts lf_dams la_heights la_minutes x2 x3 x4 post)) ∧ (¬ r_1 = 0 → (vp_in x4 9 ∧ (∀ v_1 : Int32, v_1 = (x3 + (a_now (Int32.toNatClampNeg x4))) → (q_wp_X7_routesOn_9_34 P5 a_now lf_huts lf_dams la_heights la_minutes x2 v_1 x4 post)))))))) → P5 x3 x4) → P5 x3 x4
def q_wp_X7_routesOn_9_0 (a_now : Nat → Int32) (lf_huts : Int32) (lf_dams : Int32) (la_heights : Nat → Int32) (la_minutes : Nat → Int32) (x2 : Int32) (post : Int32 → Prop) : Prop :=
  q_wp_X7_routesOn_9_5 a_now lf_huts lf_dams la_heights la_minutes x2 (0 : Int32) (0 : Int32) post
set_option maxRecDepth 20000 in
theorem t_wp_X7_routesOn_9_34 {p : Program} {l : Launch} {e : Env} {s : State} {m : MethodId} {args : Array Value} {below : List Frame} {meth : Method} {c : Code} {E : zE} {qp ql qs : Nat} {a_heard : Nat → Int32} {a_walked : Nat → Int32} {a_total : Nat → Int32} {a_longest : Nat → Int32} {a_next : Nat → Int32} {a_cover : Nat → Int32} {a_now : Nat → Int32} {a_then : Nat → Int32} {lf_huts : Int32} {lf_singers : Int32} {lf_villages : Int32} {lf_dams : Int32} {lf_echoes : Int32} {lf_deep : Int32} {lf_slide : Int32} {la_heights : Nat → Int32} {la_ladders : Nat → Int32} {la_minutes : Nat → Int32} {la_echoFrom : Nat → Int32} {la_echoTo : Nat → Int32} {la_homes : Nat → Int32} {la_talls : Nat → Int32} {la_known : Nat → Int32} {sf_facts : Int32} {sa_heard : Nat → Int32} {sa_huts : Nat → Int32} {sa_minutes : Nat → Int32} {P5 : Int32 → Int32 → Prop} {post : Int32 → Prop} {x2 : Int32} {x3 : Int32} {x4 : Int32} {ls : Array Slot}
    (zc : zC p s m args meth c cX7_routesOn 5 RX7 (some .int))
    (hK : zK E s)
    (hM : wpW E qp ql qs a_heard a_walked a_total a_longest a_next a_cover a_now a_then lf_huts lf_singers lf_villages lf_dams lf_echoes lf_deep lf_slide la_heights la_ladders la_minutes la_echoFrom la_echoTo la_homes la_talls la_known sf_facts sa_heard sa_huts sa_minutes s.heap)
    (hP5 : ∀ (x3 : Int32) (x4 : Int32) (ls : Array Slot), P5 x3 x4 → lv_has ls 5 [(0, .ref qp), (1, .ref ql), (2, .int x2), (3, .int x3), (4, .int x4)] → W p l e rm_wp_X7_routesOn_9 s m args below meth c s.heap [] 0 0 (MQ below (vp_Si post) args s 0 0 (fun _ => False)) (F0 m 5 ls []))
    (hl : lv_has ls 5 [(0, .ref qp), (1, .ref ql), (2, .int x2), (3, .int x3), (4, .int x4)])
    (hw : q_wp_X7_routesOn_9_34 P5 a_now lf_huts lf_dams la_heights la_minutes x2 x3 x4 post) :
    W p l e rm_wp_X7_routesOn_9 s m args below meth c s.heap [] 0 0 (MQ below (vp_Si post) args s 0 0 (fun _ => False)) (F0 m 34 ls []) := by
  have hx := zc.1
  have hb := zc.2.1
  obtain ⟨v_1, ev_1⟩ : ∃ y : Int32, y = x4 + (1 : Int32) := ⟨_, rfl⟩
  have hw := hw v_1 ev_1
  refine lv_iinc (v := v_1) (k := 4) (lv' := [(4, .int v_1), (0, .ref qp), (1, .ref ql), (2, .int x2), (3, .int x3)]) hx hb dX7_routesOn_34 hl rfl (by rw [ev_1]; rfl) (by decide) rfl (fun ls hl => ?_)
  refine lv_goto (tgt := 5) hx hb dX7_routesOn_37 (by decide) ?_
  exact hP5 _ _ _ hw (lv_sub hl [1, 2, 3, 4, 0] rfl)
set_option maxRecDepth 20000 in
theorem t_wp_X7_routesOn_9_5 {p : Program} {l : Launch} {e : Env} {s : State} {m : MethodId} {args : Array Value} {below : List Frame} {meth : Method} {c : Code} {E : zE} {qp ql qs : Nat} {a_heard : Nat → Int32} {a_walked : Nat → Int32} {a_total : Nat → Int32} {a_longest : Nat → Int32} {a_next : Nat → Int32} {a_cover : Nat → Int32} {a_now : Nat → Int32} {a_then : Nat → Int32} {lf_huts : Int32} {lf_singers : Int32} {lf_villages : Int32} {lf_dams : Int32} {lf_echoes : Int32} {lf_deep : Int32} {lf_slide : Int32} {la_heights : Nat → Int32} {la_ladders : Nat → Int32} {la_minutes : Nat → Int32} {la_echoFrom : Nat → Int32} {la_echoTo : Nat → Int32} {la_homes : Nat → Int32} {la_talls : Nat → Int32} {la_known : Nat → Int32} {sf_facts : Int32} {sa_heard : Nat → Int32} {sa_huts : Nat → Int32} {sa_minutes : Nat → Int32} {post : Int32 → Prop} {x2 : Int32} {x3 : Int32} {x4 : Int32} {ls : Array Slot}
    (zc : zC p s m args meth c cX7_routesOn 5 RX7 (some .int))
    (hK : zK E s)
    (hM : wpW E qp ql qs a_heard a_walked a_total a_longest a_next a_cover a_now a_then lf_huts lf_singers lf_villages lf_dams lf_echoes lf_deep lf_slide la_heights la_ladders la_minutes la_echoFrom la_echoTo la_homes la_talls la_known sf_facts sa_heard sa_huts sa_minutes s.heap)
    (hl : lv_has ls 5 [(0, .ref qp), (1, .ref ql), (2, .int x2), (3, .int x3), (4, .int x4)])
    (hw : q_wp_X7_routesOn_9_5 a_now lf_huts lf_dams la_heights la_minutes x2 x3 x4 post) :
    W p l e rm_wp_X7_routesOn_9 s m args below meth c s.heap [] 0 0 (MQ below (vp_Si post) args s 0 0 (fun _ => False)) (F0 m 5 ls []) := by
  have hx := zc.1
  have hb := zc.2.1
  refine hw (fun x3 x4 => ∀ (ls : Array Slot), lv_has ls 5 [(0, .ref qp), (1, .ref ql), (2, .int x2), (3, .int x3), (4, .int x4)] → W p l e rm_wp_X7_routesOn_9 s m args below meth c s.heap [] 0 0 (MQ below (vp_Si post) args s 0 0 (fun _ => False)) (F0 m 5 ls [])) ?_ _ hl
  intro x3 x4 hw ls hl
  refine lv_iload hx hb dX7_routesOn_5 (lv_at hl 4 rfl) ?_
  refine lv_aload_n hx hb dX7_routesOn_7 rfl (lv_at hl 1 rfl) ?_
  refine wpg_7_42_9 zc hK hM dX7_routesOn_8 ?_
  refine lv_icmp_ge (tgt := 40) hx hb dX7_routesOn_11 (by decide) (fun hc => ?_) (fun hc => ?_)
  · have hw := hw.1 hc
    refine lv_iload_n hx hb dX7_routesOn_40 rfl (lv_at hl 3 rfl) ?_
    exact zret_i zc hw dX7_routesOn_41
  · have hw := hw.2 hc
    refine lv_aload_n hx hb dX7_routesOn_14 rfl (lv_at hl 1 rfl) ?_
    refine lv_iload hx hb dX7_routesOn_15 (lv_at hl 4 rfl) ?_
    refine lv_iload_n hx hb dX7_routesOn_17 rfl (lv_at hl 2 rfl) ?_
    refine zV_i [.int x4, .int x2] [] zc ky_X2_leads kz_X2_leads km_7_48 (c_wl_X2_leads l hw) (wlPreV0 hK (pj_wp_wl_9 hM)) rfl rfl hl.1 (Nat.le_of_ble_eq_true rfl) ⟨rfl, rfl⟩ ⟨Nat.le_of_ble_eq_true rfl, Nat.le_of_ble_eq_true rfl⟩ ⟨(Nat.zero_le _), (Nat.zero_le _)⟩ dX7_routesOn_18 (fun r_1 hw => ?_)
    refine lv_if_eq (tgt := 34) hx hb dX7_routesOn_21 (by decide) (fun hc => ?_) (fun hc => ?_)
    · have hw := hw.1 hc
      exact t_wp_X7_routesOn_9_34 zc hK hM (fun _ _ ls h hl => h ls hl) (lv_sub hl [0, 1, 2, 3, 4] rfl) hw
    · have hw := hw.2 hc
      refine lv_iload_n hx hb dX7_routesOn_24 rfl (lv_at hl 3 rfl) ?_
      refine lv_aload_n hx hb dX7_routesOn_25 rfl (lv_at hl 0 rfl) ?_
      refine wpg_7_30_0 zc hK hM dX7_routesOn_26 ?_
      refine lv_iload hx hb dX7_routesOn_29 (lv_at hl 4 rfl) ?_
      refine wpld_7 zc hK hM hw.1 dX7_routesOn_31 ?_
      have hw := hw.2
      refine lv_iadd hx hb dX7_routesOn_32 ?_
      refine lv_topi (fun v_1 ev_1 => ?_)
      have hw := hw v_1 ev_1
      refine lv_istore_n (lv' := [(3, .int v_1), (0, .ref qp), (1, .ref ql), (2, .int x2), (4, .int x4)]) hx hb dX7_routesOn_33 rfl hl (by decide) rfl (fun ls hl => ?_)
      exact t_wp_X7_routesOn_9_34 zc hK hM (fun _ _ ls h hl => h ls hl) (lv_sub hl [1, 2, 3, 0, 4] rfl) hw
set_option maxRecDepth 20000 in
theorem t_wp_X7_routesOn_9_0 {p : Program} {l : Launch} {e : Env} {s : State} {m : MethodId} {args : Array Value} {below : List Frame} {meth : Method} {c : Code} {E : zE} {qp ql qs : Nat} {a_heard : Nat → Int32} {a_walked : Nat → Int32} {a_total : Nat → Int32} {a_longest : Nat → Int32} {a_next : Nat → Int32} {a_cover : Nat → Int32} {a_now : Nat → Int32} {a_then : Nat → Int32} {lf_huts : Int32} {lf_singers : Int32} {lf_villages : Int32} {lf_dams : Int32} {lf_echoes : Int32} {lf_deep : Int32} {lf_slide : Int32} {la_heights : Nat → Int32} {la_ladders : Nat → Int32} {la_minutes : Nat → Int32} {la_echoFrom : Nat → Int32} {la_echoTo : Nat → Int32} {la_homes : Nat → Int32} {la_talls : Nat → Int32} {la_known : Nat → Int32} {sf_facts : Int32} {sa_heard : Nat → Int32} {sa_huts : Nat → Int32} {sa_minutes : Nat → Int32} {post : Int32 → Prop} {x2 : Int32} {ls : Array Slot}
    (zc : zC p s m args meth c cX7_routesOn 5 RX7 (some .int))
    (hK : zK E s)
    (hM : wpW E qp ql qs a_heard a_walked a_total a_longest a_next a_cover a_now a_then lf_huts lf_singers lf_villages lf_dams lf_echoes lf_deep lf_slide la_heights la_ladders la_minutes la_echoFrom la_echoTo la_homes la_talls la_known sf_facts sa_heard sa_huts sa_minutes s.heap)
    (hl : lv_has ls 5 [(0, .ref qp), (1, .ref ql), (2, .int x2)])
    (hw : q_wp_X7_routesOn_9_0 a_now lf_huts lf_dams la_heights la_minutes x2 post) :
    W p l e rm_wp_X7_routesOn_9 s m args below meth c s.heap [] 0 0 (MQ below (vp_Si post) args s 0 0 (fun _ => False)) (F0 m 0 ls []) := by
  have hx := zc.1
  have hb := zc.2.1
  refine lv_iconst (v := (0 : Int32)) hx hb dX7_routesOn_0 (by decide) ?_
  refine lv_istore_n (lv' := [(3, .int (0 : Int32)), (0, .ref qp), (1, .ref ql), (2, .int x2)]) hx hb dX7_routesOn_1 rfl hl (by decide) rfl (fun ls hl => ?_)
  refine lv_iconst (v := (0 : Int32)) hx hb dX7_routesOn_2 (by decide) ?_
  refine lv_istore (lv' := [(4, .int (0 : Int32)), (3, .int (0 : Int32)), (0, .ref qp), (1, .ref ql), (2, .int x2)]) hx hb dX7_routesOn_3 hl (by decide) rfl (fun ls hl => ?_)
  exact t_wp_X7_routesOn_9_5 zc hK hM  (lv_sub hl [2, 3, 4, 1, 0] rfl) hw
set_option maxRecDepth 20000 in
theorem c_wp_X7_routesOn_9 (l : Launch) {E : zE} {qp ql qs : Nat} {a_heard : Nat → Int32} {a_walked : Nat → Int32} {a_total : Nat → Int32} {a_longest : Nat → Int32} {a_next : Nat → Int32} {a_cover : Nat → Int32} {a_now : Nat → Int32} {a_then : Nat → Int32} {lf_huts : Int32} {lf_singers : Int32} {lf_villages : Int32} {lf_dams : Int32} {lf_echoes : Int32} {lf_deep : Int32} {lf_slide : Int32} {la_heights : Nat → Int32} {la_ladders : Nat → Int32} {la_minutes : Nat → Int32} {la_echoFrom : Nat → Int32} {la_echoTo : Nat → Int32} {la_homes : Nat → Int32} {la_talls : Nat → Int32} {la_known : Nat → Int32} {sf_facts : Int32} {sa_heard : Nat → Int32} {sa_huts : Nat → Int32} {sa_minutes : Nat → Int32} {x2 : Int32} {post : Int32 → Prop} (hw : q_wp_X7_routesOn_9_0 a_now lf_huts lf_dams la_heights la_minutes x2 post) : Met l yX7_routesOn (Cond.code yX7_routesOn cX7_routesOn 5 (some .int) :: zb) rm_wp_X7_routesOn_9 (va_Pc [.ref qp, .ref ql, .int x2] (fun U => wpW E qp ql qs a_heard a_walked a_total a_longest a_next a_cover a_now a_then lf_huts lf_singers lf_villages lf_dams lf_echoes lf_deep lf_slide la_heights la_ladders la_minutes la_echoFrom la_echoTo la_homes la_talls la_known sf_facts sa_heard sa_huts sa_minutes U.heap ∧ zK E U)) (vp_Si post) 0 0 (fun _ => False) := by
  refine Met.ofW (cc := cX7_routesOn) (maxL := 5) (ret := (some .int)) (by decide) rfl ?_
  intro p e s m args below meth c s₁ B hml hv
  obtain ⟨rfl, hM, hK⟩ := hv
  have zc := zc_of B hml
  have hl := lv_entry ([.ref qp, .ref ql, .int x2]) (n := 5) (Nat.le_of_ble_eq_true rfl)
  rw [lg_entry_eq]
  generalize (lg_sl ([.ref qp, .ref ql, .int x2]) ++ List.replicate (5 - (lg_sl ([.ref qp, .ref ql, .int x2])).length) Slot.unset).toArray = ls at hl ⊢
  have hl : lv_has ls 5 [(0, .ref qp), (1, .ref ql), (2, .int x2)] := hl
  exact t_wp_X7_routesOn_9_0 zc hK hM (lv_sub hl [0, 1, 2] rfl) hw
-- wp_X7_trace_9
abbrev rm_wp_X7_trace_9 : Room := { frames := 3, cells := 0, slots := 0, locals := 67 }
def q_wp_X7_trace_9_102 (P33 : Int32 → (Nat → Int32) → (Nat → Int32) → (Nat → Int32) → (Nat → Int32) → Prop) (P44 : Int32 → (Nat → Int32) → (Nat → Int32) → (Nat → Int32) → Prop) (a_total : Nat → Int32) (a_longest : Nat → Int32) (a_now : Nat → Int32) (a_then : Nat → Int32) (lf_huts : Int32) (lf_dams : Int32) (la_heights : Nat → Int32) (la_minutes : Nat → Int32) (x3 : Int32) (x4 : Int32) (post : (Nat → Int32) → (Nat → Int32) → (Nat → Int32) → (Nat → Int32) → Prop) : Prop :=
  ∀ v_1 : Int32, v_1 = x4 + (1 : Int32) → (P44 v_1 a_total a_longest a_then)
def q_wp_X7_trace_9_44 (P33 : Int32 → (Nat → Int32) → (Nat → Int32) → (Nat → Int32) → (Nat → Int32) → Prop) (a_total : Nat → Int32) (a_longest : Nat → Int32) (a_now : Nat → Int32) (a_then : Nat → Int32) (lf_huts : Int32) (lf_dams : Int32) (la_heights : Nat → Int32) (la_minutes : Nat → Int32) (x3 : Int32) (x4 : Int32) (post : (Nat → Int32) → (Nat → Int32) → (Nat → Int32) → (Nat → Int32) → Prop) : Prop :=
  ∀ P44 : Int32 → (Nat → Int32) → (Nat → Int32) → (Nat → Int32) → Prop, (∀ (x4 : Int32) (a_total : Nat → Int32) (a_longest : Nat → Int32) (a_then : Nat → Int32), ((lf_huts ≤ x4 → (∀ a_now_1 : Nat → Int32, a_now_1 = va_cpy a_then a_now (Int32.toNatClampNeg (0 : Int32)) (Int32.toNatClampNeg (0 : Int32)) (Int32.toNatClampNeg (9 : Int32)) → (∀ v_1 : Int32, v_1 = x3 + (1 : Int32) → (P33 v_1 a_total a_longest a_now_1 a_then)))) ∧ (¬ lf_huts ≤ x4 → (q_wp_X7_routesOn_9_0 a_now lf_huts lf_dams la_heights la_minutes x4 (fun r_1 => vp_in x4 9 ∧ (∀ a_then_1 : Nat → Int32, a_then_1 = upd a_then (Int32.toNatClampNeg x4) r_1 → (vp_in x4 9 ∧ (((a_then_1 (Int32.toNatClampNeg x4)) ≤ 0 → (q_wp_X7_trace_9_102 P33 P44 a_total a_longest a_now a_then_1 lf_huts lf_dams la_heights la_minutes x3 x4 post)) ∧ (¬ (a_then_1 (Int32.toNatClampNeg x4)) ≤ 0 → (vp_in x4 9 ∧ (vp_in x4 9 ∧ (∀ v_2 : Int32, v_2 = ((a_total (Int32.toNatClampNeg x4)) + (a_then_1 (Int32.toNatClampNeg x4))) → (vp_in x4 9 ∧ (∀ a_total_1 : Nat → Int32, a_total_1 = upd a_total (Int32.toNatClampNeg x4) v_2 → (vp_in x4 9 ∧ (∀ a_longest_1 : Nat → Int32, a_longest_1 = upd a_longest (Int32.toNatClampNeg x4) x3 → (q_wp_X7_trace_9_102 P33 P44 a_total_1 a_longest_1 a_now a_then_1 lf_huts lf_dams la_heights la_minutes x3 x4 post)))))))))))))))) → P44 x4 a_total a_longest a_then) → P44 x4 a_total a_longest a_then
def q_wp_X7_trace_9_33 (a_total : Nat → Int32) (a_longest : Nat → Int32) (a_now : Nat → Int32) (a_then : Nat → Int32) (lf_huts : Int32) (lf_dams : Int32) (la_heights : Nat → Int32) (la_minutes : Nat → Int32) (x3 : Int32) (post : (Nat → Int32) → (Nat → Int32) → (Nat → Int32) → (Nat → Int32) → Prop) : Prop :=
  ∀ P33 : Int32 → (Nat → Int32) → (Nat → Int32) → (Nat → Int32) → (Nat → Int32) → Prop, (∀ (x3 : Int32) (a_total : Nat → Int32) (a_longest : Nat → Int32) (a_now : Nat → Int32) (a_then : Nat → Int32), ((lf_huts ≤ x3 → (post a_total a_longest a_now a_then)) ∧ (¬ lf_huts ≤ x3 → (q_wp_X7_trace_9_44 P33 a_total a_longest a_now a_then lf_huts lf_dams la_heights la_minutes x3 (0 : Int32) post))) → P33 x3 a_total a_longest a_now a_then) → P33 x3 a_total a_longest a_now a_then
def q_wp_X7_trace_9_0 (a_total : Nat → Int32) (a_longest : Nat → Int32) (a_now : Nat → Int32) (a_then : Nat → Int32) (lf_huts : Int32) (lf_dams : Int32) (la_heights : Nat → Int32) (la_minutes : Nat → Int32) (x2 : Int32) (post : (Nat → Int32) → (Nat → Int32) → (Nat → Int32) → (Nat → Int32) → Prop) : Prop :=
  q_wp_J7_fill_53178_3_0 a_total (0 : Int32) (fun a_total_1 => q_wp_J7_fill_53178_4_0 a_longest (0 : Int32) (fun a_longest_1 => q_wp_J7_fill_53178_7_0 a_now (0 : Int32) (fun a_now_1 => vp_in x2 9 ∧ (∀ a_now_2 : Nat → Int32, a_now_2 = upd a_now_1 (Int32.toNatClampNeg x2) (1 : Int32) → (q_wp_X7_trace_9_33 a_total_1 a_longest_1 a_now_2 a_then lf_huts lf_dams la_heights la_minutes (1 : Int32) post)))))
set_option maxRecDepth 20000 in
theorem t_wp_X7_trace_9_102 {p : Program} {l : Launch} {e : Env} {s : State} {m : MethodId} {args : Array Value} {below : List Frame} {meth : Method} {c : Code} {E : zE} {qp ql qs : Nat} {a_heard : Nat → Int32} {a_walked : Nat → Int32} {a_total : Nat → Int32} {a_longest : Nat → Int32} {a_next : Nat → Int32} {a_cover : Nat → Int32} {a_now : Nat → Int32} {a_then : Nat → Int32} {lf_huts : Int32} {lf_singers : Int32} {lf_villages : Int32} {lf_dams : Int32} {lf_echoes : Int32} {lf_deep : Int32} {lf_slide : Int32} {la_heights : Nat → Int32} {la_ladders : Nat → Int32} {la_minutes : Nat → Int32} {la_echoFrom : Nat → Int32} {la_echoTo : Nat → Int32} {la_homes : Nat → Int32} {la_talls : Nat → Int32} {la_known : Nat → Int32} {sf_facts : Int32} {sa_heard : Nat → Int32} {sa_huts : Nat → Int32} {sa_minutes : Nat → Int32} {P33 : Int32 → (Nat → Int32) → (Nat → Int32) → (Nat → Int32) → (Nat → Int32) → Prop} {P44 : Int32 → (Nat → Int32) → (Nat → Int32) → (Nat → Int32) → Prop} {post : (Nat → Int32) → (Nat → Int32) → (Nat → Int32) → (Nat → Int32) → Prop} {x3 : Int32} {x4 : Int32} {ls : Array Slot} {H : Heap} {locs : List Loc}
    (zc : zC p s m args meth c cX7_trace 5 RX7 none)
    (hK : zK E s)
    (hM : wpW E qp ql qs a_heard a_walked a_total a_longest a_next a_cover a_now a_then lf_huts lf_singers lf_villages lf_dams lf_echoes lf_deep lf_slide la_heights la_ladders la_minutes la_echoFrom la_echoTo la_homes la_talls la_known sf_facts sa_heard sa_huts sa_minutes H)
    (hS : va_S (wpA qp ql qs) s.heap H locs)
    (hP33 : ∀ (x3 : Int32) (a_total : Nat → Int32) (a_longest : Nat → Int32) (a_now : Nat → Int32) (a_then : Nat → Int32) (H : Heap) (locs : List Loc) (ls : Array Slot), P33 x3 a_total a_longest a_now a_then → lv_has ls 5 [(0, .ref qp), (1, .ref ql), (3, .int x3)] → wpW E qp ql qs a_heard a_walked a_total a_longest a_next a_cover a_now a_then lf_huts lf_singers lf_villages lf_dams lf_echoes lf_deep lf_slide la_heights la_ladders la_minutes la_echoFrom la_echoTo la_homes la_talls la_known sf_facts sa_heard sa_huts sa_minutes H → va_S (wpA qp ql qs) s.heap H locs → W p l e rm_wp_X7_trace_9 s m args below meth c H locs 0 0 (MQ below (zQv (S := (Nat → Int32) × (Nat → Int32) × (Nat → Int32) × (Nat → Int32)) (fun u => post u.1 u.2.1 u.2.2.1 u.2.2.2) (fun u H => wpW E qp ql qs a_heard a_walked u.1 u.2.1 a_next a_cover u.2.2.1 u.2.2.2 lf_huts lf_singers lf_villages lf_dams lf_echoes lf_deep lf_slide la_heights la_ladders la_minutes la_echoFrom la_echoTo la_homes la_talls la_known sf_facts sa_heard sa_huts sa_minutes H) (wpA qp ql qs)) args s 0 0 (wpA qp ql qs)) (F0 m 33 ls []))
    (hP44 : ∀ (x4 : Int32) (a_total : Nat → Int32) (a_longest : Nat → Int32) (a_then : Nat → Int32) (H : Heap) (locs : List Loc) (ls : Array Slot), P44 x4 a_total a_longest a_then → lv_has ls 5 [(0, .ref qp), (1, .ref ql), (3, .int x3), (4, .int x4)] → wpW E qp ql qs a_heard a_walked a_total a_longest a_next a_cover a_now a_then lf_huts lf_singers lf_villages lf_dams lf_echoes lf_deep lf_slide la_heights la_ladders la_minutes la_echoFrom la_echoTo la_homes la_talls la_known sf_facts sa_heard sa_huts sa_minutes H → va_S (wpA qp ql qs) s.heap H locs → W p l e rm_wp_X7_trace_9 s m args below meth c H locs 0 0 (MQ below (zQv (S := (Nat → Int32) × (Nat → Int32) × (Nat → Int32) × (Nat → Int32)) (fun u => post u.1 u.2.1 u.2.2.1 u.2.2.2) (fun u H => wpW E qp ql qs a_heard a_walked u.1 u.2.1 a_next a_cover u.2.2.1 u.2.2.2 lf_huts lf_singers lf_villages lf_dams lf_echoes lf_deep lf_slide la_heights la_ladders la_minutes la_echoFrom la_echoTo la_homes la_talls la_known sf_facts sa_heard sa_huts sa_minutes H) (wpA qp ql qs)) args s 0 0 (wpA qp ql qs)) (F0 m 44 ls []))
    (hl : lv_has ls 5 [(0, .ref qp), (1, .ref ql), (3, .int x3), (4, .int x4)])
    (hw : q_wp_X7_trace_9_102 P33 P44 a_total a_longest a_now a_then lf_huts lf_dams la_heights la_minutes x3 x4 post) :
    W p l e rm_wp_X7_trace_9 s m args below meth c H locs 0 0 (MQ below (zQv (S := (Nat → Int32) × (Nat → Int32) × (Nat → Int32) × (Nat → Int32)) (fun u => post u.1 u.2.1 u.2.2.1 u.2.2.2) (fun u H => wpW E qp ql qs a_heard a_walked u.1 u.2.1 a_next a_cover u.2.2.1 u.2.2.2 lf_huts lf_singers lf_villages lf_dams lf_echoes lf_deep lf_slide la_heights la_ladders la_minutes la_echoFrom la_echoTo la_homes la_talls la_known sf_facts sa_heard sa_huts sa_minutes H) (wpA qp ql qs)) args s 0 0 (wpA qp ql qs)) (F0 m 102 ls []) := by
  have hx := zc.1
  have hb := zc.2.1
  obtain ⟨v_1, ev_1⟩ : ∃ y : Int32, y = x4 + (1 : Int32) := ⟨_, rfl⟩
  have hw := hw v_1 ev_1
  refine lv_iinc (v := v_1) (k := 3) (lv' := [(4, .int v_1), (0, .ref qp), (1, .ref ql), (3, .int x3)]) hx hb dX7_trace_102 hl rfl (by rw [ev_1]; rfl) (by decide) rfl (fun ls hl => ?_)
  refine lv_goto (tgt := 44) hx hb dX7_trace_105 (by decide) ?_
  exact hP44 _ _ _ _ _ _ _ hw (lv_sub hl [1, 2, 3, 0] rfl) hM hS
set_option maxRecDepth 20000 in
theorem t_wp_X7_trace_9_44 {p : Program} {l : Launch} {e : Env} {s : State} {m : MethodId} {args : Array Value} {below : List Frame} {meth : Method} {c : Code} {E : zE} {qp ql qs : Nat} {a_heard : Nat → Int32} {a_walked : Nat → Int32} {a_total : Nat → Int32} {a_longest : Nat → Int32} {a_next : Nat → Int32} {a_cover : Nat → Int32} {a_now : Nat → Int32} {a_then : Nat → Int32} {lf_huts : Int32} {lf_singers : Int32} {lf_villages : Int32} {lf_dams : Int32} {lf_echoes : Int32} {lf_deep : Int32} {lf_slide : Int32} {la_heights : Nat → Int32} {la_ladders : Nat → Int32} {la_minutes : Nat → Int32} {la_echoFrom : Nat → Int32} {la_echoTo : Nat → Int32} {la_homes : Nat → Int32} {la_talls : Nat → Int32} {la_known : Nat → Int32} {sf_facts : Int32} {sa_heard : Nat → Int32} {sa_huts : Nat → Int32} {sa_minutes : Nat → Int32} {P33 : Int32 → (Nat → Int32) → (Nat → Int32) → (Nat → Int32) → (Nat → Int32) → Prop} {post : (Nat → Int32) → (Nat → Int32) → (Nat → Int32) → (Nat → Int32) → Prop} {x3 : Int32} {x4 : Int32} {ls : Array Slot} {H : Heap} {locs : List Loc}
    (zc : zC p s m args meth c cX7_trace 5 RX7 none)
    (hK : zK E s)
    (hM : wpW E qp ql qs a_heard a_walked a_total a_longest a_next a_cover a_now a_then lf_huts lf_singers lf_villages lf_dams lf_echoes lf_deep lf_slide la_heights la_ladders la_minutes la_echoFrom la_echoTo la_homes la_talls la_known sf_facts sa_heard sa_huts sa_minutes H)
    (hS : va_S (wpA qp ql qs) s.heap H locs)
    (hP33 : ∀ (x3 : Int32) (a_total : Nat → Int32) (a_longest : Nat → Int32) (a_now : Nat → Int32) (a_then : Nat → Int32) (H : Heap) (locs : List Loc) (ls : Array Slot), P33 x3 a_total a_longest a_now a_then → lv_has ls 5 [(0, .ref qp), (1, .ref ql), (3, .int x3)] → wpW E qp ql qs a_heard a_walked a_total a_longest a_next a_cover a_now a_then lf_huts lf_singers lf_villages lf_dams lf_echoes lf_deep lf_slide la_heights la_ladders la_minutes la_echoFrom la_echoTo la_homes la_talls la_known sf_facts sa_heard sa_huts sa_minutes H → va_S (wpA qp ql qs) s.heap H locs → W p l e rm_wp_X7_trace_9 s m args below meth c H locs 0 0 (MQ below (zQv (S := (Nat → Int32) × (Nat → Int32) × (Nat → Int32) × (Nat → Int32)) (fun u => post u.1 u.2.1 u.2.2.1 u.2.2.2) (fun u H => wpW E qp ql qs a_heard a_walked u.1 u.2.1 a_next a_cover u.2.2.1 u.2.2.2 lf_huts lf_singers lf_villages lf_dams lf_echoes lf_deep lf_slide la_heights la_ladders la_minutes la_echoFrom la_echoTo la_homes la_talls la_known sf_facts sa_heard sa_huts sa_minutes H) (wpA qp ql qs)) args s 0 0 (wpA qp ql qs)) (F0 m 33 ls []))
    (hl : lv_has ls 5 [(0, .ref qp), (1, .ref ql), (3, .int x3), (4, .int x4)])
    (hw : q_wp_X7_trace_9_44 P33 a_total a_longest a_now a_then lf_huts lf_dams la_heights la_minutes x3 x4 post) :
    W p l e rm_wp_X7_trace_9 s m args below meth c H locs 0 0 (MQ below (zQv (S := (Nat → Int32) × (Nat → Int32) × (Nat → Int32) × (Nat → Int32)) (fun u => post u.1 u.2.1 u.2.2.1 u.2.2.2) (fun u H => wpW E qp ql qs a_heard a_walked u.1 u.2.1 a_next a_cover u.2.2.1 u.2.2.2 lf_huts lf_singers lf_villages lf_dams lf_echoes lf_deep lf_slide la_heights la_ladders la_minutes la_echoFrom la_echoTo la_homes la_talls la_known sf_facts sa_heard sa_huts sa_minutes H) (wpA qp ql qs)) args s 0 0 (wpA qp ql qs)) (F0 m 44 ls []) := by
  have hx := zc.1
  have hb := zc.2.1
  refine hw (fun x4 a_total a_longest a_then => ∀ (H : Heap) (locs : List Loc) (ls : Array Slot), lv_has ls 5 [(0, .ref qp), (1, .ref ql), (3, .int x3), (4, .int x4)] → wpW E qp ql qs a_heard a_walked a_total a_longest a_next a_cover a_now a_then lf_huts lf_singers lf_villages lf_dams lf_echoes lf_deep lf_slide la_heights la_ladders la_minutes la_echoFrom la_echoTo la_homes la_talls la_known sf_facts sa_heard sa_huts sa_minutes H → va_S (wpA qp ql qs) s.heap H locs → W p l e rm_wp_X7_trace_9 s m args below meth c H locs 0 0 (MQ below (zQv (S := (Nat → Int32) × (Nat → Int32) × (Nat → Int32) × (Nat → Int32)) (fun u => post u.1 u.2.1 u.2.2.1 u.2.2.2) (fun u H => wpW E qp ql qs a_heard a_walked u.1 u.2.1 a_next a_cover u.2.2.1 u.2.2.2 lf_huts lf_singers lf_villages lf_dams lf_echoes lf_deep lf_slide la_heights la_ladders la_minutes la_echoFrom la_echoTo la_homes la_talls la_known sf_facts sa_heard sa_huts sa_minutes H) (wpA qp ql qs)) args s 0 0 (wpA qp ql qs)) (F0 m 44 ls [])) ?_ _ _ _ hl hM hS
  intro x4 a_total a_longest a_then hw H locs ls hl hM hS
  refine lv_iload hx hb dX7_trace_44 (lv_at hl 3 rfl) ?_
  refine lv_aload_n hx hb dX7_trace_46 rfl (lv_at hl 1 rfl) ?_
  refine wpg_7_42_9 zc hK hM dX7_trace_47 ?_
  refine lv_icmp_ge (tgt := 108) hx hb dX7_trace_50 (by decide) (fun hc => ?_) (fun hc => ?_)
  · have hw := hw.1 hc
    refine lv_aload_n hx hb dX7_trace_108 rfl (lv_at hl 0 rfl) ?_
    refine wpg_7_33_0 zc hK hM dX7_trace_109 ?_
    refine lv_iconst (v := (0 : Int32)) hx hb dX7_trace_112 (by decide) ?_
    refine lv_aload_n hx hb dX7_trace_113 rfl (lv_at hl 0 rfl) ?_
    refine wpg_7_30_0 zc hK hM dX7_trace_114 ?_
    refine lv_iconst (v := (0 : Int32)) hx hb dX7_trace_117 (by decide) ?_
    refine lv_bipush (v := (9 : Int32)) hx hb dX7_trace_118 (by decide) ?_
    refine wpcp_8_7 zc hK hM hS hl.1 (zc.2.2.2.2.1 _ km_7_108) (by decide) (by decide) (by decide) (by decide) (by decide) (fun _ _ => rfl) (by decide) (by decide) dX7_trace_120 (fun a_now_1 H locs ea_now_1 hM hS => ?_)
    have hw := hw a_now_1 ea_now_1
    obtain ⟨v_1, ev_1⟩ : ∃ y : Int32, y = x3 + (1 : Int32) := ⟨_, rfl⟩
    have hw := hw v_1 ev_1
    refine lv_iinc (v := v_1) (k := 2) (lv' := [(3, .int v_1), (0, .ref qp), (1, .ref ql), (4, .int x4)]) hx hb dX7_trace_123 hl rfl (by rw [ev_1]; rfl) (by decide) rfl (fun ls hl => ?_)
    refine lv_goto (tgt := 33) hx hb dX7_trace_126 (by decide) ?_
    exact hP33 _ _ _ _ _ _ _ _ hw (lv_sub hl [1, 2, 0] rfl) hM hS
  · have hw := hw.2 hc
    refine lv_aload_n hx hb dX7_trace_53 rfl (lv_at hl 0 rfl) ?_
    refine wpg_7_33_0 zc hK hM dX7_trace_54 ?_
    refine lv_iload hx hb dX7_trace_57 (lv_at hl 3 rfl) ?_
    refine lv_aload_n hx hb dX7_trace_59 rfl (lv_at hl 0 rfl) ?_
    refine lv_aload_n hx hb dX7_trace_60 rfl (lv_at hl 1 rfl) ?_
    refine lv_iload hx hb dX7_trace_61 (lv_at hl 3 rfl) ?_
    refine zV_i [.ref ql, .int x4] [.int x4, .ref (qp + 8)] zc ky_X7_routesOn kz_X7_routesOn km_7_105 (c_wp_X7_routesOn_9 l hw) (wpPreV0 hK hM) rfl rfl hl.1 (Nat.le_of_ble_eq_true rfl) ⟨rfl, rfl⟩ ⟨Nat.le_of_ble_eq_true rfl, Nat.le_of_ble_eq_true rfl⟩ ⟨(Nat.zero_le _), (Nat.zero_le _)⟩ dX7_trace_63 (fun r_1 hw => ?_)
    refine wpst_8 zc hK hM hS hw.1 dX7_trace_66 (fun a_then_1 H locs ea_then_1 hM hS => ?_)
    have hw := hw.2 a_then_1 ea_then_1
    refine lv_aload_n hx hb dX7_trace_67 rfl (lv_at hl 0 rfl) ?_
    refine wpg_7_33_0 zc hK hM dX7_trace_68 ?_
    refine lv_iload hx hb dX7_trace_71 (lv_at hl 3 rfl) ?_
    refine wpld_8 zc hK hM hw.1 dX7_trace_73 ?_
    have hw := hw.2
    refine lv_if_le (tgt := 102) hx hb dX7_trace_74 (by decide) (fun hc => ?_) (fun hc => ?_)
    · have hw := hw.1 hc
      exact t_wp_X7_trace_9_102 zc hK hM hS hP33 (fun _ _ _ _ H locs ls h hl hM hS => h H locs ls hl hM hS) (lv_sub hl [0, 1, 2, 3] rfl) hw
    · have hw := hw.2 hc
      refine lv_aload_n hx hb dX7_trace_77 rfl (lv_at hl 0 rfl) ?_
      refine wpg_7_18_0 zc hK hM dX7_trace_78 ?_
      refine lv_iload hx hb dX7_trace_81 (lv_at hl 3 rfl) ?_
      refine lv_dup2_11 hx hb dX7_trace_83 rfl rfl ?_
      refine wpld_3 zc hK hM hw.1 dX7_trace_84 ?_
      have hw := hw.2
      refine lv_aload_n hx hb dX7_trace_85 rfl (lv_at hl 0 rfl) ?_
      refine wpg_7_33_0 zc hK hM dX7_trace_86 ?_
      refine lv_iload hx hb dX7_trace_89 (lv_at hl 3 rfl) ?_
      refine wpld_8 zc hK hM hw.1 dX7_trace_91 ?_
      have hw := hw.2
      refine lv_iadd hx hb dX7_trace_92 ?_
      refine lv_topi (fun v_2 ev_2 => ?_)
      have hw := hw v_2 ev_2
      refine wpst_3 zc hK hM hS hw.1 dX7_trace_93 (fun a_total_1 H locs ea_total_1 hM hS => ?_)
      have hw := hw.2 a_total_1 ea_total_1
      refine lv_aload_n hx hb dX7_trace_94 rfl (lv_at hl 0 rfl) ?_
      refine wpg_7_21_0 zc hK hM dX7_trace_95 ?_
      refine lv_iload hx hb dX7_trace_98 (lv_at hl 3 rfl) ?_
      refine lv_iload_n hx hb dX7_trace_100 rfl (lv_at hl 2 rfl) ?_
      refine wpst_4 zc hK hM hS hw.1 dX7_trace_101 (fun a_longest_1 H locs ea_longest_1 hM hS => ?_)
      have hw := hw.2 a_longest_1 ea_longest_1
      exact t_wp_X7_trace_9_102 zc hK hM hS hP33 (fun _ _ _ _ H locs ls h hl hM hS => h H locs ls hl hM hS) (lv_sub hl [0, 1, 2, 3] rfl) hw
set_option maxRecDepth 20000 in
theorem t_wp_X7_trace_9_33 {p : Program} {l : Launch} {e : Env} {s : State} {m : MethodId} {args : Array Value} {below : List Frame} {meth : Method} {c : Code} {E : zE} {qp ql qs : Nat} {a_heard : Nat → Int32} {a_walked : Nat → Int32} {a_total : Nat → Int32} {a_longest : Nat → Int32} {a_next : Nat → Int32} {a_cover : Nat → Int32} {a_now : Nat → Int32} {a_then : Nat → Int32} {lf_huts : Int32} {lf_singers : Int32} {lf_villages : Int32} {lf_dams : Int32} {lf_echoes : Int32} {lf_deep : Int32} {lf_slide : Int32} {la_heights : Nat → Int32} {la_ladders : Nat → Int32} {la_minutes : Nat → Int32} {la_echoFrom : Nat → Int32} {la_echoTo : Nat → Int32} {la_homes : Nat → Int32} {la_talls : Nat → Int32} {la_known : Nat → Int32} {sf_facts : Int32} {sa_heard : Nat → Int32} {sa_huts : Nat → Int32} {sa_minutes : Nat → Int32} {post : (Nat → Int32) → (Nat → Int32) → (Nat → Int32) → (Nat → Int32) → Prop} {x3 : Int32} {ls : Array Slot} {H : Heap} {locs : List Loc}
    (zc : zC p s m args meth c cX7_trace 5 RX7 none)
    (hK : zK E s)
    (hM : wpW E qp ql qs a_heard a_walked a_total a_longest a_next a_cover a_now a_then lf_huts lf_singers lf_villages lf_dams lf_echoes lf_deep lf_slide la_heights la_ladders la_minutes la_echoFrom la_echoTo la_homes la_talls la_known sf_facts sa_heard sa_huts sa_minutes H)
    (hS : va_S (wpA qp ql qs) s.heap H locs)
    (hl : lv_has ls 5 [(0, .ref qp), (1, .ref ql), (3, .int x3)])
    (hw : q_wp_X7_trace_9_33 a_total a_longest a_now a_then lf_huts lf_dams la_heights la_minutes x3 post) :
    W p l e rm_wp_X7_trace_9 s m args below meth c H locs 0 0 (MQ below (zQv (S := (Nat → Int32) × (Nat → Int32) × (Nat → Int32) × (Nat → Int32)) (fun u => post u.1 u.2.1 u.2.2.1 u.2.2.2) (fun u H => wpW E qp ql qs a_heard a_walked u.1 u.2.1 a_next a_cover u.2.2.1 u.2.2.2 lf_huts lf_singers lf_villages lf_dams lf_echoes lf_deep lf_slide la_heights la_ladders la_minutes la_echoFrom la_echoTo la_homes la_talls la_known sf_facts sa_heard sa_huts sa_minutes H) (wpA qp ql qs)) args s 0 0 (wpA qp ql qs)) (F0 m 33 ls []) := by
  have hx := zc.1
  have hb := zc.2.1
  refine hw (fun x3 a_total a_longest a_now a_then => ∀ (H : Heap) (locs : List Loc) (ls : Array Slot), lv_has ls 5 [(0, .ref qp), (1, .ref ql), (3, .int x3)] → wpW E qp ql qs a_heard a_walked a_total a_longest a_next a_cover a_now a_then lf_huts lf_singers lf_villages lf_dams lf_echoes lf_deep lf_slide la_heights la_ladders la_minutes la_echoFrom la_echoTo la_homes la_talls la_known sf_facts sa_heard sa_huts sa_minutes H → va_S (wpA qp ql qs) s.heap H locs → W p l e rm_wp_X7_trace_9 s m args below meth c H locs 0 0 (MQ below (zQv (S := (Nat → Int32) × (Nat → Int32) × (Nat → Int32) × (Nat → Int32)) (fun u => post u.1 u.2.1 u.2.2.1 u.2.2.2) (fun u H => wpW E qp ql qs a_heard a_walked u.1 u.2.1 a_next a_cover u.2.2.1 u.2.2.2 lf_huts lf_singers lf_villages lf_dams lf_echoes lf_deep lf_slide la_heights la_ladders la_minutes la_echoFrom la_echoTo la_homes la_talls la_known sf_facts sa_heard sa_huts sa_minutes H) (wpA qp ql qs)) args s 0 0 (wpA qp ql qs)) (F0 m 33 ls [])) ?_ _ _ _ hl hM hS
  intro x3 a_total a_longest a_now a_then hw H locs ls hl hM hS
  refine lv_iload_n hx hb dX7_trace_33 rfl (lv_at hl 2 rfl) ?_
  refine lv_aload_n hx hb dX7_trace_34 rfl (lv_at hl 1 rfl) ?_
  refine wpg_7_42_9 zc hK hM dX7_trace_35 ?_
  refine lv_icmp_ge (tgt := 129) hx hb dX7_trace_38 (by decide) (fun hc => ?_) (fun hc => ?_)
  · have hw := hw.1 hc
    exact zret_vw ⟨a_total, a_longest, a_now, a_then⟩ zc hS hw hM dX7_trace_129
  · have hw := hw.2 hc
    refine lv_iconst (v := (0 : Int32)) hx hb dX7_trace_41 (by decide) ?_
    refine lv_istore (lv' := [(4, .int (0 : Int32)), (0, .ref qp), (1, .ref ql), (3, .int x3)]) hx hb dX7_trace_42 hl (by decide) rfl (fun ls hl => ?_)
    exact t_wp_X7_trace_9_44 zc hK hM hS (fun _ _ _ _ _ H locs ls h hl hM hS => h H locs ls hl hM hS) (lv_sub hl [1, 2, 3, 0] rfl) hw
set_option maxRecDepth 20000 in
theorem t_wp_X7_trace_9_0 {p : Program} {l : Launch} {e : Env} {s : State} {m : MethodId} {args : Array Value} {below : List Frame} {meth : Method} {c : Code} {E : zE} {qp ql qs : Nat} {a_heard : Nat → Int32} {a_walked : Nat → Int32} {a_total : Nat → Int32} {a_longest : Nat → Int32} {a_next : Nat → Int32} {a_cover : Nat → Int32} {a_now : Nat → Int32} {a_then : Nat → Int32} {lf_huts : Int32} {lf_singers : Int32} {lf_villages : Int32} {lf_dams : Int32} {lf_echoes : Int32} {lf_deep : Int32} {lf_slide : Int32} {la_heights : Nat → Int32} {la_ladders : Nat → Int32} {la_minutes : Nat → Int32} {la_echoFrom : Nat → Int32} {la_echoTo : Nat → Int32} {la_homes : Nat → Int32} {la_talls : Nat → Int32} {la_known : Nat → Int32} {sf_facts : Int32} {sa_heard : Nat → Int32} {sa_huts : Nat → Int32} {sa_minutes : Nat → Int32} {post : (Nat → Int32) → (Nat → Int32) → (Nat → Int32) → (Nat → Int32) → Prop} {x2 : Int32} {ls : Array Slot} {H : Heap} {locs : List Loc}
    (zc : zC p s m args meth c cX7_trace 5 RX7 none)
    (hK : zK E s)
    (hM : wpW E qp ql qs a_heard a_walked a_total a_longest a_next a_cover a_now a_then lf_huts lf_singers lf_villages lf_dams lf_echoes lf_deep lf_slide la_heights la_ladders la_minutes la_echoFrom la_echoTo la_homes la_talls la_known sf_facts sa_heard sa_huts sa_minutes H)
    (hS : va_S (wpA qp ql qs) s.heap H locs)
    (hl : lv_has ls 5 [(0, .ref qp), (1, .ref ql), (2, .int x2)])
    (hw : q_wp_X7_trace_9_0 a_total a_longest a_now a_then lf_huts lf_dams la_heights la_minutes x2 post) :
    W p l e rm_wp_X7_trace_9 s m args below meth c H locs 0 0 (MQ below (zQv (S := (Nat → Int32) × (Nat → Int32) × (Nat → Int32) × (Nat → Int32)) (fun u => post u.1 u.2.1 u.2.2.1 u.2.2.2) (fun u H => wpW E qp ql qs a_heard a_walked u.1 u.2.1 a_next a_cover u.2.2.1 u.2.2.2 lf_huts lf_singers lf_villages lf_dams lf_echoes lf_deep lf_slide la_heights la_ladders la_minutes la_echoFrom la_echoTo la_homes la_talls la_known sf_facts sa_heard sa_huts sa_minutes H) (wpA qp ql qs)) args s 0 0 (wpA qp ql qs)) (F0 m 0 ls []) := by
  have hx := zc.1
  have hb := zc.2.1
  refine lv_aload_n hx hb dX7_trace_0 rfl (lv_at hl 0 rfl) ?_
  refine wpg_7_18_0 zc hK hM dX7_trace_1 ?_
  refine lv_iconst (v := (0 : Int32)) hx hb dX7_trace_4 (by decide) ?_
  refine zSw_v [.ref (qp + 3), .int (0 : Int32)] [] zc ky_J7_fill_53178 kz_J7_fill_53178 km_7_36 (c_wp_J7_fill_53178_3 l hw) (wpPreS hK hM) hS rfl rfl hl.1 (Nat.le_of_ble_eq_true rfl) ⟨rfl, rfl⟩ ⟨Nat.le_of_ble_eq_true rfl, Nat.le_of_ble_eq_true rfl⟩ ⟨(Nat.zero_le _), (Nat.zero_le _)⟩ dX7_trace_5 (fun a_total_1 H locs hw hM hS => ?_)
  refine lv_aload_n hx hb dX7_trace_8 rfl (lv_at hl 0 rfl) ?_
  refine wpg_7_21_0 zc hK hM dX7_trace_9 ?_
  refine lv_iconst (v := (0 : Int32)) hx hb dX7_trace_12 (by decide) ?_
  refine zSw_v [.ref (qp + 4), .int (0 : Int32)] [] zc ky_J7_fill_53178 kz_J7_fill_53178 km_7_36 (c_wp_J7_fill_53178_4 l hw) (wpPreS hK hM) hS rfl rfl hl.1 (Nat.le_of_ble_eq_true rfl) ⟨rfl, rfl⟩ ⟨Nat.le_of_ble_eq_true rfl, Nat.le_of_ble_eq_true rfl⟩ ⟨(Nat.zero_le _), (Nat.zero_le _)⟩ dX7_trace_13 (fun a_longest_1 H locs hw hM hS => ?_)
  refine lv_aload_n hx hb dX7_trace_16 rfl (lv_at hl 0 rfl) ?_
  refine wpg_7_30_0 zc hK hM dX7_trace_17 ?_
  refine lv_iconst (v := (0 : Int32)) hx hb dX7_trace_20 (by decide) ?_
  refine zSw_v [.ref (qp + 7), .int (0 : Int32)] [] zc ky_J7_fill_53178 kz_J7_fill_53178 km_7_36 (c_wp_J7_fill_53178_7 l hw) (wpPreS hK hM) hS rfl rfl hl.1 (Nat.le_of_ble_eq_true rfl) ⟨rfl, rfl⟩ ⟨Nat.le_of_ble_eq_true rfl, Nat.le_of_ble_eq_true rfl⟩ ⟨(Nat.zero_le _), (Nat.zero_le _)⟩ dX7_trace_21 (fun a_now_1 H locs hw hM hS => ?_)
  refine lv_aload_n hx hb dX7_trace_24 rfl (lv_at hl 0 rfl) ?_
  refine wpg_7_30_0 zc hK hM dX7_trace_25 ?_
  refine lv_iload_n hx hb dX7_trace_28 rfl (lv_at hl 2 rfl) ?_
  refine lv_iconst (v := (1 : Int32)) hx hb dX7_trace_29 (by decide) ?_
  refine wpst_7 zc hK hM hS hw.1 dX7_trace_30 (fun a_now_2 H locs ea_now_2 hM hS => ?_)
  have hw := hw.2 a_now_2 ea_now_2
  refine lv_iconst (v := (1 : Int32)) hx hb dX7_trace_31 (by decide) ?_
  refine lv_istore_n (lv' := [(3, .int (1 : Int32)), (0, .ref qp), (1, .ref ql), (2, .int x2)]) hx hb dX7_trace_32 rfl hl (by decide) rfl (fun ls hl => ?_)
  exact t_wp_X7_trace_9_33 zc hK hM hS  (lv_sub hl [1, 2, 0] rfl) hw
set_option maxRecDepth 20000 in
theorem c_wp_X7_trace_9 (l : Launch) {E : zE} {qp ql qs : Nat} {a_heard : Nat → Int32} {a_walked : Nat → Int32} {a_total : Nat → Int32} {a_longest : Nat → Int32} {a_next : Nat → Int32} {a_cover : Nat → Int32} {a_now : Nat → Int32} {a_then : Nat → Int32} {lf_huts : Int32} {lf_singers : Int32} {lf_villages : Int32} {lf_dams : Int32} {lf_echoes : Int32} {lf_deep : Int32} {lf_slide : Int32} {la_heights : Nat → Int32} {la_ladders : Nat → Int32} {la_minutes : Nat → Int32} {la_echoFrom : Nat → Int32} {la_echoTo : Nat → Int32} {la_homes : Nat → Int32} {la_talls : Nat → Int32} {la_known : Nat → Int32} {sf_facts : Int32} {sa_heard : Nat → Int32} {sa_huts : Nat → Int32} {sa_minutes : Nat → Int32} {x2 : Int32} {post : (Nat → Int32) → (Nat → Int32) → (Nat → Int32) → (Nat → Int32) → Prop} (hw : q_wp_X7_trace_9_0 a_total a_longest a_now a_then lf_huts lf_dams la_heights la_minutes x2 post) : Met l yX7_trace (Cond.code yX7_trace cX7_trace 5 none :: zb) rm_wp_X7_trace_9 (va_Pc [.ref qp, .ref ql, .int x2] (fun U => wpW E qp ql qs a_heard a_walked a_total a_longest a_next a_cover a_now a_then lf_huts lf_singers lf_villages lf_dams lf_echoes lf_deep lf_slide la_heights la_ladders la_minutes la_echoFrom la_echoTo la_homes la_talls la_known sf_facts sa_heard sa_huts sa_minutes U.heap ∧ zK E U)) (zQv (S := (Nat → Int32) × (Nat → Int32) × (Nat → Int32) × (Nat → Int32)) (fun u => post u.1 u.2.1 u.2.2.1 u.2.2.2) (fun u H => wpW E qp ql qs a_heard a_walked u.1 u.2.1 a_next a_cover u.2.2.1 u.2.2.2 lf_huts lf_singers lf_villages lf_dams lf_echoes lf_deep lf_slide la_heights la_ladders la_minutes la_echoFrom la_echoTo la_homes la_talls la_known sf_facts sa_heard sa_huts sa_minutes H) (wpA qp ql qs)) 0 0 (wpA qp ql qs) := by
  refine Met.ofW (cc := cX7_trace) (maxL := 5) (ret := none) (by decide) rfl ?_
  intro p e s m args below meth c s₁ B hml hv
  obtain ⟨rfl, hM, hK⟩ := hv
  have zc := zc_of B hml
  have hl := lv_entry ([.ref qp, .ref ql, .int x2]) (n := 5) (Nat.le_of_ble_eq_true rfl)
  rw [lg_entry_eq]
  generalize (lg_sl ([.ref qp, .ref ql, .int x2]) ++ List.replicate (5 - (lg_sl ([.ref qp, .ref ql, .int x2])).length) Slot.unset).toArray = ls at hl ⊢
  have hl : lv_has ls 5 [(0, .ref qp), (1, .ref ql), (2, .int x2)] := hl
  exact t_wp_X7_trace_9_0 zc hK hM va_S.rf (lv_sub hl [0, 1, 2] rfl) hw
end
