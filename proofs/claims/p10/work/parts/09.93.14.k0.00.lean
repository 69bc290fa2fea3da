-- wk0_X5_measure_3
abbrev rm_wk0_X5_measure_3 : Room := { frames := 2, cells := 0, slots := 0, locals := 62 }
def q_wk0_X5_measure_3_69 (P2 : Int32 → (Nat → Int32) → (Nat → Int32) → Prop) (P19 : Int32 → (Nat → Int32) → (Nat → Int32) → Prop) (a_gaps : Nat → Int32) (a_behind : Nat → Int32) (cf_voices : Int32) (cf_step : Int32) (ca_parts : Nat → Int32) (ca_heights : Nat → Int32) (x2 : Int32) (x3 : Int32) (post : (Nat → Int32) → (Nat → Int32) → Prop) : Prop :=
  ∀ v_1 : Int32, v_1 = x3 + (1 : Int32) → (P19 v_1 a_gaps a_behind)
def q_wk0_X5_measure_3_19 (P2 : Int32 → (Nat → Int32) → (Nat → Int32) → Prop) (a_gaps : Nat → Int32) (a_behind : Nat → Int32) (cf_voices : Int32) (cf_step : Int32) (ca_parts : Nat → Int32) (ca_heights : Nat → Int32) (x2 : Int32) (x3 : Int32) (post : (Nat → Int32) → (Nat → Int32) → Prop) : Prop :=
  ∀ P19 : Int32 → (Nat → Int32) → (Nat → Int32) → Prop, (∀ (x3 : Int32) (a_gaps : Nat → Int32) (a_behind : Nat → Int32), ((cf_voices ≤ x3 → (∀ v_1 : Int32, v_1 = x2 + (1 : Int32) → (P2 v_1 a_gaps a_behind))) ∧ (¬ cf_voices ≤ x3 → (q_wc_X0_stepBetween_0 ca_parts ca_heights x2 x3 (fun r_1 => vp_in ((x2 * (9 : Int32)) + x3) 81 ∧ (∀ a_gaps_1 : Nat → Int32, a_gaps_1 = upd a_gaps (Int32.toNatClampNeg ((x2 * (9 : Int32)) + x3)) r_1 → ((cf_step < r_1 → (q_wk0_X5_measure_3_69 P2 P19 a_gaps_1 a_behind cf_voices cf_step ca_parts ca_heights x2 x3 post)) ∧ (¬ cf_step < r_1 → (vp_in x2 9 ∧ (∀ v_2 : Int32, v_2 = ((a_behind (Int32.toNatClampNeg x2)) ||| ((1 : Int32) <<< (x3 &&& 31))) → (vp_in x2 9 ∧ (∀ a_behind_1 : Nat → Int32, a_behind_1 = upd a_behind (Int32.toNatClampNeg x2) v_2 → (q_wk0_X5_measure_3_69 P2 P19 a_gaps_1 a_behind_1 cf_voices cf_step ca_parts ca_heights x2 x3 post)))))))))))) → P19 x3 a_gaps a_behind) → P19 x3 a_gaps a_behind
def q_wk0_X5_measure_3_2 (a_gaps : Nat → Int32) (a_behind : Nat → Int32) (cf_voices : Int32) (cf_step : Int32) (ca_parts : Nat → Int32) (ca_heights : Nat → Int32) (x2 : Int32) (post : (Nat → Int32) → (Nat → Int32) → Prop) : Prop :=
  ∀ P2 : Int32 → (Nat → Int32) → (Nat → Int32) → Prop, (∀ (x2 : Int32) (a_gaps : Nat → Int32) (a_behind : Nat → Int32), ((cf_voices ≤ x2 → (post a_gaps a_behind)) ∧ (¬ cf_voices ≤ x2 → (vp_in x2 9 ∧ (∀ a_behind_1 : Nat → Int32, a_behind_1 = upd a_behind (Int32.toNatClampNeg x2) (0 : Int32) → (q_wk0_X5_measure_3_19 P2 a_gaps a_behind_1 cf_voices cf_step ca_parts ca_heights x2 (0 : Int32) post))))) → P2 x2 a_gaps a_behind) → P2 x2 a_gaps a_behind
def q_wk0_X5_measure_3_0 (a_gaps : Nat → Int32) (a_behind : Nat → Int32) (cf_voices : Int32) (cf_step : Int32) (ca_parts : Nat → Int32) (ca_heights : Nat → Int32) (post : (Nat → Int32) → (Nat → Int32) → Prop) : Prop :=
  q_wk0_X5_measure_3_2 a_gaps a_behind cf_voices cf_step ca_parts ca_heights (0 : Int32) post
set_option maxRecDepth 20000 in
theorem t_wk0_X5_measure_3_69 {p : Program} {l : Launch} {e : Env} {s : State} {m : MethodId} {args : Array Value} {below : List Frame} {meth : Method} {c : Code} {E : zE} {qk qc : Nat} {o_stands : Option Nat} {a_gaps : Nat → Int32} {a_behind : Nat → Int32} {cf_voices : Int32} {cf_step : Int32} {ca_parts : Nat → Int32} {ca_heights : Nat → Int32} {P2 : Int32 → (Nat → Int32) → (Nat → Int32) → Prop} {P19 : Int32 → (Nat → Int32) → (Nat → Int32) → Prop} {post : (Nat → Int32) → (Nat → Int32) → Prop} {x2 : Int32} {x3 : Int32} {ls : Array Slot} {H : Heap} {locs : List Loc}
    (zc : zC p s m args meth c cX5_measure 5 RX5 none)
    (hK : zK E s)
    (hM : wk0W E qk qc o_stands a_gaps a_behind cf_voices cf_step ca_parts ca_heights H)
    (hS : va_S (wk0A qk qc) s.heap H locs)
    (hP2 : ∀ (x2 : Int32) (a_gaps : Nat → Int32) (a_behind : Nat → Int32) (H : Heap) (locs : List Loc) (ls : Array Slot), P2 x2 a_gaps a_behind → lv_has ls 5 [(0, .ref qk), (1, .ref qc), (2, .int x2)] → wk0W E qk qc o_stands a_gaps a_behind cf_voices cf_step ca_parts ca_heights H → va_S (wk0A qk qc) s.heap H locs → W p l e rm_wk0_X5_measure_3 s m args below meth c H locs 0 0 (MQ below (zQv (S := (Nat → Int32) × (Nat → Int32)) (fun u => post u.1 u.2) (fun u H => wk0W E qk qc o_stands u.1 u.2 cf_voices cf_step ca_parts ca_heights H) (wk0A qk qc)) args s 0 0 (wk0A qk qc)) (F0 m 2 ls []))
    (hP19 : ∀ (x3 : Int32) (a_gaps : Nat → Int32) (a_behind : Nat → Int32) (H : Heap) (locs : List Loc) (ls : Array Slot), P19 x3 a_gaps a_behind → lv_has ls 5 [(0, .ref qk), (1, .ref qc), (2, .int x2), (3, .int x3)] → wk0W E qk qc o_stands a_gaps a_behind cf_voices cf_step ca_parts ca_heights H → va_S (wk0A qk qc) s.heap H locs → W p l e rm_wk0_X5_measure_3 s m args below meth c H locs 0 0 (MQ below (zQv (S := (Nat → Int32) × (Nat → Int32)) (fun u => post u.1 u.2) (fun u H => wk0W E qk qc o_stands u.1 u.2 cf_voices cf_step ca_parts ca_heights H) (wk0A qk qc)) args s 0 0 (wk0A qk qc)) (F0 m 19 ls []))
    (hl : lv_has ls 5 [(0, .ref qk), (1, .ref qc), (2, .int x2), (3, .int x3)])
    (hw : q_wk0_X5_measure_3_69 P2 P19 a_gaps a_behind cf_voices cf_step ca_parts ca_heights x2 x3 post) :
    W p l e rm_wk0_X5_measure_3 s m args below meth c H locs 0 0 (MQ below (zQv (S := (Nat → Int32) × (Nat → Int32)) (fun u => post u.1 u.2) (fun u H => wk0W E qk qc o_stands u.1 u.2 cf_voices cf_step ca_parts ca_heights H) (wk0A qk qc)) args s 0 0 (wk0A qk qc)) (F0 m 69 ls []) := by
  have hx := zc.1
  have hb := zc.2.1
  obtain ⟨v_1, ev_1⟩ : ∃ y : Int32, y = x3 + (1 : Int32) := ⟨_, rfl⟩
  have hw := hw v_1 ev_1
  refine lv_iinc (v := v_1) (k := 3) (lv' := [(3, .int v_1), (0, .ref qk), (1, .ref qc), (2, .int x2)]) hx hb dX5_measure_69 hl rfl (by rw [ev_1]; rfl) (by decide) rfl (fun ls hl => ?_)
  refine lv_goto (tgt := 19) hx hb dX5_measure_72 (by decide) ?_
  exact hP19 _ _ _ _ _ _ hw (lv_sub hl [1, 2, 3, 0] rfl) hM hS
set_option maxRecDepth 20000 in
theorem t_wk0_X5_measure_3_19 {p : Program} {l : Launch} {e : Env} {s : State} {m : MethodId} {args : Array Value} {below : List Frame} {meth : Method} {c : Code} {E : zE} {qk qc : Nat} {o_stands : Option Nat} {a_gaps : Nat → Int32} {a_behind : Nat → Int32} {cf_voices : Int32} {cf_step : Int32} {ca_parts : Nat → Int32} {ca_heights : Nat → Int32} {P2 : Int32 → (Nat → Int32) → (Nat → Int32) → Prop} {post : (Nat → Int32) → (Nat → Int32) → Prop} {x2 : Int32} {x3 : Int32} {ls : Array Slot} {H : Heap} {locs : List Loc}
    (zc : zC p s m args meth c cX5_measure 5 RX5 none)
    (hK : zK E s)
    (hM : wk0W E qk qc o_stands a_gaps a_behind cf_voices cf_step ca_parts ca_heights H)
    (hS : va_S (wk0A qk qc) s.heap H locs)
    (hP2 : ∀ (x2 : Int32) (a_gaps : Nat → Int32) (a_behind : Nat → Int32) (H : Heap) (locs : List Loc) (ls : Array Slot), P2 x2 a_gaps a_behind → lv_has ls 5 [(0, .ref qk), (1, .ref qc), (2, .int x2)] → wk0W E qk qc o_stands a_gaps a_behind cf_voices cf_step ca_parts ca_heights H → va_S (wk0A qk qc) s.heap H locs → W p l e rm_wk0_X5_measure_3 s m args below meth c H locs 0 0 (MQ below (zQv (S := (Nat → Int32) × (Nat → Int32)) (fun u => post u.1 u.2) (fun u H => wk0W E qk qc o_stands u.1 u.2 cf_voices cf_step ca_parts ca_heights H) (wk0A qk qc)) args s 0 0 (wk0A qk qc)) (F0 m 2 ls []))
    (hl : lv_has ls 5 [(0, .ref qk), (1, .ref qc), (2, .int x2), (3, .int x3)])
    (hw : q_wk0_X5_measure_3_19 P2 a_gaps a_behind cf_voices cf_step ca_parts ca_heights x2 x3 post) :
    W p l e rm_wk0_X5_measure_3 s m args below meth c H locs 0 0 (MQ below (zQv (S := (Nat → Int32) × (Nat → Int32)) (fun u => post u.1 u.2) (fun u H => wk0W E qk qc o_stands u.1 u.2 cf_voices cf_step ca_parts ca_heights H) (wk0A qk qc)) args s 0 0 (wk0A qk qc)) (F0 m 19 ls []) := by
  have hx := zc.1
  have hb := zc.2.1
  refine hw (fun x3 a_gaps a_behind => ∀ (H : Heap) (locs : List Loc) (ls : Array Slot), lv_has ls 5 [(0, .ref qk), (1, .ref qc), (2, .int x2), (3, .int x3)] → wk0W E qk qc o_stands a_gaps a_behind cf_voices cf_step ca_parts ca_heights H → va_S (wk0A qk qc) s.heap H locs → W p l e rm_wk0_X5_measure_3 s m args below meth c H locs 0 0 (MQ below (zQv (S := (Nat → Int32) × (Nat → Int32)) (fun u => post u.1 u.2) (fun u H => wk0W E qk qc o_stands u.1 u.2 cf_voices cf_step ca_parts ca_heights H) (wk0A qk qc)) args s 0 0 (wk0A qk qc)) (F0 m 19 ls [])) ?_ _ _ _ hl hM hS
  intro x3 a_gaps a_behind hw H locs ls hl hM hS
  refine lv_iload_n hx hb dX5_measure_19 rfl (lv_at hl 3 rfl) ?_
  refine lv_aload_n hx hb dX5_measure_20 rfl (lv_at hl 1 rfl) ?_
  refine wk0g_5_26_3 zc hK hM dX5_measure_21 ?_
  refine lv_icmp_ge (tgt := 75) hx hb dX5_measure_24 (by decide) (fun hc => ?_) (fun hc => ?_)
  · have hw := hw.1 hc
    obtain ⟨v_1, ev_1⟩ : ∃ y : Int32, y = x2 + (1 : Int32) := ⟨_, rfl⟩
    have hw := hw v_1 ev_1
    refine lv_iinc (v := v_1) (k := 2) (lv' := [(2, .int v_1), (0, .ref qk), (1, .ref qc), (3, .int x3)]) hx hb dX5_measure_75 hl rfl (by rw [ev_1]; rfl) (by decide) rfl (fun ls hl => ?_)
    refine lv_goto (tgt := 2) hx hb dX5_measure_78 (by decide) ?_
    exact hP2 _ _ _ _ _ _ hw (lv_sub hl [1, 2, 0] rfl) hM hS
  · have hw := hw.2 hc
    refine lv_aload_n hx hb dX5_measure_27 rfl (lv_at hl 1 rfl) ?_
    refine lv_iload_n hx hb dX5_measure_28 rfl (lv_at hl 2 rfl) ?_
    refine lv_iload_n hx hb dX5_measure_29 rfl (lv_at hl 3 rfl) ?_
    refine zV_i [.int x2, .int x3] [] zc ky_X0_stepBetween kz_X0_stepBetween km_5_40 (c_wc_X0_stepBetween l hw) (wcPreV0 hK (pj_wk0_wc_3 hM)) rfl rfl hl.1 (Nat.le_of_ble_eq_true rfl) ⟨rfl, rfl⟩ ⟨Nat.le_of_ble_eq_true rfl, Nat.le_of_ble_eq_true rfl⟩ ⟨(Nat.zero_le _), (Nat.zero_le _)⟩ dX5_measure_30 (fun r_1 hw => ?_)
    refine lv_istore (lv' := [(4, .int r_1), (0, .ref qk), (1, .ref qc), (2, .int x2), (3, .int x3)]) hx hb dX5_measure_33 hl (by decide) rfl (fun ls hl => ?_)
    refine lv_aload_n hx hb dX5_measure_35 rfl (lv_at hl 1 rfl) ?_
    refine wk0g_5_9_0 zc hK hM dX5_measure_36 ?_
    refine lv_iload_n hx hb dX5_measure_39 rfl (lv_at hl 3 rfl) ?_
    refine lv_bipush (v := (9 : Int32)) hx hb dX5_measure_40 (by decide) ?_
    refine lv_imul hx hb dX5_measure_42 ?_
    refine lv_iload_n hx hb dX5_measure_43 rfl (lv_at hl 4 rfl) ?_
    refine lv_iadd hx hb dX5_measure_44 ?_
    refine lv_iload hx hb dX5_measure_45 (lv_at hl 0 rfl) ?_
    refine wk0st_1 zc hK hM hS hw.1 dX5_measure_47 (fun a_gaps_1 H locs ea_gaps_1 hM hS => ?_)
    have hw := hw.2 a_gaps_1 ea_gaps_1
    refine lv_iload hx hb dX5_measure_48 (lv_at hl 0 rfl) ?_
    refine lv_aload_n hx hb dX5_measure_50 rfl (lv_at hl 2 rfl) ?_
    refine wk0g_5_44_3 zc hK hM dX5_measure_51 ?_
    refine lv_icmp_gt (tgt := 69) hx hb dX5_measure_54 (by decide) (fun hc => ?_) (fun hc => ?_)
    · have hw := hw.1 hc
      exact t_wk0_X5_measure_3_69 zc hK hM hS hP2 (fun _ _ _ H locs ls h hl hM hS => h H locs ls hl hM hS) (lv_sub hl [1, 2, 3, 4] rfl) hw
    · have hw := hw.2 hc
      refine lv_aload_n hx hb dX5_measure_57 rfl (lv_at hl 1 rfl) ?_
      refine wk0g_5_15_0 zc hK hM dX5_measure_58 ?_
      refine lv_iload_n hx hb dX5_measure_61 rfl (lv_at hl 3 rfl) ?_
      refine lv_dup2_11 hx hb dX5_measure_62 rfl rfl ?_
      refine wk0ld_2 zc hK hM hw.1 dX5_measure_63 ?_
      have hw := hw.2
      refine lv_iconst (v := (1 : Int32)) hx hb dX5_measure_64 (by decide) ?_
      refine lv_iload_n hx hb dX5_measure_65 rfl (lv_at hl 4 rfl) ?_
      refine lv_ishl hx hb dX5_measure_66 ?_
      refine lv_ior hx hb dX5_measure_67 ?_
      refine lv_topi (fun v_2 ev_2 => ?_)
      have hw := hw v_2 ev_2
      refine wk0st_2 zc hK hM hS hw.1 dX5_measure_68 (fun a_behind_1 H locs ea_behind_1 hM hS => ?_)
      have hw := hw.2 a_behind_1 ea_behind_1
      exact t_wk0_X5_measure_3_69 zc hK hM hS hP2 (fun _ _ _ H locs ls h hl hM hS => h H locs ls hl hM hS) (lv_sub hl [1, 2, 3, 4] rfl) hw
set_option maxRecDepth 20000 in
theorem t_wk0_X5_measure_3_2 {p : Program} {l : Launch} {e : Env} {s : State} {m : MethodId} {args : Array Value} {below : List Frame} {meth : Method} {c : Code} {E : zE} {qk qc : Nat} {o_stands : Option Nat} {a_gaps : Nat → Int32} {a_behind : Nat → Int32} {cf_voices : Int32} {cf_step : Int32} {ca_parts : Nat → Int32} {ca_heights : Nat → Int32} {post : (Nat → Int32) → (Nat → Int32) → Prop} {x2 : Int32} {ls : Array Slot} {H : Heap} {locs : List Loc}
    (zc : zC p s m args meth c cX5_measure 5 RX5 none)
    (hK : zK E s)
    (hM : wk0W E qk qc o_stands a_gaps a_behind cf_voices cf_step ca_parts ca_heights H)
    (hS : va_S (wk0A qk qc) s.heap H locs)
    (hl : lv_has ls 5 [(0, .ref qk), (1, .ref qc), (2, .int x2)])
    (hw : q_wk0_X5_measure_3_2 a_gaps a_behind cf_voices cf_step ca_parts ca_heights x2 post) :
    W p l e rm_wk0_X5_measure_3 s m args below meth c H locs 0 0 (MQ below (zQv (S := (Nat → Int32) × (Nat → Int32)) (fun u => post u.1 u.2) (fun u H => wk0W E qk qc o_stands u.1 u.2 cf_voices cf_step ca_parts ca_heights H) (wk0A qk qc)) args s 0 0 (wk0A qk qc)) (F0 m 2 ls []) := by
  have hx := zc.1
  have hb := zc.2.1
  refine hw (fun x2 a_gaps a_behind => ∀ (H : Heap) (locs : List Loc) (ls : Array Slot), lv_has ls 5 [(0, .ref qk), (1, .ref qc), (2, .int x2)] → wk0W E qk qc o_stands a_gaps a_behind cf_voices cf_step ca_parts ca_heights H → va_S (wk0A qk qc) s.heap H locs → W p l e rm_wk0_X5_measure_3 s m args below meth c H locs 0 0 (MQ below (zQv (S := (Nat → Int32) × (Nat → Int32)) (fun u => post u.1 u.2) (fun u H => wk0W E qk qc o_stands u.1 u.2 cf_voices cf_step ca_parts ca_heights H) (wk0A qk qc)) args s 0 0 (wk0A qk qc)) (F0 m 2 ls [])) ?_ _ _ _ hl hM hS
  intro x2 a_gaps a_behind hw H locs ls hl hM hS
  refine lv_iload_n hx hb dX5_measure_2 rfl (lv_at hl 2 rfl) ?_
  refine lv_aload_n hx hb dX5_measure_3 rfl (lv_at hl 1 rfl) ?_
  refine wk0g_5_26_3 zc hK hM dX5_measure_4 ?_
  refine lv_icmp_ge (tgt := 81) hx hb dX5_measure_7 (by decide) (fun hc => ?_) (fun hc => ?_)
  · have hw := hw.1 hc
    exact zret_vw ⟨a_gaps, a_behind⟩ zc hS hw hM dX5_measure_81
  · have hw := hw.2 hc
    refine lv_aload_n hx hb dX5_measure_10 rfl (lv_at hl 0 rfl) ?_
    refine wk0g_5_15_0 zc hK hM dX5_measure_11 ?_
    refine lv_iload_n hx hb dX5_measure_14 rfl (lv_at hl 2 rfl) ?_
    refine lv_iconst (v := (0 : Int32)) hx hb dX5_measure_15 (by decide) ?_
    refine wk0st_2 zc hK hM hS hw.1 dX5_measure_16 (fun a_behind_1 H locs ea_behind_1 hM hS => ?_)
    have hw := hw.2 a_behind_1 ea_behind_1
    refine lv_iconst (v := (0 : Int32)) hx hb dX5_measure_17 (by decide) ?_
    refine lv_istore_n (lv' := [(3, .int (0 : Int32)), (0, .ref qk), (1, .ref qc), (2, .int x2)]) hx hb dX5_measure_18 rfl hl (by decide) rfl (fun ls hl => ?_)
    exact t_wk0_X5_measure_3_19 zc hK hM hS (fun _ _ _ H locs ls h hl hM hS => h H locs ls hl hM hS) (lv_sub hl [1, 2, 3, 0] rfl) hw
set_option maxRecDepth 20000 in
theorem t_wk0_X5_measure_3_0 {p : Program} {l : Launch} {e : Env} {s : State} {m : MethodId} {args : Array Value} {below : List Frame} {meth : Method} {c : Code} {E : zE} {qk qc : Nat} {o_stands : Option Nat} {a_gaps : Nat → Int32} {a_behind : Nat → Int32} {cf_voices : Int32} {cf_step : Int32} {ca_parts : Nat → Int32} {ca_heights : Nat → Int32} {post : (Nat → Int32) → (Nat → Int32) → Prop} {ls : Array Slot} {H : Heap} {locs : List Loc}
    (zc : zC p s m args meth c cX5_measure 5 RX5 none)
    (hK : zK E s)
    (hM : wk0W E qk qc o_stands a_gaps a_behind cf_voices cf_step ca_parts ca_heights H)
    (hS : va_S (wk0A qk qc) s.heap H locs)
    (hl : lv_has ls 5 [(0, .ref qk), (1, .ref qc)])
    (hw : q_wk0_X5_measure_3_0 a_gaps a_behind cf_voices cf_step ca_parts ca_heights post) :
    W p l e rm_wk0_X5_measure_3 s m args below meth c H locs 0 0 (MQ below (zQv (S := (Nat → Int32) × (Nat → Int32)) (fun u => post u.1 u.2) (fun u H => wk0W E qk qc o_stands u.1 u.2 cf_voices cf_step ca_parts ca_heights H) (wk0A qk qc)) args s 0 0 (wk0A qk qc)) (F0 m 0 ls []) := by
  have hx := zc.1
  have hb := zc.2.1
  refine lv_iconst (v := (0 : Int32)) hx hb dX5_measure_0 (by decide) ?_
  refine lv_istore_n (lv' := [(2, .int (0 : Int32)), (0, .ref qk), (1, .ref qc)]) hx hb dX5_measure_1 rfl hl (by decide) rfl (fun ls hl => ?_)
  exact t_wk0_X5_measure_3_2 zc hK hM hS  (lv_sub hl [1, 2, 0] rfl) hw
set_option maxRecDepth 20000 in
theorem c_wk0_X5_measure_3 (l : Launch) {E : zE} {qk qc : Nat} {o_stands : Option Nat} {a_gaps : Nat → Int32} {a_behind : Nat → Int32} {cf_voices : Int32} {cf_step : Int32} {ca_parts : Nat → Int32} {ca_heights : Nat → Int32} {post : (Nat → Int32) → (Nat → Int32) → Prop} (hw : q_wk0_X5_measure_3_0 a_gaps a_behind cf_voices cf_step ca_parts ca_heights post) : Met l yX5_measure (Cond.code yX5_measure cX5_measure 5 none :: zb) rm_wk0_X5_measure_3 (va_Pc [.ref qk, .ref qc] (fun U => wk0W E qk qc o_stands a_gaps a_behind cf_voices cf_step ca_parts ca_heights U.heap ∧ zK E U)) (zQv (S := (Nat → Int32) × (Nat → Int32)) (fun u => post u.1 u.2) (fun u H => wk0W E qk qc o_stands u.1 u.2 cf_voices cf_step ca_parts ca_heights H) (wk0A qk qc)) 0 0 (wk0A qk qc) := by
  refine Met.ofW (cc := cX5_measure) (maxL := 5) (ret := none) (by decide) rfl ?_
  intro p e s m args below meth c s₁ B hml hv
  obtain ⟨rfl, hM, hK⟩ := hv
  have zc := zc_of B hml
  have hl := lv_entry ([.ref qk, .ref qc]) (n := 5) (Nat.le_of_ble_eq_true rfl)
  rw [lg_entry_eq]
  generalize (lg_sl ([.ref qk, .ref qc]) ++ List.replicate (5 - (lg_sl ([.ref qk, .ref qc])).length) Slot.unset).toArray = ls at hl ⊢
  have hl : lv_has ls 5 [(0, .ref qk), (1, .ref qc)] := hl
  exact t_wk0_X5_measure_3_0 zc hK hM va_S.rf (lv_sub hl [0, 1] rfl) hw
