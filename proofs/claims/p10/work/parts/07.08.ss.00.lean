-- wss_X6_copyFrom_4
abbrev rm_wss_X6_copyFrom_4 : Room := { frames := 1, cells := 0, slots := 0, locals := 40 }
def q_wss_X6_copyFrom_4_0 (f_facts : Int32) (a_heard : Nat → Int32) (a_huts : Nat → Int32) (a_minutes : Nat → Int32) (of_facts : Int32) (oa_heard : Nat → Int32) (oa_huts : Nat → Int32) (oa_minutes : Nat → Int32) (post : (Int32) → (Nat → Int32) → (Nat → Int32) → (Nat → Int32) → Prop) : Prop :=
  (¬ of_facts < 0) ∧ ((Int32.toNatClampNeg (0 : Int32) + Int32.toNatClampNeg of_facts ≤ 10) ∧ ((Int32.toNatClampNeg (0 : Int32) + Int32.toNatClampNeg of_facts ≤ 10) ∧ (∀ a_heard_1 : Nat → Int32, a_heard_1 = va_cpy oa_heard a_heard (Int32.toNatClampNeg (0 : Int32)) (Int32.toNatClampNeg (0 : Int32)) (Int32.toNatClampNeg of_facts) → ((¬ of_facts < 0) ∧ ((Int32.toNatClampNeg (0 : Int32) + Int32.toNatClampNeg of_facts ≤ 10) ∧ ((Int32.toNatClampNeg (0 : Int32) + Int32.toNatClampNeg of_facts ≤ 10) ∧ (∀ a_huts_1 : Nat → Int32, a_huts_1 = va_cpy oa_huts a_huts (Int32.toNatClampNeg (0 : Int32)) (Int32.toNatClampNeg (0 : Int32)) (Int32.toNatClampNeg of_facts) → ((¬ of_facts < 0) ∧ ((Int32.toNatClampNeg (0 : Int32) + Int32.toNatClampNeg of_facts ≤ 10) ∧ ((Int32.toNatClampNeg (0 : Int32) + Int32.toNatClampNeg of_facts ≤ 10) ∧ (∀ a_minutes_1 : Nat → Int32, a_minutes_1 = va_cpy oa_minutes a_minutes (Int32.toNatClampNeg (0 : Int32)) (Int32.toNatClampNeg (0 : Int32)) (Int32.toNatClampNeg of_facts) → (post of_facts a_heard_1 a_huts_1 a_minutes_1))))))))))))
set_option maxRecDepth 20000 in
theorem t_wss_X6_copyFrom_4_0 {p : Program} {l : Launch} {e : Env} {s : State} {m : MethodId} {args : Array Value} {below : List Frame} {meth : Method} {c : Code} {E : zE} {qs qt : Nat} {f_facts : Int32} {a_heard : Nat → Int32} {a_huts : Nat → Int32} {a_minutes : Nat → Int32} {of_facts : Int32} {oa_heard : Nat → Int32} {oa_huts : Nat → Int32} {oa_minutes : Nat → Int32} {post : (Int32) → (Nat → Int32) → (Nat → Int32) → (Nat → Int32) → Prop} {ls : Array Slot} {H : Heap} {locs : List Loc}
    (zc : zC p s m args meth c cX6_copyFrom 2 RX6 none)
    (hK : zK E s)
    (hM : wssW E qs qt f_facts a_heard a_huts a_minutes of_facts oa_heard oa_huts oa_minutes H)
    (hS : va_S (wssA qs qt) s.heap H locs)
    (hl : lv_has ls 2 [(0, .ref qs), (1, .ref qt)])
    (hw : q_wss_X6_copyFrom_4_0 f_facts a_heard a_huts a_minutes of_facts oa_heard oa_huts oa_minutes post) :
    W p l e rm_wss_X6_copyFrom_4 s m args below meth c H locs 0 0 (MQ below (zQv (S := (Int32) × (Nat → Int32) × (Nat → Int32) × (Nat → Int32)) (fun u => post u.1 u.2.1 u.2.2.1 u.2.2.2) (fun u H => wssW E qs qt u.1 u.2.1 u.2.2.1 u.2.2.2 of_facts oa_heard oa_huts oa_minutes H) (wssA qs qt)) args s 0 0 (wssA qs qt)) (F0 m 0 ls []) := by
  have hx := zc.1
  have hb := zc.2.1
  refine lv_aload_n hx hb dX6_copyFrom_0 rfl (lv_at hl 0 rfl) ?_
  refine lv_aload_n hx hb dX6_copyFrom_1 rfl (lv_at hl 1 rfl) ?_
  refine wssg_6_21_4 zc hK hM dX6_copyFrom_2 ?_
  refine wssp_6_21_0 zc hK hM hS dX6_copyFrom_5 (fun H locs hM hS => ?_)
  refine lv_aload_n hx hb dX6_copyFrom_8 rfl (lv_at hl 1 rfl) ?_
  refine wssg_6_9_4 zc hK hM dX6_copyFrom_9 ?_
  refine lv_iconst (v := (0 : Int32)) hx hb dX6_copyFrom_12 (by decide) ?_
  refine lv_aload_n hx hb dX6_copyFrom_13 rfl (lv_at hl 0 rfl) ?_
  refine wssg_6_9_0 zc hK hM dX6_copyFrom_14 ?_
  refine lv_iconst (v := (0 : Int32)) hx hb dX6_copyFrom_17 (by decide) ?_
  refine lv_aload_n hx hb dX6_copyFrom_18 rfl (lv_at hl 0 rfl) ?_
  refine wssg_6_21_0 zc hK hM dX6_copyFrom_19 ?_
  have hs1 := hw.1
  have hw := hw.2
  have hs2 := hw.1
  have hw := hw.2
  have hs3 := hw.1
  have hw := hw.2
  refine wsscp_5_1 zc hK hM hS hl.1 (zc.2.2.2.2.1 _ km_6_25) (by decide) (by decide) hs1 hs2 hs3 (fun _ _ => rfl) (by decide) (by decide) dX6_copyFrom_22 (fun a_heard_1 H locs ea_heard_1 hM hS => ?_)
  have hw := hw a_heard_1 ea_heard_1
  refine lv_aload_n hx hb dX6_copyFrom_25 rfl (lv_at hl 1 rfl) ?_
  refine wssg_6_15_4 zc hK hM dX6_copyFrom_26 ?_
  refine lv_iconst (v := (0 : Int32)) hx hb dX6_copyFrom_29 (by decide) ?_
  refine lv_aload_n hx hb dX6_copyFrom_30 rfl (lv_at hl 0 rfl) ?_
  refine wssg_6_15_0 zc hK hM dX6_copyFrom_31 ?_
  refine lv_iconst (v := (0 : Int32)) hx hb dX6_copyFrom_34 (by decide) ?_
  refine lv_aload_n hx hb dX6_copyFrom_35 rfl (lv_at hl 0 rfl) ?_
  refine wssg_6_21_0 zc hK hM dX6_copyFrom_36 ?_
  have hs4 := hw.1
  have hw := hw.2
  have hs5 := hw.1
  have hw := hw.2
  have hs6 := hw.1
  have hw := hw.2
  refine wsscp_6_2 zc hK hM hS hl.1 (zc.2.2.2.2.1 _ km_6_25) (by decide) (by decide) hs4 hs5 hs6 (fun _ _ => rfl) (by decide) (by decide) dX6_copyFrom_39 (fun a_huts_1 H locs ea_huts_1 hM hS => ?_)
  have hw := hw a_huts_1 ea_huts_1
  refine lv_aload_n hx hb dX6_copyFrom_42 rfl (lv_at hl 1 rfl) ?_
  refine wssg_6_18_4 zc hK hM dX6_copyFrom_43 ?_
  refine lv_iconst (v := (0 : Int32)) hx hb dX6_copyFrom_46 (by decide) ?_
  refine lv_aload_n hx hb dX6_copyFrom_47 rfl (lv_at hl 0 rfl) ?_
  refine wssg_6_18_0 zc hK hM dX6_copyFrom_48 ?_
  refine lv_iconst (v := (0 : Int32)) hx hb dX6_copyFrom_51 (by decide) ?_
  refine lv_aload_n hx hb dX6_copyFrom_52 rfl (lv_at hl 0 rfl) ?_
  refine wssg_6_21_0 zc hK hM dX6_copyFrom_53 ?_
  have hs7 := hw.1
  have hw := hw.2
  have hs8 := hw.1
  have hw := hw.2
  have hs9 := hw.1
  have hw := hw.2
  refine wsscp_7_3 zc hK hM hS hl.1 (zc.2.2.2.2.1 _ km_6_25) (by decide) (by decide) hs7 hs8 hs9 (fun _ _ => rfl) (by decide) (by decide) dX6_copyFrom_56 (fun a_minutes_1 H locs ea_minutes_1 hM hS => ?_)
  have hw := hw a_minutes_1 ea_minutes_1
  exact zret_vw ⟨of_facts, a_heard_1, a_huts_1, a_minutes_1⟩ zc hS hw hM dX6_copyFrom_59
set_option maxRecDepth 20000 in
theorem c_wss_X6_copyFrom_4 (l : Launch) {E : zE} {qs qt : Nat} {f_facts : Int32} {a_heard : Nat → Int32} {a_huts : Nat → Int32} {a_minutes : Nat → Int32} {of_facts : Int32} {oa_heard : Nat → Int32} {oa_huts : Nat → Int32} {oa_minutes : Nat → Int32} {post : (Int32) → (Nat → Int32) → (Nat → Int32) → (Nat → Int32) → Prop} (hw : q_wss_X6_copyFrom_4_0 f_facts a_heard a_huts a_minutes of_facts oa_heard oa_huts oa_minutes post) : Met l yX6_copyFrom (Cond.code yX6_copyFrom cX6_copyFrom 2 none :: zb) rm_wss_X6_copyFrom_4 (va_Pc [.ref qs, .ref qt] (fun U => wssW E qs qt f_facts a_heard a_huts a_minutes of_facts oa_heard oa_huts oa_minutes U.heap ∧ zK E U)) (zQv (S := (Int32) × (Nat → Int32) × (Nat → Int32) × (Nat → Int32)) (fun u => post u.1 u.2.1 u.2.2.1 u.2.2.2) (fun u H => wssW E qs qt u.1 u.2.1 u.2.2.1 u.2.2.2 of_facts oa_heard oa_huts oa_minutes H) (wssA qs qt)) 0 0 (wssA qs qt) := by
  refine Met.ofW (cc := cX6_copyFrom) (maxL := 2) (ret := none) (by decide) rfl ?_
  intro p e s m args below meth c s₁ B hml hv
  obtain ⟨rfl, hM, hK⟩ := hv
  have zc := zc_of B hml
  have hl := lv_entry ([.ref qs, .ref qt]) (n := 2) (Nat.le_of_ble_eq_true rfl)
  rw [lg_entry_eq]
  generalize (lg_sl ([.ref qs, .ref qt]) ++ List.replicate (2 - (lg_sl ([.ref qs, .ref qt])).length) Slot.unset).toArray = ls at hl ⊢
  have hl : lv_has ls 2 [(0, .ref qs), (1, .ref qt)] := hl
  exact t_wss_X6_copyFrom_4_0 zc hK hM va_S.rf (lv_sub hl [0, 1] rfl) hw
