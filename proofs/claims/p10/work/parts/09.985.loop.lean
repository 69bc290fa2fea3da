theorem lp_end {p : Program} {l : Launch} {e : Env} {s : State} {m : MethodId} {below : List Frame} {meth : Method} {c : Code} {b L cells slots : Nat} {xs : Nat → Int32} {H : Heap} {locs : List Loc} {ls : Array Slot} (C0 : lw_At p s m meth c b L xs) (hcs : cells ≤ room_1.cells ∧ slots ≤ room_1.slots) (hS : va_S (fun q => s.heap.size ≤ q) s.heap H locs) : W p l e room_1 s m #[Value.ref b] below meth c H locs cells slots (lw_Z below #[Value.ref b] s) (F0 m 1653 ls []) := by
  obtain ⟨hx, hb, hr, hml, hown, hts, hX0, hbl, hlocks, hgv⟩ := id C0
  have zc : zC p s m #[Value.ref b] meth c cL_law 4 RL ret := ⟨hx, hb, hml, hown, fun w hw => hts w (zb_in hw), hr, hlocks⟩
  have hbA : ¬ (fun q : Nat => s.heap.size ≤ q) b := Nat.not_le.mpr hbl
  refine va_forget (fun q hq => hS.2.2 q hq) ?_
  refine W.widen (k := 600000) (n := 7302250) hcs.1 hcs.2 ?_
  refine lv_iconst (v := (1 : Int32)) hx hb dL_law_1653 (by decide) ?_
  exact lw_ret hx hb hr hlocks dL_law_1654
set_option maxRecDepth 40000 in
set_option maxHeartbeats 4000000 in
theorem lp_sw {p : Program} {l : Launch} {e : Env} {s : State} {m : MethodId} {below : List Frame} {meth : Method} {c : Code} {E : zE} {G : zG} {b L i bx bm cells slots : Nat} {xs : Nat → Int32} {mi : Nat → Option Nat} {ko : Option Nat} {T : TT} {M : Nat → Nat → Int32} {I : Nat → TT} {H : Heap} {locs : List Loc} {ls : Array Slot} (hi : i + 6 ≤ L) (hL : L ≤ 3072) (hR : RG T M I mi) (hcs : cells + 47 ≤ room_1.cells ∧ slots + 4608 ≤ room_1.slots) (C0 : lw_At p s m meth c b L xs) (hbx : s.heap.size ≤ bx) (hbm : bx + 93 ≤ bm) (hK : zK E s) (hO : zO s ∧ zZ G (fun q => s.heap.size ≤ q) s s.heap) (hG : GG E bx bm mi ko T M I H) (hS : va_S (fun q => s.heap.size ≤ q) s.heap H locs) (hl : lv_has ls 4 [(0, .ref b), (1, .ref bx), (2, .ref bm), (3, .int (nI i))])
    (kk : ∀ (mi : Nat → Option Nat) (ko : Option Nat) (T : TT) (M : Nat → Nat → Int32) (I : Nat → TT) (H : Heap) (locs : List Loc) (cells' slots' : Nat), cells' ≤ cells + 47 → slots' ≤ slots + 4608 → RG T M I mi → GG E bx bm mi ko T M I H → va_S (fun q => s.heap.size ≤ q) s.heap H locs → W p l e room_1 s m #[Value.ref b] below meth c H locs cells' slots' (lw_Z below #[Value.ref b] s) (F0 m 1647 ls [])) : W p l e room_1 s m #[Value.ref b] below meth c H locs cells slots (lw_Z below #[Value.ref b] s) (F0 m 27 ls []) := by
  obtain ⟨hx, hb, hr, hml, hown, hts, hX0, hbl, hlocks, hgv⟩ := id C0
  have zc : zC p s m #[Value.ref b] meth c cL_law 4 RL ret := ⟨hx, hb, hml, hown, fun w hw => hts w (zb_in hw), hr, hlocks⟩
  have hbA : ¬ (fun q : Nat => s.heap.size ≤ q) b := Nat.not_le.mpr hbl
  refine lv_aload_n hx hb dL_law_27 rfl (lv_at hl 0 rfl) ?_
  refine lv_iload_n hx hb dL_law_28 rfl (lv_at hl 3 rfl) ?_
  refine va_sld hx hb hX0 hbl hbA hS (vp_in_nI (by omega) (by omega)) dL_law_29 ?_
  refine lv_bipush (v := (63 : Int32)) hx hb dL_law_30 (by decide) ?_
  refine lv_iand hx hb dL_law_32 ?_
  by_cases hc : (xs (nI i).toNatClampNeg &&& (63 : Int32)).toInt < 0 ∨ 32 < (xs (nI i).toNatClampNeg &&& (63 : Int32)).toInt
  · refine lv_tableOut (tgt := 1647) hx hb dL_law_33 hc (by decide) ?_
    exact kk _ _ _ _ _ _ _ _ _ (Nat.le_add_right _ _) (Nat.le_add_right _ _) hR hG hS
  have hin := zsw hc
  by_cases hc0 : (xs (nI i).toNatClampNeg &&& (63 : Int32)) = (0 : Int32)
  · refine lv_tableIn (tgt := 180) hx hb dL_law_33 (by rw [hc0]; decide) (by rw [hc0]; decide) (by rw [hc0]; rfl) (by decide) ?_
    exact g_0 hi hL hR hcs C0 hbx hbm hK hO hG hS hl kk
  by_cases hc1 : (xs (nI i).toNatClampNeg &&& (63 : Int32)) = (1 : Int32)
  · refine lv_tableIn (tgt := 243) hx hb dL_law_33 (by rw [hc1]; decide) (by rw [hc1]; decide) (by rw [hc1]; rfl) (by decide) ?_
    exact g_1 hi hL hR hcs C0 hbx hbm hK hO hG hS hl kk
  by_cases hc2 : (xs (nI i).toNatClampNeg &&& (63 : Int32)) = (2 : Int32)
  · refine lv_tableIn (tgt := 266) hx hb dL_law_33 (by rw [hc2]; decide) (by rw [hc2]; decide) (by rw [hc2]; rfl) (by decide) ?_
    exact g_2 hi hL hR hcs C0 hbx hbm hK hO hG hS hl kk
  by_cases hc3 : (xs (nI i).toNatClampNeg &&& (63 : Int32)) = (3 : Int32)
  · refine lv_tableIn (tgt := 299) hx hb dL_law_33 (by rw [hc3]; decide) (by rw [hc3]; decide) (by rw [hc3]; rfl) (by decide) ?_
    exact g_3 hi hL hR hcs C0 hbx hbm hK hO hG hS hl kk
  by_cases hc4 : (xs (nI i).toNatClampNeg &&& (63 : Int32)) = (4 : Int32)
  · refine lv_tableIn (tgt := 322) hx hb dL_law_33 (by rw [hc4]; decide) (by rw [hc4]; decide) (by rw [hc4]; rfl) (by decide) ?_
    exact g_4 hi hL hR hcs C0 hbx hbm hK hO hG hS hl kk
  by_cases hc5 : (xs (nI i).toNatClampNeg &&& (63 : Int32)) = (5 : Int32)
  · refine lv_tableIn (tgt := 355) hx hb dL_law_33 (by rw [hc5]; decide) (by rw [hc5]; decide) (by rw [hc5]; rfl) (by decide) ?_
    exact g_5 hi hL hR hcs C0 hbx hbm hK hO hG hS hl kk
  by_cases hc6 : (xs (nI i).toNatClampNeg &&& (63 : Int32)) = (6 : Int32)
  · refine lv_tableIn (tgt := 398) hx hb dL_law_33 (by rw [hc6]; decide) (by rw [hc6]; decide) (by rw [hc6]; rfl) (by decide) ?_
    exact g_6 hi hL hR hcs C0 hbx hbm hK hO hG hS hl kk
  by_cases hc7 : (xs (nI i).toNatClampNeg &&& (63 : Int32)) = (7 : Int32)
  · refine lv_tableIn (tgt := 441) hx hb dL_law_33 (by rw [hc7]; decide) (by rw [hc7]; decide) (by rw [hc7]; rfl) (by decide) ?_
    exact g_7 hi hL hR hcs C0 hbx hbm hK hO hG hS hl kk
  by_cases hc8 : (xs (nI i).toNatClampNeg &&& (63 : Int32)) = (8 : Int32)
  · refine lv_tableIn (tgt := 474) hx hb dL_law_33 (by rw [hc8]; decide) (by rw [hc8]; decide) (by rw [hc8]; rfl) (by decide) ?_
    exact g_8 hi hL hR hcs C0 hbx hbm hK hO hG hS hl kk
  by_cases hc9 : (xs (nI i).toNatClampNeg &&& (63 : Int32)) = (9 : Int32)
  · refine lv_tableIn (tgt := 527) hx hb dL_law_33 (by rw [hc9]; decide) (by rw [hc9]; decide) (by rw [hc9]; rfl) (by decide) ?_
    exact g_9 hi hL hR hcs C0 hbx hbm hK hO hG hS hl kk
  by_cases hc10 : (xs (nI i).toNatClampNeg &&& (63 : Int32)) = (10 : Int32)
  · refine lv_tableIn (tgt := 570) hx hb dL_law_33 (by rw [hc10]; decide) (by rw [hc10]; decide) (by rw [hc10]; rfl) (by decide) ?_
    exact g_10 hi hL hR hcs C0 hbx hbm hK hO hG hS hl kk
  by_cases hc11 : (xs (nI i).toNatClampNeg &&& (63 : Int32)) = (11 : Int32)
  · refine lv_tableIn (tgt := 613) hx hb dL_law_33 (by rw [hc11]; decide) (by rw [hc11]; decide) (by rw [hc11]; rfl) (by decide) ?_
    exact g_11 hi hL hR hcs C0 hbx hbm hK hO hG hS hl kk
  by_cases hc12 : (xs (nI i).toNatClampNeg &&& (63 : Int32)) = (12 : Int32)
  · refine lv_tableIn (tgt := 662) hx hb dL_law_33 (by rw [hc12]; decide) (by rw [hc12]; decide) (by rw [hc12]; rfl) (by decide) ?_
    exact g_12 hi hL hR hcs C0 hbx hbm hK hO hG hS hl kk
  by_cases hc13 : (xs (nI i).toNatClampNeg &&& (63 : Int32)) = (13 : Int32)
  · refine lv_tableIn (tgt := 715) hx hb dL_law_33 (by rw [hc13]; decide) (by rw [hc13]; decide) (by rw [hc13]; rfl) (by decide) ?_
    exact g_13 hi hL hR hcs C0 hbx hbm hK hO hG hS hl kk
  by_cases hc14 : (xs (nI i).toNatClampNeg &&& (63 : Int32)) = (14 : Int32)
  · refine lv_tableIn (tgt := 758) hx hb dL_law_33 (by rw [hc14]; decide) (by rw [hc14]; decide) (by rw [hc14]; rfl) (by decide) ?_
    exact g_14 hi hL hR hcs C0 hbx hbm hK hO hG hS hl kk
  by_cases hc15 : (xs (nI i).toNatClampNeg &&& (63 : Int32)) = (15 : Int32)
  · refine lv_tableIn (tgt := 817) hx hb dL_law_33 (by rw [hc15]; decide) (by rw [hc15]; decide) (by rw [hc15]; rfl) (by decide) ?_
    exact g_15 hi hL hR hcs C0 hbx hbm hK hO hG hS hl kk
  by_cases hc16 : (xs (nI i).toNatClampNeg &&& (63 : Int32)) = (16 : Int32)
  · refine lv_tableIn (tgt := 860) hx hb dL_law_33 (by rw [hc16]; decide) (by rw [hc16]; decide) (by rw [hc16]; rfl) (by decide) ?_
    exact g_16 hi hL hR hcs C0 hbx hbm hK hO hG hS hl kk
  by_cases hc17 : (xs (nI i).toNatClampNeg &&& (63 : Int32)) = (17 : Int32)
  · refine lv_tableIn (tgt := 919) hx hb dL_law_33 (by rw [hc17]; decide) (by rw [hc17]; decide) (by rw [hc17]; rfl) (by decide) ?_
    exact g_17 hi hL hR hcs C0 hbx hbm hK hO hG hS hl kk
  by_cases hc18 : (xs (nI i).toNatClampNeg &&& (63 : Int32)) = (18 : Int32)
  · refine lv_tableIn (tgt := 952) hx hb dL_law_33 (by rw [hc18]; decide) (by rw [hc18]; decide) (by rw [hc18]; rfl) (by decide) ?_
    exact g_18 hi hL hR hcs C0 hbx hbm hK hO hG hS hl kk
  by_cases hc19 : (xs (nI i).toNatClampNeg &&& (63 : Int32)) = (19 : Int32)
  · refine lv_tableIn (tgt := 975) hx hb dL_law_33 (by rw [hc19]; decide) (by rw [hc19]; decide) (by rw [hc19]; rfl) (by decide) ?_
    exact g_19 hi hL hR hcs C0 hbx hbm hK hO hG hS hl kk
  by_cases hc20 : (xs (nI i).toNatClampNeg &&& (63 : Int32)) = (20 : Int32)
  · refine lv_tableIn (tgt := 1008) hx hb dL_law_33 (by rw [hc20]; decide) (by rw [hc20]; decide) (by rw [hc20]; rfl) (by decide) ?_
    exact g_20 hi hL hR hcs C0 hbx hbm hK hO hG hS hl kk
  by_cases hc21 : (xs (nI i).toNatClampNeg &&& (63 : Int32)) = (21 : Int32)
  · refine lv_tableIn (tgt := 1077) hx hb dL_law_33 (by rw [hc21]; decide) (by rw [hc21]; decide) (by rw [hc21]; rfl) (by decide) ?_
    exact g_21 hi hL hR hcs C0 hbx hbm hK hO hG hS hl kk
  by_cases hc22 : (xs (nI i).toNatClampNeg &&& (63 : Int32)) = (22 : Int32)
  · refine lv_tableIn (tgt := 1120) hx hb dL_law_33 (by rw [hc22]; decide) (by rw [hc22]; decide) (by rw [hc22]; rfl) (by decide) ?_
    exact g_22 hi hL hR hcs C0 hbx hbm hK hO hG hS hl kk
  by_cases hc23 : (xs (nI i).toNatClampNeg &&& (63 : Int32)) = (23 : Int32)
  · refine lv_tableIn (tgt := 1173) hx hb dL_law_33 (by rw [hc23]; decide) (by rw [hc23]; decide) (by rw [hc23]; rfl) (by decide) ?_
    exact g_23 hi hL hR hcs C0 hbx hbm hK hO hG hS hl kk
  by_cases hc24 : (xs (nI i).toNatClampNeg &&& (63 : Int32)) = (24 : Int32)
  · refine lv_tableIn (tgt := 1226) hx hb dL_law_33 (by rw [hc24]; decide) (by rw [hc24]; decide) (by rw [hc24]; rfl) (by decide) ?_
    exact g_24 hi hL hR hcs C0 hbx hbm hK hO hG hS hl kk
  by_cases hc25 : (xs (nI i).toNatClampNeg &&& (63 : Int32)) = (25 : Int32)
  · refine lv_tableIn (tgt := 1295) hx hb dL_law_33 (by rw [hc25]; decide) (by rw [hc25]; decide) (by rw [hc25]; rfl) (by decide) ?_
    exact g_25 hi hL hR hcs C0 hbx hbm hK hO hG hS hl kk
  by_cases hc26 : (xs (nI i).toNatClampNeg &&& (63 : Int32)) = (26 : Int32)
  · refine lv_tableIn (tgt := 1354) hx hb dL_law_33 (by rw [hc26]; decide) (by rw [hc26]; decide) (by rw [hc26]; rfl) (by decide) ?_
    exact g_26 hi hL hR hcs C0 hbx hbm hK hO hG hS hl kk
  by_cases hc27 : (xs (nI i).toNatClampNeg &&& (63 : Int32)) = (27 : Int32)
  · refine lv_tableIn (tgt := 1423) hx hb dL_law_33 (by rw [hc27]; decide) (by rw [hc27]; decide) (by rw [hc27]; rfl) (by decide) ?_
    exact g_27 hi hL hR hcs C0 hbx hbm hK hO hG hS hl kk
  by_cases hc28 : (xs (nI i).toNatClampNeg &&& (63 : Int32)) = (28 : Int32)
  · refine lv_tableIn (tgt := 1456) hx hb dL_law_33 (by rw [hc28]; decide) (by rw [hc28]; decide) (by rw [hc28]; rfl) (by decide) ?_
    exact g_28 hi hL hR hcs C0 hbx hbm hK hO hG hS hl kk
  by_cases hc29 : (xs (nI i).toNatClampNeg &&& (63 : Int32)) = (29 : Int32)
  · refine lv_tableIn (tgt := 1525) hx hb dL_law_33 (by rw [hc29]; decide) (by rw [hc29]; decide) (by rw [hc29]; rfl) (by decide) ?_
    exact g_29 hi hL hR hcs C0 hbx hbm hK hO hG hS hl kk
  by_cases hc30 : (xs (nI i).toNatClampNeg &&& (63 : Int32)) = (30 : Int32)
  · refine lv_tableIn (tgt := 1578) hx hb dL_law_33 (by rw [hc30]; decide) (by rw [hc30]; decide) (by rw [hc30]; rfl) (by decide) ?_
    exact g_30 hi hL hR hcs C0 hbx hbm hK hO hG hS hl kk
  by_cases hc31 : (xs (nI i).toNatClampNeg &&& (63 : Int32)) = (31 : Int32)
  · refine lv_tableIn (tgt := 1601) hx hb dL_law_33 (by rw [hc31]; decide) (by rw [hc31]; decide) (by rw [hc31]; rfl) (by decide) ?_
    exact g_31 hi hL hR hcs C0 hbx hbm hK hO hG hS hl kk
  by_cases hc32 : (xs (nI i).toNatClampNeg &&& (63 : Int32)) = (32 : Int32)
  · refine lv_tableIn (tgt := 1624) hx hb dL_law_33 (by rw [hc32]; decide) (by rw [hc32]; decide) (by rw [hc32]; rfl) (by decide) ?_
    exact g_32 hi hL hR hcs C0 hbx hbm hK hO hG hS hl kk
  exact absurd hin (by have h0 := zne hc0; have h1 := zne hc1; have h2 := zne hc2; have h3 := zne hc3; have h4 := zne hc4; have h5 := zne hc5; have h6 := zne hc6; have h7 := zne hc7; have h8 := zne hc8; have h9 := zne hc9; have h10 := zne hc10; have h11 := zne hc11; have h12 := zne hc12; have h13 := zne hc13; have h14 := zne hc14; have h15 := zne hc15; have h16 := zne hc16; have h17 := zne hc17; have h18 := zne hc18; have h19 := zne hc19; have h20 := zne hc20; have h21 := zne hc21; have h22 := zne hc22; have h23 := zne hc23; have h24 := zne hc24; have h25 := zne hc25; have h26 := zne hc26; have h27 := zne hc27; have h28 := zne hc28; have h29 := zne hc29; have h30 := zne hc30; have h31 := zne hc31; have h32 := zne hc32; simp at *; omega)
set_option maxRecDepth 40000 in
set_option maxHeartbeats 4000000 in
theorem lp_head {p : Program} {l : Launch} {e : Env} {s : State} {m : MethodId} {below : List Frame} {meth : Method} {c : Code} {E : zE} {G : zG} {b L bx bm : Nat} {xs : Nat → Int32} (C0 : lw_At p s m meth c b L xs) (hL : L ≤ 3072) (hbx : s.heap.size ≤ bx) (hbm : bx + 93 ≤ bm) (hK : zK E s) (hO : zO s ∧ zZ G (fun q => s.heap.size ≤ q) s s.heap) (n : Nat) : ∀ (i cells slots : Nat) (mi : Nat → Option Nat) (ko : Option Nat) (T : TT) (M : Nat → Nat → Int32) (I : Nat → TT) (H : Heap) (locs : List Loc) (ls : Array Slot), L < i + 6 + 6 * n → i ≤ 3072 → cells ≤ 200 + 8 * i → slots ≤ 20000 + 768 * i → RG T M I mi → GG E bx bm mi ko T M I H → va_S (fun q => s.heap.size ≤ q) s.heap H locs → lv_has ls 4 [(0, .ref b), (1, .ref bx), (2, .ref bm), (3, .int (nI i))] → W p l e room_1 s m #[Value.ref b] below meth c H locs cells slots (lw_Z below #[Value.ref b] s) (F0 m 18 ls []) := by
  obtain ⟨hx, hb, hr, hml, hown, hts, hX0, hbl, hlocks, hgv⟩ := id C0
  have zc : zC p s m #[Value.ref b] meth c cL_law 4 RL ret := ⟨hx, hb, hml, hown, fun w hw => hts w (zb_in hw), hr, hlocks⟩
  have hbA : ¬ (fun q : Nat => s.heap.size ≤ q) b := Nat.not_le.mpr hbl
  have hf : ∀ (i cells slots : Nat) (mi : Nat → Option Nat) (ko : Option Nat) (T : TT) (M : Nat → Nat → Int32) (I : Nat → TT) (H : Heap) (locs : List Loc) (ls : Array Slot), i ≤ 3072 → cells ≤ 200 + 8 * i → slots ≤ 20000 + 768 * i → RG T M I mi → GG E bx bm mi ko T M I H → va_S (fun q => s.heap.size ≤ q) s.heap H locs → lv_has ls 4 [(0, .ref b), (1, .ref bx), (2, .ref bm), (3, .int (nI i))] → (¬ L < i + 6 → W p l e room_1 s m #[Value.ref b] below meth c H locs cells slots (lw_Z below #[Value.ref b] s) (F0 m 27 ls [])) → W p l e room_1 s m #[Value.ref b] below meth c H locs cells slots (lw_Z below #[Value.ref b] s) (F0 m 18 ls []) := by
    intro i cells slots mi ko T M I H locs ls hi hc hs hR hG hS hl kk
    refine lv_iload_n hx hb dL_law_18 rfl (lv_at hl 3 rfl) ?_
    refine lv_aload_n hx hb dL_law_19 rfl (lv_at hl 0 rfl) ?_
    refine va_slen hx hb hX0 hbl hbA hS dL_law_20 ?_
    refine lv_bipush (v := (6 : Int32)) hx hb dL_law_21 (by decide) ?_
    refine lv_isub hx hb dL_law_23 ?_
    refine lv_icmp_gt (tgt := 1653) hx hb dL_law_24 (by decide) (fun hd => ?_) (fun hd => kk (fun h => hd ((hd_lt hL (by omega)).mpr h)))
    exact lp_end C0 ⟨by show cells ≤ 600000; omega, by show slots ≤ 7302250; omega⟩ hS
  induction n with
  | zero =>
    intro i cells slots mi ko T M I H locs ls h hi hc hs hR hG hS hl
    exact hf i cells slots mi ko T M I H locs ls hi hc hs hR hG hS hl (fun h2 => absurd (by omega) h2)
  | succ n ih =>
    intro i cells slots mi ko T M I H locs ls h hi hc hs hR hG hS hl
    refine hf i cells slots mi ko T M I H locs ls hi hc hs hR hG hS hl (fun h2 => ?_)
    have hi6 : i + 6 ≤ L := by omega
    refine lp_sw hi6 hL hR ⟨by show cells + 47 ≤ 600000; omega, by show slots + 4608 ≤ 7302250; omega⟩ C0 hbx hbm hK hO hG hS hl (fun mi ko T M I H locs cells' slots' e1 e2 hR hG hS => ?_)
    refine lv_iinc (v := nI (i + 6)) (k := 3) (lv' := [(3, .int (nI (i + 6))), (0, .ref b), (1, .ref bx), (2, .ref bm)]) hx hb dL_law_1647 hl rfl (by rw [← nI_add]; rfl) (by decide) rfl (fun ls hl => ?_)
    refine lv_goto (tgt := 18) hx hb dL_law_1650 (by decide) ?_
    exact ih (i + 6) cells' slots' mi ko T M I H locs ls (by omega) (by omega) (by omega) (by omega) hR hG hS (lv_sub hl [1, 2, 3, 0] rfl)
theorem iv_z {l h : Int} (h1 : l ≤ 0) (h2 : 0 ≤ h) : iv l h 0 := ⟨h1, h2⟩
theorem mRh0 : ∀ j, j < 132 → 0 ≤ mRh j := by decide +kernel
theorem mLand0 : mLand (fun _ => 0) := ⟨fun r j hr hj => iv_z (Int.le_refl 0) (mRh0 j hj), fun r hr h => absurd rfl h⟩
theorem mEve0 : mEve (fun _ => 0) := fun r hr => ⟨iv_z (by decide) (by decide), fun k hk => ⟨iv_z (by decide) (by decide), iv_z (by decide) (by decide), iv_z (by decide) (by decide)⟩⟩
theorem mSig0 : mSig (fun _ => 0) := fun r hr => ⟨iv_z (by decide) (by decide), fun k hk => ⟨iv_z (by decide) (by decide), iv_z (by decide) (by decide), iv_z (by decide) (by decide)⟩⟩
theorem mCho0 : mCho (fun _ => 0) := fun r hr => ⟨iv_z (by decide) (by decide), iv_z (by decide) (by decide), fun k hk => ⟨iv_z (by decide) (by decide), iv_z (by decide) (by decide)⟩⟩
theorem mT0 : mT (mmk (fun _ => 0) (fun _ => 0) (fun _ => 0) (upd (fun _ => 0) (Int32.toNatClampNeg 0) (-1)) (fun _ => 0) (fun _ => 0) (fun _ => 0) (fun _ => 0) (fun _ => 0) (fun _ => 0)) := ⟨fun _ => iv_lit (x := 0) (by decide), fun _ => iv_lit (x := 0) (by decide), fun _ => iv_lit (x := 0) (by decide), mLand0, mEve0, mSig0, mCho0, fun _ => iv_lit (x := 0) (by decide)⟩
set_option maxRecDepth 40000 in
theorem fx_start {E : zE} {a : Nat} {H : Heap} (h : va_P E.1 zcl (zb_X10_init E a) H) : wxW E a (fun _ => 0) 0 0 (-1) (fun _ => 0) 0 0 0 0 0 2 5 (fun _ => 0) (fun _ => 0) (fun _ => 0) (fun _ => 0) (fun _ => 0) (fun _ => 0) (fun _ => 0) (fun _ => 0) 0 0 0 0 0 2 5 (fun _ => 0) (fun _ => 0) (fun _ => 0) (fun _ => 0) (fun _ => 0) (fun _ => 0) (fun _ => 0) (fun _ => 0) 0 (fun _ => 0) (fun _ => 0) (fun _ => 0) 0 (fun _ => 0) (fun _ => 0) (fun _ => 0) 0 (fun _ => 0) (fun _ => 0) (fun _ => 0) 0 (fun _ => 0) (fun _ => 0) (fun _ => 0) 0 0 (fun _ => 0) (fun _ => 0) 0 0 (fun _ => 0) (fun _ => 0) (fun _ => none) 0 0 0 0 0 2 5 (fun _ => 0) (fun _ => 0) (fun _ => 0) (fun _ => 0) (fun _ => 0) (fun _ => 0) (fun _ => 0) (fun _ => 0) 0 (fun _ => 0) (fun _ => 0) (fun _ => 0) 0 (fun _ => 0) (fun _ => 0) (fun _ => 0) 0 0 (fun _ => 0) (fun _ => 0) 0 (-1) (fun _ => 0) (fun _ => 0) 0 0 0 0 0 0 0 0 0 0 0 0 (fun _ => 0) (fun _ => 0) (fun _ => 0) (fun _ => 0) (fun _ => 0) (fun _ => 0) (fun _ => 0) (fun _ => 0) (fun _ => 0) (fun _ => 0) (fun _ => 0) (fun _ => 0) (fun _ => 0) none (fun _ => 0) (fun _ => 0) (fun _ => 0) (fun _ => 0) H := h
set_option maxRecDepth 40000 in
theorem fm_start {E : zE} {a : Nat} {H : Heap} (h : va_P E.1 zcl (zb_X11_init E a) H) : mW E a 0 (fun _ => 0) (fun _ => 0) (fun _ => 0) (upd (fun _ => 0) (Int32.toNatClampNeg 0) (-1)) (fun _ => 0) (fun _ => 0) (fun _ => 0) (fun _ => 0) (fun _ => 0) 0 0 0 0 0 0 0 0 0 (fun _ => 0) (fun _ => 0) 0 0 0 0 0 0 0 (fun _ => 0) (fun _ => 0) (fun _ => 0) (fun _ => 0) (fun _ => 0) 0 0 0 (fun _ => 0) (fun _ => 0) (fun _ => 0) (fun _ => 0) (fun _ => 0) (fun _ => 0) (fun _ => 0) 0 (fun _ => 0) 0 0 (fun _ => 0) (fun _ => 0) 0 (fun _ => 0) (fun _ => 0) H := h
set_option maxRecDepth 40000 in
set_option maxHeartbeats 4000000 in
theorem GG0 {E : zE} {bx bm : Nat} {H : Heap} (hX : va_P E.1 zcl (zb_X10_init E bx) H) (hM : va_P E.1 zcl (zb_X11_init E bm) H) : GG E bx bm (fun _ => none) none (tmk (fun _ => 0) 0 0 (-1) (fun _ => 0) 0 0 0 0 0 2 5 (fun _ => 0) (fun _ => 0) (fun _ => 0) (fun _ => 0) (fun _ => 0) (fun _ => 0) (fun _ => 0) (fun _ => 0) 0 0 0 0 0 2 5 (fun _ => 0) (fun _ => 0) (fun _ => 0) (fun _ => 0) (fun _ => 0) (fun _ => 0) (fun _ => 0) (fun _ => 0) 0 (fun _ => 0) (fun _ => 0) (fun _ => 0) 0 (fun _ => 0) (fun _ => 0) (fun _ => 0) 0 (fun _ => 0) (fun _ => 0) (fun _ => 0) 0 (fun _ => 0) (fun _ => 0) (fun _ => 0) 0 0 (fun _ => 0) (fun _ => 0) 0 0 (fun _ => 0) (fun _ => 0)) (mmk (fun _ => 0) (fun _ => 0) (fun _ => 0) (upd (fun _ => 0) (Int32.toNatClampNeg 0) (-1)) (fun _ => 0) (fun _ => 0) (fun _ => 0) (fun _ => 0) (fun _ => 0) (fun _ => 0)) (fun _ => (tmk (fun _ => 0) 0 0 (-1) (fun _ => 0) 0 0 0 0 0 2 5 (fun _ => 0) (fun _ => 0) (fun _ => 0) (fun _ => 0) (fun _ => 0) (fun _ => 0) (fun _ => 0) (fun _ => 0) 0 0 0 0 0 2 5 (fun _ => 0) (fun _ => 0) (fun _ => 0) (fun _ => 0) (fun _ => 0) (fun _ => 0) (fun _ => 0) (fun _ => 0) 0 (fun _ => 0) (fun _ => 0) (fun _ => 0) 0 (fun _ => 0) (fun _ => 0) (fun _ => 0) 0 (fun _ => 0) (fun _ => 0) (fun _ => 0) 0 (fun _ => 0) (fun _ => 0) (fun _ => 0) 0 0 (fun _ => 0) (fun _ => 0) 0 0 (fun _ => 0) (fun _ => 0))) H :=
  ⟨XS_of2 (fx_start hX) ⟨by decide, by decide⟩ ⟨by decide, by decide⟩ ⟨by decide, by decide⟩ ⟨by decide, by decide⟩ ⟨by decide, by decide⟩ ⟨by decide, by decide⟩ ⟨by decide, by decide⟩ (fun _ => iv_lit (x := 0) (by decide)) (fun _ => iv_lit (x := 0) (by decide)) (fun _ => iv_lit (x := 0) (by decide)) (fun _ => iv_lit (x := 0) (by decide)) (fun _ => iv_lit (x := 0) (by decide)) (fun _ => iv_lit (x := 0) (by decide)) (fun _ => iv_lit (x := 0) (by decide)) (fun _ => iv_lit (x := 0) (by decide)) ⟨by decide, by decide⟩ (fun _ => iv_lit (x := 0) (by decide)) (fun _ => iv_lit (x := 0) (by decide)) (fun _ => iv_lit (x := 0) (by decide)) ⟨by decide, by decide⟩ (fun _ => iv_lit (x := 0) (by decide)) (fun _ => iv_lit (x := 0) (by decide)) (fun _ => iv_lit (x := 0) (by decide)) ⟨by decide, by decide⟩ ⟨by decide, by decide⟩ (fun _ => iv_lit (x := 0) (by decide)) (fun _ => iv_lit (x := 0) (by decide)) ⟨by decide, by decide⟩ ⟨by decide, by decide⟩ (fun _ => iv_lit (x := 0) (by decide)) ⟨by decide, by decide⟩ ⟨by decide, by decide⟩ ⟨by decide, by decide⟩ ⟨by decide, by decide⟩ ⟨by decide, by decide⟩ ⟨by decide, by decide⟩ (fun _ => iv_lit (x := 0) (by decide)) (fun _ => iv_lit (x := 0) (by decide)) (fun _ => iv_lit (x := 0) (by decide)) (fun _ => iv_lit (x := 0) (by decide)) (fun _ => iv_lit (x := 0) (by decide)) (fun _ => iv_lit (x := 0) (by decide)) (fun _ => iv_lit (x := 0) (by decide)) (fun _ => iv_lit (x := 0) (by decide)) (fun _ => iv_lit (x := 0) (by decide)) (fun _ => iv_lit (x := 0) (by decide)), MS_of (fm_start hM) ⟨by decide, by decide⟩ ⟨by decide, by decide⟩ ⟨by decide, by decide⟩ ⟨by decide, by decide⟩ (fun _ => iv_lit (x := 0) (by decide)) (fun _ => iv_lit (x := 0) (by decide)) (fun _ => iv_lit (x := 0) (by decide)) (fun _ => iv_lit (x := 0) (by decide)) ⟨by decide, by decide⟩ (fun _ => iv_lit (x := 0) (by decide)) (fun _ => iv_lit (x := 0) (by decide)) (fun _ => iv_lit (x := 0) (by decide)) (fun _ => iv_lit (x := 0) (by decide)) (fun _ => iv_lit (x := 0) (by decide)) ⟨by decide, by decide⟩ (fun _ => iv_lit (x := 0) (by decide)), ⟨fun j hj q e => absurd e (by simp), fun j k _ _ _ q r e _ => absurd e (by simp), fun t e => absurd e (by simp), fun j hj q t e _ => absurd e (by simp)⟩, tJ_of (fun _ => iv_lit (x := 0) (by decide)) ⟨by decide, by decide⟩ ⟨by decide, by decide⟩ ⟨by decide, by decide⟩ (fun _ => iv_lit (x := 0) (by decide)) ⟨by decide, by decide⟩ ⟨by decide, by decide⟩ ⟨by decide, by decide⟩ ⟨by decide, by decide⟩ ⟨by decide, by decide⟩ ⟨by decide, by decide⟩ ⟨by decide, by decide⟩ (fun _ => iv_lit (x := 0) (by decide)) (fun _ => iv_lit (x := 0) (by decide)) (fun _ => iv_lit (x := 0) (by decide)) (fun _ => iv_lit (x := 0) (by decide)) (fun _ => iv_lit (x := 0) (by decide)) (fun _ => iv_lit (x := 0) (by decide)) (fun _ => iv_lit (x := 0) (by decide)) (fun _ => iv_lit (x := 0) (by decide)) ⟨by decide, by decide⟩ ⟨by decide, by decide⟩ ⟨by decide, by decide⟩ ⟨by decide, by decide⟩ ⟨by decide, by decide⟩ ⟨by decide, by decide⟩ ⟨by decide, by decide⟩ (fun _ => iv_lit (x := 0) (by decide)) (fun _ => iv_lit (x := 0) (by decide)) (fun _ => iv_lit (x := 0) (by decide)) (fun _ => iv_lit (x := 0) (by decide)) (fun _ => iv_lit (x := 0) (by decide)) (fun _ => iv_lit (x := 0) (by decide)) (fun _ => iv_lit (x := 0) (by decide)) (fun _ => iv_lit (x := 0) (by decide)) ⟨by decide, by decide⟩ (fun _ => iv_lit (x := 0) (by decide)) (fun _ => iv_lit (x := 0) (by decide)) (fun _ => iv_lit (x := 0) (by decide)) ⟨by decide, by decide⟩ (fun _ => iv_lit (x := 0) (by decide)) (fun _ => iv_lit (x := 0) (by decide)) (fun _ => iv_lit (x := 0) (by decide)) ⟨by decide, by decide⟩ (fun _ => iv_lit (x := 0) (by decide)) (fun _ => iv_lit (x := 0) (by decide)) (fun _ => iv_lit (x := 0) (by decide)) ⟨by decide, by decide⟩ (fun _ => iv_lit (x := 0) (by decide)) (fun _ => iv_lit (x := 0) (by decide)) (fun _ => iv_lit (x := 0) (by decide)) ⟨by decide, by decide⟩ ⟨by decide, by decide⟩ (fun _ => iv_lit (x := 0) (by decide)) (fun _ => iv_lit (x := 0) (by decide)) ⟨by decide, by decide⟩ ⟨by decide, by decide⟩ (fun _ => iv_lit (x := 0) (by decide)) (fun _ => iv_lit (x := 0) (by decide)), mT0⟩
theorem RF0 : RF (tmk (fun _ => 0) 0 0 (-1) (fun _ => 0) 0 0 0 0 0 2 5 (fun _ => 0) (fun _ => 0) (fun _ => 0) (fun _ => 0) (fun _ => 0) (fun _ => 0) (fun _ => 0) (fun _ => 0) 0 0 0 0 0 2 5 (fun _ => 0) (fun _ => 0) (fun _ => 0) (fun _ => 0) (fun _ => 0) (fun _ => 0) (fun _ => 0) (fun _ => 0) 0 (fun _ => 0) (fun _ => 0) (fun _ => 0) 0 (fun _ => 0) (fun _ => 0) (fun _ => 0) 0 (fun _ => 0) (fun _ => 0) (fun _ => 0) 0 (fun _ => 0) (fun _ => 0) (fun _ => 0) 0 0 (fun _ => 0) (fun _ => 0) 0 0 (fun _ => 0) (fun _ => 0)) (mmk (fun _ => 0) (fun _ => 0) (fun _ => 0) (upd (fun _ => 0) (Int32.toNatClampNeg 0) (-1)) (fun _ => 0) (fun _ => 0) (fun _ => 0) (fun _ => 0) (fun _ => 0) (fun _ => 0)) (fun _ => (tmk (fun _ => 0) 0 0 (-1) (fun _ => 0) 0 0 0 0 0 2 5 (fun _ => 0) (fun _ => 0) (fun _ => 0) (fun _ => 0) (fun _ => 0) (fun _ => 0) (fun _ => 0) (fun _ => 0) 0 0 0 0 0 2 5 (fun _ => 0) (fun _ => 0) (fun _ => 0) (fun _ => 0) (fun _ => 0) (fun _ => 0) (fun _ => 0) (fun _ => 0) 0 (fun _ => 0) (fun _ => 0) (fun _ => 0) 0 (fun _ => 0) (fun _ => 0) (fun _ => 0) 0 (fun _ => 0) (fun _ => 0) (fun _ => 0) 0 (fun _ => 0) (fun _ => 0) (fun _ => 0) 0 0 (fun _ => 0) (fun _ => 0) 0 0 (fun _ => 0) (fun _ => 0))) (fun _ => none) := by
  refine ⟨⟨rfl, fun j hj => absurd hj (Nat.not_lt_zero j), rfl, rfl, fun o ho => ?_, fun o k ho hk h => ?_⟩, fun j hj => ⟨⟨fun _ => rfl, fun _ => rfl⟩, fun h => absurd rfl h⟩⟩
  · rfl
  · exact absurd h (nI_pos (by omega))
theorem RG0 : RG (tmk (fun _ => 0) 0 0 (-1) (fun _ => 0) 0 0 0 0 0 2 5 (fun _ => 0) (fun _ => 0) (fun _ => 0) (fun _ => 0) (fun _ => 0) (fun _ => 0) (fun _ => 0) (fun _ => 0) 0 0 0 0 0 2 5 (fun _ => 0) (fun _ => 0) (fun _ => 0) (fun _ => 0) (fun _ => 0) (fun _ => 0) (fun _ => 0) (fun _ => 0) 0 (fun _ => 0) (fun _ => 0) (fun _ => 0) 0 (fun _ => 0) (fun _ => 0) (fun _ => 0) 0 (fun _ => 0) (fun _ => 0) (fun _ => 0) 0 (fun _ => 0) (fun _ => 0) (fun _ => 0) 0 0 (fun _ => 0) (fun _ => 0) 0 0 (fun _ => 0) (fun _ => 0)) (mmk (fun _ => 0) (fun _ => 0) (fun _ => 0) (upd (fun _ => 0) (Int32.toNatClampNeg 0) (-1)) (fun _ => 0) (fun _ => 0) (fun _ => 0) (fun _ => 0) (fun _ => 0) (fun _ => 0)) (fun _ => (tmk (fun _ => 0) 0 0 (-1) (fun _ => 0) 0 0 0 0 0 2 5 (fun _ => 0) (fun _ => 0) (fun _ => 0) (fun _ => 0) (fun _ => 0) (fun _ => 0) (fun _ => 0) (fun _ => 0) 0 0 0 0 0 2 5 (fun _ => 0) (fun _ => 0) (fun _ => 0) (fun _ => 0) (fun _ => 0) (fun _ => 0) (fun _ => 0) (fun _ => 0) 0 (fun _ => 0) (fun _ => 0) (fun _ => 0) 0 (fun _ => 0) (fun _ => 0) (fun _ => 0) 0 (fun _ => 0) (fun _ => 0) (fun _ => 0) 0 (fun _ => 0) (fun _ => 0) (fun _ => 0) 0 0 (fun _ => 0) (fun _ => 0) 0 0 (fun _ => 0) (fun _ => 0))) (fun _ => none) := ⟨RF0, fun k hk hl => absurd hl (nI_pos (by omega)), fun j hj hn => absurd rfl hn⟩
