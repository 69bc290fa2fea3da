set_option maxRecDepth 40000 in
set_option maxHeartbeats 4000000 in
theorem p1_head {p : Program} {l : Launch} {e : Env} {s : State} {m : MethodId} {below : List Frame} {meth : Method} {c : Code} {E : zE} {b L bx bm h cells slots : Nat} {xs : Nat → Int32} {H : Heap} {locs : List Loc} {ls : Array Slot} (C0 : lw_At p s m meth c b L xs) (hL : L ≤ 6) (hcs3 : cells + 47 ≤ room_1.cells ∧ slots + 1261 ≤ room_1.slots) (hbx : s.heap.size ≤ bx) (hbm : bx + 93 ≤ bm) (hbh : bm + 29 ≤ h) (hh : H.size = h) (hK : zK E s) (hO : zO s) (hX : zFX E bx H) (hM : zFM E bm H) (hS : va_S (fun q => s.heap.size ≤ q) s.heap H locs) (hl : lv_has ls 4 [(0, .ref b), (1, .ref bx), (2, .ref bm), (3, .int (nI 0))]) : W p l e room_1 s m #[Value.ref b] below meth c H locs cells slots (lw_Z below #[Value.ref b] s) (F0 m 18 ls []) := by
  obtain ⟨hx, hb, hr, hml, hown, hts, hX0, hbl, hlocks, hgv⟩ := id C0
  have zc : zC p s m #[Value.ref b] meth c cL_law 4 RL ret := ⟨hx, hb, hml, hown, fun w hw => hts w (zb_in hw), hr, hlocks⟩
  have hbA : ¬ (fun q : Nat => s.heap.size ≤ q) b := Nat.not_le.mpr hbl
  have hcs : cells ≤ room_1.cells ∧ slots ≤ room_1.slots := ⟨Nat.le_trans (Nat.le_add_right _ _) hcs3.1, Nat.le_trans (Nat.le_add_right _ _) hcs3.2⟩
  refine lv_iload_n hx hb dL_law_18 rfl (lv_at hl 3 rfl) ?_
  refine lv_aload_n hx hb dL_law_19 rfl (lv_at hl 0 rfl) ?_
  refine va_slen hx hb hX0 hbl hbA hS dL_law_20 ?_
  refine lv_bipush (v := (6 : Int32)) hx hb dL_law_21 (by decide) ?_
  refine lv_isub hx hb dL_law_23 ?_
  refine lv_icmp_gt (tgt := 1655) hx hb dL_law_24 (by decide) (fun hd => ?_) (fun hd => ?_)
  · exact p1_end C0 hcs hS
  have hL6 : 6 ≤ L := Nat.le_of_not_lt (fun h9 => hd (p1_gt0 L h9))
  refine lv_aload_n hx hb dL_law_27 rfl (lv_at hl 0 rfl) ?_
  refine lv_iload_n hx hb dL_law_28 rfl (lv_at hl 3 rfl) ?_
  refine va_sld hx hb hX0 hbl hbA hS (vp_in_nI (by omega) (by omega)) dL_law_29 ?_
  refine lv_bipush (v := (63 : Int32)) hx hb dL_law_30 (by decide) ?_
  refine lv_iand hx hb dL_law_32 ?_
  by_cases hc : (xs (nI 0).toNatClampNeg &&& (63 : Int32)).toInt < 0 ∨ 32 < (xs (nI 0).toNatClampNeg &&& (63 : Int32)).toInt
  · refine lv_tableOut (tgt := 1649) hx hb dL_law_33 hc (by decide) ?_
    exact p1_back C0 hL hcs hS hl
  have hin := zsw hc
  by_cases hc0 : (xs (nI 0).toNatClampNeg &&& (63 : Int32)) = (0 : Int32)
  · refine lv_tableIn (tgt := 180) hx hb dL_law_33 (by rw [hc0]; decide) (by rw [hc0]; decide) (by rw [hc0]; rfl) (by decide) ?_
    exact p1_case_0 C0 hL hL6 hcs3 hbx hbm hbh hh hK hO hX hM hS hl
  by_cases hc1 : (xs (nI 0).toNatClampNeg &&& (63 : Int32)) = (1 : Int32)
  · refine lv_tableIn (tgt := 243) hx hb dL_law_33 (by rw [hc1]; decide) (by rw [hc1]; decide) (by rw [hc1]; rfl) (by decide) ?_
    exact p1_case_1 C0 hL hL6 hcs3 hbx hbm hbh hh hK hO hX hM hS hl
  by_cases hc2 : (xs (nI 0).toNatClampNeg &&& (63 : Int32)) = (2 : Int32)
  · refine lv_tableIn (tgt := 266) hx hb dL_law_33 (by rw [hc2]; decide) (by rw [hc2]; decide) (by rw [hc2]; rfl) (by decide) ?_
    exact p1_case_2 C0 hL hL6 hcs3 hbx hbm hbh hh hK hO hX hM hS hl
  by_cases hc3 : (xs (nI 0).toNatClampNeg &&& (63 : Int32)) = (3 : Int32)
  · refine lv_tableIn (tgt := 299) hx hb dL_law_33 (by rw [hc3]; decide) (by rw [hc3]; decide) (by rw [hc3]; rfl) (by decide) ?_
    exact p1_case_3 C0 hL hL6 hcs3 hbx hbm hbh hh hK hO hX hM hS hl
  by_cases hc4 : (xs (nI 0).toNatClampNeg &&& (63 : Int32)) = (4 : Int32)
  · refine lv_tableIn (tgt := 322) hx hb dL_law_33 (by rw [hc4]; decide) (by rw [hc4]; decide) (by rw [hc4]; rfl) (by decide) ?_
    exact p1_case_4 C0 hL hL6 hcs3 hbx hbm hbh hh hK hO hX hM hS hl
  by_cases hc5 : (xs (nI 0).toNatClampNeg &&& (63 : Int32)) = (5 : Int32)
  · refine lv_tableIn (tgt := 355) hx hb dL_law_33 (by rw [hc5]; decide) (by rw [hc5]; decide) (by rw [hc5]; rfl) (by decide) ?_
    exact p1_case_5 C0 hL hL6 hcs3 hbx hbm hbh hh hK hO hX hM hS hl
  by_cases hc6 : (xs (nI 0).toNatClampNeg &&& (63 : Int32)) = (6 : Int32)
  · refine lv_tableIn (tgt := 398) hx hb dL_law_33 (by rw [hc6]; decide) (by rw [hc6]; decide) (by rw [hc6]; rfl) (by decide) ?_
    exact p1_case_6 C0 hL hL6 hcs3 hbx hbm hbh hh hK hO hX hM hS hl
  by_cases hc7 : (xs (nI 0).toNatClampNeg &&& (63 : Int32)) = (7 : Int32)
  · refine lv_tableIn (tgt := 441) hx hb dL_law_33 (by rw [hc7]; decide) (by rw [hc7]; decide) (by rw [hc7]; rfl) (by decide) ?_
    exact p1_case_7 C0 hL hL6 hcs3 hbx hbm hbh hh hK hO hX hM hS hl
  by_cases hc8 : (xs (nI 0).toNatClampNeg &&& (63 : Int32)) = (8 : Int32)
  · refine lv_tableIn (tgt := 474) hx hb dL_law_33 (by rw [hc8]; decide) (by rw [hc8]; decide) (by rw [hc8]; rfl) (by decide) ?_
    exact p1_case_8 C0 hL hL6 hcs3 hbx hbm hbh hh hK hO hX hM hS hl
  by_cases hc9 : (xs (nI 0).toNatClampNeg &&& (63 : Int32)) = (9 : Int32)
  · refine lv_tableIn (tgt := 527) hx hb dL_law_33 (by rw [hc9]; decide) (by rw [hc9]; decide) (by rw [hc9]; rfl) (by decide) ?_
    exact p1_case_9 C0 hL hL6 hcs3 hbx hbm hbh hh hK hO hX hM hS hl
  by_cases hc10 : (xs (nI 0).toNatClampNeg &&& (63 : Int32)) = (10 : Int32)
  · refine lv_tableIn (tgt := 570) hx hb dL_law_33 (by rw [hc10]; decide) (by rw [hc10]; decide) (by rw [hc10]; rfl) (by decide) ?_
    exact p1_case_10 C0 hL hL6 hcs3 hbx hbm hbh hh hK hO hX hM hS hl
  by_cases hc11 : (xs (nI 0).toNatClampNeg &&& (63 : Int32)) = (11 : Int32)
  · refine lv_tableIn (tgt := 613) hx hb dL_law_33 (by rw [hc11]; decide) (by rw [hc11]; decide) (by rw [hc11]; rfl) (by decide) ?_
    exact p1_case_11 C0 hL hL6 hcs3 hbx hbm hbh hh hK hO hX hM hS hl
  by_cases hc12 : (xs (nI 0).toNatClampNeg &&& (63 : Int32)) = (12 : Int32)
  · refine lv_tableIn (tgt := 662) hx hb dL_law_33 (by rw [hc12]; decide) (by rw [hc12]; decide) (by rw [hc12]; rfl) (by decide) ?_
    exact p1_case_12 C0 hL hL6 hcs3 hbx hbm hbh hh hK hO hX hM hS hl
  by_cases hc13 : (xs (nI 0).toNatClampNeg &&& (63 : Int32)) = (13 : Int32)
  · refine lv_tableIn (tgt := 715) hx hb dL_law_33 (by rw [hc13]; decide) (by rw [hc13]; decide) (by rw [hc13]; rfl) (by decide) ?_
    exact p1_case_13 C0 hL hL6 hcs3 hbx hbm hbh hh hK hO hX hM hS hl
  by_cases hc14 : (xs (nI 0).toNatClampNeg &&& (63 : Int32)) = (14 : Int32)
  · refine lv_tableIn (tgt := 758) hx hb dL_law_33 (by rw [hc14]; decide) (by rw [hc14]; decide) (by rw [hc14]; rfl) (by decide) ?_
    exact p1_case_14 C0 hL hL6 hcs3 hbx hbm hbh hh hK hO hX hM hS hl
  by_cases hc15 : (xs (nI 0).toNatClampNeg &&& (63 : Int32)) = (15 : Int32)
  · refine lv_tableIn (tgt := 817) hx hb dL_law_33 (by rw [hc15]; decide) (by rw [hc15]; decide) (by rw [hc15]; rfl) (by decide) ?_
    exact p1_case_15 C0 hL hL6 hcs3 hbx hbm hbh hh hK hO hX hM hS hl
  by_cases hc16 : (xs (nI 0).toNatClampNeg &&& (63 : Int32)) = (16 : Int32)
  · refine lv_tableIn (tgt := 860) hx hb dL_law_33 (by rw [hc16]; decide) (by rw [hc16]; decide) (by rw [hc16]; rfl) (by decide) ?_
    exact p1_case_16 C0 hL hL6 hcs3 hbx hbm hbh hh hK hO hX hM hS hl
  by_cases hc17 : (xs (nI 0).toNatClampNeg &&& (63 : Int32)) = (17 : Int32)
  · refine lv_tableIn (tgt := 919) hx hb dL_law_33 (by rw [hc17]; decide) (by rw [hc17]; decide) (by rw [hc17]; rfl) (by decide) ?_
    exact p1_case_17 C0 hL hL6 hcs3 hbx hbm hbh hh hK hO hX hM hS hl
  by_cases hc18 : (xs (nI 0).toNatClampNeg &&& (63 : Int32)) = (18 : Int32)
  · refine lv_tableIn (tgt := 952) hx hb dL_law_33 (by rw [hc18]; decide) (by rw [hc18]; decide) (by rw [hc18]; rfl) (by decide) ?_
    exact p1_case_18 C0 hL hL6 hcs3 hbx hbm hbh hh hK hO hX hM hS hl
  by_cases hc19 : (xs (nI 0).toNatClampNeg &&& (63 : Int32)) = (19 : Int32)
  · refine lv_tableIn (tgt := 976) hx hb dL_law_33 (by rw [hc19]; decide) (by rw [hc19]; decide) (by rw [hc19]; rfl) (by decide) ?_
    exact p1_case_19 C0 hL hL6 hcs3 hbx hbm hbh hh hK hO hX hM hS hl
  by_cases hc20 : (xs (nI 0).toNatClampNeg &&& (63 : Int32)) = (20 : Int32)
  · refine lv_tableIn (tgt := 1009) hx hb dL_law_33 (by rw [hc20]; decide) (by rw [hc20]; decide) (by rw [hc20]; rfl) (by decide) ?_
    exact p1_case_20 C0 hL hL6 hcs3 hbx hbm hbh hh hK hO hX hM hS hl
  by_cases hc21 : (xs (nI 0).toNatClampNeg &&& (63 : Int32)) = (21 : Int32)
  · refine lv_tableIn (tgt := 1078) hx hb dL_law_33 (by rw [hc21]; decide) (by rw [hc21]; decide) (by rw [hc21]; rfl) (by decide) ?_
    exact p1_case_21 C0 hL hL6 hcs3 hbx hbm hbh hh hK hO hX hM hS hl
  by_cases hc22 : (xs (nI 0).toNatClampNeg &&& (63 : Int32)) = (22 : Int32)
  · refine lv_tableIn (tgt := 1122) hx hb dL_law_33 (by rw [hc22]; decide) (by rw [hc22]; decide) (by rw [hc22]; rfl) (by decide) ?_
    exact p1_case_22 C0 hL hL6 hcs3 hbx hbm hbh hh hK hO hX hM hS hl
  by_cases hc23 : (xs (nI 0).toNatClampNeg &&& (63 : Int32)) = (23 : Int32)
  · refine lv_tableIn (tgt := 1175) hx hb dL_law_33 (by rw [hc23]; decide) (by rw [hc23]; decide) (by rw [hc23]; rfl) (by decide) ?_
    exact p1_case_23 C0 hL hL6 hcs3 hbx hbm hbh hh hK hO hX hM hS hl
  by_cases hc24 : (xs (nI 0).toNatClampNeg &&& (63 : Int32)) = (24 : Int32)
  · refine lv_tableIn (tgt := 1228) hx hb dL_law_33 (by rw [hc24]; decide) (by rw [hc24]; decide) (by rw [hc24]; rfl) (by decide) ?_
    exact p1_case_24 C0 hL hL6 hcs3 hbx hbm hbh hh hK hO hX hM hS hl
  by_cases hc25 : (xs (nI 0).toNatClampNeg &&& (63 : Int32)) = (25 : Int32)
  · refine lv_tableIn (tgt := 1297) hx hb dL_law_33 (by rw [hc25]; decide) (by rw [hc25]; decide) (by rw [hc25]; rfl) (by decide) ?_
    exact p1_case_25 C0 hL hL6 hcs3 hbx hbm hbh hh hK hO hX hM hS hl
  by_cases hc26 : (xs (nI 0).toNatClampNeg &&& (63 : Int32)) = (26 : Int32)
  · refine lv_tableIn (tgt := 1356) hx hb dL_law_33 (by rw [hc26]; decide) (by rw [hc26]; decide) (by rw [hc26]; rfl) (by decide) ?_
    exact p1_case_26 C0 hL hL6 hcs3 hbx hbm hbh hh hK hO hX hM hS hl
  by_cases hc27 : (xs (nI 0).toNatClampNeg &&& (63 : Int32)) = (27 : Int32)
  · refine lv_tableIn (tgt := 1425) hx hb dL_law_33 (by rw [hc27]; decide) (by rw [hc27]; decide) (by rw [hc27]; rfl) (by decide) ?_
    exact p1_case_27 C0 hL hL6 hcs3 hbx hbm hbh hh hK hO hX hM hS hl
  by_cases hc28 : (xs (nI 0).toNatClampNeg &&& (63 : Int32)) = (28 : Int32)
  · refine lv_tableIn (tgt := 1458) hx hb dL_law_33 (by rw [hc28]; decide) (by rw [hc28]; decide) (by rw [hc28]; rfl) (by decide) ?_
    exact p1_case_28 C0 hL hL6 hcs3 hbx hbm hbh hh hK hO hX hM hS hl
  by_cases hc29 : (xs (nI 0).toNatClampNeg &&& (63 : Int32)) = (29 : Int32)
  · refine lv_tableIn (tgt := 1527) hx hb dL_law_33 (by rw [hc29]; decide) (by rw [hc29]; decide) (by rw [hc29]; rfl) (by decide) ?_
    exact p1_case_29 C0 hL hL6 hcs3 hbx hbm hbh hh hK hO hX hM hS hl
  by_cases hc30 : (xs (nI 0).toNatClampNeg &&& (63 : Int32)) = (30 : Int32)
  · refine lv_tableIn (tgt := 1580) hx hb dL_law_33 (by rw [hc30]; decide) (by rw [hc30]; decide) (by rw [hc30]; rfl) (by decide) ?_
    exact p1_case_30 C0 hL hL6 hcs3 hbx hbm hbh hh hK hO hX hM hS hl
  by_cases hc31 : (xs (nI 0).toNatClampNeg &&& (63 : Int32)) = (31 : Int32)
  · refine lv_tableIn (tgt := 1603) hx hb dL_law_33 (by rw [hc31]; decide) (by rw [hc31]; decide) (by rw [hc31]; rfl) (by decide) ?_
    exact p1_case_31 C0 hL hL6 hcs3 hbx hbm hbh hh hK hO hX hM hS hl
  by_cases hc32 : (xs (nI 0).toNatClampNeg &&& (63 : Int32)) = (32 : Int32)
  · refine lv_tableIn (tgt := 1626) hx hb dL_law_33 (by rw [hc32]; decide) (by rw [hc32]; decide) (by rw [hc32]; rfl) (by decide) ?_
    exact p1_case_32 C0 hL hL6 hcs3 hbx hbm hbh hh hK hO hX hM hS hl
  exact absurd hin (by have h0 := zne hc0; have h1 := zne hc1; have h2 := zne hc2; have h3 := zne hc3; have h4 := zne hc4; have h5 := zne hc5; have h6 := zne hc6; have h7 := zne hc7; have h8 := zne hc8; have h9 := zne hc9; have h10 := zne hc10; have h11 := zne hc11; have h12 := zne hc12; have h13 := zne hc13; have h14 := zne hc14; have h15 := zne hc15; have h16 := zne hc16; have h17 := zne hc17; have h18 := zne hc18; have h19 := zne hc19; have h20 := zne hc20; have h21 := zne hc21; have h22 := zne hc22; have h23 := zne hc23; have h24 := zne hc24; have h25 := zne hc25; have h26 := zne hc26; have h27 := zne hc27; have h28 := zne hc28; have h29 := zne hc29; have h30 := zne hc30; have h31 := zne hc31; have h32 := zne hc32; simp at *; omega)
set_option maxRecDepth 40000 in
theorem fx_start {E : zE} {a : Nat} {H : Heap} (h : va_P E.1 zcl (zb_X10_init E a) H) : zFX E a H := h
set_option maxRecDepth 40000 in
theorem fm_start {E : zE} {a : Nat} {H : Heap} (h : va_P E.1 zcl (zb_X11_init E a) H) : zFM E a H := h
set_option maxRecDepth 40000 in
set_option maxHeartbeats 4000000 in
theorem whole_start {p : Program} {e : Env} {s : State} {m : MethodId} {below : List Frame} {meth : Method} {c : Code} (l : Launch) {b L : Nat} {xs : Nat → Int32} (hL : L ≤ 6) (C0 : lw_At p s m meth c b L xs) : W p l e room_1 s m #[Value.ref b] below meth c s.heap [] 0 0 (lw_Z below #[Value.ref b] s) (entryFrame m ([Value.ref b] : List Value).toArray 4) := by
  obtain ⟨hx, hb, hr, hml, hown, hts, hX0, hbl, hlocks, hgv⟩ := id C0
  have zc : zC p s m #[Value.ref b] meth c cL_law 4 RL ret := ⟨hx, hb, hml, hown, fun w hw => hts w (zb_in hw), hr, hlocks⟩
  have hbA : ¬ (fun q : Nat => s.heap.size ≤ q) b := Nat.not_le.mpr hbl
  obtain ⟨E, hK, hO⟩ := zK_start C0
  have hS : va_S (fun q : Nat => s.heap.size ≤ q) s.heap s.heap [] := va_S.rf
  have hl := lv_entry ([.ref b]) (n := 4) (Nat.le_of_ble_eq_true rfl)
  rw [lg_entry_eq]
  generalize (lg_sl ([.ref b]) ++ List.replicate (4 - (lg_sl ([.ref b])).length) Slot.unset).toArray = ls at hl ⊢
  have hl : lv_has ls 4 [(0, .ref b)] := hl
  obtain ⟨a, ha⟩ : ∃ a, a = s.heap.size := ⟨_, rfl⟩
  refine zNew (ws := []) (C := RX10) (T := TX10) (N := 7) (ci := 10) zc hK (fun k q h => by simp at h) hS ha.symm uw10 tyX10 tyX10_ok kclL_7 kins_10 kinit_10 rfl [.null, .null, .null, .null, .null, .null, .null] (fun j hj => match j, hj with | 0, _ => rfl | 1, _ => rfl | 2, _ => rfl | 3, _ => rfl | 4, _ => rfl | 5, _ => rfl | 6, _ => rfl | j + 7, hj => absurd hj (by omega)) (Nat.le_of_ble_eq_true rfl) (Nat.le_of_ble_eq_true rfl) dL_law_0 (fun H1 hN o1 hz1 hS => ?_)
  have g0 : va_P E.1 zcl [(a, .inr (10, [.null, .null, .null, .null, .null, .null, .null]))] H1 := hN
  refine W.cs (cells' := 1) (slots' := 7) rfl rfl ?_
  refine lv_dup hx hb dL_law_3 rfl ?_
  refine zIc zc ky_X10_init kz_X10_init rfl kmL_9 (ci_X10_init l) (zIpre hK hO g0 hz1) hS (fun q (hq : a ≤ q) => Nat.le_trans (Nat.le_of_eq ha.symm) hq) hl.1 (Nat.le_of_ble_eq_true rfl) ⟨rfl, rfl⟩ ⟨Nat.le_of_ble_eq_true rfl, Nat.le_of_ble_eq_true rfl⟩ ⟨Nat.le_of_ble_eq_true rfl, Nat.le_of_ble_eq_true rfl⟩ dL_law_4 (fun _ H2 locs _ hJ hk hS => ?_)
  have gX := hJ.1
  have hz2 : H2.size = a + 93 := hJ.2
  refine W.cs (cells' := 93) (slots' := 2695) rfl rfl ?_
  refine lv_astore_n (lv' := [(1, .ref a), (0, .ref b)]) hx hb dL_law_7 rfl hl (by decide) rfl (fun ls hl => ?_)
  refine zNew (ws := []) (C := RX11) (T := TX11) (N := 52) (ci := 11) zc hK (fun k q h => by simp at h) hS hz2 uw11 tyX11 tyX11_ok kclL_10 kins_11 kinit_11 rfl [.int 0, .null, .null, .null, .null, .null, .null, .null, .null, .null, .int 0, .int 0, .int 0, .int 0, .int 0, .long 0, .int 0, .int 0, .int 0, .null, .null, .int 0, .int 0, .int 0, .int 0, .int 0, .int 0, .int 0, .null, .null, .null, .null, .null, .int 0, .int 0, .int 0, .null, .null, .null, .null, .null, .null, .null, .int 0, .null, .int 0, .int 0, .null, .null, .int 0, .null, .null] (fun j hj => match j, hj with | 0, _ => rfl | 1, _ => rfl | 2, _ => rfl | 3, _ => rfl | 4, _ => rfl | 5, _ => rfl | 6, _ => rfl | 7, _ => rfl | 8, _ => rfl | 9, _ => rfl | 10, _ => rfl | 11, _ => rfl | 12, _ => rfl | 13, _ => rfl | 14, _ => rfl | 15, _ => rfl | 16, _ => rfl | 17, _ => rfl | 18, _ => rfl | 19, _ => rfl | 20, _ => rfl | 21, _ => rfl | 22, _ => rfl | 23, _ => rfl | 24, _ => rfl | 25, _ => rfl | 26, _ => rfl | 27, _ => rfl | 28, _ => rfl | 29, _ => rfl | 30, _ => rfl | 31, _ => rfl | 32, _ => rfl | 33, _ => rfl | 34, _ => rfl | 35, _ => rfl | 36, _ => rfl | 37, _ => rfl | 38, _ => rfl | 39, _ => rfl | 40, _ => rfl | 41, _ => rfl | 42, _ => rfl | 43, _ => rfl | 44, _ => rfl | 45, _ => rfl | 46, _ => rfl | 47, _ => rfl | 48, _ => rfl | 49, _ => rfl | 50, _ => rfl | 51, _ => rfl | j + 52, hj => absurd hj (by omega)) (Nat.le_of_ble_eq_true rfl) (Nat.le_of_ble_eq_true rfl) dL_law_8 (fun H3 hN o1 hz3 hS => ?_)
  have gX := zkp gX zrg_X10_init (fun q h1 _ h3 => o1 q h3)
  have g0 : va_P E.1 zcl [(a + 93, .inr (11, [.int 0, .null, .null, .null, .null, .null, .null, .null, .null, .null, .int 0, .int 0, .int 0, .int 0, .int 0, .long 0, .int 0, .int 0, .int 0, .null, .null, .int 0, .int 0, .int 0, .int 0, .int 0, .int 0, .int 0, .null, .null, .null, .null, .null, .int 0, .int 0, .int 0, .null, .null, .null, .null, .null, .null, .null, .int 0, .null, .int 0, .int 0, .null, .null, .int 0, .null, .null]))] H3 := hN
  refine W.cs (cells' := 94) (slots' := 2747) rfl rfl ?_
  refine lv_dup hx hb dL_law_11 rfl ?_
  refine zIc zc ky_X11_init kz_X11_init rfl kmL_12 (ci_X11_init l) (zIpre hK hO g0 hz3) hS (fun q (hq : a + 93 ≤ q) => Nat.le_trans (Nat.le_of_eq ha.symm) (Nat.le_trans (Nat.le_add_right _ _) hq)) hl.1 (Nat.le_of_ble_eq_true rfl) ⟨rfl, rfl⟩ ⟨Nat.le_of_ble_eq_true rfl, Nat.le_of_ble_eq_true rfl⟩ ⟨Nat.le_of_ble_eq_true rfl, Nat.le_of_ble_eq_true rfl⟩ dL_law_12 (fun _ H4 locs _ hJ hk hS => ?_)
  have gX := zkp gX zrg_X10_init (fun q h1 _ h3 => hk q h1 (fun (hq : a + 93 ≤ q) => absurd h3 (Nat.not_lt.mpr hq)))
  have gM := hJ.1
  have hz4 : H4.size = a + 93 + 29 := hJ.2
  refine W.cs (cells' := 122) (slots' := 16331) rfl rfl ?_
  refine lv_astore_n (lv' := [(2, .ref (a + 93)), (1, .ref a), (0, .ref b)]) hx hb dL_law_15 rfl hl (by decide) rfl (fun ls hl => ?_)
  refine lv_iconst (v := (0 : Int32)) hx hb dL_law_16 (by decide) ?_
  refine lv_istore_n (lv' := [(3, .int 0), (2, .ref (a + 93)), (1, .ref a), (0, .ref b)]) hx hb dL_law_17 rfl hl (by decide) rfl (fun ls hl => ?_)
  exact p1_head C0 hL ⟨Nat.le_of_ble_eq_true rfl, Nat.le_of_ble_eq_true rfl⟩ (Nat.le_of_eq ha.symm) (Nat.le_refl _) (Nat.le_refl _) hz4 hK hO (fx_start gX) (fm_start gM) hS (lv_sub hl [3, 2, 1, 0] rfl)

set_option maxHeartbeats 4000000 in
theorem lw_walk (l : Launch) (b : Addr) (xs : List Int32) : MetFree l x (headSpec (Jvm.Cond.code x code maxLocals ret :: tables_1) room_1) (lw_P b xs) (fun _ _ _ _ _ => True) lw_Q := by
  refine MetFree.of_bodyS (code := code) (maxLocals := maxLocals) (ret := ret) (by decide) ?_ ?_
  · intro args s m h hn
    obtain ⟨meth, c, h1, h2, h3, h4, h5, h6, -, -⟩ := Cond.code_spec hn (atoms_spec (ws := Jvm.Cond.code x code maxLocals ret :: tables_1) h _ List.mem_cons_self)
    exact ⟨meth, c, h1, h2, h3, h4, h5, h6⟩
  · intro p e s m args below meth c s₁ B hml0 hP _
    obtain ⟨rfl, hx, hbd, hgv⟩ := hP
    obtain ⟨scr, harrAt, hlist, hof, hsmall⟩ := hx
    obtain ⟨hcb, hkn, -, -⟩ := State.arrayAt?_spec harrAt
    have hown : s.vm.findClass R_law = some m.cls := findClass_of_methodNamed B.named
    have hts0 : ∀ c ∈ (Jvm.Cond.code x code maxLocals ret :: tables_1), c.before #[Value.ref b] s = true := atoms_spec (ws := Jvm.Cond.code x code maxLocals ret :: tables_1) B.pre
    have hts : ∀ w ∈ lw_tbl, w.before #[Value.ref b] s = true := k2_hts_sels lw_privs (fun w hw => hts0 w (List.mem_cons_of_mem _ hw)) lw_privs_ok
    have hml : c.maxLocals = 4 := B.maxLocals_eq (hts0 _ List.mem_cons_self)
    have X₀ : Stand p l e room_1 s m #[Value.ref b] below meth c s₁ [] 0 0 := Stand.of_body B
    have hh0 : s₁.heap = s.heap := by rw [B.state]; rfl
    have hsz : scr.slots.size = xs.length := by rw [← Array.length_toList, hlist, List.length_map]
    have hval : ∀ j : Nat, j < xs.length → scr.slots[j]? = some (.int (xs.getD j 0)) := fun j hj => by
      rw [← Array.getElem?_toList, hlist]
      simp [hj]
    have hbl : b < s.heap.size := (Array.getElem?_eq_some_iff.mp hcb).1
    have hX : va_X b xs.length (fun j => xs.getD j 0) s s.heap := ⟨scr, hcb, hof, hkn, hsz, hval⟩
    have K : W p l e room_1 s m #[Value.ref b] below meth c s₁.heap [] 0 0 (lw_Z below #[Value.ref b] s) (entryFrame m ([Value.ref b] : List Value).toArray 4) := by
      rw [hh0]
      exact whole_start l hbd ⟨B.exec, B.bytes, B.returns, hml, hown, hts, hX, hbl, B.notSynchronized, hgv⟩
    obtain ⟨t, a1, o, b1, b2, b3⟩ := K s₁ rfl X₀
    exact ⟨t, o, a1, b1, b2, b3⟩
theorem lw_pre_spec {args : Array Value} {s : State} (h : (Jvm.Cond.and given_1 narrow_1).before args s = true) (hr : rest_1_c.before args s = true) : ∃ (b : Addr) (xs : List Int32), lw_P b xs args s := by
  have hs := flat_of_before _ h
  have hq := flat_of_before _ hr
  have hc : (Cond.count 1).before args s = true := hs _ (by decide +kernel)
  have harr : (Cond.arrayOf (.arg 0) .int).before args s = true := hs _ (by decide +kernel)
  have hle : (Cond.le (.length (.arg 0)) (.int 6)).before args s = true := hs _ (by decide +kernel)
  have hlen : (Cond.isInt (.length (.arg 0))).before args s = true := hq _ (by decide +kernel)
  have hall : (Cond.all (.arg 0) (.isInt (.elem (.arg 0) (.index 0)))).before args s = true := hq _ (by decide +kernel)
  obtain ⟨b, xs, hb, hx⟩ := State.ints_of_pre rfl harr hlen hall
  have hsm : xs.length < 2 ^ 31 := hx.choose_spec.2.2.2
  have hev : (Term.length (.arg 0)).eval args s none [] s = some (.int xs.length.toInt32) := hx.length_eval hb
  have hv := Cond.le_ints hev (show (Term.int 6).eval args s none [] s = some (.int 6) from rfl)
  have hd : xs.length.toInt32 ≤ 6 := by
    simpa [Cond.before, Cond.holds, hv] using hle
  have hN : xs.length ≤ 6 := (Int32.ofNat_le_ofNat hsm (by decide)).mp (show Int32.ofNat xs.length ≤ Int32.ofNat 6 from hd)
  exact ⟨b, xs, Cond.one_arg hc (show args[0]? = some (.ref b) from hb), hx, hN, h⟩
theorem lw_comes (l : Launch) : Comes l x (Jvm.Cond.code x code maxLocals ret :: tables_1) room_1 (fun tb e args s => Calls_1 tb e args s ∧ rest_1 tb e args s ∧ Pre_1 tb e args s)
    (fun _ _ args s o t => lw_Q args s o t) := by
  intro p e ha hc hk s m args below hf hfit hheap happ hpre
  obtain ⟨b, xs, hP⟩ := lw_pre_spec hpre.2.2 hpre.2.1
  obtain ⟨k, o, h1, h2, h3, hQ⟩ := lw_walk l b xs p e ha hc hk s m args below hf ((Spec.applies_iff_loose hf).mp happ).1 hP trivial
  exact ⟨k, o, h1, h2, h3, hQ⟩
theorem lw_frame {s t : State} {o : Outcome} {args : Array Value} (h : Framed s o t [] 600000 7302250) :
    Framed s o t (fieldLocs frame_1_writes args s ++ arrayLocs frame_1_arrays args s ++ staticLocs frame_1_statics s) 600000 7302250 := h
theorem lw_limb (L : Cond) (hL : ∀ (args : Array Value) (s t : State), L.after args s (.returned (some (.int 1))) t = true) :
    ArmFor flags0 classFile x code maxLocals ret World_1 tables_1 room_1 Calls_1 rest_1 Pre_1
      (fun tb e a s o t => postC L tb e a s o t ∧ Framed s o t (fieldLocs frame_1_writes a s ++ arrayLocs frame_1_arrays a s ++ staticLocs frame_1_statics s) 600000 7302250) := by
  intro l _ _ _ p e ha hc hk s m args below hf hfit hheap happ hpre
  obtain ⟨k, o, h1, h2, h3, rfl, hF⟩ := lw_comes l p e ha hc hk s m args below hf hfit hheap happ hpre
  exact ⟨k, _, h1, h2, h3, hL args s _, lw_frame hF⟩
theorem i_vc : Claimed_1_1 ∧ Claimed_1_2 := ⟨lw_limb limb_1_1 (fun args s t => by simp [limb_1_1, Cond.after, Cond.holds, Cond.value]), lw_limb limb_1_2 (fun args s t => Cond.after_iff.mpr (by
  first | (rw [show limb_1_2 = Cond.eq .result (.int 1) from rfl, Cond.eq_ints (x := 1) (y := 1) rfl rfl]; simp; done) | (simp [limb_1_2, Cond.value, Term.eval]; done)))⟩

