theorem uw0 : ∀ w ∈ u_ws RX0 TX0 4, w ∈ zb := by
  have h : (u_ws RX0 TX0 4).all (fun w => decide (w ∈ lw_tbl) && goodWord w) = true := by decide +kernel
  intro w hw
  have h1 := List.all_eq_true.mp h w hw
  simp only [Bool.and_eq_true, decide_eq_true_eq] at h1
  exact List.mem_filter.mpr ⟨h1.1, h1.2⟩

theorem uw1 : ∀ w ∈ u_ws RX1 TX1 4, w ∈ zb := by
  have h : (u_ws RX1 TX1 4).all (fun w => decide (w ∈ lw_tbl) && goodWord w) = true := by decide +kernel
  intro w hw
  have h1 := List.all_eq_true.mp h w hw
  simp only [Bool.and_eq_true, decide_eq_true_eq] at h1
  exact List.mem_filter.mpr ⟨h1.1, h1.2⟩

theorem uw2 : ∀ w ∈ u_ws RX2 TX2 15, w ∈ zb := by
  have h : (u_ws RX2 TX2 15).all (fun w => decide (w ∈ lw_tbl) && goodWord w) = true := by decide +kernel
  intro w hw
  have h1 := List.all_eq_true.mp h w hw
  simp only [Bool.and_eq_true, decide_eq_true_eq] at h1
  exact List.mem_filter.mpr ⟨h1.1, h1.2⟩

theorem uw3 : ∀ w ∈ u_ws RX3 TX3 10, w ∈ zb := by
  have h : (u_ws RX3 TX3 10).all (fun w => decide (w ∈ lw_tbl) && goodWord w) = true := by decide +kernel
  intro w hw
  have h1 := List.all_eq_true.mp h w hw
  simp only [Bool.and_eq_true, decide_eq_true_eq] at h1
  exact List.mem_filter.mpr ⟨h1.1, h1.2⟩

theorem uw4 : ∀ w ∈ u_ws RX4 TX4 15, w ∈ zb := by
  have h : (u_ws RX4 TX4 15).all (fun w => decide (w ∈ lw_tbl) && goodWord w) = true := by decide +kernel
  intro w hw
  have h1 := List.all_eq_true.mp h w hw
  simp only [Bool.and_eq_true, decide_eq_true_eq] at h1
  exact List.mem_filter.mpr ⟨h1.1, h1.2⟩

theorem uw5 : ∀ w ∈ u_ws RX5 TX5 3, w ∈ zb := by
  have h : (u_ws RX5 TX5 3).all (fun w => decide (w ∈ lw_tbl) && goodWord w) = true := by decide +kernel
  intro w hw
  have h1 := List.all_eq_true.mp h w hw
  simp only [Bool.and_eq_true, decide_eq_true_eq] at h1
  exact List.mem_filter.mpr ⟨h1.1, h1.2⟩

theorem uw6 : ∀ w ∈ u_ws RX6 TX6 4, w ∈ zb := by
  have h : (u_ws RX6 TX6 4).all (fun w => decide (w ∈ lw_tbl) && goodWord w) = true := by decide +kernel
  intro w hw
  have h1 := List.all_eq_true.mp h w hw
  simp only [Bool.and_eq_true, decide_eq_true_eq] at h1
  exact List.mem_filter.mpr ⟨h1.1, h1.2⟩

theorem uw7 : ∀ w ∈ u_ws RX7 TX7 8, w ∈ zb := by
  have h : (u_ws RX7 TX7 8).all (fun w => decide (w ∈ lw_tbl) && goodWord w) = true := by decide +kernel
  intro w hw
  have h1 := List.all_eq_true.mp h w hw
  simp only [Bool.and_eq_true, decide_eq_true_eq] at h1
  exact List.mem_filter.mpr ⟨h1.1, h1.2⟩

theorem uw8 : ∀ w ∈ u_ws RX8 TX8 2, w ∈ zb := by
  have h : (u_ws RX8 TX8 2).all (fun w => decide (w ∈ lw_tbl) && goodWord w) = true := by decide +kernel
  intro w hw
  have h1 := List.all_eq_true.mp h w hw
  simp only [Bool.and_eq_true, decide_eq_true_eq] at h1
  exact List.mem_filter.mpr ⟨h1.1, h1.2⟩

theorem uw9 : ∀ w ∈ u_ws RX9 TX9 9, w ∈ zb := by
  have h : (u_ws RX9 TX9 9).all (fun w => decide (w ∈ lw_tbl) && goodWord w) = true := by decide +kernel
  intro w hw
  have h1 := List.all_eq_true.mp h w hw
  simp only [Bool.and_eq_true, decide_eq_true_eq] at h1
  exact List.mem_filter.mpr ⟨h1.1, h1.2⟩

theorem uw10 : ∀ w ∈ u_ws RX10 TX10 7, w ∈ zb := by
  have h : (u_ws RX10 TX10 7).all (fun w => decide (w ∈ lw_tbl) && goodWord w) = true := by decide +kernel
  intro w hw
  have h1 := List.all_eq_true.mp h w hw
  simp only [Bool.and_eq_true, decide_eq_true_eq] at h1
  exact List.mem_filter.mpr ⟨h1.1, h1.2⟩

theorem uw11 : ∀ w ∈ u_ws RX11 TX11 52, w ∈ zb := by
  have h : (u_ws RX11 TX11 52).all (fun w => decide (w ∈ lw_tbl) && goodWord w) = true := by decide +kernel
  intro w hw
  have h1 := List.all_eq_true.mp h w hw
  simp only [Bool.and_eq_true, decide_eq_true_eq] at h1
  exact List.mem_filter.mpr ⟨h1.1, h1.2⟩
theorem km_11_113 : Cond.methodLink RX11 113 yX11_four ∈ zb := zb_at 1497 (by decide +kernel) (by decide +kernel)
theorem kcode_X11_four : Cond.code yX11_four cX11_four 3 none ∈ zb := zb_at 1500 (by decide +kernel) (by decide +kernel)
theorem kinit_11 : Cond.initialized RX11 ∈ zb := zb_at 157 (by decide +kernel) (by decide +kernel)
theorem ky_X11_four : zY RX11 yX11_four (Cond.code yX11_four cX11_four 3 none) 1 := ⟨rfl, kinit_11, kcode_X11_four, by decide +kernel⟩
theorem kin_X11_four : Cond.instanceMethod yX11_four ∈ zb := zb_at 1499 (by decide +kernel) (by decide +kernel)
theorem kse_X11_four : Cond.selects RX11 yX11_four yX11_four ∈ zb := zb_at 55 (by decide +kernel) (by decide +kernel)
theorem kz_X11_four : Cond.instanceMethod yX11_four ∈ zb ∧ Cond.selects RX11 yX11_four yX11_four ∈ zb := ⟨kin_X11_four, kse_X11_four⟩
theorem km_11_109 : Cond.methodLink RX11 109 yX11_in ∈ zb := zb_at 1505 (by decide +kernel) (by decide +kernel)
theorem kcode_X11_in : Cond.code yX11_in cX11_in 3 (some .boolean) ∈ zb := zb_at 1507 (by decide +kernel) (by decide +kernel)
theorem ky_X11_in : zY RX11 yX11_in (Cond.code yX11_in cX11_in 3 (some .boolean)) 3 := ⟨rfl, kinit_11, kcode_X11_in, by decide +kernel⟩
theorem kst_X11_in : Cond.static yX11_in ∈ zb := zb_at 1506 (by decide +kernel) (by decide +kernel)
theorem kz_X11_in : Cond.static yX11_in ∈ zb := kst_X11_in
theorem km_11_123 : Cond.methodLink RX11 123 yX11_see ∈ zb := zb_at 1524 (by decide +kernel) (by decide +kernel)
theorem kcode_X11_see : Cond.code yX11_see cX11_see 1 (some .int) ∈ zb := zb_at 1527 (by decide +kernel) (by decide +kernel)
theorem ky_X11_see : zY RX11 yX11_see (Cond.code yX11_see cX11_see 1 (some .int)) 0 := ⟨rfl, kinit_11, kcode_X11_see, by decide +kernel⟩
theorem kin_X11_see : Cond.instanceMethod yX11_see ∈ zb := zb_at 1526 (by decide +kernel) (by decide +kernel)
theorem kse_X11_see : Cond.selects RX11 yX11_see yX11_see ∈ zb := zb_at 59 (by decide +kernel) (by decide +kernel)
theorem kz_X11_see : Cond.instanceMethod yX11_see ∈ zb ∧ Cond.selects RX11 yX11_see yX11_see ∈ zb := ⟨kin_X11_see, kse_X11_see⟩
theorem km_11_161 : Cond.methodLink RX11 161 yX11_token ∈ zb := zb_at 1520 (by decide +kernel) (by decide +kernel)
theorem kcode_X11_token : Cond.code yX11_token cX11_token 3 none ∈ zb := zb_at 1523 (by decide +kernel) (by decide +kernel)
theorem ky_X11_token : zY RX11 yX11_token (Cond.code yX11_token cX11_token 3 none) 0 := ⟨rfl, kinit_11, kcode_X11_token, by decide +kernel⟩
theorem kin_X11_token : Cond.instanceMethod yX11_token ∈ zb := zb_at 1522 (by decide +kernel) (by decide +kernel)
theorem kse_X11_token : Cond.selects RX11 yX11_token yX11_token ∈ zb := zb_at 58 (by decide +kernel) (by decide +kernel)
theorem kz_X11_token : Cond.instanceMethod yX11_token ∈ zb ∧ Cond.selects RX11 yX11_token yX11_token ∈ zb := ⟨kin_X11_token, kse_X11_token⟩
theorem km_11_284 : Cond.methodLink RX11 284 yX11_lines ∈ zb := zb_at 1528 (by decide +kernel) (by decide +kernel)
theorem kcode_X11_lines : Cond.code yX11_lines cX11_lines 4 (some .boolean) ∈ zb := zb_at 1531 (by decide +kernel) (by decide +kernel)
theorem ky_X11_lines : zY RX11 yX11_lines (Cond.code yX11_lines cX11_lines 4 (some .boolean)) 1 := ⟨rfl, kinit_11, kcode_X11_lines, by decide +kernel⟩
theorem kin_X11_lines : Cond.instanceMethod yX11_lines ∈ zb := zb_at 1530 (by decide +kernel) (by decide +kernel)
theorem kse_X11_lines : Cond.selects RX11 yX11_lines yX11_lines ∈ zb := zb_at 60 (by decide +kernel) (by decide +kernel)
theorem kz_X11_lines : Cond.instanceMethod yX11_lines ∈ zb ∧ Cond.selects RX11 yX11_lines yX11_lines ∈ zb := ⟨kin_X11_lines, kse_X11_lines⟩
theorem km_11_287 : Cond.methodLink RX11 287 yX11_store ∈ zb := zb_at 1650 (by decide +kernel) (by decide +kernel)
theorem kcode_X11_store : Cond.code yX11_store cX11_store 5 none ∈ zb := zb_at 1653 (by decide +kernel) (by decide +kernel)
theorem ky_X11_store : zY RX11 yX11_store (Cond.code yX11_store cX11_store 5 none) 3 := ⟨rfl, kinit_11, kcode_X11_store, by decide +kernel⟩
theorem kin_X11_store : Cond.instanceMethod yX11_store ∈ zb := zb_at 1652 (by decide +kernel) (by decide +kernel)
theorem kse_X11_store : Cond.selects RX11 yX11_store yX11_store ∈ zb := zb_at 84 (by decide +kernel) (by decide +kernel)
theorem kz_X11_store : Cond.instanceMethod yX11_store ∈ zb ∧ Cond.selects RX11 yX11_store yX11_store ∈ zb := ⟨kin_X11_store, kse_X11_store⟩
theorem km_11_291 : Cond.methodLink RX11 291 yX11_is ∈ zb := zb_at 1512 (by decide +kernel) (by decide +kernel)
theorem kcode_X11_is : Cond.code yX11_is cX11_is 3 (some .boolean) ∈ zb := zb_at 1515 (by decide +kernel) (by decide +kernel)
theorem ky_X11_is : zY RX11 yX11_is (Cond.code yX11_is cX11_is 3 (some .boolean)) 2 := ⟨rfl, kinit_11, kcode_X11_is, by decide +kernel⟩
theorem kin_X11_is : Cond.instanceMethod yX11_is ∈ zb := zb_at 1514 (by decide +kernel) (by decide +kernel)
theorem kse_X11_is : Cond.selects RX11 yX11_is yX11_is ∈ zb := zb_at 56 (by decide +kernel) (by decide +kernel)
theorem kz_X11_is : Cond.instanceMethod yX11_is ∈ zb ∧ Cond.selects RX11 yX11_is yX11_is ∈ zb := ⟨kin_X11_is, kse_X11_is⟩
theorem km_11_294 : Cond.methodLink RX11 294 yX11_readText ∈ zb := zb_at 1516 (by decide +kernel) (by decide +kernel)
theorem kcode_X11_readText : Cond.code yX11_readText cX11_readText 3 (some .boolean) ∈ zb := zb_at 1519 (by decide +kernel) (by decide +kernel)
theorem ky_X11_readText : zY RX11 yX11_readText (Cond.code yX11_readText cX11_readText 3 (some .boolean)) 1 := ⟨rfl, kinit_11, kcode_X11_readText, by decide +kernel⟩
theorem kin_X11_readText : Cond.instanceMethod yX11_readText ∈ zb := zb_at 1518 (by decide +kernel) (by decide +kernel)
theorem kse_X11_readText : Cond.selects RX11 yX11_readText yX11_readText ∈ zb := zb_at 57 (by decide +kernel) (by decide +kernel)
theorem kz_X11_readText : Cond.instanceMethod yX11_readText ∈ zb ∧ Cond.selects RX11 yX11_readText yX11_readText ∈ zb := ⟨kin_X11_readText, kse_X11_readText⟩
theorem km_11_297 : Cond.methodLink RX11 297 yX11_storeAll ∈ zb := zb_at 1646 (by decide +kernel) (by decide +kernel)
theorem kcode_X11_storeAll : Cond.code yX11_storeAll cX11_storeAll 3 none ∈ zb := zb_at 1649 (by decide +kernel) (by decide +kernel)
theorem ky_X11_storeAll : zY RX11 yX11_storeAll (Cond.code yX11_storeAll cX11_storeAll 3 none) 2 := ⟨rfl, kinit_11, kcode_X11_storeAll, by decide +kernel⟩
theorem kin_X11_storeAll : Cond.instanceMethod yX11_storeAll ∈ zb := zb_at 1648 (by decide +kernel) (by decide +kernel)
theorem kse_X11_storeAll : Cond.selects RX11 yX11_storeAll yX11_storeAll ∈ zb := zb_at 83 (by decide +kernel) (by decide +kernel)
theorem kz_X11_storeAll : Cond.instanceMethod yX11_storeAll ∈ zb ∧ Cond.selects RX11 yX11_storeAll yX11_storeAll ∈ zb := ⟨kin_X11_storeAll, kse_X11_storeAll⟩
theorem km_11_313 : Cond.methodLink RX11 313 yX11_hand ∈ zb := zb_at 1662 (by decide +kernel) (by decide +kernel)
theorem kcode_X11_hand : Cond.code yX11_hand cX11_hand 2 (some .boolean) ∈ zb := zb_at 1665 (by decide +kernel) (by decide +kernel)
theorem ky_X11_hand : zY RX11 yX11_hand (Cond.code yX11_hand cX11_hand 2 (some .boolean)) 1 := ⟨rfl, kinit_11, kcode_X11_hand, by decide +kernel⟩
theorem kin_X11_hand : Cond.instanceMethod yX11_hand ∈ zb := zb_at 1664 (by decide +kernel) (by decide +kernel)
theorem kse_X11_hand : Cond.selects RX11 yX11_hand yX11_hand ∈ zb := zb_at 85 (by decide +kernel) (by decide +kernel)
theorem kz_X11_hand : Cond.instanceMethod yX11_hand ∈ zb ∧ Cond.selects RX11 yX11_hand yX11_hand ∈ zb := ⟨kin_X11_hand, kse_X11_hand⟩
theorem km_11_331 : Cond.methodLink RX11 331 yX11_hasEvening ∈ zb := zb_at 1694 (by decide +kernel) (by decide +kernel)
theorem kcode_X11_hasEvening : Cond.code yX11_hasEvening cX11_hasEvening 2 (some .boolean) ∈ zb := zb_at 1697 (by decide +kernel) (by decide +kernel)
theorem ky_X11_hasEvening : zY RX11 yX11_hasEvening (Cond.code yX11_hasEvening cX11_hasEvening 2 (some .boolean)) 1 := ⟨rfl, kinit_11, kcode_X11_hasEvening, by decide +kernel⟩
theorem kin_X11_hasEvening : Cond.instanceMethod yX11_hasEvening ∈ zb := zb_at 1696 (by decide +kernel) (by decide +kernel)
theorem kse_X11_hasEvening : Cond.selects RX11 yX11_hasEvening yX11_hasEvening ∈ zb := zb_at 91 (by decide +kernel) (by decide +kernel)
theorem kz_X11_hasEvening : Cond.instanceMethod yX11_hasEvening ∈ zb ∧ Cond.selects RX11 yX11_hasEvening yX11_hasEvening ∈ zb := ⟨kin_X11_hasEvening, kse_X11_hasEvening⟩
theorem km_11_383 : Cond.methodLink RX11 383 yX11_layAll ∈ zb := zb_at 1710 (by decide +kernel) (by decide +kernel)
theorem kcode_X11_layAll : Cond.code yX11_layAll cX11_layAll 3 (some .boolean) ∈ zb := zb_at 1713 (by decide +kernel) (by decide +kernel)
theorem ky_X11_layAll : zY RX11 yX11_layAll (Cond.code yX11_layAll cX11_layAll 3 (some .boolean)) 2 := ⟨rfl, kinit_11, kcode_X11_layAll, by decide +kernel⟩
theorem kin_X11_layAll : Cond.instanceMethod yX11_layAll ∈ zb := zb_at 1712 (by decide +kernel) (by decide +kernel)
theorem kse_X11_layAll : Cond.selects RX11 yX11_layAll yX11_layAll ∈ zb := zb_at 94 (by decide +kernel) (by decide +kernel)
theorem kz_X11_layAll : Cond.instanceMethod yX11_layAll ∈ zb ∧ Cond.selects RX11 yX11_layAll yX11_layAll ∈ zb := ⟨kin_X11_layAll, kse_X11_layAll⟩
theorem kc_11_410 : Cond.constant RX11 410 (1000000 : Int32) ∈ zb := zb_at 1805 (by decide +kernel) (by decide +kernel)
theorem km_11_460 : Cond.methodLink RX11 460 yX11_hasSight ∈ zb := zb_at 1884 (by decide +kernel) (by decide +kernel)
theorem kcode_X11_hasSight : Cond.code yX11_hasSight cX11_hasSight 2 (some .boolean) ∈ zb := zb_at 1887 (by decide +kernel) (by decide +kernel)
theorem ky_X11_hasSight : zY RX11 yX11_hasSight (Cond.code yX11_hasSight cX11_hasSight 2 (some .boolean)) 1 := ⟨rfl, kinit_11, kcode_X11_hasSight, by decide +kernel⟩
theorem kin_X11_hasSight : Cond.instanceMethod yX11_hasSight ∈ zb := zb_at 1886 (by decide +kernel) (by decide +kernel)
theorem kse_X11_hasSight : Cond.selects RX11 yX11_hasSight yX11_hasSight ∈ zb := zb_at 126 (by decide +kernel) (by decide +kernel)
theorem kz_X11_hasSight : Cond.instanceMethod yX11_hasSight ∈ zb ∧ Cond.selects RX11 yX11_hasSight yX11_hasSight ∈ zb := ⟨kin_X11_hasSight, kse_X11_hasSight⟩
theorem km_11_491 : Cond.methodLink RX11 491 yX11_hasChoir ∈ zb := zb_at 1912 (by decide +kernel) (by decide +kernel)
theorem kcode_X11_hasChoir : Cond.code yX11_hasChoir cX11_hasChoir 2 (some .boolean) ∈ zb := zb_at 1915 (by decide +kernel) (by decide +kernel)
theorem ky_X11_hasChoir : zY RX11 yX11_hasChoir (Cond.code yX11_hasChoir cX11_hasChoir 2 (some .boolean)) 1 := ⟨rfl, kinit_11, kcode_X11_hasChoir, by decide +kernel⟩
theorem kin_X11_hasChoir : Cond.instanceMethod yX11_hasChoir ∈ zb := zb_at 1914 (by decide +kernel) (by decide +kernel)
theorem kse_X11_hasChoir : Cond.selects RX11 yX11_hasChoir yX11_hasChoir ∈ zb := zb_at 131 (by decide +kernel) (by decide +kernel)
theorem kz_X11_hasChoir : Cond.instanceMethod yX11_hasChoir ∈ zb ∧ Cond.selects RX11 yX11_hasChoir yX11_hasChoir ∈ zb := ⟨kin_X11_hasChoir, kse_X11_hasChoir⟩
theorem kc_11_503 : Cond.constantLong RX11 503 (-1 : Int64) ∈ zb := zb_at 1944 (by decide +kernel) (by decide +kernel)
theorem km_11_505 : Cond.methodLink RX11 505 yX11_won ∈ zb := zb_at 1961 (by decide +kernel) (by decide +kernel)
theorem kcode_X11_won : Cond.code yX11_won cX11_won 3 (some .boolean) ∈ zb := zb_at 1964 (by decide +kernel) (by decide +kernel)
theorem ky_X11_won : zY RX11 yX11_won (Cond.code yX11_won cX11_won 3 (some .boolean)) 2 := ⟨rfl, kinit_11, kcode_X11_won, by decide +kernel⟩
theorem kin_X11_won : Cond.instanceMethod yX11_won ∈ zb := zb_at 1963 (by decide +kernel) (by decide +kernel)
theorem kse_X11_won : Cond.selects RX11 yX11_won yX11_won ∈ zb := zb_at 140 (by decide +kernel) (by decide +kernel)
theorem kz_X11_won : Cond.instanceMethod yX11_won ∈ zb ∧ Cond.selects RX11 yX11_won yX11_won ∈ zb := ⟨kin_X11_won, kse_X11_won⟩
theorem km_11_508 : Cond.methodLink RX11 508 yX11_isGood ∈ zb := zb_at 1957 (by decide +kernel) (by decide +kernel)
theorem kcode_X11_isGood : Cond.code yX11_isGood cX11_isGood 5 (some .boolean) ∈ zb := zb_at 1960 (by decide +kernel) (by decide +kernel)
theorem ky_X11_isGood : zY RX11 yX11_isGood (Cond.code yX11_isGood cX11_isGood 5 (some .boolean)) 4 := ⟨rfl, kinit_11, kcode_X11_isGood, by decide +kernel⟩
theorem kin_X11_isGood : Cond.instanceMethod yX11_isGood ∈ zb := zb_at 1959 (by decide +kernel) (by decide +kernel)
theorem kse_X11_isGood : Cond.selects RX11 yX11_isGood yX11_isGood ∈ zb := zb_at 139 (by decide +kernel) (by decide +kernel)
theorem kz_X11_isGood : Cond.instanceMethod yX11_isGood ∈ zb ∧ Cond.selects RX11 yX11_isGood yX11_isGood ∈ zb := ⟨kin_X11_isGood, kse_X11_isGood⟩
theorem km_11_511 : Cond.methodLink RX11 511 yX11_firstTake ∈ zb := zb_at 1953 (by decide +kernel) (by decide +kernel)
theorem kcode_X11_firstTake : Cond.code yX11_firstTake cX11_firstTake 5 (some .int) ∈ zb := zb_at 1956 (by decide +kernel) (by decide +kernel)
theorem ky_X11_firstTake : zY RX11 yX11_firstTake (Cond.code yX11_firstTake cX11_firstTake 5 (some .int)) 3 := ⟨rfl, kinit_11, kcode_X11_firstTake, by decide +kernel⟩
theorem kin_X11_firstTake : Cond.instanceMethod yX11_firstTake ∈ zb := zb_at 1955 (by decide +kernel) (by decide +kernel)
theorem kse_X11_firstTake : Cond.selects RX11 yX11_firstTake yX11_firstTake ∈ zb := zb_at 138 (by decide +kernel) (by decide +kernel)
theorem kz_X11_firstTake : Cond.instanceMethod yX11_firstTake ∈ zb ∧ Cond.selects RX11 yX11_firstTake yX11_firstTake ∈ zb := ⟨kin_X11_firstTake, kse_X11_firstTake⟩
theorem km_11_105 : Cond.methodLink RX11 105 yX11_copyRow ∈ zb := zb_at 2026 (by decide +kernel) (by decide +kernel)
theorem kcode_X11_copyRow : Cond.code yX11_copyRow cX11_copyRow 5 none ∈ zb := zb_at 2028 (by decide +kernel) (by decide +kernel)
theorem ky_X11_copyRow : zY RX11 yX11_copyRow (Cond.code yX11_copyRow cX11_copyRow 5 none) 4 := ⟨rfl, kinit_11, kcode_X11_copyRow, by decide +kernel⟩
theorem kst_X11_copyRow : Cond.static yX11_copyRow ∈ zb := zb_at 2027 (by decide +kernel) (by decide +kernel)
theorem kz_X11_copyRow : Cond.static yX11_copyRow ∈ zb := kst_X11_copyRow
theorem km_11_528 : Cond.methodLink RX11 528 yX11_copyAll ∈ zb := zb_at 2022 (by decide +kernel) (by decide +kernel)
theorem kcode_X11_copyAll : Cond.code yX11_copyAll cX11_copyAll 4 none ∈ zb := zb_at 2025 (by decide +kernel) (by decide +kernel)
theorem ky_X11_copyAll : zY RX11 yX11_copyAll (Cond.code yX11_copyAll cX11_copyAll 4 none) 2 := ⟨rfl, kinit_11, kcode_X11_copyAll, by decide +kernel⟩
theorem kin_X11_copyAll : Cond.instanceMethod yX11_copyAll ∈ zb := zb_at 2024 (by decide +kernel) (by decide +kernel)
theorem kse_X11_copyAll : Cond.selects RX11 yX11_copyAll yX11_copyAll ∈ zb := zb_at 144 (by decide +kernel) (by decide +kernel)
theorem kz_X11_copyAll : Cond.instanceMethod yX11_copyAll ∈ zb ∧ Cond.selects RX11 yX11_copyAll yX11_copyAll ∈ zb := ⟨kin_X11_copyAll, kse_X11_copyAll⟩
theorem km_2_64 : Cond.methodLink RX2 64 arraycopyName ∈ zb := zb_at 767 (by decide +kernel) (by decide +kernel)
theorem km_1_25 : Cond.methodLink RX1 25 arraycopyName ∈ zb := zb_at 772 (by decide +kernel) (by decide +kernel)
theorem km_6_25 : Cond.methodLink RX6 25 arraycopyName ∈ zb := zb_at 777 (by decide +kernel) (by decide +kernel)
theorem km_0_25 : Cond.methodLink RX0 25 arraycopyName ∈ zb := zb_at 782 (by decide +kernel) (by decide +kernel)
theorem km_8_18 : Cond.methodLink RX8 18 arraycopyName ∈ zb := zb_at 1193 (by decide +kernel) (by decide +kernel)
theorem km_8_24 : Cond.methodLink RX8 24 yX8_firstTake ∈ zb := zb_at 1194 (by decide +kernel) (by decide +kernel)
theorem kcode_X8_firstTake : Cond.code yX8_firstTake cX8_firstTake 5 (some .int) ∈ zb := zb_at 1197 (by decide +kernel) (by decide +kernel)
theorem kinit_8 : Cond.initialized RX8 ∈ zb := zb_at 156 (by decide +kernel) (by decide +kernel)
theorem ky_X8_firstTake : zY RX8 yX8_firstTake (Cond.code yX8_firstTake cX8_firstTake 5 (some .int)) 3 := ⟨rfl, kinit_8, kcode_X8_firstTake, by decide +kernel⟩
theorem kin_X8_firstTake : Cond.instanceMethod yX8_firstTake ∈ zb := zb_at 1195 (by decide +kernel) (by decide +kernel)
theorem kse_X8_firstTake : Cond.selects RX8 yX8_firstTake yX8_firstTake ∈ zb := zb_at 1196 (by decide +kernel) (by decide +kernel)
theorem kz_X8_firstTake : Cond.instanceMethod yX8_firstTake ∈ zb ∧ Cond.selects RX8 yX8_firstTake yX8_firstTake ∈ zb := ⟨kin_X8_firstTake, kse_X8_firstTake⟩
theorem km_2_58 : Cond.methodLink RX2 58 yJ7_fill_53178 ∈ zb := zb_at 611 (by decide +kernel) (by decide +kernel)
theorem kcode_J7_fill_53178 : Cond.code yJ7_fill_53178 cJ7_fill_53178 4 none ∈ zb := zb_at 613 (by decide +kernel) (by decide +kernel)
theorem kinit_J7 : Cond.initialized RJ7 ∈ zb := zb_at 159 (by decide +kernel) (by decide +kernel)
theorem ky_J7_fill_53178 : zY RJ7 yJ7_fill_53178 (Cond.code yJ7_fill_53178 cJ7_fill_53178 4 none) 2 := ⟨rfl, kinit_J7, kcode_J7_fill_53178, by decide +kernel⟩
theorem kst_J7_fill_53178 : Cond.static yJ7_fill_53178 ∈ zb := zb_at 612 (by decide +kernel) (by decide +kernel)
theorem kz_J7_fill_53178 : Cond.static yJ7_fill_53178 ∈ zb := kst_J7_fill_53178
theorem km_4_87 : Cond.methodLink RX4 87 yX2_clear ∈ zb := zb_at 607 (by decide +kernel) (by decide +kernel)
theorem kcode_X2_clear : Cond.code yX2_clear cX2_clear 1 none ∈ zb := zb_at 610 (by decide +kernel) (by decide +kernel)
theorem kinit_2 : Cond.initialized RX2 ∈ zb := zb_at 148 (by decide +kernel) (by decide +kernel)
theorem ky_X2_clear : zY RX2 yX2_clear (Cond.code yX2_clear cX2_clear 1 none) 0 := ⟨rfl, kinit_2, kcode_X2_clear, by decide +kernel⟩
theorem kin_X2_clear : Cond.instanceMethod yX2_clear ∈ zb := zb_at 608 (by decide +kernel) (by decide +kernel)
theorem kse_X2_clear : Cond.selects RX2 yX2_clear yX2_clear ∈ zb := zb_at 609 (by decide +kernel) (by decide +kernel)
theorem kz_X2_clear : Cond.instanceMethod yX2_clear ∈ zb ∧ Cond.selects RX2 yX2_clear yX2_clear ∈ zb := ⟨kin_X2_clear, kse_X2_clear⟩
theorem km_4_51 : Cond.methodLink RX4 51 arraycopyName ∈ zb := zb_at 600 (by decide +kernel) (by decide +kernel)
theorem km_4_66 : Cond.methodLink RX4 66 yX4_clearDraft ∈ zb := zb_at 603 (by decide +kernel) (by decide +kernel)
theorem kcode_X4_clearDraft : Cond.code yX4_clearDraft cX4_clearDraft 2 none ∈ zb := zb_at 606 (by decide +kernel) (by decide +kernel)
theorem kinit_4 : Cond.initialized RX4 ∈ zb := zb_at 152 (by decide +kernel) (by decide +kernel)
theorem ky_X4_clearDraft : zY RX4 yX4_clearDraft (Cond.code yX4_clearDraft cX4_clearDraft 2 none) 1 := ⟨rfl, kinit_4, kcode_X4_clearDraft, by decide +kernel⟩
theorem kin_X4_clearDraft : Cond.instanceMethod yX4_clearDraft ∈ zb := zb_at 605 (by decide +kernel) (by decide +kernel)
theorem kse_X4_clearDraft : Cond.selects RX4 yX4_clearDraft yX4_clearDraft ∈ zb := zb_at 1 (by decide +kernel) (by decide +kernel)
theorem kz_X4_clearDraft : Cond.instanceMethod yX4_clearDraft ∈ zb ∧ Cond.selects RX4 yX4_clearDraft yX4_clearDraft ∈ zb := ⟨kin_X4_clearDraft, kse_X4_clearDraft⟩
theorem km_4_70 : Cond.methodLink RX4 70 yX4_advance ∈ zb := zb_at 614 (by decide +kernel) (by decide +kernel)
theorem kcode_X4_advance : Cond.code yX4_advance cX4_advance 2 none ∈ zb := zb_at 617 (by decide +kernel) (by decide +kernel)
theorem ky_X4_advance : zY RX4 yX4_advance (Cond.code yX4_advance cX4_advance 2 none) 0 := ⟨rfl, kinit_4, kcode_X4_advance, by decide +kernel⟩
theorem kin_X4_advance : Cond.instanceMethod yX4_advance ∈ zb := zb_at 616 (by decide +kernel) (by decide +kernel)
theorem kse_X4_advance : Cond.selects RX4 yX4_advance yX4_advance ∈ zb := zb_at 2 (by decide +kernel) (by decide +kernel)
theorem kz_X4_advance : Cond.instanceMethod yX4_advance ∈ zb ∧ Cond.selects RX4 yX4_advance yX4_advance ∈ zb := ⟨kin_X4_advance, kse_X4_advance⟩
theorem km_4_79 : Cond.methodLink RX4 79 yX4_tellsOfMissing ∈ zb := zb_at 755 (by decide +kernel) (by decide +kernel)
theorem kcode_X4_tellsOfMissing : Cond.code yX4_tellsOfMissing cX4_tellsOfMissing 1 (some .boolean) ∈ zb := zb_at 758 (by decide +kernel) (by decide +kernel)
theorem ky_X4_tellsOfMissing : zY RX4 yX4_tellsOfMissing (Cond.code yX4_tellsOfMissing cX4_tellsOfMissing 1 (some .boolean)) 0 := ⟨rfl, kinit_4, kcode_X4_tellsOfMissing, by decide +kernel⟩
theorem kin_X4_tellsOfMissing : Cond.instanceMethod yX4_tellsOfMissing ∈ zb := zb_at 757 (by decide +kernel) (by decide +kernel)
theorem kse_X4_tellsOfMissing : Cond.selects RX4 yX4_tellsOfMissing yX4_tellsOfMissing ∈ zb := zb_at 13 (by decide +kernel) (by decide +kernel)
theorem kz_X4_tellsOfMissing : Cond.instanceMethod yX4_tellsOfMissing ∈ zb ∧ Cond.selects RX4 yX4_tellsOfMissing yX4_tellsOfMissing ∈ zb := ⟨kin_X4_tellsOfMissing, kse_X4_tellsOfMissing⟩
theorem km_9_54 : Cond.methodLink RX9 54 arraycopyName ∈ zb := zb_at 1319 (by decide +kernel) (by decide +kernel)
theorem km_9_63 : Cond.methodLink RX9 63 yX2_copyFrom ∈ zb := zb_at 1320 (by decide +kernel) (by decide +kernel)
theorem kcode_X2_copyFrom : Cond.code yX2_copyFrom cX2_copyFrom 2 none ∈ zb := zb_at 766 (by decide +kernel) (by decide +kernel)
theorem ky_X2_copyFrom : zY RX2 yX2_copyFrom (Cond.code yX2_copyFrom cX2_copyFrom 2 none) 1 := ⟨rfl, kinit_2, kcode_X2_copyFrom, by decide +kernel⟩
theorem kin_X2_copyFrom : Cond.instanceMethod yX2_copyFrom ∈ zb := zb_at 764 (by decide +kernel) (by decide +kernel)
theorem kse_X2_copyFrom : Cond.selects RX2 yX2_copyFrom yX2_copyFrom ∈ zb := zb_at 765 (by decide +kernel) (by decide +kernel)
theorem kz_X2_copyFrom : Cond.instanceMethod yX2_copyFrom ∈ zb ∧ Cond.selects RX2 yX2_copyFrom yX2_copyFrom ∈ zb := ⟨kin_X2_copyFrom, kse_X2_copyFrom⟩
theorem km_9_67 : Cond.methodLink RX9 67 yX1_copyFrom ∈ zb := zb_at 1321 (by decide +kernel) (by decide +kernel)
theorem kcode_X1_copyFrom : Cond.code yX1_copyFrom cX1_copyFrom 2 none ∈ zb := zb_at 771 (by decide +kernel) (by decide +kernel)
theorem kinit_1 : Cond.initialized RX1 ∈ zb := zb_at 149 (by decide +kernel) (by decide +kernel)
theorem ky_X1_copyFrom : zY RX1 yX1_copyFrom (Cond.code yX1_copyFrom cX1_copyFrom 2 none) 1 := ⟨rfl, kinit_1, kcode_X1_copyFrom, by decide +kernel⟩
theorem kin_X1_copyFrom : Cond.instanceMethod yX1_copyFrom ∈ zb := zb_at 769 (by decide +kernel) (by decide +kernel)
theorem kse_X1_copyFrom : Cond.selects RX1 yX1_copyFrom yX1_copyFrom ∈ zb := zb_at 770 (by decide +kernel) (by decide +kernel)
theorem kz_X1_copyFrom : Cond.instanceMethod yX1_copyFrom ∈ zb ∧ Cond.selects RX1 yX1_copyFrom yX1_copyFrom ∈ zb := ⟨kin_X1_copyFrom, kse_X1_copyFrom⟩
theorem km_9_70 : Cond.methodLink RX9 70 yX6_copyFrom ∈ zb := zb_at 1322 (by decide +kernel) (by decide +kernel)
theorem kcode_X6_copyFrom : Cond.code yX6_copyFrom cX6_copyFrom 2 none ∈ zb := zb_at 776 (by decide +kernel) (by decide +kernel)
theorem kinit_6 : Cond.initialized RX6 ∈ zb := zb_at 150 (by decide +kernel) (by decide +kernel)
theorem ky_X6_copyFrom : zY RX6 yX6_copyFrom (Cond.code yX6_copyFrom cX6_copyFrom 2 none) 1 := ⟨rfl, kinit_6, kcode_X6_copyFrom, by decide +kernel⟩
theorem kin_X6_copyFrom : Cond.instanceMethod yX6_copyFrom ∈ zb := zb_at 774 (by decide +kernel) (by decide +kernel)
theorem kse_X6_copyFrom : Cond.selects RX6 yX6_copyFrom yX6_copyFrom ∈ zb := zb_at 775 (by decide +kernel) (by decide +kernel)
theorem kz_X6_copyFrom : Cond.instanceMethod yX6_copyFrom ∈ zb ∧ Cond.selects RX6 yX6_copyFrom yX6_copyFrom ∈ zb := ⟨kin_X6_copyFrom, kse_X6_copyFrom⟩
theorem km_9_73 : Cond.methodLink RX9 73 yX0_copyFrom ∈ zb := zb_at 1323 (by decide +kernel) (by decide +kernel)
theorem kcode_X0_copyFrom : Cond.code yX0_copyFrom cX0_copyFrom 2 none ∈ zb := zb_at 781 (by decide +kernel) (by decide +kernel)
theorem kinit_0 : Cond.initialized RX0 ∈ zb := zb_at 151 (by decide +kernel) (by decide +kernel)
theorem ky_X0_copyFrom : zY RX0 yX0_copyFrom (Cond.code yX0_copyFrom cX0_copyFrom 2 none) 1 := ⟨rfl, kinit_0, kcode_X0_copyFrom, by decide +kernel⟩
theorem kin_X0_copyFrom : Cond.instanceMethod yX0_copyFrom ∈ zb := zb_at 779 (by decide +kernel) (by decide +kernel)
theorem kse_X0_copyFrom : Cond.selects RX0 yX0_copyFrom yX0_copyFrom ∈ zb := zb_at 780 (by decide +kernel) (by decide +kernel)
theorem kz_X0_copyFrom : Cond.instanceMethod yX0_copyFrom ∈ zb ∧ Cond.selects RX0 yX0_copyFrom yX0_copyFrom ∈ zb := ⟨kin_X0_copyFrom, kse_X0_copyFrom⟩
theorem km_10_59 : Cond.methodLink RX10 59 yX9_put ∈ zb := zb_at 580 (by decide +kernel) (by decide +kernel)
theorem kcode_X9_put : Cond.code yX9_put cX9_put 3 none ∈ zb := zb_at 583 (by decide +kernel) (by decide +kernel)
theorem kinit_9 : Cond.initialized RX9 ∈ zb := zb_at 147 (by decide +kernel) (by decide +kernel)
theorem ky_X9_put : zY RX9 yX9_put (Cond.code yX9_put cX9_put 3 none) 1 := ⟨rfl, kinit_9, kcode_X9_put, by decide +kernel⟩
theorem kin_X9_put : Cond.instanceMethod yX9_put ∈ zb := zb_at 581 (by decide +kernel) (by decide +kernel)
theorem kse_X9_put : Cond.selects RX9 yX9_put yX9_put ∈ zb := zb_at 582 (by decide +kernel) (by decide +kernel)
theorem kz_X9_put : Cond.instanceMethod yX9_put ∈ zb ∧ Cond.selects RX9 yX9_put yX9_put ∈ zb := ⟨kin_X9_put, kse_X9_put⟩
theorem km_10_363 : Cond.methodLink RX10 363 yX0_copyFrom ∈ zb := zb_at 778 (by decide +kernel) (by decide +kernel)
theorem km_10_352 : Cond.methodLink RX10 352 yX6_copyFrom ∈ zb := zb_at 773 (by decide +kernel) (by decide +kernel)
theorem km_10_341 : Cond.methodLink RX10 341 yX1_copyFrom ∈ zb := zb_at 768 (by decide +kernel) (by decide +kernel)
theorem km_10_331 : Cond.methodLink RX10 331 yX2_copyFrom ∈ zb := zb_at 763 (by decide +kernel) (by decide +kernel)
theorem km_10_365 : Cond.methodLink RX10 365 Lib.Math.max.name ∈ zb := zb_at 783 (by decide +kernel) (by decide +kernel)
theorem k_mmaxs : Cond.static Lib.Math.max.name ∈ zb := zb_at 784 (by decide +kernel) (by decide +kernel)
theorem k_mini : Cond.initialized "java/lang/Math" ∈ zb := zb_at 164 (by decide +kernel) (by decide +kernel)
theorem k_mmaxc : Cond.code Lib.Math.max.name Lib.Math.max.code 2 (some .int) ∈ zb := zb_at 785 (by decide +kernel) (by decide +kernel)
theorem km_10_69 : Cond.methodLink RX10 69 yX10_numberFor ∈ zb := zb_at 592 (by decide +kernel) (by decide +kernel)
theorem kcode_X10_numberFor : Cond.code yX10_numberFor cX10_numberFor 4 (some .int) ∈ zb := zb_at 595 (by decide +kernel) (by decide +kernel)
theorem kinit_10 : Cond.initialized RX10 ∈ zb := zb_at 146 (by decide +kernel) (by decide +kernel)
theorem ky_X10_numberFor : zY RX10 yX10_numberFor (Cond.code yX10_numberFor cX10_numberFor 4 (some .int)) 2 := ⟨rfl, kinit_10, kcode_X10_numberFor, by decide +kernel⟩
theorem kin_X10_numberFor : Cond.instanceMethod yX10_numberFor ∈ zb := zb_at 594 (by decide +kernel) (by decide +kernel)
theorem kse_X10_numberFor : Cond.selects RX10 yX10_numberFor yX10_numberFor ∈ zb := zb_at 0 (by decide +kernel) (by decide +kernel)
theorem kz_X10_numberFor : Cond.instanceMethod yX10_numberFor ∈ zb ∧ Cond.selects RX10 yX10_numberFor yX10_numberFor ∈ zb := ⟨kin_X10_numberFor, kse_X10_numberFor⟩
theorem km_10_77 : Cond.methodLink RX10 77 yX4_read ∈ zb := zb_at 596 (by decide +kernel) (by decide +kernel)
theorem kcode_X4_read : Cond.code yX4_read cX4_read 5 none ∈ zb := zb_at 599 (by decide +kernel) (by decide +kernel)
theorem ky_X4_read : zY RX4 yX4_read (Cond.code yX4_read cX4_read 5 none) 3 := ⟨rfl, kinit_4, kcode_X4_read, by decide +kernel⟩
theorem kin_X4_read : Cond.instanceMethod yX4_read ∈ zb := zb_at 597 (by decide +kernel) (by decide +kernel)
theorem kse_X4_read : Cond.selects RX4 yX4_read yX4_read ∈ zb := zb_at 598 (by decide +kernel) (by decide +kernel)
theorem kz_X4_read : Cond.instanceMethod yX4_read ∈ zb ∧ Cond.selects RX4 yX4_read yX4_read ∈ zb := ⟨kin_X4_read, kse_X4_read⟩
theorem km_10_85 : Cond.methodLink RX10 85 yX10_keep ∈ zb := zb_at 759 (by decide +kernel) (by decide +kernel)
theorem kcode_X10_keep : Cond.code yX10_keep cX10_keep 3 none ∈ zb := zb_at 762 (by decide +kernel) (by decide +kernel)
theorem ky_X10_keep : zY RX10 yX10_keep (Cond.code yX10_keep cX10_keep 3 none) 2 := ⟨rfl, kinit_10, kcode_X10_keep, by decide +kernel⟩
theorem kin_X10_keep : Cond.instanceMethod yX10_keep ∈ zb := zb_at 761 (by decide +kernel) (by decide +kernel)
theorem kse_X10_keep : Cond.selects RX10 yX10_keep yX10_keep ∈ zb := zb_at 14 (by decide +kernel) (by decide +kernel)
theorem kz_X10_keep : Cond.instanceMethod yX10_keep ∈ zb ∧ Cond.selects RX10 yX10_keep yX10_keep ∈ zb := ⟨kin_X10_keep, kse_X10_keep⟩
theorem km_10_89 : Cond.methodLink RX10 89 yX10_landAt ∈ zb := zb_at 794 (by decide +kernel) (by decide +kernel)
theorem kcode_X10_landAt : Cond.code yX10_landAt cX10_landAt 2 (some (.object "DownhillSong$Land")) ∈ zb := zb_at 797 (by decide +kernel) (by decide +kernel)
theorem ky_X10_landAt : zY RX10 yX10_landAt (Cond.code yX10_landAt cX10_landAt 2 (some (.object "DownhillSong$Land"))) 1 := ⟨rfl, kinit_10, kcode_X10_landAt, by decide +kernel⟩
theorem kin_X10_landAt : Cond.instanceMethod yX10_landAt ∈ zb := zb_at 796 (by decide +kernel) (by decide +kernel)
theorem kse_X10_landAt : Cond.selects RX10 yX10_landAt yX10_landAt ∈ zb := zb_at 15 (by decide +kernel) (by decide +kernel)
theorem kz_X10_landAt : Cond.instanceMethod yX10_landAt ∈ zb ∧ Cond.selects RX10 yX10_landAt yX10_landAt ∈ zb := ⟨kin_X10_landAt, kse_X10_landAt⟩
theorem km_10_109 : Cond.methodLink RX10 109 yX10_eveningAt ∈ zb := zb_at 830 (by decide +kernel) (by decide +kernel)
theorem kcode_X10_eveningAt : Cond.code yX10_eveningAt cX10_eveningAt 2 (some (.object "DownhillSong$Evening")) ∈ zb := zb_at 833 (by decide +kernel) (by decide +kernel)
theorem ky_X10_eveningAt : zY RX10 yX10_eveningAt (Cond.code yX10_eveningAt cX10_eveningAt 2 (some (.object "DownhillSong$Evening"))) 1 := ⟨rfl, kinit_10, kcode_X10_eveningAt, by decide +kernel⟩
theorem kin_X10_eveningAt : Cond.instanceMethod yX10_eveningAt ∈ zb := zb_at 832 (by decide +kernel) (by decide +kernel)
theorem kse_X10_eveningAt : Cond.selects RX10 yX10_eveningAt yX10_eveningAt ∈ zb := zb_at 19 (by decide +kernel) (by decide +kernel)
theorem kz_X10_eveningAt : Cond.instanceMethod yX10_eveningAt ∈ zb ∧ Cond.selects RX10 yX10_eveningAt yX10_eveningAt ∈ zb := ⟨kin_X10_eveningAt, kse_X10_eveningAt⟩
theorem km_10_124 : Cond.methodLink RX10 124 yX10_reachState ∈ zb := zb_at 905 (by decide +kernel) (by decide +kernel)
theorem kcode_X10_reachState : Cond.code yX10_reachState cX10_reachState 6 (some .boolean) ∈ zb := zb_at 908 (by decide +kernel) (by decide +kernel)
theorem ky_X10_reachState : zY RX10 yX10_reachState (Cond.code yX10_reachState cX10_reachState 6 (some .boolean)) 3 := ⟨rfl, kinit_10, kcode_X10_reachState, by decide +kernel⟩
theorem kin_X10_reachState : Cond.instanceMethod yX10_reachState ∈ zb := zb_at 907 (by decide +kernel) (by decide +kernel)
theorem kse_X10_reachState : Cond.selects RX10 yX10_reachState yX10_reachState ∈ zb := zb_at 29 (by decide +kernel) (by decide +kernel)
theorem kz_X10_reachState : Cond.instanceMethod yX10_reachState ∈ zb ∧ Cond.selects RX10 yX10_reachState yX10_reachState ∈ zb := ⟨kin_X10_reachState, kse_X10_reachState⟩
theorem km_10_196 : Cond.methodLink RX10 196 yX10_sightAt ∈ zb := zb_at 1080 (by decide +kernel) (by decide +kernel)
theorem kcode_X10_sightAt : Cond.code yX10_sightAt cX10_sightAt 2 (some (.object "DownhillSong$Sight")) ∈ zb := zb_at 1083 (by decide +kernel) (by decide +kernel)
theorem ky_X10_sightAt : zY RX10 yX10_sightAt (Cond.code yX10_sightAt cX10_sightAt 2 (some (.object "DownhillSong$Sight"))) 1 := ⟨rfl, kinit_10, kcode_X10_sightAt, by decide +kernel⟩
theorem kin_X10_sightAt : Cond.instanceMethod yX10_sightAt ∈ zb := zb_at 1082 (by decide +kernel) (by decide +kernel)
theorem kse_X10_sightAt : Cond.selects RX10 yX10_sightAt yX10_sightAt ∈ zb := zb_at 43 (by decide +kernel) (by decide +kernel)
theorem kz_X10_sightAt : Cond.instanceMethod yX10_sightAt ∈ zb ∧ Cond.selects RX10 yX10_sightAt yX10_sightAt ∈ zb := ⟨kin_X10_sightAt, kse_X10_sightAt⟩
theorem km_10_219 : Cond.methodLink RX10 219 yX10_choirAt ∈ zb := zb_at 1120 (by decide +kernel) (by decide +kernel)
theorem kcode_X10_choirAt : Cond.code yX10_choirAt cX10_choirAt 2 (some (.object "DownhillSong$Choir")) ∈ zb := zb_at 1123 (by decide +kernel) (by decide +kernel)
theorem ky_X10_choirAt : zY RX10 yX10_choirAt (Cond.code yX10_choirAt cX10_choirAt 2 (some (.object "DownhillSong$Choir"))) 1 := ⟨rfl, kinit_10, kcode_X10_choirAt, by decide +kernel⟩
theorem kin_X10_choirAt : Cond.instanceMethod yX10_choirAt ∈ zb := zb_at 1122 (by decide +kernel) (by decide +kernel)
theorem kse_X10_choirAt : Cond.selects RX10 yX10_choirAt yX10_choirAt ∈ zb := zb_at 46 (by decide +kernel) (by decide +kernel)
theorem kz_X10_choirAt : Cond.instanceMethod yX10_choirAt ∈ zb ∧ Cond.selects RX10 yX10_choirAt yX10_choirAt ∈ zb := ⟨kin_X10_choirAt, kse_X10_choirAt⟩
theorem kc_10_230 : Cond.constantLong RX10 230 (-1 : Int64) ∈ zb := zb_at 1161 (by decide +kernel) (by decide +kernel)
theorem km_10_245 : Cond.methodLink RX10 245 yX8_lay ∈ zb := zb_at 1189 (by decide +kernel) (by decide +kernel)
theorem kcode_X8_lay : Cond.code yX8_lay cX8_lay 6 none ∈ zb := zb_at 1192 (by decide +kernel) (by decide +kernel)
theorem ky_X8_lay : zY RX8 yX8_lay (Cond.code yX8_lay cX8_lay 6 none) 3 := ⟨rfl, kinit_8, kcode_X8_lay, by decide +kernel⟩
theorem kin_X8_lay : Cond.instanceMethod yX8_lay ∈ zb := zb_at 1190 (by decide +kernel) (by decide +kernel)
theorem kse_X8_lay : Cond.selects RX8 yX8_lay yX8_lay ∈ zb := zb_at 1191 (by decide +kernel) (by decide +kernel)
theorem kz_X8_lay : Cond.instanceMethod yX8_lay ∈ zb ∧ Cond.selects RX8 yX8_lay yX8_lay ∈ zb := ⟨kin_X8_lay, kse_X8_lay⟩
theorem km_10_249 : Cond.methodLink RX10 249 yX8_firstTake ∈ zb := zb_at 1198 (by decide +kernel) (by decide +kernel)
theorem k_acn : Cond.native arraycopyName ∈ zb := zb_at 602 (by decide +kernel) (by decide +kernel)
theorem k_acs : Cond.static arraycopyName ∈ zb := zb_at 601 (by decide +kernel) (by decide +kernel)
theorem k_aci : Cond.initialized "java/lang/System" ∈ zb := zb_at 158 (by decide +kernel) (by decide +kernel)
theorem kf_11_7 : Cond.fieldLink RX11 7 "DownhillSongModel" "tape" "[B" ∈ zb := zb_at 1335 (by decide +kernel) (by decide +kernel)
theorem kf_11_13 : Cond.fieldLink RX11 13 "DownhillSongModel" "size" "[I" ∈ zb := zb_at 1336 (by decide +kernel) (by decide +kernel)
theorem kf_11_17 : Cond.fieldLink RX11 17 "DownhillSongModel" "fault" "[I" ∈ zb := zb_at 1337 (by decide +kernel) (by decide +kernel)
theorem kf_11_20 : Cond.fieldLink RX11 20 "DownhillSongModel" "faultPlace" "[I" ∈ zb := zb_at 1338 (by decide +kernel) (by decide +kernel)
theorem kf_11_23 : Cond.fieldLink RX11 23 "DownhillSongModel" "many" "[I" ∈ zb := zb_at 1339 (by decide +kernel) (by decide +kernel)
theorem kf_11_26 : Cond.fieldLink RX11 26 "DownhillSongModel" "lands" "[I" ∈ zb := zb_at 1340 (by decide +kernel) (by decide +kernel)
theorem kf_11_29 : Cond.fieldLink RX11 29 "DownhillSongModel" "evenings" "[I" ∈ zb := zb_at 1341 (by decide +kernel) (by decide +kernel)
theorem kf_11_32 : Cond.fieldLink RX11 32 "DownhillSongModel" "sights" "[I" ∈ zb := zb_at 1342 (by decide +kernel) (by decide +kernel)
theorem kf_11_35 : Cond.fieldLink RX11 35 "DownhillSongModel" "choirs" "[I" ∈ zb := zb_at 1343 (by decide +kernel) (by decide +kernel)
theorem kf_11_38 : Cond.fieldLink RX11 38 "DownhillSongModel" "told" "[I" ∈ zb := zb_at 1353 (by decide +kernel) (by decide +kernel)
theorem kf_11_88 : Cond.fieldLink RX11 88 "DownhillSongModel" "wins" "[Z" ∈ zb := zb_at 1382 (by decide +kernel) (by decide +kernel)
theorem kf_11_94 : Cond.fieldLink RX11 94 "DownhillSongModel" "kept" "[Z" ∈ zb := zb_at 1385 (by decide +kernel) (by decide +kernel)
theorem kf_11_97 : Cond.fieldLink RX11 97 "DownhillSongModel" "code" "I" ∈ zb := zb_at 1334 (by decide +kernel) (by decide +kernel)
theorem kf_11_117 : Cond.fieldLink RX11 117 "DownhillSongModel" "reached" "I" ∈ zb := zb_at 1344 (by decide +kernel) (by decide +kernel)
theorem kf_11_120 : Cond.fieldLink RX11 120 "DownhillSongModel" "length" "I" ∈ zb := zb_at 1345 (by decide +kernel) (by decide +kernel)
theorem kf_11_127 : Cond.fieldLink RX11 127 "DownhillSongModel" "begins" "I" ∈ zb := zb_at 1346 (by decide +kernel) (by decide +kernel)
theorem kf_11_130 : Cond.fieldLink RX11 130 "DownhillSongModel" "word" "J" ∈ zb := zb_at 1349 (by decide +kernel) (by decide +kernel)
theorem kf_11_134 : Cond.fieldLink RX11 134 "DownhillSongModel" "sort" "I" ∈ zb := zb_at 1347 (by decide +kernel) (by decide +kernel)
theorem kf_11_137 : Cond.fieldLink RX11 137 "DownhillSongModel" "value" "I" ∈ zb := zb_at 1348 (by decide +kernel) (by decide +kernel)
theorem kf_11_140 : Cond.fieldLink RX11 140 "DownhillSongModel" "wrongAt" "I" ∈ zb := zb_at 1350 (by decide +kernel) (by decide +kernel)
theorem kf_11_143 : Cond.fieldLink RX11 143 "DownhillSongModel" "laterFault" "I" ∈ zb := zb_at 1351 (by decide +kernel) (by decide +kernel)
theorem kf_11_146 : Cond.fieldLink RX11 146 "DownhillSongModel" "laterPlace" "I" ∈ zb := zb_at 1352 (by decide +kernel) (by decide +kernel)
theorem kf_11_157 : Cond.fieldLink RX11 157 "DownhillSongModel" "good" "Z" ∈ zb := zb_at 1357 (by decide +kernel) (by decide +kernel)
theorem kf_11_168 : Cond.fieldLink RX11 168 "DownhillSongModel" "farHut" "I" ∈ zb := zb_at 1355 (by decide +kernel) (by decide +kernel)
theorem kf_11_184 : Cond.fieldLink RX11 184 "DownhillSongModel" "farSinger" "I" ∈ zb := zb_at 1356 (by decide +kernel) (by decide +kernel)
theorem kf_11_300 : Cond.fieldLink RX11 300 "DownhillSongModel" "land" "I" ∈ zb := zb_at 1358 (by decide +kernel) (by decide +kernel)
theorem kf_11_307 : Cond.fieldLink RX11 307 "DownhillSongModel" "huts" "I" ∈ zb := zb_at 1359 (by decide +kernel) (by decide +kernel)
theorem kf_11_310 : Cond.fieldLink RX11 310 "DownhillSongModel" "singers" "I" ∈ zb := zb_at 1360 (by decide +kernel) (by decide +kernel)
theorem kf_11_328 : Cond.fieldLink RX11 328 "DownhillSongModel" "evening" "I" ∈ zb := zb_at 1361 (by decide +kernel) (by decide +kernel)
theorem kf_11_457 : Cond.fieldLink RX11 457 "DownhillSongModel" "sight" "I" ∈ zb := zb_at 1377 (by decide +kernel) (by decide +kernel)
theorem kf_11_475 : Cond.fieldLink RX11 475 "DownhillSongModel" "choir" "I" ∈ zb := zb_at 1379 (by decide +kernel) (by decide +kernel)
theorem kf_11_478 : Cond.fieldLink RX11 478 "DownhillSongModel" "voices" "I" ∈ zb := zb_at 1380 (by decide +kernel) (by decide +kernel)
theorem kf_11_515 : Cond.fieldLink RX11 515 "DownhillSongModel" "seed" "I" ∈ zb := zb_at 1383 (by decide +kernel) (by decide +kernel)
theorem kf_2_9 : Cond.fieldLink RX2 9 "DownhillSong$Land" "deep" "I" ∈ zb := zb_at 205 (by decide +kernel) (by decide +kernel)
theorem kf_2_15 : Cond.fieldLink RX2 15 "DownhillSong$Land" "slide" "I" ∈ zb := zb_at 208 (by decide +kernel) (by decide +kernel)
theorem kf_2_18 : Cond.fieldLink RX2 18 "DownhillSong$Land" "heights" "[I" ∈ zb := zb_at 211 (by decide +kernel) (by decide +kernel)
theorem kf_2_22 : Cond.fieldLink RX2 22 "DownhillSong$Land" "ladders" "[I" ∈ zb := zb_at 215 (by decide +kernel) (by decide +kernel)
theorem kf_2_25 : Cond.fieldLink RX2 25 "DownhillSong$Land" "minutes" "[I" ∈ zb := zb_at 218 (by decide +kernel) (by decide +kernel)
theorem kf_2_28 : Cond.fieldLink RX2 28 "DownhillSong$Land" "echoFrom" "[I" ∈ zb := zb_at 222 (by decide +kernel) (by decide +kernel)
theorem kf_2_31 : Cond.fieldLink RX2 31 "DownhillSong$Land" "echoTo" "[I" ∈ zb := zb_at 225 (by decide +kernel) (by decide +kernel)
theorem kf_2_34 : Cond.fieldLink RX2 34 "DownhillSong$Land" "homes" "[I" ∈ zb := zb_at 228 (by decide +kernel) (by decide +kernel)
theorem kf_2_37 : Cond.fieldLink RX2 37 "DownhillSong$Land" "talls" "[I" ∈ zb := zb_at 232 (by decide +kernel) (by decide +kernel)
theorem kf_2_40 : Cond.fieldLink RX2 40 "DownhillSong$Land" "known" "[I" ∈ zb := zb_at 235 (by decide +kernel) (by decide +kernel)
theorem kf_2_43 : Cond.fieldLink RX2 43 "DownhillSong$Land" "huts" "I" ∈ zb := zb_at 187 (by decide +kernel) (by decide +kernel)
theorem kf_2_46 : Cond.fieldLink RX2 46 "DownhillSong$Land" "singers" "I" ∈ zb := zb_at 192 (by decide +kernel) (by decide +kernel)
theorem kf_2_49 : Cond.fieldLink RX2 49 "DownhillSong$Land" "villages" "I" ∈ zb := zb_at 196 (by decide +kernel) (by decide +kernel)
theorem kf_2_52 : Cond.fieldLink RX2 52 "DownhillSong$Land" "dams" "I" ∈ zb := zb_at 199 (by decide +kernel) (by decide +kernel)
theorem kf_2_55 : Cond.fieldLink RX2 55 "DownhillSong$Land" "echoes" "I" ∈ zb := zb_at 202 (by decide +kernel) (by decide +kernel)
theorem kf_1_9 : Cond.fieldLink RX1 9 "DownhillSong$Evening" "kinds" "[I" ∈ zb := zb_at 282 (by decide +kernel) (by decide +kernel)
theorem kf_1_15 : Cond.fieldLink RX1 15 "DownhillSong$Evening" "firsts" "[I" ∈ zb := zb_at 284 (by decide +kernel) (by decide +kernel)
theorem kf_1_18 : Cond.fieldLink RX1 18 "DownhillSong$Evening" "seconds" "[I" ∈ zb := zb_at 286 (by decide +kernel) (by decide +kernel)
theorem kf_1_21 : Cond.fieldLink RX1 21 "DownhillSong$Evening" "deeds" "I" ∈ zb := zb_at 278 (by decide +kernel) (by decide +kernel)
theorem kf_6_9 : Cond.fieldLink RX6 9 "DownhillSong$Sight" "heard" "[I" ∈ zb := zb_at 308 (by decide +kernel) (by decide +kernel)
theorem kf_6_15 : Cond.fieldLink RX6 15 "DownhillSong$Sight" "huts" "[I" ∈ zb := zb_at 310 (by decide +kernel) (by decide +kernel)
theorem kf_6_18 : Cond.fieldLink RX6 18 "DownhillSong$Sight" "minutes" "[I" ∈ zb := zb_at 312 (by decide +kernel) (by decide +kernel)
theorem kf_6_21 : Cond.fieldLink RX6 21 "DownhillSong$Sight" "facts" "I" ∈ zb := zb_at 304 (by decide +kernel) (by decide +kernel)
theorem kf_0_9 : Cond.fieldLink RX0 9 "DownhillSong$Choir" "parts" "[I" ∈ zb := zb_at 337 (by decide +kernel) (by decide +kernel)
theorem kf_0_15 : Cond.fieldLink RX0 15 "DownhillSong$Choir" "heights" "[I" ∈ zb := zb_at 338 (by decide +kernel) (by decide +kernel)
theorem kf_0_18 : Cond.fieldLink RX0 18 "DownhillSong$Choir" "voices" "I" ∈ zb := zb_at 330 (by decide +kernel) (by decide +kernel)
theorem kf_0_22 : Cond.fieldLink RX0 22 "DownhillSong$Choir" "step" "I" ∈ zb := zb_at 334 (by decide +kernel) (by decide +kernel)
theorem kf_8_9 : Cond.fieldLink RX8 9 "DownhillSong$Table" "less" "[I" ∈ zb := zb_at 547 (by decide +kernel) (by decide +kernel)
theorem kf_8_15 : Cond.fieldLink RX8 15 "DownhillSong$Table" "full" "[I" ∈ zb := zb_at 548 (by decide +kernel) (by decide +kernel)
theorem kf_4_12 : Cond.fieldLink RX4 12 "DownhillSong$Reader" "land" "LDownhillSong$Land;" ∈ zb := zb_at 400 (by decide +kernel) (by decide +kernel)
theorem kf_4_21 : Cond.fieldLink RX4 21 "DownhillSong$Reader" "evening" "LDownhillSong$Evening;" ∈ zb := zb_at 402 (by decide +kernel) (by decide +kernel)
theorem kf_4_28 : Cond.fieldLink RX4 28 "DownhillSong$Reader" "sight" "LDownhillSong$Sight;" ∈ zb := zb_at 404 (by decide +kernel) (by decide +kernel)
theorem kf_4_35 : Cond.fieldLink RX4 35 "DownhillSong$Reader" "choir" "LDownhillSong$Choir;" ∈ zb := zb_at 406 (by decide +kernel) (by decide +kernel)
theorem kf_4_39 : Cond.fieldLink RX4 39 "DownhillSong$Reader" "faultPlace" "I" ∈ zb := zb_at 410 (by decide +kernel) (by decide +kernel)
theorem kf_4_47 : Cond.fieldLink RX4 47 "DownhillSong$Reader" "tape" "[B" ∈ zb := zb_at 413 (by decide +kernel) (by decide +kernel)
theorem kf_4_57 : Cond.fieldLink RX4 57 "DownhillSong$Reader" "length" "I" ∈ zb := zb_at 414 (by decide +kernel) (by decide +kernel)
theorem kf_4_60 : Cond.fieldLink RX4 60 "DownhillSong$Reader" "behind" "I" ∈ zb := zb_at 415 (by decide +kernel) (by decide +kernel)
theorem kf_4_63 : Cond.fieldLink RX4 63 "DownhillSong$Reader" "fault" "I" ∈ zb := zb_at 408 (by decide +kernel) (by decide +kernel)
theorem kf_4_73 : Cond.fieldLink RX4 73 "DownhillSong$Reader" "kind" "I" ∈ zb := zb_at 416 (by decide +kernel) (by decide +kernel)
theorem kf_4_90 : Cond.fieldLink RX4 90 "DownhillSong$Reader" "hutsToldOf" "I" ∈ zb := zb_at 419 (by decide +kernel) (by decide +kernel)
theorem kf_4_93 : Cond.fieldLink RX4 93 "DownhillSong$Reader" "singersToldOf" "I" ∈ zb := zb_at 420 (by decide +kernel) (by decide +kernel)
theorem kf_4_96 : Cond.fieldLink RX4 96 "DownhillSong$Evening" "deeds" "I" ∈ zb := zb_at 280 (by decide +kernel) (by decide +kernel)
theorem kf_4_99 : Cond.fieldLink RX4 99 "DownhillSong$Sight" "facts" "I" ∈ zb := zb_at 305 (by decide +kernel) (by decide +kernel)
theorem kf_4_102 : Cond.fieldLink RX4 102 "DownhillSong$Choir" "voices" "I" ∈ zb := zb_at 332 (by decide +kernel) (by decide +kernel)
theorem kf_4_105 : Cond.fieldLink RX4 105 "DownhillSong$Choir" "step" "I" ∈ zb := zb_at 336 (by decide +kernel) (by decide +kernel)
theorem kf_4_108 : Cond.fieldLink RX4 108 "DownhillSong$Land" "huts" "I" ∈ zb := zb_at 190 (by decide +kernel) (by decide +kernel)
theorem kf_4_111 : Cond.fieldLink RX4 111 "DownhillSong$Land" "singers" "I" ∈ zb := zb_at 194 (by decide +kernel) (by decide +kernel)
theorem kf_4_125 : Cond.fieldLink RX4 125 "DownhillSong$Reader" "first" "I" ∈ zb := zb_at 417 (by decide +kernel) (by decide +kernel)
theorem kf_9_9 : Cond.fieldLink RX9 9 "DownhillSong$Told" "tape" "[B" ∈ zb := zb_at 348 (by decide +kernel) (by decide +kernel)
theorem kf_9_15 : Cond.fieldLink RX9 15 "DownhillSong$Told" "place" "I" ∈ zb := zb_at 354 (by decide +kernel) (by decide +kernel)
theorem kf_9_19 : Cond.fieldLink RX9 19 "DownhillSong$Told" "counts" "[I" ∈ zb := zb_at 356 (by decide +kernel) (by decide +kernel)
theorem kf_9_26 : Cond.fieldLink RX9 26 "DownhillSong$Told" "lands" "[LDownhillSong$Land;" ∈ zb := zb_at 358 (by decide +kernel) (by decide +kernel)
theorem kf_9_33 : Cond.fieldLink RX9 33 "DownhillSong$Told" "evenings" "[LDownhillSong$Evening;" ∈ zb := zb_at 360 (by decide +kernel) (by decide +kernel)
theorem kf_9_40 : Cond.fieldLink RX9 40 "DownhillSong$Told" "sights" "[LDownhillSong$Sight;" ∈ zb := zb_at 362 (by decide +kernel) (by decide +kernel)
theorem kf_9_47 : Cond.fieldLink RX9 47 "DownhillSong$Told" "choirs" "[LDownhillSong$Choir;" ∈ zb := zb_at 364 (by decide +kernel) (by decide +kernel)
theorem kf_9_51 : Cond.fieldLink RX9 51 "DownhillSong$Told" "length" "I" ∈ zb := zb_at 351 (by decide +kernel) (by decide +kernel)
theorem kf_9_60 : Cond.fieldLink RX9 60 "DownhillSong$Told" "fault" "I" ∈ zb := zb_at 352 (by decide +kernel) (by decide +kernel)
theorem kf_10_10 : Cond.fieldLink RX10 10 "DownhillSong" "told" "LDownhillSong$Told;" ∈ zb := zb_at 554 (by decide +kernel) (by decide +kernel)
theorem kf_10_16 : Cond.fieldLink RX10 16 "DownhillSong" "images" "[LDownhillSong$Told;" ∈ zb := zb_at 555 (by decide +kernel) (by decide +kernel)
theorem kf_10_23 : Cond.fieldLink RX10 23 "DownhillSong" "reader" "LDownhillSong$Reader;" ∈ zb := zb_at 556 (by decide +kernel) (by decide +kernel)
theorem kf_10_30 : Cond.fieldLink RX10 30 "DownhillSong" "night" "LDownhillSong$Night;" ∈ zb := zb_at 557 (by decide +kernel) (by decide +kernel)
theorem kf_10_37 : Cond.fieldLink RX10 37 "DownhillSong" "slope" "LDownhillSong$Slope;" ∈ zb := zb_at 558 (by decide +kernel) (by decide +kernel)
theorem kf_10_44 : Cond.fieldLink RX10 44 "DownhillSong" "rows" "LDownhillSong$Rows;" ∈ zb := zb_at 559 (by decide +kernel) (by decide +kernel)
theorem kf_10_51 : Cond.fieldLink RX10 51 "DownhillSong" "table" "LDownhillSong$Table;" ∈ zb := zb_at 560 (by decide +kernel) (by decide +kernel)
theorem kf_10_55 : Cond.fieldLink RX10 55 "DownhillSong$Told" "length" "I" ∈ zb := zb_at 350 (by decide +kernel) (by decide +kernel)
theorem kf_10_63 : Cond.fieldLink RX10 63 "DownhillSong$Told" "fault" "I" ∈ zb := zb_at 353 (by decide +kernel) (by decide +kernel)
theorem kf_10_66 : Cond.fieldLink RX10 66 "DownhillSong$Told" "place" "I" ∈ zb := zb_at 355 (by decide +kernel) (by decide +kernel)
theorem kf_10_73 : Cond.fieldLink RX10 73 "DownhillSong$Told" "tape" "[B" ∈ zb := zb_at 349 (by decide +kernel) (by decide +kernel)
theorem kf_10_81 : Cond.fieldLink RX10 81 "DownhillSong$Reader" "fault" "I" ∈ zb := zb_at 409 (by decide +kernel) (by decide +kernel)
theorem kf_10_82 : Cond.fieldLink RX10 82 "DownhillSong$Reader" "faultPlace" "I" ∈ zb := zb_at 411 (by decide +kernel) (by decide +kernel)
theorem kf_10_99 : Cond.fieldLink RX10 99 "DownhillSong$Land" "echoes" "I" ∈ zb := zb_at 203 (by decide +kernel) (by decide +kernel)
theorem kf_10_102 : Cond.fieldLink RX10 102 "DownhillSong$Land" "echoFrom" "[I" ∈ zb := zb_at 223 (by decide +kernel) (by decide +kernel)
theorem kf_10_106 : Cond.fieldLink RX10 106 "DownhillSong$Land" "echoTo" "[I" ∈ zb := zb_at 226 (by decide +kernel) (by decide +kernel)
theorem kf_10_113 : Cond.fieldLink RX10 113 "DownhillSong$Evening" "deeds" "I" ∈ zb := zb_at 281 (by decide +kernel) (by decide +kernel)
theorem kf_10_128 : Cond.fieldLink RX10 128 "DownhillSong$Told" "lands" "[LDownhillSong$Land;" ∈ zb := zb_at 359 (by decide +kernel) (by decide +kernel)
theorem kf_10_200 : Cond.fieldLink RX10 200 "DownhillSong$Sight" "facts" "I" ∈ zb := zb_at 306 (by decide +kernel) (by decide +kernel)
theorem kf_10_206 : Cond.fieldLink RX10 206 "DownhillSong$Land" "huts" "I" ∈ zb := zb_at 191 (by decide +kernel) (by decide +kernel)
theorem kf_10_238 : Cond.fieldLink RX10 238 "DownhillSong$Choir" "voices" "I" ∈ zb := zb_at 333 (by decide +kernel) (by decide +kernel)
theorem kf_10_266 : Cond.fieldLink RX10 266 "DownhillSong$Land" "singers" "I" ∈ zb := zb_at 195 (by decide +kernel) (by decide +kernel)
theorem kf_10_320 : Cond.fieldLink RX10 320 "DownhillSong$Told" "counts" "[I" ∈ zb := zb_at 357 (by decide +kernel) (by decide +kernel)
theorem kf_10_327 : Cond.fieldLink RX10 327 "DownhillSong$Reader" "land" "LDownhillSong$Land;" ∈ zb := zb_at 401 (by decide +kernel) (by decide +kernel)
theorem kf_10_333 : Cond.fieldLink RX10 333 "DownhillSong$Told" "evenings" "[LDownhillSong$Evening;" ∈ zb := zb_at 361 (by decide +kernel) (by decide +kernel)
theorem kf_10_337 : Cond.fieldLink RX10 337 "DownhillSong$Reader" "evening" "LDownhillSong$Evening;" ∈ zb := zb_at 403 (by decide +kernel) (by decide +kernel)
theorem kf_10_344 : Cond.fieldLink RX10 344 "DownhillSong$Told" "sights" "[LDownhillSong$Sight;" ∈ zb := zb_at 363 (by decide +kernel) (by decide +kernel)
theorem kf_10_348 : Cond.fieldLink RX10 348 "DownhillSong$Reader" "sight" "LDownhillSong$Sight;" ∈ zb := zb_at 405 (by decide +kernel) (by decide +kernel)
theorem kf_10_355 : Cond.fieldLink RX10 355 "DownhillSong$Told" "choirs" "[LDownhillSong$Choir;" ∈ zb := zb_at 365 (by decide +kernel) (by decide +kernel)
theorem kf_10_359 : Cond.fieldLink RX10 359 "DownhillSong$Reader" "choir" "LDownhillSong$Choir;" ∈ zb := zb_at 407 (by decide +kernel) (by decide +kernel)
