abbrev rmi_X4_init : Room := { frames := 2, cells := 22, slots := 923, locals := 40 }
abbrev zb_X4_init (E : zE) (a : Nat) : va_W := ([(a, .inr (4, [.ref (a + 1), .ref (a + 10), .ref (a + 14), .ref (a + 18), .int 0, .int (-1 : Int32), .ref (a + 21), .ref (a + 22), .int 0, .int 0, .int 0, .int 0, .int 0, .int 0, .int 0]))] ++ (zb_X2_init E (a + 1) ++ (zb_X1_init E (a + 10) ++ (zb_X6_init E (a + 14) ++ (zb_X0_init E (a + 18) ++ ([((a + 21), .inl (E.2 1, 3, .inl (fun _ => 0)))] ++ ([((a + 22), .inl (E.2 0, 600, .inl (fun _ => 0)))])))))))
theorem zrg_X4_init {E : zE} {a : Nat} : zRg (zb_X4_init E a) a (a + 23) := by
  exact ((zRg_1).mono (by omega) (by omega)).app (((zrg_X2_init).mono (by omega) (by omega)).app (((zrg_X1_init).mono (by omega) (by omega)).app (((zrg_X6_init).mono (by omega) (by omega)).app (((zrg_X0_init).mono (by omega) (by omega)).app (((zRg_1).mono (by omega) (by omega)).app ((zRg_1).mono (by omega) (by omega)))))))
set_option maxRecDepth 40000 in
set_option maxHeartbeats 4000000 in
theorem ci_X4_init (l : Launch) {E : zE} {a : Nat} : Met l yX4_init (Cond.code yX4_init cX4_init 1 none :: zb) rmi_X4_init (va_Pc [.ref a] (zI E a 4 [.null, .null, .null, .null, .int 0, .int 0, .null, .null, .int 0, .int 0, .int 0, .int 0, .int 0, .int 0, .int 0])) (zQv (S := Unit) (fun _ => True) (zJ E a 23 (zb_X4_init E a)) (fun q => a ≤ q)) 22 923 (fun q => a ≤ q) := by
  refine Met.ofW (cc := cX4_init) (maxL := 1) (ret := none) (by decide) rfl ?_
  intro p e s m args below meth c s₁ B hml hv
  obtain ⟨rfl, hsz, g0, hK, hO⟩ := hv
  have zc := zc_of B hml
  have hx := zc.1
  have hb := zc.2.1
  have hz := zc.2.2.2.2.1
  have hin : meth.name = "<init>" := (name_of_methodNamed B.named B.method).1
  have hS : va_S (fun q => a ≤ q) s.heap s.heap [] := va_S.rf
  have hl := lv_entry ([.ref a]) (n := 1) (Nat.le_of_ble_eq_true rfl)
  rw [lg_entry_eq]
  generalize (lg_sl ([.ref a]) ++ List.replicate (1 - (lg_sl ([.ref a])).length) Slot.unset).toArray = ls at hl ⊢
  have hl : lv_has ls 1 [(0, .ref a)] := hl
  refine lv_aload_n hx hb dX4_init_0 rfl (lv_at hl 0 rfl) ?_
  refine W.objInit hx hb zc.2.2.2.1 (hz _ km_4_3) (hz _ k_oi) (hz _ k_oc) rfl (by rw [zc.2.2.1]; exact hl.1) rfl dX4_init_1 (Nat.le_of_ble_eq_true rfl) (Nat.le_of_ble_eq_true rfl) ?_
  refine W.eq (g2 := F0 m 4 ls []) rfl ?_
  refine lv_aload_n hx hb dX4_init_4 rfl (lv_at hl 0 rfl) ?_
  refine zNew (ws := []) (C := RX2) (T := TX2) (N := 15) (ci := 2) zc hK (fun k q h => by simp at h) hS hsz uw2 tyX2 tyX2_ok kcl_4_9 kins_2 kinit_2 rfl [.int 0, .int 0, .int 0, .int 0, .int 0, .int 0, .int 0, .null, .null, .null, .null, .null, .null, .null, .null] (fun j hj => match j, hj with | 0, _ => rfl | 1, _ => rfl | 2, _ => rfl | 3, _ => rfl | 4, _ => rfl | 5, _ => rfl | 6, _ => rfl | 7, _ => rfl | 8, _ => rfl | 9, _ => rfl | 10, _ => rfl | 11, _ => rfl | 12, _ => rfl | 13, _ => rfl | 14, _ => rfl | j + 15, hj => absurd hj (by omega)) (Nat.le_of_ble_eq_true rfl) (Nat.le_of_ble_eq_true rfl) dX4_init_5 (fun H1 hN o1 hz1 hS => ?_)
  have g0 := zkp g0 zRg_1 (fun q h1 _ _ => o1 q (Nat.lt_of_lt_of_eq h1 hsz))
  have g1 : va_P E.1 zcl [((a + 1), .inr (2, [.int 0, .int 0, .int 0, .int 0, .int 0, .int 0, .int 0, .null, .null, .null, .null, .null, .null, .null, .null]))] H1 := hN
  have hsz : H1.size = a + 2 := hz1
  refine W.cs (cells' := 1) (slots' := 15) rfl rfl ?_
  refine lv_dup hx hb dX4_init_8 rfl ?_
  refine zIc zc ky_X2_init kz_X2_init rfl km_4_11 (ci_X2_init l) (zIpre hK hO g1 hsz) hS (fun q (h : (a + 1) ≤ q) => Nat.le_trans (Nat.le_add_right a 1) h) hl.1 (Nat.le_of_ble_eq_true rfl) ⟨rfl, rfl⟩ ⟨Nat.le_of_ble_eq_true rfl, Nat.le_of_ble_eq_true rfl⟩ ⟨Nat.le_of_ble_eq_true rfl, Nat.le_of_ble_eq_true rfl⟩ dX4_init_9 (fun _ H2 locs _ hJ hk hS => ?_)
  have g0 := zkp g0 zRg_1 (fun q h1 _ h3 => hk q h1 (zge_n (a := a) (i := 1) (j := 1) h3 (Nat.le_of_ble_eq_true rfl)))
  have g1 := hJ.1
  have hsz : H2.size = a + 10 := hJ.2
  refine W.cs (cells' := 9) (slots' := 140) rfl rfl ?_
  refine zPut (C := RX4) (T := TX4) (N := 15) (ci := 4) (v := .ref (a + 1)) (ty := .object "DownhillSong$Land") zc hK g0 (zD1 (Nat.le_refl a)) hS uw4 tyX4 tyX4_ok nmX4 0 rfl rfl 0 (by decide) kf_4_12 (fun _ h9 => h9) (Or.inr ⟨rfl, hin, rfl⟩) (by decide +kernel) rfl rfl (Nat.le_of_ble_eq_true rfl) dX4_init_12 (fun H3 locs hN oq hz1 hS => ?_)
  have g1 := zkp g1 zrg_X2_init (fun q _ h2 h3 => oq q (znA (a := a) (i := 1) (p := 0) h2 (Nat.le_of_ble_eq_true rfl)))
  have g0 : va_P E.1 zcl [(a, .inr (4, [.ref (a + 1), .null, .null, .null, .int 0, .int 0, .null, .null, .int 0, .int 0, .int 0, .int 0, .int 0, .int 0, .int 0]))] H3 := hN
  have hsz := hz1.trans hsz
  refine lv_aload_n hx hb dX4_init_15 rfl (lv_at hl 0 rfl) ?_
  refine zNew (ws := []) (C := RX1) (T := TX1) (N := 4) (ci := 1) zc hK (fun k q h => by simp at h) hS hsz uw1 tyX1 tyX1_ok kcl_4_18 kins_1 kinit_1 rfl [.int 0, .null, .null, .null] (fun j hj => match j, hj with | 0, _ => rfl | 1, _ => rfl | 2, _ => rfl | 3, _ => rfl | j + 4, hj => absurd hj (by omega)) (Nat.le_of_ble_eq_true rfl) (Nat.le_of_ble_eq_true rfl) dX4_init_16 (fun H4 hN o1 hz1 hS => ?_)
  have g0 := zkp g0 zRg_1 (fun q h1 _ _ => o1 q (Nat.lt_of_lt_of_eq h1 hsz))
  have g1 := zkp g1 zrg_X2_init (fun q h1 _ _ => o1 q (Nat.lt_of_lt_of_eq h1 hsz))
  have g10 : va_P E.1 zcl [((a + 10), .inr (1, [.int 0, .null, .null, .null]))] H4 := hN
  have hsz : H4.size = a + 11 := hz1
  refine W.cs (cells' := 10) (slots' := 144) rfl rfl ?_
  refine lv_dup hx hb dX4_init_19 rfl ?_
  refine zIc zc ky_X1_init kz_X1_init rfl km_4_20 (ci_X1_init l) (zIpre hK hO g10 hsz) hS (fun q (h : (a + 10) ≤ q) => Nat.le_trans (Nat.le_add_right a 10) h) hl.1 (Nat.le_of_ble_eq_true rfl) ⟨rfl, rfl⟩ ⟨Nat.le_of_ble_eq_true rfl, Nat.le_of_ble_eq_true rfl⟩ ⟨Nat.le_of_ble_eq_true rfl, Nat.le_of_ble_eq_true rfl⟩ dX4_init_20 (fun _ H5 locs _ hJ hk hS => ?_)
  have g0 := zkp g0 zRg_1 (fun q h1 _ h3 => hk q h1 (zge_n (a := a) (i := 1) (j := 10) h3 (Nat.le_of_ble_eq_true rfl)))
  have g1 := zkp g1 zrg_X2_init (fun q h1 _ h3 => hk q h1 (zge_n (a := a) (i := 10) (j := 10) h3 (Nat.le_of_ble_eq_true rfl)))
  have g10 := hJ.1
  have hsz : H5.size = a + 14 := hJ.2
  refine W.cs (cells' := 13) (slots' := 264) rfl rfl ?_
  refine zPut (C := RX4) (T := TX4) (N := 15) (ci := 4) (v := .ref (a + 10)) (ty := .object "DownhillSong$Evening") zc hK g0 (zD1 (Nat.le_refl a)) hS uw4 tyX4 tyX4_ok nmX4 0 rfl rfl 1 (by decide) kf_4_21 (fun _ h9 => h9) (Or.inr ⟨rfl, hin, rfl⟩) (by decide +kernel) rfl rfl (Nat.le_of_ble_eq_true rfl) dX4_init_23 (fun H6 locs hN oq hz1 hS => ?_)
  have g1 := zkp g1 zrg_X2_init (fun q _ h2 h3 => oq q (znA (a := a) (i := 1) (p := 0) h2 (Nat.le_of_ble_eq_true rfl)))
  have g10 := zkp g10 zrg_X1_init (fun q _ h2 h3 => oq q (znA (a := a) (i := 10) (p := 0) h2 (Nat.le_of_ble_eq_true rfl)))
  have g0 : va_P E.1 zcl [(a, .inr (4, [.ref (a + 1), .ref (a + 10), .null, .null, .int 0, .int 0, .null, .null, .int 0, .int 0, .int 0, .int 0, .int 0, .int 0, .int 0]))] H6 := hN
  have hsz := hz1.trans hsz
  refine lv_aload_n hx hb dX4_init_26 rfl (lv_at hl 0 rfl) ?_
  refine zNew (ws := []) (C := RX6) (T := TX6) (N := 4) (ci := 6) zc hK (fun k q h => by simp at h) hS hsz uw6 tyX6 tyX6_ok kcl_4_25 kins_6 kinit_6 rfl [.int 0, .null, .null, .null] (fun j hj => match j, hj with | 0, _ => rfl | 1, _ => rfl | 2, _ => rfl | 3, _ => rfl | j + 4, hj => absurd hj (by omega)) (Nat.le_of_ble_eq_true rfl) (Nat.le_of_ble_eq_true rfl) dX4_init_27 (fun H7 hN o1 hz1 hS => ?_)
  have g0 := zkp g0 zRg_1 (fun q h1 _ _ => o1 q (Nat.lt_of_lt_of_eq h1 hsz))
  have g1 := zkp g1 zrg_X2_init (fun q h1 _ _ => o1 q (Nat.lt_of_lt_of_eq h1 hsz))
  have g10 := zkp g10 zrg_X1_init (fun q h1 _ _ => o1 q (Nat.lt_of_lt_of_eq h1 hsz))
  have g14 : va_P E.1 zcl [((a + 14), .inr (6, [.int 0, .null, .null, .null]))] H7 := hN
  have hsz : H7.size = a + 15 := hz1
  refine W.cs (cells' := 14) (slots' := 268) rfl rfl ?_
  refine lv_dup hx hb dX4_init_30 rfl ?_
  refine zIc zc ky_X6_init kz_X6_init rfl km_4_27 (ci_X6_init l) (zIpre hK hO g14 hsz) hS (fun q (h : (a + 14) ≤ q) => Nat.le_trans (Nat.le_add_right a 14) h) hl.1 (Nat.le_of_ble_eq_true rfl) ⟨rfl, rfl⟩ ⟨Nat.le_of_ble_eq_true rfl, Nat.le_of_ble_eq_true rfl⟩ ⟨Nat.le_of_ble_eq_true rfl, Nat.le_of_ble_eq_true rfl⟩ dX4_init_31 (fun _ H8 locs _ hJ hk hS => ?_)
  have g0 := zkp g0 zRg_1 (fun q h1 _ h3 => hk q h1 (zge_n (a := a) (i := 1) (j := 14) h3 (Nat.le_of_ble_eq_true rfl)))
  have g1 := zkp g1 zrg_X2_init (fun q h1 _ h3 => hk q h1 (zge_n (a := a) (i := 10) (j := 14) h3 (Nat.le_of_ble_eq_true rfl)))
  have g10 := zkp g10 zrg_X1_init (fun q h1 _ h3 => hk q h1 (zge_n (a := a) (i := 14) (j := 14) h3 (Nat.le_of_ble_eq_true rfl)))
  have g14 := hJ.1
  have hsz : H8.size = a + 18 := hJ.2
  refine W.cs (cells' := 17) (slots' := 298) rfl rfl ?_
  refine zPut (C := RX4) (T := TX4) (N := 15) (ci := 4) (v := .ref (a + 14)) (ty := .object "DownhillSong$Sight") zc hK g0 (zD1 (Nat.le_refl a)) hS uw4 tyX4 tyX4_ok nmX4 0 rfl rfl 2 (by decide) kf_4_28 (fun _ h9 => h9) (Or.inr ⟨rfl, hin, rfl⟩) (by decide +kernel) rfl rfl (Nat.le_of_ble_eq_true rfl) dX4_init_34 (fun H9 locs hN oq hz1 hS => ?_)
  have g1 := zkp g1 zrg_X2_init (fun q _ h2 h3 => oq q (znA (a := a) (i := 1) (p := 0) h2 (Nat.le_of_ble_eq_true rfl)))
  have g10 := zkp g10 zrg_X1_init (fun q _ h2 h3 => oq q (znA (a := a) (i := 10) (p := 0) h2 (Nat.le_of_ble_eq_true rfl)))
  have g14 := zkp g14 zrg_X6_init (fun q _ h2 h3 => oq q (znA (a := a) (i := 14) (p := 0) h2 (Nat.le_of_ble_eq_true rfl)))
  have g0 : va_P E.1 zcl [(a, .inr (4, [.ref (a + 1), .ref (a + 10), .ref (a + 14), .null, .int 0, .int 0, .null, .null, .int 0, .int 0, .int 0, .int 0, .int 0, .int 0, .int 0]))] H9 := hN
  have hsz := hz1.trans hsz
  refine lv_aload_n hx hb dX4_init_37 rfl (lv_at hl 0 rfl) ?_
  refine zNew (ws := []) (C := RX0) (T := TX0) (N := 4) (ci := 0) zc hK (fun k q h => by simp at h) hS hsz uw0 tyX0 tyX0_ok kcl_4_32 kins_0 kinit_0 rfl [.int 0, .int 0, .null, .null] (fun j hj => match j, hj with | 0, _ => rfl | 1, _ => rfl | 2, _ => rfl | 3, _ => rfl | j + 4, hj => absurd hj (by omega)) (Nat.le_of_ble_eq_true rfl) (Nat.le_of_ble_eq_true rfl) dX4_init_38 (fun H10 hN o1 hz1 hS => ?_)
  have g0 := zkp g0 zRg_1 (fun q h1 _ _ => o1 q (Nat.lt_of_lt_of_eq h1 hsz))
  have g1 := zkp g1 zrg_X2_init (fun q h1 _ _ => o1 q (Nat.lt_of_lt_of_eq h1 hsz))
  have g10 := zkp g10 zrg_X1_init (fun q h1 _ _ => o1 q (Nat.lt_of_lt_of_eq h1 hsz))
  have g14 := zkp g14 zrg_X6_init (fun q h1 _ _ => o1 q (Nat.lt_of_lt_of_eq h1 hsz))
  have g18 : va_P E.1 zcl [((a + 18), .inr (0, [.int 0, .int 0, .null, .null]))] H10 := hN
  have hsz : H10.size = a + 19 := hz1
  refine W.cs (cells' := 18) (slots' := 302) rfl rfl ?_
  refine lv_dup hx hb dX4_init_41 rfl ?_
  refine zIc zc ky_X0_init kz_X0_init rfl km_4_34 (ci_X0_init l) (zIpre hK hO g18 hsz) hS (fun q (h : (a + 18) ≤ q) => Nat.le_trans (Nat.le_add_right a 18) h) hl.1 (Nat.le_of_ble_eq_true rfl) ⟨rfl, rfl⟩ ⟨Nat.le_of_ble_eq_true rfl, Nat.le_of_ble_eq_true rfl⟩ ⟨Nat.le_of_ble_eq_true rfl, Nat.le_of_ble_eq_true rfl⟩ dX4_init_42 (fun _ H11 locs _ hJ hk hS => ?_)
  have g0 := zkp g0 zRg_1 (fun q h1 _ h3 => hk q h1 (zge_n (a := a) (i := 1) (j := 18) h3 (Nat.le_of_ble_eq_true rfl)))
  have g1 := zkp g1 zrg_X2_init (fun q h1 _ h3 => hk q h1 (zge_n (a := a) (i := 10) (j := 18) h3 (Nat.le_of_ble_eq_true rfl)))
  have g10 := zkp g10 zrg_X1_init (fun q h1 _ h3 => hk q h1 (zge_n (a := a) (i := 14) (j := 18) h3 (Nat.le_of_ble_eq_true rfl)))
  have g14 := zkp g14 zrg_X6_init (fun q h1 _ h3 => hk q h1 (zge_n (a := a) (i := 18) (j := 18) h3 (Nat.le_of_ble_eq_true rfl)))
  have g18 := hJ.1
  have hsz : H11.size = a + 21 := hJ.2
  refine W.cs (cells' := 20) (slots' := 320) rfl rfl ?_
  refine zPut (C := RX4) (T := TX4) (N := 15) (ci := 4) (v := .ref (a + 18)) (ty := .object "DownhillSong$Choir") zc hK g0 (zD1 (Nat.le_refl a)) hS uw4 tyX4 tyX4_ok nmX4 0 rfl rfl 3 (by decide) kf_4_35 (fun _ h9 => h9) (Or.inr ⟨rfl, hin, rfl⟩) (by decide +kernel) rfl rfl (Nat.le_of_ble_eq_true rfl) dX4_init_45 (fun H12 locs hN oq hz1 hS => ?_)
  have g1 := zkp g1 zrg_X2_init (fun q _ h2 h3 => oq q (znA (a := a) (i := 1) (p := 0) h2 (Nat.le_of_ble_eq_true rfl)))
  have g10 := zkp g10 zrg_X1_init (fun q _ h2 h3 => oq q (znA (a := a) (i := 10) (p := 0) h2 (Nat.le_of_ble_eq_true rfl)))
  have g14 := zkp g14 zrg_X6_init (fun q _ h2 h3 => oq q (znA (a := a) (i := 14) (p := 0) h2 (Nat.le_of_ble_eq_true rfl)))
  have g18 := zkp g18 zrg_X0_init (fun q _ h2 h3 => oq q (znA (a := a) (i := 18) (p := 0) h2 (Nat.le_of_ble_eq_true rfl)))
  have g0 : va_P E.1 zcl [(a, .inr (4, [.ref (a + 1), .ref (a + 10), .ref (a + 14), .ref (a + 18), .int 0, .int 0, .null, .null, .int 0, .int 0, .int 0, .int 0, .int 0, .int 0, .int 0]))] H12 := hN
  have hsz := hz1.trans hsz
  refine lv_aload_n hx hb dX4_init_48 rfl (lv_at hl 0 rfl) ?_
  refine lv_iconst (v := (-1 : Int32)) hx hb dX4_init_49 (by decide) ?_
  refine zPut (C := RX4) (T := TX4) (N := 15) (ci := 4) (v := .int (-1 : Int32)) (ty := .int) zc hK g0 (zD1 (Nat.le_refl a)) hS uw4 tyX4 tyX4_ok nmX4 0 rfl rfl 5 (by decide) kf_4_39 (fun _ h9 => h9) (Or.inl rfl) (by decide +kernel) rfl rfl (Nat.le_of_ble_eq_true rfl) dX4_init_50 (fun H13 locs hN oq hz1 hS => ?_)
  have g1 := zkp g1 zrg_X2_init (fun q _ h2 h3 => oq q (znA (a := a) (i := 1) (p := 0) h2 (Nat.le_of_ble_eq_true rfl)))
  have g10 := zkp g10 zrg_X1_init (fun q _ h2 h3 => oq q (znA (a := a) (i := 10) (p := 0) h2 (Nat.le_of_ble_eq_true rfl)))
  have g14 := zkp g14 zrg_X6_init (fun q _ h2 h3 => oq q (znA (a := a) (i := 14) (p := 0) h2 (Nat.le_of_ble_eq_true rfl)))
  have g18 := zkp g18 zrg_X0_init (fun q _ h2 h3 => oq q (znA (a := a) (i := 18) (p := 0) h2 (Nat.le_of_ble_eq_true rfl)))
  have g0 : va_P E.1 zcl [(a, .inr (4, [.ref (a + 1), .ref (a + 10), .ref (a + 14), .ref (a + 18), .int 0, .int (-1 : Int32), .null, .null, .int 0, .int 0, .int 0, .int 0, .int 0, .int 0, .int 0]))] H13 := hN
  have hsz := hz1.trans hsz
  refine lv_aload_n hx hb dX4_init_53 rfl (lv_at hl 0 rfl) ?_
  refine lv_iconst (v := (3 : Int32)) hx hb dX4_init_54 (by decide) ?_
  refine zNewa (ws := []) (atype := .int) (t := 1) (N := 3) (a0 := (3, .inl (fun _ => 0))) zc hK (fun k q h => by simp at h) hS hsz kac_I rfl (fun _ => rfl) (by decide) (by decide) (by decide) (Nat.le_of_ble_eq_true rfl) (Nat.le_of_ble_eq_true rfl) dX4_init_55 (fun H14 hN o1 hz1 hS => ?_)
  have g0 := zkp g0 zRg_1 (fun q h1 _ _ => o1 q (Nat.lt_of_lt_of_eq h1 hsz))
  have g1 := zkp g1 zrg_X2_init (fun q h1 _ _ => o1 q (Nat.lt_of_lt_of_eq h1 hsz))
  have g10 := zkp g10 zrg_X1_init (fun q h1 _ _ => o1 q (Nat.lt_of_lt_of_eq h1 hsz))
  have g14 := zkp g14 zrg_X6_init (fun q h1 _ _ => o1 q (Nat.lt_of_lt_of_eq h1 hsz))
  have g18 := zkp g18 zrg_X0_init (fun q h1 _ _ => o1 q (Nat.lt_of_lt_of_eq h1 hsz))
  have g21 : va_P E.1 zcl [((a + 21), .inl (E.2 1, 3, .inl (fun _ => 0)))] H14 := hN
  have hsz : H14.size = a + 22 := hz1
  refine W.cs (cells' := 21) (slots' := 323) rfl rfl ?_
  refine zPut (C := RX4) (T := TX4) (N := 15) (ci := 4) (v := .ref (a + 21)) (ty := .array .int) zc hK g0 (zD1 (Nat.le_refl a)) hS uw4 tyX4 tyX4_ok nmX4 0 rfl rfl 6 (by decide) kf_4_43 (fun _ h9 => h9) (Or.inr ⟨rfl, hin, rfl⟩) (by decide +kernel) rfl rfl (Nat.le_of_ble_eq_true rfl) dX4_init_57 (fun H15 locs hN oq hz1 hS => ?_)
  have g1 := zkp g1 zrg_X2_init (fun q _ h2 h3 => oq q (znA (a := a) (i := 1) (p := 0) h2 (Nat.le_of_ble_eq_true rfl)))
  have g10 := zkp g10 zrg_X1_init (fun q _ h2 h3 => oq q (znA (a := a) (i := 10) (p := 0) h2 (Nat.le_of_ble_eq_true rfl)))
  have g14 := zkp g14 zrg_X6_init (fun q _ h2 h3 => oq q (znA (a := a) (i := 14) (p := 0) h2 (Nat.le_of_ble_eq_true rfl)))
  have g18 := zkp g18 zrg_X0_init (fun q _ h2 h3 => oq q (znA (a := a) (i := 18) (p := 0) h2 (Nat.le_of_ble_eq_true rfl)))
  have g21 := zkp g21 zRg_1 (fun q _ h2 h3 => oq q (znA (a := a) (i := 21) (p := 0) h2 (Nat.le_of_ble_eq_true rfl)))
  have g0 : va_P E.1 zcl [(a, .inr (4, [.ref (a + 1), .ref (a + 10), .ref (a + 14), .ref (a + 18), .int 0, .int (-1 : Int32), .ref (a + 21), .null, .int 0, .int 0, .int 0, .int 0, .int 0, .int 0, .int 0]))] H15 := hN
  have hsz := hz1.trans hsz
  refine lv_aload_n hx hb dX4_init_60 rfl (lv_at hl 0 rfl) ?_
  refine lv_sipush (v := (600 : Int32)) hx hb dX4_init_61 (by decide) ?_
  refine zNewa (ws := []) (atype := .byte) (t := 0) (N := 600) (a0 := (600, .inl (fun _ => 0))) zc hK (fun k q h => by simp at h) hS hsz kac_B rfl (fun _ => rfl) (by decide) (by decide) (by decide) (Nat.le_of_ble_eq_true rfl) (Nat.le_of_ble_eq_true rfl) dX4_init_64 (fun H16 hN o1 hz1 hS => ?_)
  have g0 := zkp g0 zRg_1 (fun q h1 _ _ => o1 q (Nat.lt_of_lt_of_eq h1 hsz))
  have g1 := zkp g1 zrg_X2_init (fun q h1 _ _ => o1 q (Nat.lt_of_lt_of_eq h1 hsz))
  have g10 := zkp g10 zrg_X1_init (fun q h1 _ _ => o1 q (Nat.lt_of_lt_of_eq h1 hsz))
  have g14 := zkp g14 zrg_X6_init (fun q h1 _ _ => o1 q (Nat.lt_of_lt_of_eq h1 hsz))
  have g18 := zkp g18 zrg_X0_init (fun q h1 _ _ => o1 q (Nat.lt_of_lt_of_eq h1 hsz))
  have g21 := zkp g21 zRg_1 (fun q h1 _ _ => o1 q (Nat.lt_of_lt_of_eq h1 hsz))
  have g22 : va_P E.1 zcl [((a + 22), .inl (E.2 0, 600, .inl (fun _ => 0)))] H16 := hN
  have hsz : H16.size = a + 23 := hz1
  refine W.cs (cells' := 22) (slots' := 923) rfl rfl ?_
  refine zPut (C := RX4) (T := TX4) (N := 15) (ci := 4) (v := .ref (a + 22)) (ty := .array .byte) zc hK g0 (zD1 (Nat.le_refl a)) hS uw4 tyX4 tyX4_ok nmX4 0 rfl rfl 7 (by decide) kf_4_47 (fun _ h9 => h9) (Or.inr ⟨rfl, hin, rfl⟩) (by decide +kernel) rfl rfl (Nat.le_of_ble_eq_true rfl) dX4_init_66 (fun H17 locs hN oq hz1 hS => ?_)
  have g1 := zkp g1 zrg_X2_init (fun q _ h2 h3 => oq q (znA (a := a) (i := 1) (p := 0) h2 (Nat.le_of_ble_eq_true rfl)))
  have g10 := zkp g10 zrg_X1_init (fun q _ h2 h3 => oq q (znA (a := a) (i := 10) (p := 0) h2 (Nat.le_of_ble_eq_true rfl)))
  have g14 := zkp g14 zrg_X6_init (fun q _ h2 h3 => oq q (znA (a := a) (i := 14) (p := 0) h2 (Nat.le_of_ble_eq_true rfl)))
  have g18 := zkp g18 zrg_X0_init (fun q _ h2 h3 => oq q (znA (a := a) (i := 18) (p := 0) h2 (Nat.le_of_ble_eq_true rfl)))
  have g21 := zkp g21 zRg_1 (fun q _ h2 h3 => oq q (znA (a := a) (i := 21) (p := 0) h2 (Nat.le_of_ble_eq_true rfl)))
  have g22 := zkp g22 zRg_1 (fun q _ h2 h3 => oq q (znA (a := a) (i := 22) (p := 0) h2 (Nat.le_of_ble_eq_true rfl)))
  have g0 : va_P E.1 zcl [(a, .inr (4, [.ref (a + 1), .ref (a + 10), .ref (a + 14), .ref (a + 18), .int 0, .int (-1 : Int32), .ref (a + 21), .ref (a + 22), .int 0, .int 0, .int 0, .int 0, .int 0, .int 0, .int 0]))] H17 := hN
  have hsz := hz1.trans hsz
  exact zIret (post := fun _ => True) (B := zJ E a 23 ([(a, .inr (4, [.ref (a + 1), .ref (a + 10), .ref (a + 14), .ref (a + 18), .int 0, .int (-1 : Int32), .ref (a + 21), .ref (a + 22), .int 0, .int 0, .int 0, .int 0, .int 0, .int 0, .int 0]))] ++ (zb_X2_init E (a + 1) ++ (zb_X1_init E (a + 10) ++ (zb_X6_init E (a + 14) ++ (zb_X0_init E (a + 18) ++ ([((a + 21), .inl (E.2 1, 3, .inl (fun _ => 0)))] ++ ([((a + 22), .inl (E.2 0, 600, .inl (fun _ => 0)))])))))))) () zc hS trivial ⟨(va_P.app g0 (va_P.app g1 (va_P.app g10 (va_P.app g14 (va_P.app g18 (va_P.app g21 g22)))))), hsz⟩ dX4_init_69
