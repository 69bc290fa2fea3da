abbrev rmi_X10_init : Room := { frames := 3, cells := 92, slots := 2688, locals := 60 }
abbrev zb_X10_init (E : zE) (a : Nat) : va_W := ([(a, .inr (10, [.ref (a + 1), .ref (a + 48), .ref (a + 49), .ref (a + 72), .ref (a + 78), .ref (a + 87), .ref (a + 90)]))] ++ (zb_X9_init E (a + 1) ++ ([((a + 48), .inl (E.2 8, 3, .inr (.inr (.inr (.inr (fun _ => none))))))] ++ (zb_X4_init E (a + 49) ++ (zb_X3_init E (a + 72) ++ (zb_X7_init E (a + 78) ++ (zb_X5_init E (a + 87) ++ (zb_X8_init E (a + 90)))))))))
theorem zrg_X10_init {E : zE} {a : Nat} : zRg (zb_X10_init E a) a (a + 93) := by
  exact ((zRg_1).mono (by omega) (by omega)).app (((zrg_X9_init).mono (by omega) (by omega)).app (((zRg_1).mono (by omega) (by omega)).app (((zrg_X4_init).mono (by omega) (by omega)).app (((zrg_X3_init).mono (by omega) (by omega)).app (((zrg_X7_init).mono (by omega) (by omega)).app (((zrg_X5_init).mono (by omega) (by omega)).app ((zrg_X8_init).mono (by omega) (by omega))))))))
set_option maxRecDepth 40000 in
set_option maxHeartbeats 4000000 in
theorem ci_X10_init (l : Launch) {E : zE} {a : Nat} : Met l yX10_init (Cond.code yX10_init cX10_init 1 none :: zb) rmi_X10_init (va_Pc [.ref a] (zI E a 10 [.null, .null, .null, .null, .null, .null, .null])) (zQv (S := Unit) (fun _ => True) (zJ E a 93 (zb_X10_init E a)) (fun q => a ≤ q)) 92 2688 (fun q => a ≤ q) := by
  refine Met.ofW (cc := cX10_init) (maxL := 1) (ret := none) (by decide) rfl ?_
  intro p e s m args below meth c s₁ B hml hv
  obtain ⟨rfl, hsz, g0, hK, hO⟩ := hv
  have zc := zc_of B hml
  have hx := zc.1
  have hb := zc.2.1
  have hz := zc.2.2.2.2.1
  have hin : meth.name = "<init>" := (name_of_methodNamed B.named B.method).1
  have hS : va_S (fun q => a ≤ q) s.heap s.heap [] := va_S.rf
  have hl := lv_entry ([.ref a]) (n := 1) (Nat.le_of_ble_eq_true rfl)
  rw [lg_entry_eq]
  generalize (lg_sl ([.ref a]) ++ List.replicate (1 - (lg_sl ([.ref a])).length) Slot.unset).toArray = ls at hl ⊢
  have hl : lv_has ls 1 [(0, .ref a)] := hl
  refine lv_aload_n hx hb dX10_init_0 rfl (lv_at hl 0 rfl) ?_
  refine W.objInit hx hb zc.2.2.2.1 (hz _ km_10_1) (hz _ k_oi) (hz _ k_oc) rfl (by rw [zc.2.2.1]; exact hl.1) rfl dX10_init_1 (Nat.le_of_ble_eq_true rfl) (Nat.le_of_ble_eq_true rfl) ?_
  refine W.eq (g2 := F0 m 4 ls []) rfl ?_
  refine lv_aload_n hx hb dX10_init_4 rfl (lv_at hl 0 rfl) ?_
  refine zNew (ws := []) (C := RX9) (T := TX9) (N := 9) (ci := 9) zc hK (fun k q h => by simp at h) hS hsz uw9 tyX9 tyX9_ok kcl_10_7 kins_9 kinit_9 rfl [.null, .int 0, .int 0, .int 0, .null, .null, .null, .null, .null] (fun j hj => match j, hj with | 0, _ => rfl | 1, _ => rfl | 2, _ => rfl | 3, _ => rfl | 4, _ => rfl | 5, _ => rfl | 6, _ => rfl | 7, _ => rfl | 8, _ => rfl | j + 9, hj => absurd hj (by omega)) (Nat.le_of_ble_eq_true rfl) (Nat.le_of_ble_eq_true rfl) dX10_init_5 (fun H1 hN o1 hz1 hS => ?_)
  have g0 := zkp g0 zRg_1 (fun q h1 _ _ => o1 q (Nat.lt_of_lt_of_eq h1 hsz))
  have g1 : va_P E.1 zcl [((a + 1), .inr (9, [.null, .int 0, .int 0, .int 0, .null, .null, .null, .null, .null]))] H1 := hN
  have hsz : H1.size = a + 2 := hz1
  refine W.cs (cells' := 1) (slots' := 9) rfl rfl ?_
  refine lv_dup hx hb dX10_init_8 rfl ?_
  refine zIc zc ky_X9_init kz_X9_init rfl km_10_9 (ci_X9_init l) (zIpre hK hO g1 hsz) hS (fun q (h : (a + 1) ≤ q) => Nat.le_trans (Nat.le_add_right a 1) h) hl.1 (Nat.le_of_ble_eq_true rfl) ⟨rfl, rfl⟩ ⟨Nat.le_of_ble_eq_true rfl, Nat.le_of_ble_eq_true rfl⟩ ⟨Nat.le_of_ble_eq_true rfl, Nat.le_of_ble_eq_true rfl⟩ dX10_init_9 (fun _ H2 locs _ hJ hk hS => ?_)
  have g0 := zkp g0 zRg_1 (fun q h1 _ h3 => hk q h1 (zge_n (a := a) (i := 1) (j := 1) h3 (Nat.le_of_ble_eq_true rfl)))
  have g1 := hJ.1
  have hsz : H2.size = a + 48 := hJ.2
  refine W.cs (cells' := 47) (slots' := 1261) rfl rfl ?_
  refine zPut (C := RX10) (T := TX10) (N := 7) (ci := 10) (v := .ref (a + 1)) (ty := .object "DownhillSong$Told") zc hK g0 (zD1 (Nat.le_refl a)) hS uw10 tyX10 tyX10_ok nmX10 0 rfl rfl 0 (by decide) kf_10_10 (fun _ h9 => h9) (Or.inr ⟨rfl, hin, rfl⟩) (by decide +kernel) rfl rfl (Nat.le_of_ble_eq_true rfl) dX10_init_12 (fun H3 locs hN oq hz1 hS => ?_)
  have g1 := zkp g1 zrg_X9_init (fun q _ h2 h3 => oq q (znA (a := a) (i := 1) (p := 0) h2 (Nat.le_of_ble_eq_true rfl)))
  have g0 : va_P E.1 zcl [(a, .inr (10, [.ref (a + 1), .null, .null, .null, .null, .null, .null]))] H3 := hN
  have hsz := hz1.trans hsz
  refine lv_aload_n hx hb dX10_init_15 rfl (lv_at hl 0 rfl) ?_
  refine lv_iconst (v := (3 : Int32)) hx hb dX10_init_16 (by decide) ?_
  refine zNewq (ws := []) (t := 8) (N := 3) zc hK (hO RX9 (by simp [zover])) (fun k q h => by simp at h) hS hsz kcl_10_7 rfl (by decide) (by decide) (by decide) (Nat.le_of_ble_eq_true rfl) (Nat.le_of_ble_eq_true rfl) dX10_init_17 (fun H4 hN o1 hz1 hS => ?_)
  have g0 := zkp g0 zRg_1 (fun q h1 _ _ => o1 q (Nat.lt_of_lt_of_eq h1 hsz))
  have g1 := zkp g1 zrg_X9_init (fun q h1 _ _ => o1 q (Nat.lt_of_lt_of_eq h1 hsz))
  have g48 : va_P E.1 zcl [((a + 48), .inl (E.2 8, 3, .inr (.inr (.inr (.inr (fun _ => none))))))] H4 := hN
  have hsz : H4.size = a + 49 := hz1
  refine W.cs (cells' := 48) (slots' := 1264) rfl rfl ?_
  refine zPut (C := RX10) (T := TX10) (N := 7) (ci := 10) (v := .ref (a + 48)) (ty := .array (.object "DownhillSong$Told")) zc hK g0 (zD1 (Nat.le_refl a)) hS uw10 tyX10 tyX10_ok nmX10 0 rfl rfl 1 (by decide) kf_10_16 (fun _ h9 => h9) (Or.inr ⟨rfl, hin, rfl⟩) (by decide +kernel) rfl rfl (Nat.le_of_ble_eq_true rfl) dX10_init_20 (fun H5 locs hN oq hz1 hS => ?_)
  have g1 := zkp g1 zrg_X9_init (fun q _ h2 h3 => oq q (znA (a := a) (i := 1) (p := 0) h2 (Nat.le_of_ble_eq_true rfl)))
  have g48 := zkp g48 zRg_1 (fun q _ h2 h3 => oq q (znA (a := a) (i := 48) (p := 0) h2 (Nat.le_of_ble_eq_true rfl)))
  have g0 : va_P E.1 zcl [(a, .inr (10, [.ref (a + 1), .ref (a + 48), .null, .null, .null, .null, .null]))] H5 := hN
  have hsz := hz1.trans hsz
  refine lv_aload_n hx hb dX10_init_23 rfl (lv_at hl 0 rfl) ?_
  refine zNew (ws := []) (C := RX4) (T := TX4) (N := 15) (ci := 4) zc hK (fun k q h => by simp at h) hS hsz uw4 tyX4 tyX4_ok kcl_10_20 kins_4 kinit_4 rfl [.null, .null, .null, .null, .int 0, .int 0, .null, .null, .int 0, .int 0, .int 0, .int 0, .int 0, .int 0, .int 0] (fun j hj => match j, hj with | 0, _ => rfl | 1, _ => rfl | 2, _ => rfl | 3, _ => rfl | 4, _ => rfl | 5, _ => rfl | 6, _ => rfl | 7, _ => rfl | 8, _ => rfl | 9, _ => rfl | 10, _ => rfl | 11, _ => rfl | 12, _ => rfl | 13, _ => rfl | 14, _ => rfl | j + 15, hj => absurd hj (by omega)) (Nat.le_of_ble_eq_true rfl) (Nat.le_of_ble_eq_true rfl) dX10_init_24 (fun H6 hN o1 hz1 hS => ?_)
  have g0 := zkp g0 zRg_1 (fun q h1 _ _ => o1 q (Nat.lt_of_lt_of_eq h1 hsz))
  have g1 := zkp g1 zrg_X9_init (fun q h1 _ _ => o1 q (Nat.lt_of_lt_of_eq h1 hsz))
  have g48 := zkp g48 zRg_1 (fun q h1 _ _ => o1 q (Nat.lt_of_lt_of_eq h1 hsz))
  have g49 : va_P E.1 zcl [((a + 49), .inr (4, [.null, .null, .null, .null, .int 0, .int 0, .null, .null, .int 0, .int 0, .int 0, .int 0, .int 0, .int 0, .int 0]))] H6 := hN
  have hsz : H6.size = a + 50 := hz1
  refine W.cs (cells' := 49) (slots' := 1279) rfl rfl ?_
  refine lv_dup hx hb dX10_init_27 rfl ?_
  refine zIc zc ky_X4_init kz_X4_init rfl km_10_22 (ci_X4_init l) (zIpre hK hO g49 hsz) hS (fun q (h : (a + 49) ≤ q) => Nat.le_trans (Nat.le_add_right a 49) h) hl.1 (Nat.le_of_ble_eq_true rfl) ⟨rfl, rfl⟩ ⟨Nat.le_of_ble_eq_true rfl, Nat.le_of_ble_eq_true rfl⟩ ⟨Nat.le_of_ble_eq_true rfl, Nat.le_of_ble_eq_true rfl⟩ dX10_init_28 (fun _ H7 locs _ hJ hk hS => ?_)
  have g0 := zkp g0 zRg_1 (fun q h1 _ h3 => hk q h1 (zge_n (a := a) (i := 1) (j := 49) h3 (Nat.le_of_ble_eq_true rfl)))
  have g1 := zkp g1 zrg_X9_init (fun q h1 _ h3 => hk q h1 (zge_n (a := a) (i := 48) (j := 49) h3 (Nat.le_of_ble_eq_true rfl)))
  have g48 := zkp g48 zRg_1 (fun q h1 _ h3 => hk q h1 (zge_n (a := a) (i := 49) (j := 49) h3 (Nat.le_of_ble_eq_true rfl)))
  have g49 := hJ.1
  have hsz : H7.size = a + 72 := hJ.2
  refine W.cs (cells' := 71) (slots' := 2202) rfl rfl ?_
  refine zPut (C := RX10) (T := TX10) (N := 7) (ci := 10) (v := .ref (a + 49)) (ty := .object "DownhillSong$Reader") zc hK g0 (zD1 (Nat.le_refl a)) hS uw10 tyX10 tyX10_ok nmX10 0 rfl rfl 2 (by decide) kf_10_23 (fun _ h9 => h9) (Or.inr ⟨rfl, hin, rfl⟩) (by decide +kernel) rfl rfl (Nat.le_of_ble_eq_true rfl) dX10_init_31 (fun H8 locs hN oq hz1 hS => ?_)
  have g1 := zkp g1 zrg_X9_init (fun q _ h2 h3 => oq q (znA (a := a) (i := 1) (p := 0) h2 (Nat.le_of_ble_eq_true rfl)))
  have g48 := zkp g48 zRg_1 (fun q _ h2 h3 => oq q (znA (a := a) (i := 48) (p := 0) h2 (Nat.le_of_ble_eq_true rfl)))
  have g49 := zkp g49 zrg_X4_init (fun q _ h2 h3 => oq q (znA (a := a) (i := 49) (p := 0) h2 (Nat.le_of_ble_eq_true rfl)))
  have g0 : va_P E.1 zcl [(a, .inr (10, [.ref (a + 1), .ref (a + 48), .ref (a + 49), .null, .null, .null, .null]))] H8 := hN
  have hsz := hz1.trans hsz
  refine lv_aload_n hx hb dX10_init_34 rfl (lv_at hl 0 rfl) ?_
  refine zNew (ws := []) (C := RX3) (T := TX3) (N := 10) (ci := 3) zc hK (fun k q h => by simp at h) hS hsz uw3 tyX3 tyX3_ok kcl_10_27 kins_3 kinit_3 rfl [.int 0, .int 0, .int 0, .int 0, .int 0, .null, .null, .null, .null, .null] (fun j hj => match j, hj with | 0, _ => rfl | 1, _ => rfl | 2, _ => rfl | 3, _ => rfl | 4, _ => rfl | 5, _ => rfl | 6, _ => rfl | 7, _ => rfl | 8, _ => rfl | 9, _ => rfl | j + 10, hj => absurd hj (by omega)) (Nat.le_of_ble_eq_true rfl) (Nat.le_of_ble_eq_true rfl) dX10_init_35 (fun H9 hN o1 hz1 hS => ?_)
  have g0 := zkp g0 zRg_1 (fun q h1 _ _ => o1 q (Nat.lt_of_lt_of_eq h1 hsz))
  have g1 := zkp g1 zrg_X9_init (fun q h1 _ _ => o1 q (Nat.lt_of_lt_of_eq h1 hsz))
  have g48 := zkp g48 zRg_1 (fun q h1 _ _ => o1 q (Nat.lt_of_lt_of_eq h1 hsz))
  have g49 := zkp g49 zrg_X4_init (fun q h1 _ _ => o1 q (Nat.lt_of_lt_of_eq h1 hsz))
  have g72 : va_P E.1 zcl [((a + 72), .inr (3, [.int 0, .int 0, .int 0, .int 0, .int 0, .null, .null, .null, .null, .null]))] H9 := hN
  have hsz : H9.size = a + 73 := hz1
  refine W.cs (cells' := 72) (slots' := 2212) rfl rfl ?_
  refine lv_dup hx hb dX10_init_38 rfl ?_
  refine zIc zc ky_X3_init kz_X3_init rfl km_10_29 (ci_X3_init l) (zIpre hK hO g72 hsz) hS (fun q (h : (a + 72) ≤ q) => Nat.le_trans (Nat.le_add_right a 72) h) hl.1 (Nat.le_of_ble_eq_true rfl) ⟨rfl, rfl⟩ ⟨Nat.le_of_ble_eq_true rfl, Nat.le_of_ble_eq_true rfl⟩ ⟨Nat.le_of_ble_eq_true rfl, Nat.le_of_ble_eq_true rfl⟩ dX10_init_39 (fun _ H10 locs _ hJ hk hS => ?_)
  have g0 := zkp g0 zRg_1 (fun q h1 _ h3 => hk q h1 (zge_n (a := a) (i := 1) (j := 72) h3 (Nat.le_of_ble_eq_true rfl)))
  have g1 := zkp g1 zrg_X9_init (fun q h1 _ h3 => hk q h1 (zge_n (a := a) (i := 48) (j := 72) h3 (Nat.le_of_ble_eq_true rfl)))
  have g48 := zkp g48 zRg_1 (fun q h1 _ h3 => hk q h1 (zge_n (a := a) (i := 49) (j := 72) h3 (Nat.le_of_ble_eq_true rfl)))
  have g49 := zkp g49 zrg_X4_init (fun q h1 _ h3 => hk q h1 (zge_n (a := a) (i := 72) (j := 72) h3 (Nat.le_of_ble_eq_true rfl)))
  have g72 := hJ.1
  have hsz : H10.size = a + 78 := hJ.2
  refine W.cs (cells' := 77) (slots' := 2247) rfl rfl ?_
  refine zPut (C := RX10) (T := TX10) (N := 7) (ci := 10) (v := .ref (a + 72)) (ty := .object "DownhillSong$Night") zc hK g0 (zD1 (Nat.le_refl a)) hS uw10 tyX10 tyX10_ok nmX10 0 rfl rfl 3 (by decide) kf_10_30 (fun _ h9 => h9) (Or.inr ⟨rfl, hin, rfl⟩) (by decide +kernel) rfl rfl (Nat.le_of_ble_eq_true rfl) dX10_init_42 (fun H11 locs hN oq hz1 hS => ?_)
  have g1 := zkp g1 zrg_X9_init (fun q _ h2 h3 => oq q (znA (a := a) (i := 1) (p := 0) h2 (Nat.le_of_ble_eq_true rfl)))
  have g48 := zkp g48 zRg_1 (fun q _ h2 h3 => oq q (znA (a := a) (i := 48) (p := 0) h2 (Nat.le_of_ble_eq_true rfl)))
  have g49 := zkp g49 zrg_X4_init (fun q _ h2 h3 => oq q (znA (a := a) (i := 49) (p := 0) h2 (Nat.le_of_ble_eq_true rfl)))
  have g72 := zkp g72 zrg_X3_init (fun q _ h2 h3 => oq q (znA (a := a) (i := 72) (p := 0) h2 (Nat.le_of_ble_eq_true rfl)))
  have g0 : va_P E.1 zcl [(a, .inr (10, [.ref (a + 1), .ref (a + 48), .ref (a + 49), .ref (a + 72), .null, .null, .null]))] H11 := hN
  have hsz := hz1.trans hsz
  refine lv_aload_n hx hb dX10_init_45 rfl (lv_at hl 0 rfl) ?_
  refine zNew (ws := []) (C := RX7) (T := TX7) (N := 8) (ci := 7) zc hK (fun k q h => by simp at h) hS hsz uw7 tyX7 tyX7_ok kcl_10_34 kins_7 kinit_7 rfl [.null, .null, .null, .null, .null, .null, .null, .null] (fun j hj => match j, hj with | 0, _ => rfl | 1, _ => rfl | 2, _ => rfl | 3, _ => rfl | 4, _ => rfl | 5, _ => rfl | 6, _ => rfl | 7, _ => rfl | j + 8, hj => absurd hj (by omega)) (Nat.le_of_ble_eq_true rfl) (Nat.le_of_ble_eq_true rfl) dX10_init_46 (fun H12 hN o1 hz1 hS => ?_)
  have g0 := zkp g0 zRg_1 (fun q h1 _ _ => o1 q (Nat.lt_of_lt_of_eq h1 hsz))
  have g1 := zkp g1 zrg_X9_init (fun q h1 _ _ => o1 q (Nat.lt_of_lt_of_eq h1 hsz))
  have g48 := zkp g48 zRg_1 (fun q h1 _ _ => o1 q (Nat.lt_of_lt_of_eq h1 hsz))
  have g49 := zkp g49 zrg_X4_init (fun q h1 _ _ => o1 q (Nat.lt_of_lt_of_eq h1 hsz))
  have g72 := zkp g72 zrg_X3_init (fun q h1 _ _ => o1 q (Nat.lt_of_lt_of_eq h1 hsz))
  have g78 : va_P E.1 zcl [((a + 78), .inr (7, [.null, .null, .null, .null, .null, .null, .null, .null]))] H12 := hN
  have hsz : H12.size = a + 79 := hz1
  refine W.cs (cells' := 78) (slots' := 2255) rfl rfl ?_
  refine lv_dup hx hb dX10_init_49 rfl ?_
  refine zIc zc ky_X7_init kz_X7_init rfl km_10_36 (ci_X7_init l) (zIpre hK hO g78 hsz) hS (fun q (h : (a + 78) ≤ q) => Nat.le_trans (Nat.le_add_right a 78) h) hl.1 (Nat.le_of_ble_eq_true rfl) ⟨rfl, rfl⟩ ⟨Nat.le_of_ble_eq_true rfl, Nat.le_of_ble_eq_true rfl⟩ ⟨Nat.le_of_ble_eq_true rfl, Nat.le_of_ble_eq_true rfl⟩ dX10_init_50 (fun _ H13 locs _ hJ hk hS => ?_)
  have g0 := zkp g0 zRg_1 (fun q h1 _ h3 => hk q h1 (zge_n (a := a) (i := 1) (j := 78) h3 (Nat.le_of_ble_eq_true rfl)))
  have g1 := zkp g1 zrg_X9_init (fun q h1 _ h3 => hk q h1 (zge_n (a := a) (i := 48) (j := 78) h3 (Nat.le_of_ble_eq_true rfl)))
  have g48 := zkp g48 zRg_1 (fun q h1 _ h3 => hk q h1 (zge_n (a := a) (i := 49) (j := 78) h3 (Nat.le_of_ble_eq_true rfl)))
  have g49 := zkp g49 zrg_X4_init (fun q h1 _ h3 => hk q h1 (zge_n (a := a) (i := 72) (j := 78) h3 (Nat.le_of_ble_eq_true rfl)))
  have g72 := zkp g72 zrg_X3_init (fun q h1 _ h3 => hk q h1 (zge_n (a := a) (i := 78) (j := 78) h3 (Nat.le_of_ble_eq_true rfl)))
  have g78 := hJ.1
  have hsz : H13.size = a + 87 := hJ.2
  refine W.cs (cells' := 86) (slots' := 2471) rfl rfl ?_
  refine zPut (C := RX10) (T := TX10) (N := 7) (ci := 10) (v := .ref (a + 78)) (ty := .object "DownhillSong$Slope") zc hK g0 (zD1 (Nat.le_refl a)) hS uw10 tyX10 tyX10_ok nmX10 0 rfl rfl 4 (by decide) kf_10_37 (fun _ h9 => h9) (Or.inr ⟨rfl, hin, rfl⟩) (by decide +kernel) rfl rfl (Nat.le_of_ble_eq_true rfl) dX10_init_53 (fun H14 locs hN oq hz1 hS => ?_)
  have g1 := zkp g1 zrg_X9_init (fun q _ h2 h3 => oq q (znA (a := a) (i := 1) (p := 0) h2 (Nat.le_of_ble_eq_true rfl)))
  have g48 := zkp g48 zRg_1 (fun q _ h2 h3 => oq q (znA (a := a) (i := 48) (p := 0) h2 (Nat.le_of_ble_eq_true rfl)))
  have g49 := zkp g49 zrg_X4_init (fun q _ h2 h3 => oq q (znA (a := a) (i := 49) (p := 0) h2 (Nat.le_of_ble_eq_true rfl)))
  have g72 := zkp g72 zrg_X3_init (fun q _ h2 h3 => oq q (znA (a := a) (i := 72) (p := 0) h2 (Nat.le_of_ble_eq_true rfl)))
  have g78 := zkp g78 zrg_X7_init (fun q _ h2 h3 => oq q (znA (a := a) (i := 78) (p := 0) h2 (Nat.le_of_ble_eq_true rfl)))
  have g0 : va_P E.1 zcl [(a, .inr (10, [.ref (a + 1), .ref (a + 48), .ref (a + 49), .ref (a + 72), .ref (a + 78), .null, .null]))] H14 := hN
  have hsz := hz1.trans hsz
  refine lv_aload_n hx hb dX10_init_56 rfl (lv_at hl 0 rfl) ?_
  refine zNew (ws := []) (C := RX5) (T := TX5) (N := 3) (ci := 5) zc hK (fun k q h => by simp at h) hS hsz uw5 tyX5 tyX5_ok kcl_10_41 kins_5 kinit_5 rfl [.null, .null, .null] (fun j hj => match j, hj with | 0, _ => rfl | 1, _ => rfl | 2, _ => rfl | j + 3, hj => absurd hj (by omega)) (Nat.le_of_ble_eq_true rfl) (Nat.le_of_ble_eq_true rfl) dX10_init_57 (fun H15 hN o1 hz1 hS => ?_)
  have g0 := zkp g0 zRg_1 (fun q h1 _ _ => o1 q (Nat.lt_of_lt_of_eq h1 hsz))
  have g1 := zkp g1 zrg_X9_init (fun q h1 _ _ => o1 q (Nat.lt_of_lt_of_eq h1 hsz))
  have g48 := zkp g48 zRg_1 (fun q h1 _ _ => o1 q (Nat.lt_of_lt_of_eq h1 hsz))
  have g49 := zkp g49 zrg_X4_init (fun q h1 _ _ => o1 q (Nat.lt_of_lt_of_eq h1 hsz))
  have g72 := zkp g72 zrg_X3_init (fun q h1 _ _ => o1 q (Nat.lt_of_lt_of_eq h1 hsz))
  have g78 := zkp g78 zrg_X7_init (fun q h1 _ _ => o1 q (Nat.lt_of_lt_of_eq h1 hsz))
  have g87 : va_P E.1 zcl [((a + 87), .inr (5, [.null, .null, .null]))] H15 := hN
  have hsz : H15.size = a + 88 := hz1
  refine W.cs (cells' := 87) (slots' := 2474) rfl rfl ?_
  refine lv_dup hx hb dX10_init_60 rfl ?_
  refine zIc zc ky_X5_init kz_X5_init rfl km_10_43 (ci_X5_init l) (zIpre hK hO g87 hsz) hS (fun q (h : (a + 87) ≤ q) => Nat.le_trans (Nat.le_add_right a 87) h) hl.1 (Nat.le_of_ble_eq_true rfl) ⟨rfl, rfl⟩ ⟨Nat.le_of_ble_eq_true rfl, Nat.le_of_ble_eq_true rfl⟩ ⟨Nat.le_of_ble_eq_true rfl, Nat.le_of_ble_eq_true rfl⟩ dX10_init_61 (fun _ H16 locs _ hJ hk hS => ?_)
  have g0 := zkp g0 zRg_1 (fun q h1 _ h3 => hk q h1 (zge_n (a := a) (i := 1) (j := 87) h3 (Nat.le_of_ble_eq_true rfl)))
  have g1 := zkp g1 zrg_X9_init (fun q h1 _ h3 => hk q h1 (zge_n (a := a) (i := 48) (j := 87) h3 (Nat.le_of_ble_eq_true rfl)))
  have g48 := zkp g48 zRg_1 (fun q h1 _ h3 => hk q h1 (zge_n (a := a) (i := 49) (j := 87) h3 (Nat.le_of_ble_eq_true rfl)))
  have g49 := zkp g49 zrg_X4_init (fun q h1 _ h3 => hk q h1 (zge_n (a := a) (i := 72) (j := 87) h3 (Nat.le_of_ble_eq_true rfl)))
  have g72 := zkp g72 zrg_X3_init (fun q h1 _ h3 => hk q h1 (zge_n (a := a) (i := 78) (j := 87) h3 (Nat.le_of_ble_eq_true rfl)))
  have g78 := zkp g78 zrg_X7_init (fun q h1 _ h3 => hk q h1 (zge_n (a := a) (i := 87) (j := 87) h3 (Nat.le_of_ble_eq_true rfl)))
  have g87 := hJ.1
  have hsz : H16.size = a + 90 := hJ.2
  refine W.cs (cells' := 89) (slots' := 2564) rfl rfl ?_
  refine zPut (C := RX10) (T := TX10) (N := 7) (ci := 10) (v := .ref (a + 87)) (ty := .object "DownhillSong$Rows") zc hK g0 (zD1 (Nat.le_refl a)) hS uw10 tyX10 tyX10_ok nmX10 0 rfl rfl 5 (by decide) kf_10_44 (fun _ h9 => h9) (Or.inr ⟨rfl, hin, rfl⟩) (by decide +kernel) rfl rfl (Nat.le_of_ble_eq_true rfl) dX10_init_64 (fun H17 locs hN oq hz1 hS => ?_)
  have g1 := zkp g1 zrg_X9_init (fun q _ h2 h3 => oq q (znA (a := a) (i := 1) (p := 0) h2 (Nat.le_of_ble_eq_true rfl)))
  have g48 := zkp g48 zRg_1 (fun q _ h2 h3 => oq q (znA (a := a) (i := 48) (p := 0) h2 (Nat.le_of_ble_eq_true rfl)))
  have g49 := zkp g49 zrg_X4_init (fun q _ h2 h3 => oq q (znA (a := a) (i := 49) (p := 0) h2 (Nat.le_of_ble_eq_true rfl)))
  have g72 := zkp g72 zrg_X3_init (fun q _ h2 h3 => oq q (znA (a := a) (i := 72) (p := 0) h2 (Nat.le_of_ble_eq_true rfl)))
  have g78 := zkp g78 zrg_X7_init (fun q _ h2 h3 => oq q (znA (a := a) (i := 78) (p := 0) h2 (Nat.le_of_ble_eq_true rfl)))
  have g87 := zkp g87 zrg_X5_init (fun q _ h2 h3 => oq q (znA (a := a) (i := 87) (p := 0) h2 (Nat.le_of_ble_eq_true rfl)))
  have g0 : va_P E.1 zcl [(a, .inr (10, [.ref (a + 1), .ref (a + 48), .ref (a + 49), .ref (a + 72), .ref (a + 78), .ref (a + 87), .null]))] H17 := hN
  have hsz := hz1.trans hsz
  refine lv_aload_n hx hb dX10_init_67 rfl (lv_at hl 0 rfl) ?_
  refine zNew (ws := []) (C := RX8) (T := TX8) (N := 2) (ci := 8) zc hK (fun k q h => by simp at h) hS hsz uw8 tyX8 tyX8_ok kcl_10_48 kins_8 kinit_8 rfl [.null, .null] (fun j hj => match j, hj with | 0, _ => rfl | 1, _ => rfl | j + 2, hj => absurd hj (by omega)) (Nat.le_of_ble_eq_true rfl) (Nat.le_of_ble_eq_true rfl) dX10_init_68 (fun H18 hN o1 hz1 hS => ?_)
  have g0 := zkp g0 zRg_1 (fun q h1 _ _ => o1 q (Nat.lt_of_lt_of_eq h1 hsz))
  have g1 := zkp g1 zrg_X9_init (fun q h1 _ _ => o1 q (Nat.lt_of_lt_of_eq h1 hsz))
  have g48 := zkp g48 zRg_1 (fun q h1 _ _ => o1 q (Nat.lt_of_lt_of_eq h1 hsz))
  have g49 := zkp g49 zrg_X4_init (fun q h1 _ _ => o1 q (Nat.lt_of_lt_of_eq h1 hsz))
  have g72 := zkp g72 zrg_X3_init (fun q h1 _ _ => o1 q (Nat.lt_of_lt_of_eq h1 hsz))
  have g78 := zkp g78 zrg_X7_init (fun q h1 _ _ => o1 q (Nat.lt_of_lt_of_eq h1 hsz))
  have g87 := zkp g87 zrg_X5_init (fun q h1 _ _ => o1 q (Nat.lt_of_lt_of_eq h1 hsz))
  have g90 : va_P E.1 zcl [((a + 90), .inr (8, [.null, .null]))] H18 := hN
  have hsz : H18.size = a + 91 := hz1
  refine W.cs (cells' := 90) (slots' := 2566) rfl rfl ?_
  refine lv_dup hx hb dX10_init_71 rfl ?_
  refine zIc zc ky_X8_init kz_X8_init rfl km_10_50 (ci_X8_init l) (zIpre hK hO g90 hsz) hS (fun q (h : (a + 90) ≤ q) => Nat.le_trans (Nat.le_add_right a 90) h) hl.1 (Nat.le_of_ble_eq_true rfl) ⟨rfl, rfl⟩ ⟨Nat.le_of_ble_eq_true rfl, Nat.le_of_ble_eq_true rfl⟩ ⟨Nat.le_of_ble_eq_true rfl, Nat.le_of_ble_eq_true rfl⟩ dX10_init_72 (fun _ H19 locs _ hJ hk hS => ?_)
  have g0 := zkp g0 zRg_1 (fun q h1 _ h3 => hk q h1 (zge_n (a := a) (i := 1) (j := 90) h3 (Nat.le_of_ble_eq_true rfl)))
  have g1 := zkp g1 zrg_X9_init (fun q h1 _ h3 => hk q h1 (zge_n (a := a) (i := 48) (j := 90) h3 (Nat.le_of_ble_eq_true rfl)))
  have g48 := zkp g48 zRg_1 (fun q h1 _ h3 => hk q h1 (zge_n (a := a) (i := 49) (j := 90) h3 (Nat.le_of_ble_eq_true rfl)))
  have g49 := zkp g49 zrg_X4_init (fun q h1 _ h3 => hk q h1 (zge_n (a := a) (i := 72) (j := 90) h3 (Nat.le_of_ble_eq_true rfl)))
  have g72 := zkp g72 zrg_X3_init (fun q h1 _ h3 => hk q h1 (zge_n (a := a) (i := 78) (j := 90) h3 (Nat.le_of_ble_eq_true rfl)))
  have g78 := zkp g78 zrg_X7_init (fun q h1 _ h3 => hk q h1 (zge_n (a := a) (i := 87) (j := 90) h3 (Nat.le_of_ble_eq_true rfl)))
  have g87 := zkp g87 zrg_X5_init (fun q h1 _ h3 => hk q h1 (zge_n (a := a) (i := 90) (j := 90) h3 (Nat.le_of_ble_eq_true rfl)))
  have g90 := hJ.1
  have hsz : H19.size = a + 93 := hJ.2
  refine W.cs (cells' := 92) (slots' := 2688) rfl rfl ?_
  refine zPut (C := RX10) (T := TX10) (N := 7) (ci := 10) (v := .ref (a + 90)) (ty := .object "DownhillSong$Table") zc hK g0 (zD1 (Nat.le_refl a)) hS uw10 tyX10 tyX10_ok nmX10 0 rfl rfl 6 (by decide) kf_10_51 (fun _ h9 => h9) (Or.inr ⟨rfl, hin, rfl⟩) (by decide +kernel) rfl rfl (Nat.le_of_ble_eq_true rfl) dX10_init_75 (fun H20 locs hN oq hz1 hS => ?_)
  have g1 := zkp g1 zrg_X9_init (fun q _ h2 h3 => oq q (znA (a := a) (i := 1) (p := 0) h2 (Nat.le_of_ble_eq_true rfl)))
  have g48 := zkp g48 zRg_1 (fun q _ h2 h3 => oq q (znA (a := a) (i := 48) (p := 0) h2 (Nat.le_of_ble_eq_true rfl)))
  have g49 := zkp g49 zrg_X4_init (fun q _ h2 h3 => oq q (znA (a := a) (i := 49) (p := 0) h2 (Nat.le_of_ble_eq_true rfl)))
  have g72 := zkp g72 zrg_X3_init (fun q _ h2 h3 => oq q (znA (a := a) (i := 72) (p := 0) h2 (Nat.le_of_ble_eq_true rfl)))
  have g78 := zkp g78 zrg_X7_init (fun q _ h2 h3 => oq q (znA (a := a) (i := 78) (p := 0) h2 (Nat.le_of_ble_eq_true rfl)))
  have g87 := zkp g87 zrg_X5_init (fun q _ h2 h3 => oq q (znA (a := a) (i := 87) (p := 0) h2 (Nat.le_of_ble_eq_true rfl)))
  have g90 := zkp g90 zrg_X8_init (fun q _ h2 h3 => oq q (znA (a := a) (i := 90) (p := 0) h2 (Nat.le_of_ble_eq_true rfl)))
  have g0 : va_P E.1 zcl [(a, .inr (10, [.ref (a + 1), .ref (a + 48), .ref (a + 49), .ref (a + 72), .ref (a + 78), .ref (a + 87), .ref (a + 90)]))] H20 := hN
  have hsz := hz1.trans hsz
  exact zIret (post := fun _ => True) (B := zJ E a 93 ([(a, .inr (10, [.ref (a + 1), .ref (a + 48), .ref (a + 49), .ref (a + 72), .ref (a + 78), .ref (a + 87), .ref (a + 90)]))] ++ (zb_X9_init E (a + 1) ++ ([((a + 48), .inl (E.2 8, 3, .inr (.inr (.inr (.inr (fun _ => none))))))] ++ (zb_X4_init E (a + 49) ++ (zb_X3_init E (a + 72) ++ (zb_X7_init E (a + 78) ++ (zb_X5_init E (a + 87) ++ (zb_X8_init E (a + 90)))))))))) () zc hS trivial ⟨(va_P.app g0 (va_P.app g1 (va_P.app g48 (va_P.app g49 (va_P.app g72 (va_P.app g78 (va_P.app g87 g90))))))), hsz⟩ dX10_init_78
