abbrev rmi_X9_init : Room := { frames := 2, cells := 46, slots := 1252, locals := 40 }
abbrev zb_X9_init (E : zE) (a : Nat) : va_W := ([(a, .inr (9, [.ref (a + 1), .int 0, .int 0, .int (-1 : Int32), .ref (a + 2), .ref (a + 3), .ref (a + 22), .ref (a + 31), .ref (a + 40)]))] ++ ([((a + 1), .inl (E.2 0, 600, .inl (fun _ => 0)))] ++ ([((a + 2), .inl (E.2 1, 4, .inl (fun _ => 0)))] ++ ([((a + 3), .inl (E.2 4, 2, .inr (.inr (.inr (.inr (fun k => if k = 0 then some (a + 4) else some (a + 13)))))))] ++ (zb_X2_init E (a + 4) ++ (zb_X2_init E (a + 13) ++ ([((a + 22), .inl (E.2 5, 2, .inr (.inr (.inr (.inr (fun k => if k = 0 then some (a + 23) else some (a + 27)))))))] ++ (zb_X1_init E (a + 23) ++ (zb_X1_init E (a + 27) ++ ([((a + 31), .inl (E.2 6, 2, .inr (.inr (.inr (.inr (fun k => if k = 0 then some (a + 32) else some (a + 36)))))))] ++ (zb_X6_init E (a + 32) ++ (zb_X6_init E (a + 36) ++ ([((a + 40), .inl (E.2 7, 2, .inr (.inr (.inr (.inr (fun k => if k = 0 then some (a + 41) else some (a + 44)))))))] ++ (zb_X0_init E (a + 41) ++ (zb_X0_init E (a + 44))))))))))))))))
theorem zrg_X9_init {E : zE} {a : Nat} : zRg (zb_X9_init E a) a (a + 47) := by
  exact ((zRg_1).mono (by omega) (by omega)).app (((zRg_1).mono (by omega) (by omega)).app (((zRg_1).mono (by omega) (by omega)).app (((zRg_1).mono (by omega) (by omega)).app (((zrg_X2_init).mono (by omega) (by omega)).app (((zrg_X2_init).mono (by omega) (by omega)).app (((zRg_1).mono (by omega) (by omega)).app (((zrg_X1_init).mono (by omega) (by omega)).app (((zrg_X1_init).mono (by omega) (by omega)).app (((zRg_1).mono (by omega) (by omega)).app (((zrg_X6_init).mono (by omega) (by omega)).app (((zrg_X6_init).mono (by omega) (by omega)).app (((zRg_1).mono (by omega) (by omega)).app (((zrg_X0_init).mono (by omega) (by omega)).app ((zrg_X0_init).mono (by omega) (by omega)))))))))))))))
set_option maxRecDepth 40000 in
set_option maxHeartbeats 4000000 in
theorem ci_X9_init (l : Launch) {E : zE} {a : Nat} : Met l yX9_init (Cond.code yX9_init cX9_init 1 none :: zb) rmi_X9_init (va_Pc [.ref a] (zI E a 9 [.null, .int 0, .int 0, .int 0, .null, .null, .null, .null, .null])) (zQv (S := Unit) (fun _ => True) (zJ E a 47 (zb_X9_init E a)) (fun q => a ≤ q)) 46 1252 (fun q => a ≤ q) := by
  refine Met.ofW (cc := cX9_init) (maxL := 1) (ret := none) (by decide) rfl ?_
  intro p e s m args below meth c s₁ B hml hv
  obtain ⟨rfl, hsz, g0, hK, hO⟩ := hv
  have zc := zc_of B hml
  have hx := zc.1
  have hb := zc.2.1
  have hz := zc.2.2.2.2.1
  have hin : meth.name = "<init>" := (name_of_methodNamed B.named B.method).1
  have hS : va_S (fun q => a ≤ q) s.heap s.heap [] := va_S.rf
  have hl := lv_entry ([.ref a]) (n := 1) (Nat.le_of_ble_eq_true rfl)
  rw [lg_entry_eq]
  generalize (lg_sl ([.ref a]) ++ List.replicate (1 - (lg_sl ([.ref a])).length) Slot.unset).toArray = ls at hl ⊢
  have hl : lv_has ls 1 [(0, .ref a)] := hl
  refine lv_aload_n hx hb dX9_init_0 rfl (lv_at hl 0 rfl) ?_
  refine W.objInit hx hb zc.2.2.2.1 (hz _ km_9_3) (hz _ k_oi) (hz _ k_oc) rfl (by rw [zc.2.2.1]; exact hl.1) rfl dX9_init_1 (Nat.le_of_ble_eq_true rfl) (Nat.le_of_ble_eq_true rfl) ?_
  refine W.eq (g2 := F0 m 4 ls []) rfl ?_
  refine lv_aload_n hx hb dX9_init_4 rfl (lv_at hl 0 rfl) ?_
  refine lv_sipush (v := (600 : Int32)) hx hb dX9_init_5 (by decide) ?_
  refine zNewa (ws := []) (atype := .byte) (t := 0) (N := 600) (a0 := (600, .inl (fun _ => 0))) zc hK (fun k q h => by simp at h) hS hsz kac_B rfl (fun _ => rfl) (by decide) (by decide) (by decide) (Nat.le_of_ble_eq_true rfl) (Nat.le_of_ble_eq_true rfl) dX9_init_8 (fun H1 hN o1 hz1 hS => ?_)
  have g0 := zkp g0 zRg_1 (fun q h1 _ _ => o1 q (Nat.lt_of_lt_of_eq h1 hsz))
  have g1 : va_P E.1 zcl [((a + 1), .inl (E.2 0, 600, .inl (fun _ => 0)))] H1 := hN
  have hsz : H1.size = a + 2 := hz1
  refine W.cs (cells' := 1) (slots' := 600) rfl rfl ?_
  refine zPut (C := RX9) (T := TX9) (N := 9) (ci := 9) (v := .ref (a + 1)) (ty := .array .byte) zc hK g0 (zD1 (Nat.le_refl a)) hS uw9 tyX9 tyX9_ok nmX9 0 rfl rfl 0 (by decide) kf_9_9 (fun _ h9 => h9) (Or.inr ⟨rfl, hin, rfl⟩) (by decide +kernel) rfl rfl (Nat.le_of_ble_eq_true rfl) dX9_init_10 (fun H2 locs hN oq hz1 hS => ?_)
  have g1 := zkp g1 zRg_1 (fun q _ h2 h3 => oq q (znA (a := a) (i := 1) (p := 0) h2 (Nat.le_of_ble_eq_true rfl)))
  have g0 : va_P E.1 zcl [(a, .inr (9, [.ref (a + 1), .int 0, .int 0, .int 0, .null, .null, .null, .null, .null]))] H2 := hN
  have hsz := hz1.trans hsz
  refine lv_aload_n hx hb dX9_init_13 rfl (lv_at hl 0 rfl) ?_
  refine lv_iconst (v := (-1 : Int32)) hx hb dX9_init_14 (by decide) ?_
  refine zPut (C := RX9) (T := TX9) (N := 9) (ci := 9) (v := .int (-1 : Int32)) (ty := .int) zc hK g0 (zD1 (Nat.le_refl a)) hS uw9 tyX9 tyX9_ok nmX9 0 rfl rfl 3 (by decide) kf_9_15 (fun _ h9 => h9) (Or.inl rfl) (by decide +kernel) rfl rfl (Nat.le_of_ble_eq_true rfl) dX9_init_15 (fun H3 locs hN oq hz1 hS => ?_)
  have g1 := zkp g1 zRg_1 (fun q _ h2 h3 => oq q (znA (a := a) (i := 1) (p := 0) h2 (Nat.le_of_ble_eq_true rfl)))
  have g0 : va_P E.1 zcl [(a, .inr (9, [.ref (a + 1), .int 0, .int 0, .int (-1 : Int32), .null, .null, .null, .null, .null]))] H3 := hN
  have hsz := hz1.trans hsz
  refine lv_aload_n hx hb dX9_init_18 rfl (lv_at hl 0 rfl) ?_
  refine lv_iconst (v := (4 : Int32)) hx hb dX9_init_19 (by decide) ?_
  refine zNewa (ws := []) (atype := .int) (t := 1) (N := 4) (a0 := (4, .inl (fun _ => 0))) zc hK (fun k q h => by simp at h) hS hsz kac_I rfl (fun _ => rfl) (by decide) (by decide) (by decide) (Nat.le_of_ble_eq_true rfl) (Nat.le_of_ble_eq_true rfl) dX9_init_20 (fun H4 hN o1 hz1 hS => ?_)
  have g0 := zkp g0 zRg_1 (fun q h1 _ _ => o1 q (Nat.lt_of_lt_of_eq h1 hsz))
  have g1 := zkp g1 zRg_1 (fun q h1 _ _ => o1 q (Nat.lt_of_lt_of_eq h1 hsz))
  have g2 : va_P E.1 zcl [((a + 2), .inl (E.2 1, 4, .inl (fun _ => 0)))] H4 := hN
  have hsz : H4.size = a + 3 := hz1
  refine W.cs (cells' := 2) (slots' := 604) rfl rfl ?_
  refine zPut (C := RX9) (T := TX9) (N := 9) (ci := 9) (v := .ref (a + 2)) (ty := .array .int) zc hK g0 (zD1 (Nat.le_refl a)) hS uw9 tyX9 tyX9_ok nmX9 0 rfl rfl 4 (by decide) kf_9_19 (fun _ h9 => h9) (Or.inr ⟨rfl, hin, rfl⟩) (by decide +kernel) rfl rfl (Nat.le_of_ble_eq_true rfl) dX9_init_22 (fun H5 locs hN oq hz1 hS => ?_)
  have g1 := zkp g1 zRg_1 (fun q _ h2 h3 => oq q (znA (a := a) (i := 1) (p := 0) h2 (Nat.le_of_ble_eq_true rfl)))
  have g2 := zkp g2 zRg_1 (fun q _ h2 h3 => oq q (znA (a := a) (i := 2) (p := 0) h2 (Nat.le_of_ble_eq_true rfl)))
  have g0 : va_P E.1 zcl [(a, .inr (9, [.ref (a + 1), .int 0, .int 0, .int (-1 : Int32), .ref (a + 2), .null, .null, .null, .null]))] H5 := hN
  have hsz := hz1.trans hsz
  refine lv_aload_n hx hb dX9_init_25 rfl (lv_at hl 0 rfl) ?_
  refine lv_iconst (v := (2 : Int32)) hx hb dX9_init_26 (by decide) ?_
  refine zNewq (ws := []) (t := 4) (N := 2) zc hK (hO RX2 (by simp [zover])) (fun k q h => by simp at h) hS hsz kcl_9_23 rfl (by decide) (by decide) (by decide) (Nat.le_of_ble_eq_true rfl) (Nat.le_of_ble_eq_true rfl) dX9_init_27 (fun H6 hN o1 hz1 hS => ?_)
  have g0 := zkp g0 zRg_1 (fun q h1 _ _ => o1 q (Nat.lt_of_lt_of_eq h1 hsz))
  have g1 := zkp g1 zRg_1 (fun q h1 _ _ => o1 q (Nat.lt_of_lt_of_eq h1 hsz))
  have g2 := zkp g2 zRg_1 (fun q h1 _ _ => o1 q (Nat.lt_of_lt_of_eq h1 hsz))
  have g3 : va_P E.1 zcl [((a + 3), .inl (E.2 4, 2, .inr (.inr (.inr (.inr (fun _ => none))))))] H6 := hN
  have hsz : H6.size = a + 4 := hz1
  refine W.cs (cells' := 3) (slots' := 606) rfl rfl ?_
  refine lv_dup hx hb dX9_init_30 rfl ?_
  refine lv_iconst (v := (0 : Int32)) hx hb dX9_init_31 (by decide) ?_
  refine zNew (ws := []) (C := RX2) (T := TX2) (N := 15) (ci := 2) zc hK (fun k q h => by simp at h) hS hsz uw2 tyX2 tyX2_ok kcl_9_23 kins_2 kinit_2 rfl [.int 0, .int 0, .int 0, .int 0, .int 0, .int 0, .int 0, .null, .null, .null, .null, .null, .null, .null, .null] (fun j hj => match j, hj with | 0, _ => rfl | 1, _ => rfl | 2, _ => rfl | 3, _ => rfl | 4, _ => rfl | 5, _ => rfl | 6, _ => rfl | 7, _ => rfl | 8, _ => rfl | 9, _ => rfl | 10, _ => rfl | 11, _ => rfl | 12, _ => rfl | 13, _ => rfl | 14, _ => rfl | j + 15, hj => absurd hj (by omega)) (Nat.le_of_ble_eq_true rfl) (Nat.le_of_ble_eq_true rfl) dX9_init_32 (fun H7 hN o1 hz1 hS => ?_)
  have g0 := zkp g0 zRg_1 (fun q h1 _ _ => o1 q (Nat.lt_of_lt_of_eq h1 hsz))
  have g1 := zkp g1 zRg_1 (fun q h1 _ _ => o1 q (Nat.lt_of_lt_of_eq h1 hsz))
  have g2 := zkp g2 zRg_1 (fun q h1 _ _ => o1 q (Nat.lt_of_lt_of_eq h1 hsz))
  have g3 := zkp g3 zRg_1 (fun q h1 _ _ => o1 q (Nat.lt_of_lt_of_eq h1 hsz))
  have g4 : va_P E.1 zcl [((a + 4), .inr (2, [.int 0, .int 0, .int 0, .int 0, .int 0, .int 0, .int 0, .null, .null, .null, .null, .null, .null, .null, .null]))] H7 := hN
  have hsz : H7.size = a + 5 := hz1
  refine W.cs (cells' := 4) (slots' := 621) rfl rfl ?_
  refine lv_dup hx hb dX9_init_35 rfl ?_
  refine zIc zc ky_X2_init kz_X2_init rfl km_9_25 (ci_X2_init l) (zIpre hK hO g4 hsz) hS (fun q (h : (a + 4) ≤ q) => Nat.le_trans (Nat.le_add_right a 4) h) hl.1 (Nat.le_of_ble_eq_true rfl) ⟨rfl, rfl⟩ ⟨Nat.le_of_ble_eq_true rfl, Nat.le_of_ble_eq_true rfl⟩ ⟨Nat.le_of_ble_eq_true rfl, Nat.le_of_ble_eq_true rfl⟩ dX9_init_36 (fun _ H8 locs _ hJ hk hS => ?_)
  have g0 := zkp g0 zRg_1 (fun q h1 _ h3 => hk q h1 (zge_n (a := a) (i := 1) (j := 4) h3 (Nat.le_of_ble_eq_true rfl)))
  have g1 := zkp g1 zRg_1 (fun q h1 _ h3 => hk q h1 (zge_n (a := a) (i := 2) (j := 4) h3 (Nat.le_of_ble_eq_true rfl)))
  have g2 := zkp g2 zRg_1 (fun q h1 _ h3 => hk q h1 (zge_n (a := a) (i := 3) (j := 4) h3 (Nat.le_of_ble_eq_true rfl)))
  have g3 := zkp g3 zRg_1 (fun q h1 _ h3 => hk q h1 (zge_n (a := a) (i := 4) (j := 4) h3 (Nat.le_of_ble_eq_true rfl)))
  have g4 := hJ.1
  have hsz : H8.size = a + 13 := hJ.2
  refine W.cs (cells' := 12) (slots' := 746) rfl rfl ?_
  refine zAast (t := 4) (r := (RX2, TX2, 15)) zc hK g3 (zD1 (Nat.le_add_right a 3)) hS 0 0 rfl rfl g4 rfl rfl (by unfold vp_in; decide) dX9_init_39 (fun H9 locs hN oq hz1 hS => ?_)
  have g0 := zkp g0 zRg_1 (fun q _ h2 h3 => oq q (znB (a := a) (i := 1) (p := 3) h3 (Nat.le_of_ble_eq_true rfl)))
  have g1 := zkp g1 zRg_1 (fun q _ h2 h3 => oq q (znB (a := a) (i := 2) (p := 3) h3 (Nat.le_of_ble_eq_true rfl)))
  have g2 := zkp g2 zRg_1 (fun q _ h2 h3 => oq q (znB (a := a) (i := 3) (p := 3) h3 (Nat.le_of_ble_eq_true rfl)))
  have g4 := zkp g4 zrg_X2_init (fun q _ h2 h3 => oq q (znA (a := a) (i := 4) (p := 3) h2 (Nat.le_of_ble_eq_true rfl)))
  have g3 : va_P E.1 zcl [((a + 3), .inl (E.2 4, 2, .inr (.inr (.inr (.inr (va_up (fun _ => none) (Int32.toNatClampNeg (0 : Int32)) (some (a + 4))))))))] H9 := hN
  have hsz := hz1.trans hsz
  refine lv_dup hx hb dX9_init_40 rfl ?_
  refine lv_iconst (v := (1 : Int32)) hx hb dX9_init_41 (by decide) ?_
  refine zNew (ws := []) (C := RX2) (T := TX2) (N := 15) (ci := 2) zc hK (fun k q h => by simp at h) hS hsz uw2 tyX2 tyX2_ok kcl_9_23 kins_2 kinit_2 rfl [.int 0, .int 0, .int 0, .int 0, .int 0, .int 0, .int 0, .null, .null, .null, .null, .null, .null, .null, .null] (fun j hj => match j, hj with | 0, _ => rfl | 1, _ => rfl | 2, _ => rfl | 3, _ => rfl | 4, _ => rfl | 5, _ => rfl | 6, _ => rfl | 7, _ => rfl | 8, _ => rfl | 9, _ => rfl | 10, _ => rfl | 11, _ => rfl | 12, _ => rfl | 13, _ => rfl | 14, _ => rfl | j + 15, hj => absurd hj (by omega)) (Nat.le_of_ble_eq_true rfl) (Nat.le_of_ble_eq_true rfl) dX9_init_42 (fun H10 hN o1 hz1 hS => ?_)
  have g0 := zkp g0 zRg_1 (fun q h1 _ _ => o1 q (Nat.lt_of_lt_of_eq h1 hsz))
  have g1 := zkp g1 zRg_1 (fun q h1 _ _ => o1 q (Nat.lt_of_lt_of_eq h1 hsz))
  have g2 := zkp g2 zRg_1 (fun q h1 _ _ => o1 q (Nat.lt_of_lt_of_eq h1 hsz))
  have g3 := zkp g3 zRg_1 (fun q h1 _ _ => o1 q (Nat.lt_of_lt_of_eq h1 hsz))
  have g4 := zkp g4 zrg_X2_init (fun q h1 _ _ => o1 q (Nat.lt_of_lt_of_eq h1 hsz))
  have g13 : va_P E.1 zcl [((a + 13), .inr (2, [.int 0, .int 0, .int 0, .int 0, .int 0, .int 0, .int 0, .null, .null, .null, .null, .null, .null, .null, .null]))] H10 := hN
  have hsz : H10.size = a + 14 := hz1
  refine W.cs (cells' := 13) (slots' := 761) rfl rfl ?_
  refine lv_dup hx hb dX9_init_45 rfl ?_
  refine zIc zc ky_X2_init kz_X2_init rfl km_9_25 (ci_X2_init l) (zIpre hK hO g13 hsz) hS (fun q (h : (a + 13) ≤ q) => Nat.le_trans (Nat.le_add_right a 13) h) hl.1 (Nat.le_of_ble_eq_true rfl) ⟨rfl, rfl⟩ ⟨Nat.le_of_ble_eq_true rfl, Nat.le_of_ble_eq_true rfl⟩ ⟨Nat.le_of_ble_eq_true rfl, Nat.le_of_ble_eq_true rfl⟩ dX9_init_46 (fun _ H11 locs _ hJ hk hS => ?_)
  have g0 := zkp g0 zRg_1 (fun q h1 _ h3 => hk q h1 (zge_n (a := a) (i := 1) (j := 13) h3 (Nat.le_of_ble_eq_true rfl)))
  have g1 := zkp g1 zRg_1 (fun q h1 _ h3 => hk q h1 (zge_n (a := a) (i := 2) (j := 13) h3 (Nat.le_of_ble_eq_true rfl)))
  have g2 := zkp g2 zRg_1 (fun q h1 _ h3 => hk q h1 (zge_n (a := a) (i := 3) (j := 13) h3 (Nat.le_of_ble_eq_true rfl)))
  have g3 := zkp g3 zRg_1 (fun q h1 _ h3 => hk q h1 (zge_n (a := a) (i := 4) (j := 13) h3 (Nat.le_of_ble_eq_true rfl)))
  have g4 := zkp g4 zrg_X2_init (fun q h1 _ h3 => hk q h1 (zge_n (a := a) (i := 13) (j := 13) h3 (Nat.le_of_ble_eq_true rfl)))
  have g13 := hJ.1
  have hsz : H11.size = a + 22 := hJ.2
  refine W.cs (cells' := 21) (slots' := 886) rfl rfl ?_
  refine zAast (t := 4) (r := (RX2, TX2, 15)) zc hK g3 (zD1 (Nat.le_add_right a 3)) hS 0 0 rfl rfl g13 rfl rfl (by unfold vp_in; decide) dX9_init_49 (fun H12 locs hN oq hz1 hS => ?_)
  have g0 := zkp g0 zRg_1 (fun q _ h2 h3 => oq q (znB (a := a) (i := 1) (p := 3) h3 (Nat.le_of_ble_eq_true rfl)))
  have g1 := zkp g1 zRg_1 (fun q _ h2 h3 => oq q (znB (a := a) (i := 2) (p := 3) h3 (Nat.le_of_ble_eq_true rfl)))
  have g2 := zkp g2 zRg_1 (fun q _ h2 h3 => oq q (znB (a := a) (i := 3) (p := 3) h3 (Nat.le_of_ble_eq_true rfl)))
  have g4 := zkp g4 zrg_X2_init (fun q _ h2 h3 => oq q (znA (a := a) (i := 4) (p := 3) h2 (Nat.le_of_ble_eq_true rfl)))
  have g13 := zkp g13 zrg_X2_init (fun q _ h2 h3 => oq q (znA (a := a) (i := 13) (p := 3) h2 (Nat.le_of_ble_eq_true rfl)))
  have g3 : va_P E.1 zcl [((a + 3), .inl (E.2 4, 2, .inr (.inr (.inr (.inr (va_up (va_up (fun _ => none) (Int32.toNatClampNeg (0 : Int32)) (some (a + 4))) (Int32.toNatClampNeg (1 : Int32)) (some (a + 13))))))))] H12 := hN
  have hsz := hz1.trans hsz
  refine zPut (C := RX9) (T := TX9) (N := 9) (ci := 9) (v := .ref (a + 3)) (ty := .array (.object "DownhillSong$Land")) zc hK g0 (zD1 (Nat.le_refl a)) hS uw9 tyX9 tyX9_ok nmX9 0 rfl rfl 5 (by decide) kf_9_26 (fun _ h9 => h9) (Or.inr ⟨rfl, hin, rfl⟩) (by decide +kernel) rfl rfl (Nat.le_of_ble_eq_true rfl) dX9_init_50 (fun H13 locs hN oq hz1 hS => ?_)
  have g1 := zkp g1 zRg_1 (fun q _ h2 h3 => oq q (znA (a := a) (i := 1) (p := 0) h2 (Nat.le_of_ble_eq_true rfl)))
  have g2 := zkp g2 zRg_1 (fun q _ h2 h3 => oq q (znA (a := a) (i := 2) (p := 0) h2 (Nat.le_of_ble_eq_true rfl)))
  have g3 := zkp g3 zRg_1 (fun q _ h2 h3 => oq q (znA (a := a) (i := 3) (p := 0) h2 (Nat.le_of_ble_eq_true rfl)))
  have g4 := zkp g4 zrg_X2_init (fun q _ h2 h3 => oq q (znA (a := a) (i := 4) (p := 0) h2 (Nat.le_of_ble_eq_true rfl)))
  have g13 := zkp g13 zrg_X2_init (fun q _ h2 h3 => oq q (znA (a := a) (i := 13) (p := 0) h2 (Nat.le_of_ble_eq_true rfl)))
  have g0 : va_P E.1 zcl [(a, .inr (9, [.ref (a + 1), .int 0, .int 0, .int (-1 : Int32), .ref (a + 2), .ref (a + 3), .null, .null, .null]))] H13 := hN
  have hsz := hz1.trans hsz
  refine lv_aload_n hx hb dX9_init_53 rfl (lv_at hl 0 rfl) ?_
  refine lv_iconst (v := (2 : Int32)) hx hb dX9_init_54 (by decide) ?_
  refine zNewq (ws := []) (t := 5) (N := 2) zc hK (hO RX1 (by simp [zover])) (fun k q h => by simp at h) hS hsz kcl_9_30 rfl (by decide) (by decide) (by decide) (Nat.le_of_ble_eq_true rfl) (Nat.le_of_ble_eq_true rfl) dX9_init_55 (fun H14 hN o1 hz1 hS => ?_)
  have g0 := zkp g0 zRg_1 (fun q h1 _ _ => o1 q (Nat.lt_of_lt_of_eq h1 hsz))
  have g1 := zkp g1 zRg_1 (fun q h1 _ _ => o1 q (Nat.lt_of_lt_of_eq h1 hsz))
  have g2 := zkp g2 zRg_1 (fun q h1 _ _ => o1 q (Nat.lt_of_lt_of_eq h1 hsz))
  have g3 := zkp g3 zRg_1 (fun q h1 _ _ => o1 q (Nat.lt_of_lt_of_eq h1 hsz))
  have g4 := zkp g4 zrg_X2_init (fun q h1 _ _ => o1 q (Nat.lt_of_lt_of_eq h1 hsz))
  have g13 := zkp g13 zrg_X2_init (fun q h1 _ _ => o1 q (Nat.lt_of_lt_of_eq h1 hsz))
  have g22 : va_P E.1 zcl [((a + 22), .inl (E.2 5, 2, .inr (.inr (.inr (.inr (fun _ => none))))))] H14 := hN
  have hsz : H14.size = a + 23 := hz1
  refine W.cs (cells' := 22) (slots' := 888) rfl rfl ?_
  refine lv_dup hx hb dX9_init_58 rfl ?_
  refine lv_iconst (v := (0 : Int32)) hx hb dX9_init_59 (by decide) ?_
  refine zNew (ws := []) (C := RX1) (T := TX1) (N := 4) (ci := 1) zc hK (fun k q h => by simp at h) hS hsz uw1 tyX1 tyX1_ok kcl_9_30 kins_1 kinit_1 rfl [.int 0, .null, .null, .null] (fun j hj => match j, hj with | 0, _ => rfl | 1, _ => rfl | 2, _ => rfl | 3, _ => rfl | j + 4, hj => absurd hj (by omega)) (Nat.le_of_ble_eq_true rfl) (Nat.le_of_ble_eq_true rfl) dX9_init_60 (fun H15 hN o1 hz1 hS => ?_)
  have g0 := zkp g0 zRg_1 (fun q h1 _ _ => o1 q (Nat.lt_of_lt_of_eq h1 hsz))
  have g1 := zkp g1 zRg_1 (fun q h1 _ _ => o1 q (Nat.lt_of_lt_of_eq h1 hsz))
  have g2 := zkp g2 zRg_1 (fun q h1 _ _ => o1 q (Nat.lt_of_lt_of_eq h1 hsz))
  have g3 := zkp g3 zRg_1 (fun q h1 _ _ => o1 q (Nat.lt_of_lt_of_eq h1 hsz))
  have g4 := zkp g4 zrg_X2_init (fun q h1 _ _ => o1 q (Nat.lt_of_lt_of_eq h1 hsz))
  have g13 := zkp g13 zrg_X2_init (fun q h1 _ _ => o1 q (Nat.lt_of_lt_of_eq h1 hsz))
  have g22 := zkp g22 zRg_1 (fun q h1 _ _ => o1 q (Nat.lt_of_lt_of_eq h1 hsz))
  have g23 : va_P E.1 zcl [((a + 23), .inr (1, [.int 0, .null, .null, .null]))] H15 := hN
  have hsz : H15.size = a + 24 := hz1
  refine W.cs (cells' := 23) (slots' := 892) rfl rfl ?_
  refine lv_dup hx hb dX9_init_63 rfl ?_
  refine zIc zc ky_X1_init kz_X1_init rfl km_9_32 (ci_X1_init l) (zIpre hK hO g23 hsz) hS (fun q (h : (a + 23) ≤ q) => Nat.le_trans (Nat.le_add_right a 23) h) hl.1 (Nat.le_of_ble_eq_true rfl) ⟨rfl, rfl⟩ ⟨Nat.le_of_ble_eq_true rfl, Nat.le_of_ble_eq_true rfl⟩ ⟨Nat.le_of_ble_eq_true rfl, Nat.le_of_ble_eq_true rfl⟩ dX9_init_64 (fun _ H16 locs _ hJ hk hS => ?_)
  have g0 := zkp g0 zRg_1 (fun q h1 _ h3 => hk q h1 (zge_n (a := a) (i := 1) (j := 23) h3 (Nat.le_of_ble_eq_true rfl)))
  have g1 := zkp g1 zRg_1 (fun q h1 _ h3 => hk q h1 (zge_n (a := a) (i := 2) (j := 23) h3 (Nat.le_of_ble_eq_true rfl)))
  have g2 := zkp g2 zRg_1 (fun q h1 _ h3 => hk q h1 (zge_n (a := a) (i := 3) (j := 23) h3 (Nat.le_of_ble_eq_true rfl)))
  have g3 := zkp g3 zRg_1 (fun q h1 _ h3 => hk q h1 (zge_n (a := a) (i := 4) (j := 23) h3 (Nat.le_of_ble_eq_true rfl)))
  have g4 := zkp g4 zrg_X2_init (fun q h1 _ h3 => hk q h1 (zge_n (a := a) (i := 13) (j := 23) h3 (Nat.le_of_ble_eq_true rfl)))
  have g13 := zkp g13 zrg_X2_init (fun q h1 _ h3 => hk q h1 (zge_n (a := a) (i := 22) (j := 23) h3 (Nat.le_of_ble_eq_true rfl)))
  have g22 := zkp g22 zRg_1 (fun q h1 _ h3 => hk q h1 (zge_n (a := a) (i := 23) (j := 23) h3 (Nat.le_of_ble_eq_true rfl)))
  have g23 := hJ.1
  have hsz : H16.size = a + 27 := hJ.2
  refine W.cs (cells' := 26) (slots' := 1012) rfl rfl ?_
  refine zAast (t := 5) (r := (RX1, TX1, 4)) zc hK g22 (zD1 (Nat.le_add_right a 22)) hS 0 0 rfl rfl g23 rfl rfl (by unfold vp_in; decide) dX9_init_67 (fun H17 locs hN oq hz1 hS => ?_)
  have g0 := zkp g0 zRg_1 (fun q _ h2 h3 => oq q (znB (a := a) (i := 1) (p := 22) h3 (Nat.le_of_ble_eq_true rfl)))
  have g1 := zkp g1 zRg_1 (fun q _ h2 h3 => oq q (znB (a := a) (i := 2) (p := 22) h3 (Nat.le_of_ble_eq_true rfl)))
  have g2 := zkp g2 zRg_1 (fun q _ h2 h3 => oq q (znB (a := a) (i := 3) (p := 22) h3 (Nat.le_of_ble_eq_true rfl)))
  have g3 := zkp g3 zRg_1 (fun q _ h2 h3 => oq q (znB (a := a) (i := 4) (p := 22) h3 (Nat.le_of_ble_eq_true rfl)))
  have g4 := zkp g4 zrg_X2_init (fun q _ h2 h3 => oq q (znB (a := a) (i := 13) (p := 22) h3 (Nat.le_of_ble_eq_true rfl)))
  have g13 := zkp g13 zrg_X2_init (fun q _ h2 h3 => oq q (znB (a := a) (i := 22) (p := 22) h3 (Nat.le_of_ble_eq_true rfl)))
  have g23 := zkp g23 zrg_X1_init (fun q _ h2 h3 => oq q (znA (a := a) (i := 23) (p := 22) h2 (Nat.le_of_ble_eq_true rfl)))
  have g22 : va_P E.1 zcl [((a + 22), .inl (E.2 5, 2, .inr (.inr (.inr (.inr (va_up (fun _ => none) (Int32.toNatClampNeg (0 : Int32)) (some (a + 23))))))))] H17 := hN
  have hsz := hz1.trans hsz
  refine lv_dup hx hb dX9_init_68 rfl ?_
  refine lv_iconst (v := (1 : Int32)) hx hb dX9_init_69 (by decide) ?_
  refine zNew (ws := []) (C := RX1) (T := TX1) (N := 4) (ci := 1) zc hK (fun k q h => by simp at h) hS hsz uw1 tyX1 tyX1_ok kcl_9_30 kins_1 kinit_1 rfl [.int 0, .null, .null, .null] (fun j hj => match j, hj with | 0, _ => rfl | 1, _ => rfl | 2, _ => rfl | 3, _ => rfl | j + 4, hj => absurd hj (by omega)) (Nat.le_of_ble_eq_true rfl) (Nat.le_of_ble_eq_true rfl) dX9_init_70 (fun H18 hN o1 hz1 hS => ?_)
  have g0 := zkp g0 zRg_1 (fun q h1 _ _ => o1 q (Nat.lt_of_lt_of_eq h1 hsz))
  have g1 := zkp g1 zRg_1 (fun q h1 _ _ => o1 q (Nat.lt_of_lt_of_eq h1 hsz))
  have g2 := zkp g2 zRg_1 (fun q h1 _ _ => o1 q (Nat.lt_of_lt_of_eq h1 hsz))
  have g3 := zkp g3 zRg_1 (fun q h1 _ _ => o1 q (Nat.lt_of_lt_of_eq h1 hsz))
  have g4 := zkp g4 zrg_X2_init (fun q h1 _ _ => o1 q (Nat.lt_of_lt_of_eq h1 hsz))
  have g13 := zkp g13 zrg_X2_init (fun q h1 _ _ => o1 q (Nat.lt_of_lt_of_eq h1 hsz))
  have g22 := zkp g22 zRg_1 (fun q h1 _ _ => o1 q (Nat.lt_of_lt_of_eq h1 hsz))
  have g23 := zkp g23 zrg_X1_init (fun q h1 _ _ => o1 q (Nat.lt_of_lt_of_eq h1 hsz))
  have g27 : va_P E.1 zcl [((a + 27), .inr (1, [.int 0, .null, .null, .null]))] H18 := hN
  have hsz : H18.size = a + 28 := hz1
  refine W.cs (cells' := 27) (slots' := 1016) rfl rfl ?_
  refine lv_dup hx hb dX9_init_73 rfl ?_
  refine zIc zc ky_X1_init kz_X1_init rfl km_9_32 (ci_X1_init l) (zIpre hK hO g27 hsz) hS (fun q (h : (a + 27) ≤ q) => Nat.le_trans (Nat.le_add_right a 27) h) hl.1 (Nat.le_of_ble_eq_true rfl) ⟨rfl, rfl⟩ ⟨Nat.le_of_ble_eq_true rfl, Nat.le_of_ble_eq_true rfl⟩ ⟨Nat.le_of_ble_eq_true rfl, Nat.le_of_ble_eq_true rfl⟩ dX9_init_74 (fun _ H19 locs _ hJ hk hS => ?_)
  have g0 := zkp g0 zRg_1 (fun q h1 _ h3 => hk q h1 (zge_n (a := a) (i := 1) (j := 27) h3 (Nat.le_of_ble_eq_true rfl)))
  have g1 := zkp g1 zRg_1 (fun q h1 _ h3 => hk q h1 (zge_n (a := a) (i := 2) (j := 27) h3 (Nat.le_of_ble_eq_true rfl)))
  have g2 := zkp g2 zRg_1 (fun q h1 _ h3 => hk q h1 (zge_n (a := a) (i := 3) (j := 27) h3 (Nat.le_of_ble_eq_true rfl)))
  have g3 := zkp g3 zRg_1 (fun q h1 _ h3 => hk q h1 (zge_n (a := a) (i := 4) (j := 27) h3 (Nat.le_of_ble_eq_true rfl)))
  have g4 := zkp g4 zrg_X2_init (fun q h1 _ h3 => hk q h1 (zge_n (a := a) (i := 13) (j := 27) h3 (Nat.le_of_ble_eq_true rfl)))
  have g13 := zkp g13 zrg_X2_init (fun q h1 _ h3 => hk q h1 (zge_n (a := a) (i := 22) (j := 27) h3 (Nat.le_of_ble_eq_true rfl)))
  have g22 := zkp g22 zRg_1 (fun q h1 _ h3 => hk q h1 (zge_n (a := a) (i := 23) (j := 27) h3 (Nat.le_of_ble_eq_true rfl)))
  have g23 := zkp g23 zrg_X1_init (fun q h1 _ h3 => hk q h1 (zge_n (a := a) (i := 27) (j := 27) h3 (Nat.le_of_ble_eq_true rfl)))
  have g27 := hJ.1
  have hsz : H19.size = a + 31 := hJ.2
  refine W.cs (cells' := 30) (slots' := 1136) rfl rfl ?_
  refine zAast (t := 5) (r := (RX1, TX1, 4)) zc hK g22 (zD1 (Nat.le_add_right a 22)) hS 0 0 rfl rfl g27 rfl rfl (by unfold vp_in; decide) dX9_init_77 (fun H20 locs hN oq hz1 hS => ?_)
  have g0 := zkp g0 zRg_1 (fun q _ h2 h3 => oq q (znB (a := a) (i := 1) (p := 22) h3 (Nat.le_of_ble_eq_true rfl)))
  have g1 := zkp g1 zRg_1 (fun q _ h2 h3 => oq q (znB (a := a) (i := 2) (p := 22) h3 (Nat.le_of_ble_eq_true rfl)))
  have g2 := zkp g2 zRg_1 (fun q _ h2 h3 => oq q (znB (a := a) (i := 3) (p := 22) h3 (Nat.le_of_ble_eq_true rfl)))
  have g3 := zkp g3 zRg_1 (fun q _ h2 h3 => oq q (znB (a := a) (i := 4) (p := 22) h3 (Nat.le_of_ble_eq_true rfl)))
  have g4 := zkp g4 zrg_X2_init (fun q _ h2 h3 => oq q (znB (a := a) (i := 13) (p := 22) h3 (Nat.le_of_ble_eq_true rfl)))
  have g13 := zkp g13 zrg_X2_init (fun q _ h2 h3 => oq q (znB (a := a) (i := 22) (p := 22) h3 (Nat.le_of_ble_eq_true rfl)))
  have g23 := zkp g23 zrg_X1_init (fun q _ h2 h3 => oq q (znA (a := a) (i := 23) (p := 22) h2 (Nat.le_of_ble_eq_true rfl)))
  have g27 := zkp g27 zrg_X1_init (fun q _ h2 h3 => oq q (znA (a := a) (i := 27) (p := 22) h2 (Nat.le_of_ble_eq_true rfl)))
  have g22 : va_P E.1 zcl [((a + 22), .inl (E.2 5, 2, .inr (.inr (.inr (.inr (va_up (va_up (fun _ => none) (Int32.toNatClampNeg (0 : Int32)) (some (a + 23))) (Int32.toNatClampNeg (1 : Int32)) (some (a + 27))))))))] H20 := hN
  have hsz := hz1.trans hsz
  refine zPut (C := RX9) (T := TX9) (N := 9) (ci := 9) (v := .ref (a + 22)) (ty := .array (.object "DownhillSong$Evening")) zc hK g0 (zD1 (Nat.le_refl a)) hS uw9 tyX9 tyX9_ok nmX9 0 rfl rfl 6 (by decide) kf_9_33 (fun _ h9 => h9) (Or.inr ⟨rfl, hin, rfl⟩) (by decide +kernel) rfl rfl (Nat.le_of_ble_eq_true rfl) dX9_init_78 (fun H21 locs hN oq hz1 hS => ?_)
  have g1 := zkp g1 zRg_1 (fun q _ h2 h3 => oq q (znA (a := a) (i := 1) (p := 0) h2 (Nat.le_of_ble_eq_true rfl)))
  have g2 := zkp g2 zRg_1 (fun q _ h2 h3 => oq q (znA (a := a) (i := 2) (p := 0) h2 (Nat.le_of_ble_eq_true rfl)))
  have g3 := zkp g3 zRg_1 (fun q _ h2 h3 => oq q (znA (a := a) (i := 3) (p := 0) h2 (Nat.le_of_ble_eq_true rfl)))
  have g4 := zkp g4 zrg_X2_init (fun q _ h2 h3 => oq q (znA (a := a) (i := 4) (p := 0) h2 (Nat.le_of_ble_eq_true rfl)))
  have g13 := zkp g13 zrg_X2_init (fun q _ h2 h3 => oq q (znA (a := a) (i := 13) (p := 0) h2 (Nat.le_of_ble_eq_true rfl)))
  have g22 := zkp g22 zRg_1 (fun q _ h2 h3 => oq q (znA (a := a) (i := 22) (p := 0) h2 (Nat.le_of_ble_eq_true rfl)))
  have g23 := zkp g23 zrg_X1_init (fun q _ h2 h3 => oq q (znA (a := a) (i := 23) (p := 0) h2 (Nat.le_of_ble_eq_true rfl)))
  have g27 := zkp g27 zrg_X1_init (fun q _ h2 h3 => oq q (znA (a := a) (i := 27) (p := 0) h2 (Nat.le_of_ble_eq_true rfl)))
  have g0 : va_P E.1 zcl [(a, .inr (9, [.ref (a + 1), .int 0, .int 0, .int (-1 : Int32), .ref (a + 2), .ref (a + 3), .ref (a + 22), .null, .null]))] H21 := hN
  have hsz := hz1.trans hsz
  refine lv_aload_n hx hb dX9_init_81 rfl (lv_at hl 0 rfl) ?_
  refine lv_iconst (v := (2 : Int32)) hx hb dX9_init_82 (by decide) ?_
  refine zNewq (ws := []) (t := 6) (N := 2) zc hK (hO RX6 (by simp [zover])) (fun k q h => by simp at h) hS hsz kcl_9_37 rfl (by decide) (by decide) (by decide) (Nat.le_of_ble_eq_true rfl) (Nat.le_of_ble_eq_true rfl) dX9_init_83 (fun H22 hN o1 hz1 hS => ?_)
  have g0 := zkp g0 zRg_1 (fun q h1 _ _ => o1 q (Nat.lt_of_lt_of_eq h1 hsz))
  have g1 := zkp g1 zRg_1 (fun q h1 _ _ => o1 q (Nat.lt_of_lt_of_eq h1 hsz))
  have g2 := zkp g2 zRg_1 (fun q h1 _ _ => o1 q (Nat.lt_of_lt_of_eq h1 hsz))
  have g3 := zkp g3 zRg_1 (fun q h1 _ _ => o1 q (Nat.lt_of_lt_of_eq h1 hsz))
  have g4 := zkp g4 zrg_X2_init (fun q h1 _ _ => o1 q (Nat.lt_of_lt_of_eq h1 hsz))
  have g13 := zkp g13 zrg_X2_init (fun q h1 _ _ => o1 q (Nat.lt_of_lt_of_eq h1 hsz))
  have g22 := zkp g22 zRg_1 (fun q h1 _ _ => o1 q (Nat.lt_of_lt_of_eq h1 hsz))
  have g23 := zkp g23 zrg_X1_init (fun q h1 _ _ => o1 q (Nat.lt_of_lt_of_eq h1 hsz))
  have g27 := zkp g27 zrg_X1_init (fun q h1 _ _ => o1 q (Nat.lt_of_lt_of_eq h1 hsz))
  have g31 : va_P E.1 zcl [((a + 31), .inl (E.2 6, 2, .inr (.inr (.inr (.inr (fun _ => none))))))] H22 := hN
  have hsz : H22.size = a + 32 := hz1
  refine W.cs (cells' := 31) (slots' := 1138) rfl rfl ?_
  refine lv_dup hx hb dX9_init_86 rfl ?_
  refine lv_iconst (v := (0 : Int32)) hx hb dX9_init_87 (by decide) ?_
  refine zNew (ws := []) (C := RX6) (T := TX6) (N := 4) (ci := 6) zc hK (fun k q h => by simp at h) hS hsz uw6 tyX6 tyX6_ok kcl_9_37 kins_6 kinit_6 rfl [.int 0, .null, .null, .null] (fun j hj => match j, hj with | 0, _ => rfl | 1, _ => rfl | 2, _ => rfl | 3, _ => rfl | j + 4, hj => absurd hj (by omega)) (Nat.le_of_ble_eq_true rfl) (Nat.le_of_ble_eq_true rfl) dX9_init_88 (fun H23 hN o1 hz1 hS => ?_)
  have g0 := zkp g0 zRg_1 (fun q h1 _ _ => o1 q (Nat.lt_of_lt_of_eq h1 hsz))
  have g1 := zkp g1 zRg_1 (fun q h1 _ _ => o1 q (Nat.lt_of_lt_of_eq h1 hsz))
  have g2 := zkp g2 zRg_1 (fun q h1 _ _ => o1 q (Nat.lt_of_lt_of_eq h1 hsz))
  have g3 := zkp g3 zRg_1 (fun q h1 _ _ => o1 q (Nat.lt_of_lt_of_eq h1 hsz))
  have g4 := zkp g4 zrg_X2_init (fun q h1 _ _ => o1 q (Nat.lt_of_lt_of_eq h1 hsz))
  have g13 := zkp g13 zrg_X2_init (fun q h1 _ _ => o1 q (Nat.lt_of_lt_of_eq h1 hsz))
  have g22 := zkp g22 zRg_1 (fun q h1 _ _ => o1 q (Nat.lt_of_lt_of_eq h1 hsz))
  have g23 := zkp g23 zrg_X1_init (fun q h1 _ _ => o1 q (Nat.lt_of_lt_of_eq h1 hsz))
  have g27 := zkp g27 zrg_X1_init (fun q h1 _ _ => o1 q (Nat.lt_of_lt_of_eq h1 hsz))
  have g31 := zkp g31 zRg_1 (fun q h1 _ _ => o1 q (Nat.lt_of_lt_of_eq h1 hsz))
  have g32 : va_P E.1 zcl [((a + 32), .inr (6, [.int 0, .null, .null, .null]))] H23 := hN
  have hsz : H23.size = a + 33 := hz1
  refine W.cs (cells' := 32) (slots' := 1142) rfl rfl ?_
  refine lv_dup hx hb dX9_init_91 rfl ?_
  refine zIc zc ky_X6_init kz_X6_init rfl km_9_39 (ci_X6_init l) (zIpre hK hO g32 hsz) hS (fun q (h : (a + 32) ≤ q) => Nat.le_trans (Nat.le_add_right a 32) h) hl.1 (Nat.le_of_ble_eq_true rfl) ⟨rfl, rfl⟩ ⟨Nat.le_of_ble_eq_true rfl, Nat.le_of_ble_eq_true rfl⟩ ⟨Nat.le_of_ble_eq_true rfl, Nat.le_of_ble_eq_true rfl⟩ dX9_init_92 (fun _ H24 locs _ hJ hk hS => ?_)
  have g0 := zkp g0 zRg_1 (fun q h1 _ h3 => hk q h1 (zge_n (a := a) (i := 1) (j := 32) h3 (Nat.le_of_ble_eq_true rfl)))
  have g1 := zkp g1 zRg_1 (fun q h1 _ h3 => hk q h1 (zge_n (a := a) (i := 2) (j := 32) h3 (Nat.le_of_ble_eq_true rfl)))
  have g2 := zkp g2 zRg_1 (fun q h1 _ h3 => hk q h1 (zge_n (a := a) (i := 3) (j := 32) h3 (Nat.le_of_ble_eq_true rfl)))
  have g3 := zkp g3 zRg_1 (fun q h1 _ h3 => hk q h1 (zge_n (a := a) (i := 4) (j := 32) h3 (Nat.le_of_ble_eq_true rfl)))
  have g4 := zkp g4 zrg_X2_init (fun q h1 _ h3 => hk q h1 (zge_n (a := a) (i := 13) (j := 32) h3 (Nat.le_of_ble_eq_true rfl)))
  have g13 := zkp g13 zrg_X2_init (fun q h1 _ h3 => hk q h1 (zge_n (a := a) (i := 22) (j := 32) h3 (Nat.le_of_ble_eq_true rfl)))
  have g22 := zkp g22 zRg_1 (fun q h1 _ h3 => hk q h1 (zge_n (a := a) (i := 23) (j := 32) h3 (Nat.le_of_ble_eq_true rfl)))
  have g23 := zkp g23 zrg_X1_init (fun q h1 _ h3 => hk q h1 (zge_n (a := a) (i := 27) (j := 32) h3 (Nat.le_of_ble_eq_true rfl)))
  have g27 := zkp g27 zrg_X1_init (fun q h1 _ h3 => hk q h1 (zge_n (a := a) (i := 31) (j := 32) h3 (Nat.le_of_ble_eq_true rfl)))
  have g31 := zkp g31 zRg_1 (fun q h1 _ h3 => hk q h1 (zge_n (a := a) (i := 32) (j := 32) h3 (Nat.le_of_ble_eq_true rfl)))
  have g32 := hJ.1
  have hsz : H24.size = a + 36 := hJ.2
  refine W.cs (cells' := 35) (slots' := 1172) rfl rfl ?_
  refine zAast (t := 6) (r := (RX6, TX6, 4)) zc hK g31 (zD1 (Nat.le_add_right a 31)) hS 0 0 rfl rfl g32 rfl rfl (by unfold vp_in; decide) dX9_init_95 (fun H25 locs hN oq hz1 hS => ?_)
  have g0 := zkp g0 zRg_1 (fun q _ h2 h3 => oq q (znB (a := a) (i := 1) (p := 31) h3 (Nat.le_of_ble_eq_true rfl)))
  have g1 := zkp g1 zRg_1 (fun q _ h2 h3 => oq q (znB (a := a) (i := 2) (p := 31) h3 (Nat.le_of_ble_eq_true rfl)))
  have g2 := zkp g2 zRg_1 (fun q _ h2 h3 => oq q (znB (a := a) (i := 3) (p := 31) h3 (Nat.le_of_ble_eq_true rfl)))
  have g3 := zkp g3 zRg_1 (fun q _ h2 h3 => oq q (znB (a := a) (i := 4) (p := 31) h3 (Nat.le_of_ble_eq_true rfl)))
  have g4 := zkp g4 zrg_X2_init (fun q _ h2 h3 => oq q (znB (a := a) (i := 13) (p := 31) h3 (Nat.le_of_ble_eq_true rfl)))
  have g13 := zkp g13 zrg_X2_init (fun q _ h2 h3 => oq q (znB (a := a) (i := 22) (p := 31) h3 (Nat.le_of_ble_eq_true rfl)))
  have g22 := zkp g22 zRg_1 (fun q _ h2 h3 => oq q (znB (a := a) (i := 23) (p := 31) h3 (Nat.le_of_ble_eq_true rfl)))
  have g23 := zkp g23 zrg_X1_init (fun q _ h2 h3 => oq q (znB (a := a) (i := 27) (p := 31) h3 (Nat.le_of_ble_eq_true rfl)))
  have g27 := zkp g27 zrg_X1_init (fun q _ h2 h3 => oq q (znB (a := a) (i := 31) (p := 31) h3 (Nat.le_of_ble_eq_true rfl)))
  have g32 := zkp g32 zrg_X6_init (fun q _ h2 h3 => oq q (znA (a := a) (i := 32) (p := 31) h2 (Nat.le_of_ble_eq_true rfl)))
  have g31 : va_P E.1 zcl [((a + 31), .inl (E.2 6, 2, .inr (.inr (.inr (.inr (va_up (fun _ => none) (Int32.toNatClampNeg (0 : Int32)) (some (a + 32))))))))] H25 := hN
  have hsz := hz1.trans hsz
  refine lv_dup hx hb dX9_init_96 rfl ?_
  refine lv_iconst (v := (1 : Int32)) hx hb dX9_init_97 (by decide) ?_
  refine zNew (ws := []) (C := RX6) (T := TX6) (N := 4) (ci := 6) zc hK (fun k q h => by simp at h) hS hsz uw6 tyX6 tyX6_ok kcl_9_37 kins_6 kinit_6 rfl [.int 0, .null, .null, .null] (fun j hj => match j, hj with | 0, _ => rfl | 1, _ => rfl | 2, _ => rfl | 3, _ => rfl | j + 4, hj => absurd hj (by omega)) (Nat.le_of_ble_eq_true rfl) (Nat.le_of_ble_eq_true rfl) dX9_init_98 (fun H26 hN o1 hz1 hS => ?_)
  have g0 := zkp g0 zRg_1 (fun q h1 _ _ => o1 q (Nat.lt_of_lt_of_eq h1 hsz))
  have g1 := zkp g1 zRg_1 (fun q h1 _ _ => o1 q (Nat.lt_of_lt_of_eq h1 hsz))
  have g2 := zkp g2 zRg_1 (fun q h1 _ _ => o1 q (Nat.lt_of_lt_of_eq h1 hsz))
  have g3 := zkp g3 zRg_1 (fun q h1 _ _ => o1 q (Nat.lt_of_lt_of_eq h1 hsz))
  have g4 := zkp g4 zrg_X2_init (fun q h1 _ _ => o1 q (Nat.lt_of_lt_of_eq h1 hsz))
  have g13 := zkp g13 zrg_X2_init (fun q h1 _ _ => o1 q (Nat.lt_of_lt_of_eq h1 hsz))
  have g22 := zkp g22 zRg_1 (fun q h1 _ _ => o1 q (Nat.lt_of_lt_of_eq h1 hsz))
  have g23 := zkp g23 zrg_X1_init (fun q h1 _ _ => o1 q (Nat.lt_of_lt_of_eq h1 hsz))
  have g27 := zkp g27 zrg_X1_init (fun q h1 _ _ => o1 q (Nat.lt_of_lt_of_eq h1 hsz))
  have g31 := zkp g31 zRg_1 (fun q h1 _ _ => o1 q (Nat.lt_of_lt_of_eq h1 hsz))
  have g32 := zkp g32 zrg_X6_init (fun q h1 _ _ => o1 q (Nat.lt_of_lt_of_eq h1 hsz))
  have g36 : va_P E.1 zcl [((a + 36), .inr (6, [.int 0, .null, .null, .null]))] H26 := hN
  have hsz : H26.size = a + 37 := hz1
  refine W.cs (cells' := 36) (slots' := 1176) rfl rfl ?_
  refine lv_dup hx hb dX9_init_101 rfl ?_
  refine zIc zc ky_X6_init kz_X6_init rfl km_9_39 (ci_X6_init l) (zIpre hK hO g36 hsz) hS (fun q (h : (a + 36) ≤ q) => Nat.le_trans (Nat.le_add_right a 36) h) hl.1 (Nat.le_of_ble_eq_true rfl) ⟨rfl, rfl⟩ ⟨Nat.le_of_ble_eq_true rfl, Nat.le_of_ble_eq_true rfl⟩ ⟨Nat.le_of_ble_eq_true rfl, Nat.le_of_ble_eq_true rfl⟩ dX9_init_102 (fun _ H27 locs _ hJ hk hS => ?_)
  have g0 := zkp g0 zRg_1 (fun q h1 _ h3 => hk q h1 (zge_n (a := a) (i := 1) (j := 36) h3 (Nat.le_of_ble_eq_true rfl)))
  have g1 := zkp g1 zRg_1 (fun q h1 _ h3 => hk q h1 (zge_n (a := a) (i := 2) (j := 36) h3 (Nat.le_of_ble_eq_true rfl)))
  have g2 := zkp g2 zRg_1 (fun q h1 _ h3 => hk q h1 (zge_n (a := a) (i := 3) (j := 36) h3 (Nat.le_of_ble_eq_true rfl)))
  have g3 := zkp g3 zRg_1 (fun q h1 _ h3 => hk q h1 (zge_n (a := a) (i := 4) (j := 36) h3 (Nat.le_of_ble_eq_true rfl)))
  have g4 := zkp g4 zrg_X2_init (fun q h1 _ h3 => hk q h1 (zge_n (a := a) (i := 13) (j := 36) h3 (Nat.le_of_ble_eq_true rfl)))
  have g13 := zkp g13 zrg_X2_init (fun q h1 _ h3 => hk q h1 (zge_n (a := a) (i := 22) (j := 36) h3 (Nat.le_of_ble_eq_true rfl)))
  have g22 := zkp g22 zRg_1 (fun q h1 _ h3 => hk q h1 (zge_n (a := a) (i := 23) (j := 36) h3 (Nat.le_of_ble_eq_true rfl)))
  have g23 := zkp g23 zrg_X1_init (fun q h1 _ h3 => hk q h1 (zge_n (a := a) (i := 27) (j := 36) h3 (Nat.le_of_ble_eq_true rfl)))
  have g27 := zkp g27 zrg_X1_init (fun q h1 _ h3 => hk q h1 (zge_n (a := a) (i := 31) (j := 36) h3 (Nat.le_of_ble_eq_true rfl)))
  have g31 := zkp g31 zRg_1 (fun q h1 _ h3 => hk q h1 (zge_n (a := a) (i := 32) (j := 36) h3 (Nat.le_of_ble_eq_true rfl)))
  have g32 := zkp g32 zrg_X6_init (fun q h1 _ h3 => hk q h1 (zge_n (a := a) (i := 36) (j := 36) h3 (Nat.le_of_ble_eq_true rfl)))
  have g36 := hJ.1
  have hsz : H27.size = a + 40 := hJ.2
  refine W.cs (cells' := 39) (slots' := 1206) rfl rfl ?_
  refine zAast (t := 6) (r := (RX6, TX6, 4)) zc hK g31 (zD1 (Nat.le_add_right a 31)) hS 0 0 rfl rfl g36 rfl rfl (by unfold vp_in; decide) dX9_init_105 (fun H28 locs hN oq hz1 hS => ?_)
  have g0 := zkp g0 zRg_1 (fun q _ h2 h3 => oq q (znB (a := a) (i := 1) (p := 31) h3 (Nat.le_of_ble_eq_true rfl)))
  have g1 := zkp g1 zRg_1 (fun q _ h2 h3 => oq q (znB (a := a) (i := 2) (p := 31) h3 (Nat.le_of_ble_eq_true rfl)))
  have g2 := zkp g2 zRg_1 (fun q _ h2 h3 => oq q (znB (a := a) (i := 3) (p := 31) h3 (Nat.le_of_ble_eq_true rfl)))
  have g3 := zkp g3 zRg_1 (fun q _ h2 h3 => oq q (znB (a := a) (i := 4) (p := 31) h3 (Nat.le_of_ble_eq_true rfl)))
  have g4 := zkp g4 zrg_X2_init (fun q _ h2 h3 => oq q (znB (a := a) (i := 13) (p := 31) h3 (Nat.le_of_ble_eq_true rfl)))
  have g13 := zkp g13 zrg_X2_init (fun q _ h2 h3 => oq q (znB (a := a) (i := 22) (p := 31) h3 (Nat.le_of_ble_eq_true rfl)))
  have g22 := zkp g22 zRg_1 (fun q _ h2 h3 => oq q (znB (a := a) (i := 23) (p := 31) h3 (Nat.le_of_ble_eq_true rfl)))
  have g23 := zkp g23 zrg_X1_init (fun q _ h2 h3 => oq q (znB (a := a) (i := 27) (p := 31) h3 (Nat.le_of_ble_eq_true rfl)))
  have g27 := zkp g27 zrg_X1_init (fun q _ h2 h3 => oq q (znB (a := a) (i := 31) (p := 31) h3 (Nat.le_of_ble_eq_true rfl)))
  have g32 := zkp g32 zrg_X6_init (fun q _ h2 h3 => oq q (znA (a := a) (i := 32) (p := 31) h2 (Nat.le_of_ble_eq_true rfl)))
  have g36 := zkp g36 zrg_X6_init (fun q _ h2 h3 => oq q (znA (a := a) (i := 36) (p := 31) h2 (Nat.le_of_ble_eq_true rfl)))
  have g31 : va_P E.1 zcl [((a + 31), .inl (E.2 6, 2, .inr (.inr (.inr (.inr (va_up (va_up (fun _ => none) (Int32.toNatClampNeg (0 : Int32)) (some (a + 32))) (Int32.toNatClampNeg (1 : Int32)) (some (a + 36))))))))] H28 := hN
  have hsz := hz1.trans hsz
  refine zPut (C := RX9) (T := TX9) (N := 9) (ci := 9) (v := .ref (a + 31)) (ty := .array (.object "DownhillSong$Sight")) zc hK g0 (zD1 (Nat.le_refl a)) hS uw9 tyX9 tyX9_ok nmX9 0 rfl rfl 7 (by decide) kf_9_40 (fun _ h9 => h9) (Or.inr ⟨rfl, hin, rfl⟩) (by decide +kernel) rfl rfl (Nat.le_of_ble_eq_true rfl) dX9_init_106 (fun H29 locs hN oq hz1 hS => ?_)
  have g1 := zkp g1 zRg_1 (fun q _ h2 h3 => oq q (znA (a := a) (i := 1) (p := 0) h2 (Nat.le_of_ble_eq_true rfl)))
  have g2 := zkp g2 zRg_1 (fun q _ h2 h3 => oq q (znA (a := a) (i := 2) (p := 0) h2 (Nat.le_of_ble_eq_true rfl)))
  have g3 := zkp g3 zRg_1 (fun q _ h2 h3 => oq q (znA (a := a) (i := 3) (p := 0) h2 (Nat.le_of_ble_eq_true rfl)))
  have g4 := zkp g4 zrg_X2_init (fun q _ h2 h3 => oq q (znA (a := a) (i := 4) (p := 0) h2 (Nat.le_of_ble_eq_true rfl)))
  have g13 := zkp g13 zrg_X2_init (fun q _ h2 h3 => oq q (znA (a := a) (i := 13) (p := 0) h2 (Nat.le_of_ble_eq_true rfl)))
  have g22 := zkp g22 zRg_1 (fun q _ h2 h3 => oq q (znA (a := a) (i := 22) (p := 0) h2 (Nat.le_of_ble_eq_true rfl)))
  have g23 := zkp g23 zrg_X1_init (fun q _ h2 h3 => oq q (znA (a := a) (i := 23) (p := 0) h2 (Nat.le_of_ble_eq_true rfl)))
  have g27 := zkp g27 zrg_X1_init (fun q _ h2 h3 => oq q (znA (a := a) (i := 27) (p := 0) h2 (Nat.le_of_ble_eq_true rfl)))
  have g31 := zkp g31 zRg_1 (fun q _ h2 h3 => oq q (znA (a := a) (i := 31) (p := 0) h2 (Nat.le_of_ble_eq_true rfl)))
  have g32 := zkp g32 zrg_X6_init (fun q _ h2 h3 => oq q (znA (a := a) (i := 32) (p := 0) h2 (Nat.le_of_ble_eq_true rfl)))
  have g36 := zkp g36 zrg_X6_init (fun q _ h2 h3 => oq q (znA (a := a) (i := 36) (p := 0) h2 (Nat.le_of_ble_eq_true rfl)))
  have g0 : va_P E.1 zcl [(a, .inr (9, [.ref (a + 1), .int 0, .int 0, .int (-1 : Int32), .ref (a + 2), .ref (a + 3), .ref (a + 22), .ref (a + 31), .null]))] H29 := hN
  have hsz := hz1.trans hsz
  refine lv_aload_n hx hb dX9_init_109 rfl (lv_at hl 0 rfl) ?_
  refine lv_iconst (v := (2 : Int32)) hx hb dX9_init_110 (by decide) ?_
  refine zNewq (ws := []) (t := 7) (N := 2) zc hK (hO RX0 (by simp [zover])) (fun k q h => by simp at h) hS hsz kcl_9_44 rfl (by decide) (by decide) (by decide) (Nat.le_of_ble_eq_true rfl) (Nat.le_of_ble_eq_true rfl) dX9_init_111 (fun H30 hN o1 hz1 hS => ?_)
  have g0 := zkp g0 zRg_1 (fun q h1 _ _ => o1 q (Nat.lt_of_lt_of_eq h1 hsz))
  have g1 := zkp g1 zRg_1 (fun q h1 _ _ => o1 q (Nat.lt_of_lt_of_eq h1 hsz))
  have g2 := zkp g2 zRg_1 (fun q h1 _ _ => o1 q (Nat.lt_of_lt_of_eq h1 hsz))
  have g3 := zkp g3 zRg_1 (fun q h1 _ _ => o1 q (Nat.lt_of_lt_of_eq h1 hsz))
  have g4 := zkp g4 zrg_X2_init (fun q h1 _ _ => o1 q (Nat.lt_of_lt_of_eq h1 hsz))
  have g13 := zkp g13 zrg_X2_init (fun q h1 _ _ => o1 q (Nat.lt_of_lt_of_eq h1 hsz))
  have g22 := zkp g22 zRg_1 (fun q h1 _ _ => o1 q (Nat.lt_of_lt_of_eq h1 hsz))
  have g23 := zkp g23 zrg_X1_init (fun q h1 _ _ => o1 q (Nat.lt_of_lt_of_eq h1 hsz))
  have g27 := zkp g27 zrg_X1_init (fun q h1 _ _ => o1 q (Nat.lt_of_lt_of_eq h1 hsz))
  have g31 := zkp g31 zRg_1 (fun q h1 _ _ => o1 q (Nat.lt_of_lt_of_eq h1 hsz))
  have g32 := zkp g32 zrg_X6_init (fun q h1 _ _ => o1 q (Nat.lt_of_lt_of_eq h1 hsz))
  have g36 := zkp g36 zrg_X6_init (fun q h1 _ _ => o1 q (Nat.lt_of_lt_of_eq h1 hsz))
  have g40 : va_P E.1 zcl [((a + 40), .inl (E.2 7, 2, .inr (.inr (.inr (.inr (fun _ => none))))))] H30 := hN
  have hsz : H30.size = a + 41 := hz1
  refine W.cs (cells' := 40) (slots' := 1208) rfl rfl ?_
  refine lv_dup hx hb dX9_init_114 rfl ?_
  refine lv_iconst (v := (0 : Int32)) hx hb dX9_init_115 (by decide) ?_
  refine zNew (ws := []) (C := RX0) (T := TX0) (N := 4) (ci := 0) zc hK (fun k q h => by simp at h) hS hsz uw0 tyX0 tyX0_ok kcl_9_44 kins_0 kinit_0 rfl [.int 0, .int 0, .null, .null] (fun j hj => match j, hj with | 0, _ => rfl | 1, _ => rfl | 2, _ => rfl | 3, _ => rfl | j + 4, hj => absurd hj (by omega)) (Nat.le_of_ble_eq_true rfl) (Nat.le_of_ble_eq_true rfl) dX9_init_116 (fun H31 hN o1 hz1 hS => ?_)
  have g0 := zkp g0 zRg_1 (fun q h1 _ _ => o1 q (Nat.lt_of_lt_of_eq h1 hsz))
  have g1 := zkp g1 zRg_1 (fun q h1 _ _ => o1 q (Nat.lt_of_lt_of_eq h1 hsz))
  have g2 := zkp g2 zRg_1 (fun q h1 _ _ => o1 q (Nat.lt_of_lt_of_eq h1 hsz))
  have g3 := zkp g3 zRg_1 (fun q h1 _ _ => o1 q (Nat.lt_of_lt_of_eq h1 hsz))
  have g4 := zkp g4 zrg_X2_init (fun q h1 _ _ => o1 q (Nat.lt_of_lt_of_eq h1 hsz))
  have g13 := zkp g13 zrg_X2_init (fun q h1 _ _ => o1 q (Nat.lt_of_lt_of_eq h1 hsz))
  have g22 := zkp g22 zRg_1 (fun q h1 _ _ => o1 q (Nat.lt_of_lt_of_eq h1 hsz))
  have g23 := zkp g23 zrg_X1_init (fun q h1 _ _ => o1 q (Nat.lt_of_lt_of_eq h1 hsz))
  have g27 := zkp g27 zrg_X1_init (fun q h1 _ _ => o1 q (Nat.lt_of_lt_of_eq h1 hsz))
  have g31 := zkp g31 zRg_1 (fun q h1 _ _ => o1 q (Nat.lt_of_lt_of_eq h1 hsz))
  have g32 := zkp g32 zrg_X6_init (fun q h1 _ _ => o1 q (Nat.lt_of_lt_of_eq h1 hsz))
  have g36 := zkp g36 zrg_X6_init (fun q h1 _ _ => o1 q (Nat.lt_of_lt_of_eq h1 hsz))
  have g40 := zkp g40 zRg_1 (fun q h1 _ _ => o1 q (Nat.lt_of_lt_of_eq h1 hsz))
  have g41 : va_P E.1 zcl [((a + 41), .inr (0, [.int 0, .int 0, .null, .null]))] H31 := hN
  have hsz : H31.size = a + 42 := hz1
  refine W.cs (cells' := 41) (slots' := 1212) rfl rfl ?_
  refine lv_dup hx hb dX9_init_119 rfl ?_
  refine zIc zc ky_X0_init kz_X0_init rfl km_9_46 (ci_X0_init l) (zIpre hK hO g41 hsz) hS (fun q (h : (a + 41) ≤ q) => Nat.le_trans (Nat.le_add_right a 41) h) hl.1 (Nat.le_of_ble_eq_true rfl) ⟨rfl, rfl⟩ ⟨Nat.le_of_ble_eq_true rfl, Nat.le_of_ble_eq_true rfl⟩ ⟨Nat.le_of_ble_eq_true rfl, Nat.le_of_ble_eq_true rfl⟩ dX9_init_120 (fun _ H32 locs _ hJ hk hS => ?_)
  have g0 := zkp g0 zRg_1 (fun q h1 _ h3 => hk q h1 (zge_n (a := a) (i := 1) (j := 41) h3 (Nat.le_of_ble_eq_true rfl)))
  have g1 := zkp g1 zRg_1 (fun q h1 _ h3 => hk q h1 (zge_n (a := a) (i := 2) (j := 41) h3 (Nat.le_of_ble_eq_true rfl)))
  have g2 := zkp g2 zRg_1 (fun q h1 _ h3 => hk q h1 (zge_n (a := a) (i := 3) (j := 41) h3 (Nat.le_of_ble_eq_true rfl)))
  have g3 := zkp g3 zRg_1 (fun q h1 _ h3 => hk q h1 (zge_n (a := a) (i := 4) (j := 41) h3 (Nat.le_of_ble_eq_true rfl)))
  have g4 := zkp g4 zrg_X2_init (fun q h1 _ h3 => hk q h1 (zge_n (a := a) (i := 13) (j := 41) h3 (Nat.le_of_ble_eq_true rfl)))
  have g13 := zkp g13 zrg_X2_init (fun q h1 _ h3 => hk q h1 (zge_n (a := a) (i := 22) (j := 41) h3 (Nat.le_of_ble_eq_true rfl)))
  have g22 := zkp g22 zRg_1 (fun q h1 _ h3 => hk q h1 (zge_n (a := a) (i := 23) (j := 41) h3 (Nat.le_of_ble_eq_true rfl)))
  have g23 := zkp g23 zrg_X1_init (fun q h1 _ h3 => hk q h1 (zge_n (a := a) (i := 27) (j := 41) h3 (Nat.le_of_ble_eq_true rfl)))
  have g27 := zkp g27 zrg_X1_init (fun q h1 _ h3 => hk q h1 (zge_n (a := a) (i := 31) (j := 41) h3 (Nat.le_of_ble_eq_true rfl)))
  have g31 := zkp g31 zRg_1 (fun q h1 _ h3 => hk q h1 (zge_n (a := a) (i := 32) (j := 41) h3 (Nat.le_of_ble_eq_true rfl)))
  have g32 := zkp g32 zrg_X6_init (fun q h1 _ h3 => hk q h1 (zge_n (a := a) (i := 36) (j := 41) h3 (Nat.le_of_ble_eq_true rfl)))
  have g36 := zkp g36 zrg_X6_init (fun q h1 _ h3 => hk q h1 (zge_n (a := a) (i := 40) (j := 41) h3 (Nat.le_of_ble_eq_true rfl)))
  have g40 := zkp g40 zRg_1 (fun q h1 _ h3 => hk q h1 (zge_n (a := a) (i := 41) (j := 41) h3 (Nat.le_of_ble_eq_true rfl)))
  have g41 := hJ.1
  have hsz : H32.size = a + 44 := hJ.2
  refine W.cs (cells' := 43) (slots' := 1230) rfl rfl ?_
  refine zAast (t := 7) (r := (RX0, TX0, 4)) zc hK g40 (zD1 (Nat.le_add_right a 40)) hS 0 0 rfl rfl g41 rfl rfl (by unfold vp_in; decide) dX9_init_123 (fun H33 locs hN oq hz1 hS => ?_)
  have g0 := zkp g0 zRg_1 (fun q _ h2 h3 => oq q (znB (a := a) (i := 1) (p := 40) h3 (Nat.le_of_ble_eq_true rfl)))
  have g1 := zkp g1 zRg_1 (fun q _ h2 h3 => oq q (znB (a := a) (i := 2) (p := 40) h3 (Nat.le_of_ble_eq_true rfl)))
  have g2 := zkp g2 zRg_1 (fun q _ h2 h3 => oq q (znB (a := a) (i := 3) (p := 40) h3 (Nat.le_of_ble_eq_true rfl)))
  have g3 := zkp g3 zRg_1 (fun q _ h2 h3 => oq q (znB (a := a) (i := 4) (p := 40) h3 (Nat.le_of_ble_eq_true rfl)))
  have g4 := zkp g4 zrg_X2_init (fun q _ h2 h3 => oq q (znB (a := a) (i := 13) (p := 40) h3 (Nat.le_of_ble_eq_true rfl)))
  have g13 := zkp g13 zrg_X2_init (fun q _ h2 h3 => oq q (znB (a := a) (i := 22) (p := 40) h3 (Nat.le_of_ble_eq_true rfl)))
  have g22 := zkp g22 zRg_1 (fun q _ h2 h3 => oq q (znB (a := a) (i := 23) (p := 40) h3 (Nat.le_of_ble_eq_true rfl)))
  have g23 := zkp g23 zrg_X1_init (fun q _ h2 h3 => oq q (znB (a := a) (i := 27) (p := 40) h3 (Nat.le_of_ble_eq_true rfl)))
  have g27 := zkp g27 zrg_X1_init (fun q _ h2 h3 => oq q (znB (a := a) (i := 31) (p := 40) h3 (Nat.le_of_ble_eq_true rfl)))
  have g31 := zkp g31 zRg_1 (fun q _ h2 h3 => oq q (znB (a := a) (i := 32) (p := 40) h3 (Nat.le_of_ble_eq_true rfl)))
  have g32 := zkp g32 zrg_X6_init (fun q _ h2 h3 => oq q (znB (a := a) (i := 36) (p := 40) h3 (Nat.le_of_ble_eq_true rfl)))
  have g36 := zkp g36 zrg_X6_init (fun q _ h2 h3 => oq q (znB (a := a) (i := 40) (p := 40) h3 (Nat.le_of_ble_eq_true rfl)))
  have g41 := zkp g41 zrg_X0_init (fun q _ h2 h3 => oq q (znA (a := a) (i := 41) (p := 40) h2 (Nat.le_of_ble_eq_true rfl)))
  have g40 : va_P E.1 zcl [((a + 40), .inl (E.2 7, 2, .inr (.inr (.inr (.inr (va_up (fun _ => none) (Int32.toNatClampNeg (0 : Int32)) (some (a + 41))))))))] H33 := hN
  have hsz := hz1.trans hsz
  refine lv_dup hx hb dX9_init_124 rfl ?_
  refine lv_iconst (v := (1 : Int32)) hx hb dX9_init_125 (by decide) ?_
  refine zNew (ws := []) (C := RX0) (T := TX0) (N := 4) (ci := 0) zc hK (fun k q h => by simp at h) hS hsz uw0 tyX0 tyX0_ok kcl_9_44 kins_0 kinit_0 rfl [.int 0, .int 0, .null, .null] (fun j hj => match j, hj with | 0, _ => rfl | 1, _ => rfl | 2, _ => rfl | 3, _ => rfl | j + 4, hj => absurd hj (by omega)) (Nat.le_of_ble_eq_true rfl) (Nat.le_of_ble_eq_true rfl) dX9_init_126 (fun H34 hN o1 hz1 hS => ?_)
  have g0 := zkp g0 zRg_1 (fun q h1 _ _ => o1 q (Nat.lt_of_lt_of_eq h1 hsz))
  have g1 := zkp g1 zRg_1 (fun q h1 _ _ => o1 q (Nat.lt_of_lt_of_eq h1 hsz))
  have g2 := zkp g2 zRg_1 (fun q h1 _ _ => o1 q (Nat.lt_of_lt_of_eq h1 hsz))
  have g3 := zkp g3 zRg_1 (fun q h1 _ _ => o1 q (Nat.lt_of_lt_of_eq h1 hsz))
  have g4 := zkp g4 zrg_X2_init (fun q h1 _ _ => o1 q (Nat.lt_of_lt_of_eq h1 hsz))
  have g13 := zkp g13 zrg_X2_init (fun q h1 _ _ => o1 q (Nat.lt_of_lt_of_eq h1 hsz))
  have g22 := zkp g22 zRg_1 (fun q h1 _ _ => o1 q (Nat.lt_of_lt_of_eq h1 hsz))
  have g23 := zkp g23 zrg_X1_init (fun q h1 _ _ => o1 q (Nat.lt_of_lt_of_eq h1 hsz))
  have g27 := zkp g27 zrg_X1_init (fun q h1 _ _ => o1 q (Nat.lt_of_lt_of_eq h1 hsz))
  have g31 := zkp g31 zRg_1 (fun q h1 _ _ => o1 q (Nat.lt_of_lt_of_eq h1 hsz))
  have g32 := zkp g32 zrg_X6_init (fun q h1 _ _ => o1 q (Nat.lt_of_lt_of_eq h1 hsz))
  have g36 := zkp g36 zrg_X6_init (fun q h1 _ _ => o1 q (Nat.lt_of_lt_of_eq h1 hsz))
  have g40 := zkp g40 zRg_1 (fun q h1 _ _ => o1 q (Nat.lt_of_lt_of_eq h1 hsz))
  have g41 := zkp g41 zrg_X0_init (fun q h1 _ _ => o1 q (Nat.lt_of_lt_of_eq h1 hsz))
  have g44 : va_P E.1 zcl [((a + 44), .inr (0, [.int 0, .int 0, .null, .null]))] H34 := hN
  have hsz : H34.size = a + 45 := hz1
  refine W.cs (cells' := 44) (slots' := 1234) rfl rfl ?_
  refine lv_dup hx hb dX9_init_129 rfl ?_
  refine zIc zc ky_X0_init kz_X0_init rfl km_9_46 (ci_X0_init l) (zIpre hK hO g44 hsz) hS (fun q (h : (a + 44) ≤ q) => Nat.le_trans (Nat.le_add_right a 44) h) hl.1 (Nat.le_of_ble_eq_true rfl) ⟨rfl, rfl⟩ ⟨Nat.le_of_ble_eq_true rfl, Nat.le_of_ble_eq_true rfl⟩ ⟨Nat.le_of_ble_eq_true rfl, Nat.le_of_ble_eq_true rfl⟩ dX9_init_130 (fun _ H35 locs _ hJ hk hS => ?_)
  have g0 := zkp g0 zRg_1 (fun q h1 _ h3 => hk q h1 (zge_n (a := a) (i := 1) (j := 44) h3 (Nat.le_of_ble_eq_true rfl)))
  have g1 := zkp g1 zRg_1 (fun q h1 _ h3 => hk q h1 (zge_n (a := a) (i := 2) (j := 44) h3 (Nat.le_of_ble_eq_true rfl)))
  have g2 := zkp g2 zRg_1 (fun q h1 _ h3 => hk q h1 (zge_n (a := a) (i := 3) (j := 44) h3 (Nat.le_of_ble_eq_true rfl)))
  have g3 := zkp g3 zRg_1 (fun q h1 _ h3 => hk q h1 (zge_n (a := a) (i := 4) (j := 44) h3 (Nat.le_of_ble_eq_true rfl)))
  have g4 := zkp g4 zrg_X2_init (fun q h1 _ h3 => hk q h1 (zge_n (a := a) (i := 13) (j := 44) h3 (Nat.le_of_ble_eq_true rfl)))
  have g13 := zkp g13 zrg_X2_init (fun q h1 _ h3 => hk q h1 (zge_n (a := a) (i := 22) (j := 44) h3 (Nat.le_of_ble_eq_true rfl)))
  have g22 := zkp g22 zRg_1 (fun q h1 _ h3 => hk q h1 (zge_n (a := a) (i := 23) (j := 44) h3 (Nat.le_of_ble_eq_true rfl)))
  have g23 := zkp g23 zrg_X1_init (fun q h1 _ h3 => hk q h1 (zge_n (a := a) (i := 27) (j := 44) h3 (Nat.le_of_ble_eq_true rfl)))
  have g27 := zkp g27 zrg_X1_init (fun q h1 _ h3 => hk q h1 (zge_n (a := a) (i := 31) (j := 44) h3 (Nat.le_of_ble_eq_true rfl)))
  have g31 := zkp g31 zRg_1 (fun q h1 _ h3 => hk q h1 (zge_n (a := a) (i := 32) (j := 44) h3 (Nat.le_of_ble_eq_true rfl)))
  have g32 := zkp g32 zrg_X6_init (fun q h1 _ h3 => hk q h1 (zge_n (a := a) (i := 36) (j := 44) h3 (Nat.le_of_ble_eq_true rfl)))
  have g36 := zkp g36 zrg_X6_init (fun q h1 _ h3 => hk q h1 (zge_n (a := a) (i := 40) (j := 44) h3 (Nat.le_of_ble_eq_true rfl)))
  have g40 := zkp g40 zRg_1 (fun q h1 _ h3 => hk q h1 (zge_n (a := a) (i := 41) (j := 44) h3 (Nat.le_of_ble_eq_true rfl)))
  have g41 := zkp g41 zrg_X0_init (fun q h1 _ h3 => hk q h1 (zge_n (a := a) (i := 44) (j := 44) h3 (Nat.le_of_ble_eq_true rfl)))
  have g44 := hJ.1
  have hsz : H35.size = a + 47 := hJ.2
  refine W.cs (cells' := 46) (slots' := 1252) rfl rfl ?_
  refine zAast (t := 7) (r := (RX0, TX0, 4)) zc hK g40 (zD1 (Nat.le_add_right a 40)) hS 0 0 rfl rfl g44 rfl rfl (by unfold vp_in; decide) dX9_init_133 (fun H36 locs hN oq hz1 hS => ?_)
  have g0 := zkp g0 zRg_1 (fun q _ h2 h3 => oq q (znB (a := a) (i := 1) (p := 40) h3 (Nat.le_of_ble_eq_true rfl)))
  have g1 := zkp g1 zRg_1 (fun q _ h2 h3 => oq q (znB (a := a) (i := 2) (p := 40) h3 (Nat.le_of_ble_eq_true rfl)))
  have g2 := zkp g2 zRg_1 (fun q _ h2 h3 => oq q (znB (a := a) (i := 3) (p := 40) h3 (Nat.le_of_ble_eq_true rfl)))
  have g3 := zkp g3 zRg_1 (fun q _ h2 h3 => oq q (znB (a := a) (i := 4) (p := 40) h3 (Nat.le_of_ble_eq_true rfl)))
  have g4 := zkp g4 zrg_X2_init (fun q _ h2 h3 => oq q (znB (a := a) (i := 13) (p := 40) h3 (Nat.le_of_ble_eq_true rfl)))
  have g13 := zkp g13 zrg_X2_init (fun q _ h2 h3 => oq q (znB (a := a) (i := 22) (p := 40) h3 (Nat.le_of_ble_eq_true rfl)))
  have g22 := zkp g22 zRg_1 (fun q _ h2 h3 => oq q (znB (a := a) (i := 23) (p := 40) h3 (Nat.le_of_ble_eq_true rfl)))
  have g23 := zkp g23 zrg_X1_init (fun q _ h2 h3 => oq q (znB (a := a) (i := 27) (p := 40) h3 (Nat.le_of_ble_eq_true rfl)))
  have g27 := zkp g27 zrg_X1_init (fun q _ h2 h3 => oq q (znB (a := a) (i := 31) (p := 40) h3 (Nat.le_of_ble_eq_true rfl)))
  have g31 := zkp g31 zRg_1 (fun q _ h2 h3 => oq q (znB (a := a) (i := 32) (p := 40) h3 (Nat.le_of_ble_eq_true rfl)))
  have g32 := zkp g32 zrg_X6_init (fun q _ h2 h3 => oq q (znB (a := a) (i := 36) (p := 40) h3 (Nat.le_of_ble_eq_true rfl)))
  have g36 := zkp g36 zrg_X6_init (fun q _ h2 h3 => oq q (znB (a := a) (i := 40) (p := 40) h3 (Nat.le_of_ble_eq_true rfl)))
  have g41 := zkp g41 zrg_X0_init (fun q _ h2 h3 => oq q (znA (a := a) (i := 41) (p := 40) h2 (Nat.le_of_ble_eq_true rfl)))
  have g44 := zkp g44 zrg_X0_init (fun q _ h2 h3 => oq q (znA (a := a) (i := 44) (p := 40) h2 (Nat.le_of_ble_eq_true rfl)))
  have g40 : va_P E.1 zcl [((a + 40), .inl (E.2 7, 2, .inr (.inr (.inr (.inr (va_up (va_up (fun _ => none) (Int32.toNatClampNeg (0 : Int32)) (some (a + 41))) (Int32.toNatClampNeg (1 : Int32)) (some (a + 44))))))))] H36 := hN
  have hsz := hz1.trans hsz
  refine zPut (C := RX9) (T := TX9) (N := 9) (ci := 9) (v := .ref (a + 40)) (ty := .array (.object "DownhillSong$Choir")) zc hK g0 (zD1 (Nat.le_refl a)) hS uw9 tyX9 tyX9_ok nmX9 0 rfl rfl 8 (by decide) kf_9_47 (fun _ h9 => h9) (Or.inr ⟨rfl, hin, rfl⟩) (by decide +kernel) rfl rfl (Nat.le_of_ble_eq_true rfl) dX9_init_134 (fun H37 locs hN oq hz1 hS => ?_)
  have g1 := zkp g1 zRg_1 (fun q _ h2 h3 => oq q (znA (a := a) (i := 1) (p := 0) h2 (Nat.le_of_ble_eq_true rfl)))
  have g2 := zkp g2 zRg_1 (fun q _ h2 h3 => oq q (znA (a := a) (i := 2) (p := 0) h2 (Nat.le_of_ble_eq_true rfl)))
  have g3 := zkp g3 zRg_1 (fun q _ h2 h3 => oq q (znA (a := a) (i := 3) (p := 0) h2 (Nat.le_of_ble_eq_true rfl)))
  have g4 := zkp g4 zrg_X2_init (fun q _ h2 h3 => oq q (znA (a := a) (i := 4) (p := 0) h2 (Nat.le_of_ble_eq_true rfl)))
  have g13 := zkp g13 zrg_X2_init (fun q _ h2 h3 => oq q (znA (a := a) (i := 13) (p := 0) h2 (Nat.le_of_ble_eq_true rfl)))
  have g22 := zkp g22 zRg_1 (fun q _ h2 h3 => oq q (znA (a := a) (i := 22) (p := 0) h2 (Nat.le_of_ble_eq_true rfl)))
  have g23 := zkp g23 zrg_X1_init (fun q _ h2 h3 => oq q (znA (a := a) (i := 23) (p := 0) h2 (Nat.le_of_ble_eq_true rfl)))
  have g27 := zkp g27 zrg_X1_init (fun q _ h2 h3 => oq q (znA (a := a) (i := 27) (p := 0) h2 (Nat.le_of_ble_eq_true rfl)))
  have g31 := zkp g31 zRg_1 (fun q _ h2 h3 => oq q (znA (a := a) (i := 31) (p := 0) h2 (Nat.le_of_ble_eq_true rfl)))
  have g32 := zkp g32 zrg_X6_init (fun q _ h2 h3 => oq q (znA (a := a) (i := 32) (p := 0) h2 (Nat.le_of_ble_eq_true rfl)))
  have g36 := zkp g36 zrg_X6_init (fun q _ h2 h3 => oq q (znA (a := a) (i := 36) (p := 0) h2 (Nat.le_of_ble_eq_true rfl)))
  have g40 := zkp g40 zRg_1 (fun q _ h2 h3 => oq q (znA (a := a) (i := 40) (p := 0) h2 (Nat.le_of_ble_eq_true rfl)))
  have g41 := zkp g41 zrg_X0_init (fun q _ h2 h3 => oq q (znA (a := a) (i := 41) (p := 0) h2 (Nat.le_of_ble_eq_true rfl)))
  have g44 := zkp g44 zrg_X0_init (fun q _ h2 h3 => oq q (znA (a := a) (i := 44) (p := 0) h2 (Nat.le_of_ble_eq_true rfl)))
  have g0 : va_P E.1 zcl [(a, .inr (9, [.ref (a + 1), .int 0, .int 0, .int (-1 : Int32), .ref (a + 2), .ref (a + 3), .ref (a + 22), .ref (a + 31), .ref (a + 40)]))] H37 := hN
  have hsz := hz1.trans hsz
  have g3 : va_P E.1 zcl [((a + 3), .inl (E.2 4, 2, .inr (.inr (.inr (.inr (fun k => if k = 0 then some (a + 4) else some (a + 13)))))))] H37 := by
    refine zP1 ?_
    show H37[(a + 3)]? = some (vp_cell _ _)
    refine (g3 0 _ rfl : _).trans (congrArg some (zarr_q ?_))
    intro j hj
    match j, hj with
    | 0, _ => rfl
    | 1, _ => rfl
  have g22 : va_P E.1 zcl [((a + 22), .inl (E.2 5, 2, .inr (.inr (.inr (.inr (fun k => if k = 0 then some (a + 23) else some (a + 27)))))))] H37 := by
    refine zP1 ?_
    show H37[(a + 22)]? = some (vp_cell _ _)
    refine (g22 0 _ rfl : _).trans (congrArg some (zarr_q ?_))
    intro j hj
    match j, hj with
    | 0, _ => rfl
    | 1, _ => rfl
  have g31 : va_P E.1 zcl [((a + 31), .inl (E.2 6, 2, .inr (.inr (.inr (.inr (fun k => if k = 0 then some (a + 32) else some (a + 36)))))))] H37 := by
    refine zP1 ?_
    show H37[(a + 31)]? = some (vp_cell _ _)
    refine (g31 0 _ rfl : _).trans (congrArg some (zarr_q ?_))
    intro j hj
    match j, hj with
    | 0, _ => rfl
    | 1, _ => rfl
  have g40 : va_P E.1 zcl [((a + 40), .inl (E.2 7, 2, .inr (.inr (.inr (.inr (fun k => if k = 0 then some (a + 41) else some (a + 44)))))))] H37 := by
    refine zP1 ?_
    show H37[(a + 40)]? = some (vp_cell _ _)
    refine (g40 0 _ rfl : _).trans (congrArg some (zarr_q ?_))
    intro j hj
    match j, hj with
    | 0, _ => rfl
    | 1, _ => rfl
  exact zIret (post := fun _ => True) (B := zJ E a 47 ([(a, .inr (9, [.ref (a + 1), .int 0, .int 0, .int (-1 : Int32), .ref (a + 2), .ref (a + 3), .ref (a + 22), .ref (a + 31), .ref (a + 40)]))] ++ ([((a + 1), .inl (E.2 0, 600, .inl (fun _ => 0)))] ++ ([((a + 2), .inl (E.2 1, 4, .inl (fun _ => 0)))] ++ ([((a + 3), .inl (E.2 4, 2, .inr (.inr (.inr (.inr (fun k => if k = 0 then some (a + 4) else some (a + 13)))))))] ++ (zb_X2_init E (a + 4) ++ (zb_X2_init E (a + 13) ++ ([((a + 22), .inl (E.2 5, 2, .inr (.inr (.inr (.inr (fun k => if k = 0 then some (a + 23) else some (a + 27)))))))] ++ (zb_X1_init E (a + 23) ++ (zb_X1_init E (a + 27) ++ ([((a + 31), .inl (E.2 6, 2, .inr (.inr (.inr (.inr (fun k => if k = 0 then some (a + 32) else some (a + 36)))))))] ++ (zb_X6_init E (a + 32) ++ (zb_X6_init E (a + 36) ++ ([((a + 40), .inl (E.2 7, 2, .inr (.inr (.inr (.inr (fun k => if k = 0 then some (a + 41) else some (a + 44)))))))] ++ (zb_X0_init E (a + 41) ++ (zb_X0_init E (a + 44))))))))))))))))) () zc hS trivial ⟨(va_P.app g0 (va_P.app g1 (va_P.app g2 (va_P.app g3 (va_P.app g4 (va_P.app g13 (va_P.app g22 (va_P.app g23 (va_P.app g27 (va_P.app g31 (va_P.app g32 (va_P.app g36 (va_P.app g40 (va_P.app g41 g44)))))))))))))), hsz⟩ dX9_init_137
