section
abbrev rmi_X9_init : Room := { frames := 2, cells := 46, slots := 1252, locals := 40 }
abbrev zb_X9_init (E : zE) (a : Nat) : va_W := ([(a, .inr (9, [.ref (a + 1), .int 0, .int 0, .int (-1 : Int32), .ref (a + 2), .ref (a + 3), .ref (a + 22), .ref (a + 31), .ref (a + 40)]))] ++ ([((a + 1), .inl (E.2 0, 600, .inl (fun _ => 0)))] ++ ([((a + 2), .inl (E.2 1, 4, .inl (fun _ => 0)))] ++ ([((a + 3), .inl (E.2 4, 2, .inr (.inr (.inr (.inr (fun k => if k = 0 then some (a + 4) else some (a + 13)))))))] ++ (zb_X2_init E (a + 4) ++ (zb_X2_init E (a + 13) ++ ([((a + 22), .inl (E.2 5, 2, .inr (.inr (.inr (.inr (fun k => if k = 0 then some (a + 23) else some (a + 27)))))))] ++ (zb_X1_init E (a + 23) ++ (zb_X1_init E (a + 27) ++ ([((a + 31), .inl (E.2 6, 2, .inr (.inr (.inr (.inr (fun k => if k = 0 then some (a + 32) else some (a + 36)))))))] ++ (zb_X6_init E (a + 32) ++ (zb_X6_init E (a + 36) ++ ([((a + 40), .inl (E.2 7, 2, .inr (.inr (.inr (.inr (fun k => if k = 0 then some (a + 41) else some (a + 44)))))))] ++ (zb_X0_init E (a + 41) ++ (zb_X0_init E (a + 44))))))))))))))))
theorem zrg_X9_init {E : zE} {a : Nat} : zRg (zb_X9_init E a) a (a + 47) := by
  exact ((zRg_1).mono (by omega) (by omega)).app (((zRg_1).mono (by omega) (by omega)).app (((zRg_1).mono (by omega) (by omega)).app (((zRg_1).mono (by omega) (by omega)).app (((zrg_X2_init).mono (by omega) (by omega)).app (((zrg_X2_init).mono (by omega) (by omega)).app (((zRg_1).mono (by omega) (by omega)).app (((zrg_X1_init).mono (by omega) (by omega)).app (((zrg_X1_init).mono (by omega) (by omega)).app (((zRg_1).mono (by omega) (by omega)).app (((zrg_X6_init).mono (by omega) (by omega)).app (((zrg_X6_init).mono (by omega) (by omega)).app (((zRg_1).mono (by omega) (by omega)).app (((zrg_X0_init).mono (by omega) (by omega)).app ((zrg_X0_init).mono (by omega) (by omega)))))))))))))))
set_option maxRecDepth 40000 in
set_option maxHeartbeats 4000000 in
theorem ci_X9_init (l : Launch) {E : zE} {a : Nat} : Met l yX9_init (Cond.code yX9_init cX9_init 1 none :: zb) rmi_X9_init (va_Pc [.ref a] (zI E a 9 [.null, .int 0, .int 0, .int 0, .null, .null, .null, .null, .null])) (zQv (S := Unit) (fun _ => True) (zJ E a 47 (zb_X9_init E a)) (fun q => a ≤ q)) 46 1252 (fun q => a ≤ q) := by
  refine Met.ofW (cc := cX9_init) (maxL := 1) (ret := none) (by decide) rfl ?_
  intro p e s m args below meth c s₁ B hml hv
  obtain ⟨rfl, hsz, g0, hK, hO⟩ := hv
  have zc := zc_of B hml
  have hx := zc.1
  have hb := zc.2.1
  have hz := zc.2.2.2.2.1
  have hin : meth.name = "<init>" := (name_of_methodNamed B.named B.method).1
  have hS : va_S (fun q => a ≤ q) s.heap s.heap [] := va_S.rf
  have hl := lv_entry ([.ref a]) (n := 1) (Nat.le_of_ble_eq_true rfl)
  rw [lg_entry_eq]
  generalize (lg_sl ([.ref a]) ++ List.replicate (1 - (lg_sl ([.ref a])).length) Slot.unset).toArray = ls at hl ⊢
  have hl : lv_has ls 1 [(0, .ref a)] := hl
  refine lv_aload_n hx hb dX9_init_0 rfl (lv_at hl 0 rfl) ?_
  refine W.objInit hx hb zc.2.2.2.1 (hz _ km_9_3) (hz _ k_oi) (hz _ k_oc) rfl (by rw [zc.2.2.1]; exact hl.1) rfl dX9_init_1 (Nat.le_of_ble_eq_true rfl) (Nat.le_of_ble_eq_true rfl) ?_
  refine W.eq (g2 := F0 m 4 ls []) rfl ?_
  refine lv_aload_n hx hb dX9_init_4 rfl (lv_at hl 0 rfl) ?_
  refine lv_sipush (v := (600 : Int32)) hx hb dX9_init_5 (by decide) ?_
  refine zNewa (ws := []) (atype := .byte) (t := 0) (N := 600) (a0 := (600, .inl (fun _ => 0))) zc hK (fun k q h => by simp at h) hS hsz kac_B rfl (fun _ => rfl) (by decide) (by decide) (by decide) (Nat.le_of_ble_eq_true rfl) (Nat.le_of_ble_eq_true rfl) dX9_init_8 (fun H1 hN o1 hz1 hS => ?_)
  have g0 := zkp g0 zRg_1 (fun q h1 _ _ => o1 q (Nat.lt_of_lt_of_eq h1 hsz))
  have g1 : va_P E.1 zcl [((a + 1), .inl (E.2 0, 600, .inl (fun _ => 0)))] H1 := hN
  have hsz : H1.size = a + 2 := hz1
  refine W.cs (cells' := 1) (slots' := 600) rfl rfl ?_
  refine zPut (C := RX9) (T := TX9) (N := 9) (ci := 9) (v := .ref (a + 1)) (ty := .array .byte) zc hK g0 (zD1 (Nat.le_refl a)) hS uw9 tyX9 tyX9_ok nmX9 0 rfl rfl 0 (by decide) kf_9_9 (fun _ h9 => h9) (Or.inr ⟨rfl, hin, rfl⟩) (by decide +kernel) rfl rfl (Nat.le_of_ble_eq_true rfl) dX9_init_10 (fun H2 locs hN oq hz1 hS => ?_)
  have g1 := zkp g1 zRg_1 (fun q _ h2 h3 => oq q (znA (a := a) (i := 1) (p := 0) h2 (Nat.le_of_ble_eq_true rfl)))
  have g0 : va_P E.1 zcl [(a, .inr (9, [.ref (a + 1), .int 0, .int 0, .int 0, .null, .null, .null, .null, .null]))] H2 := hN
  have hsz := hz1.trans hsz
  refine lv_aload_n hx hb dX9_init_13 rfl (lv_at hl 0 rfl) ?_
  refine lv_iconst (v := (-1 : Int32)) hx hb dX9_init_14 (by decide) ?_
  refine zPut (C := RX9) (T := TX9) (N := 9) (ci := 9) (v := .int (-1 : Int32)) (ty := .int) zc hK g0 (zD1 (Nat.le_refl a)) hS uw9 tyX9 tyX9_ok nmX9 0 rfl rfl 3 (by decide) kf_9_15 (fun _ h9 => h9) (Or.inl rfl) (by decide +kernel) rfl rfl (Nat.le_of_ble_eq_true rfl) dX9_init_15 (fun H3 locs hN oq hz1 hS => ?_)
  have g1 := zkp g1 zRg_1 (fun q _ h2 h3 => oq q (znA (a := a) (i := 1) (p := 0) h2 (Nat.le_of_ble_eq_true rfl)))
  have g0 : va_P E.1 zcl [(a, .inr (9, [.ref (a + 1), .int 0, .int 0, .int (-1 : Int32), .null, .null, .null, .null, .null]))] H3 := hN
  have hsz := hz1.trans hsz
  refine lv_aload_n hx hb dX9_init_18 rfl (lv_at hl 0 rfl) ?_
  refine lv_iconst (v := (4 : Int32)) hx hb dX9_init_19 (by decide) ?_
  refine zNewa (ws := []) (atype := .int) (t := 1) (N := 4) (a0 := (4, .inl (fun _ => 0))) zc hK (fun k q h => by simp at h) hS hsz kac_I rfl (fun _ => rfl) (by decide) (by decide) (by decide) (Nat.le_of_ble_eq_true rfl) (Nat.le_of_ble_eq_true rfl) dX9_init_20 (fun H4 hN o1 hz1 hS => ?_)
  have g0 := zkp g0 zRg_1 (fun q h1 _ _ => o1 q (Nat.lt_of_lt_of_eq h1 hsz))
  have g1 := zkp g1 zRg_1 (fun q h1 _ _ => o1 q (Nat.lt_of_lt_of_eq h1 hsz))
  have g2 : va_P E.1 zcl [((a + 2), .inl (E.2 1, 4, .inl (fun _ => 0)))] H4 := hN
  have hsz : H4.size = a + 3 := hz1
  refine W.cs (cells' := 2) (slots' := 604) rfl rfl ?_
  refine zPut (C := RX9) (T := TX9) (N := 9) (ci := 9) (v := .ref (a + 2)) (ty := .array .int) zc hK g0 (zD1 (Nat.le_refl a)) hS uw9 tyX9 tyX9_ok nmX9 0 rfl rfl 4 (by decide) kf_9_19 (fun _ h9 => h9) (Or.inr ⟨rfl, hin, rfl⟩) (by decide +kernel) rfl rfl (Nat.le_of_ble_eq_true rfl) dX9_init_22 (fun H5 locs hN oq hz1 hS => ?_)
  have g1 := zkp g1 zRg_1 (fun q _ h2 h3 => oq q (znA (a := a) (i := 1) (p := 0) h2 (Nat.le_of_ble_eq_true rfl)))
  have g2 := zkp g2 zRg_1 (fun q _ h2 h3 => oq q (znA (a := a) (i := 2) (p := 0) h2 (Nat.le_of_ble_eq_true rfl)))
  have g0 : va_P E.1 zcl [(a, .inr (9, [.ref (a + 1), .int 0, .int 0, .int (-1 : Int32), .ref (a + 2), .null, .null, .null, .null]))] H5 := hN
  have hsz := hz1.trans hsz
  refine lv_aload_n hx hb dX9_init_25 rfl (lv_at hl 0 rfl) ?_
  refine lv_iconst (v := (2 : Int32)) hx hb dX9_init_26 (by decide) ?_
  refine zNewq (ws := []) (t := 4) (N := 2) zc hK (hO RX2 (by simp [zover])) (fun k q h => by simp at h) hS hsz kcl_9_23 rfl (by decide) (by decide) (by decide) (Nat.le_of_ble_eq_true rfl) (Nat.le_of_ble_eq_true rfl) dX9_init_27 (fun H6 hN o1 hz1 hS => ?_)
  have g0 := zkp g0 zRg_1 (fun q h1 _ _ => o1 q (Nat.lt_of_lt_of_eq h1 hsz))
  have g1 := zkp g1 zRg_1 (fun q h1 _ _ => o1 q (Nat.lt_of_lt_of_eq h1 hsz))
  have g2 := zkp g2 zRg_1 (fun q h1 _ _ => o1 q (Nat.lt_of_lt_of_eq h1 hsz))
  have g3 : va_P E.1 zcl [((a + 3), .inl (E.2 4, 2, .inr (.inr (.inr (.inr (fun _ => none))))))] H6 := hN
  have hsz : H6.size = a + 4 := hz1
  refine W.cs (cells' := 3) (slots' := 606) rfl rfl ?_
  refine lv_dup hx hb dX9_init_30 rfl ?_
  refine lv_iconst (v := (0 : Int32)) hx hb dX9_init_31 (by decide) ?_
  refine zNew (ws := []) (C := RX2) (T := TX2) (N := 15) (ci := 2) zc hK (fun k q h => by simp at h) hS hsz uw2 tyX2 tyX2_ok kcl_9_23 kins_2 kinit_2 rfl [.int 0, .int 0, .int 0, .int 0, .int 0, .int 0, .int 0, .null, .null, .null, .null, .null, .null, .null, .null] (fun j hj => match j, hj with | 0, _ => rfl | 1, _ => rfl | 2, _ => rfl | 3, _ => rfl | 4, _ => rfl | 5, _ => rfl | 6, _ => rfl | 7, _ => rfl | 8, _ => rfl | 9, _ => rfl | 10, _ => rfl | 11, _ => rfl | 12, _ => rfl | 13, _ => rfl | 14, _ => rfl | j + 15, hj => absurd hj (by omega)) (Nat.le_of_ble_eq_true rfl) (Nat.le_of_ble_eq_true rfl) dX9_init_32 (fun H7 hN o1 hz1 hS => ?_)
  have g0 := zkp g0 zRg_1 (fun q h1 _ _ => o1 q (Nat.lt_of_lt_of_eq h1 hsz))
  have g1 := zkp g1 zRg_1 (fun q h1 _ _ => o1 q (Nat.lt_of_lt_of_eq h1 hsz))
  have g2 := zkp g2 zRg_1 (fun q h1 _ _ => o1 q (Nat.lt_of_lt_of_eq h1 hsz))
  have g3 := zkp g3 zRg_1 (fun q h1 _ _ => o1 q (Nat.lt_of_lt_of_eq h1 hsz))
  have g4 : va_P E.1 zcl [((a + 4), .inr (2, [.int 0, .int 0, .int 0, .int 0, .int 0, .int 0, .int 0, .null, .null, .null, .null, .null, .null, .null, .null]))] H7 := hN
  have hsz : H7.size = a + 5 := hz1
  refine W.cs (cells' := 4) (slots' := 621) rfl rfl ?_
  refine lv_dup hx hb dX9_init_35 rfl ?_
  refine zIc zc ky_X2_init kz_X2_init rfl km_9_25 (ci_X2_init l) (zIpre hK hO g4 hsz) hS (fun q (h : (a + 4) ≤ q) => Nat.le_trans (Nat.le_add_right a 4) h) hl.1 (Nat.le_of_ble_eq_true rfl) ⟨rfl, rfl⟩ ⟨Nat.le_of_ble_eq_true rfl, Nat.le_of_ble_eq_true rfl⟩ ⟨Nat.le_of_ble_eq_true rfl, Nat.le_of_ble_eq_true rfl⟩ dX9_init_36 (fun _ H8 locs _ hJ hk hS => ?_)
  have g0 := zkp g0 zRg_1 (fun q h1 _ h3 => hk q h1 (zge_n (a := a) (i := 1) (j := 4) h3 (Nat.le_of_ble_eq_true rfl)))
  have g1 := zkp g1 zRg_1 (fun q h1 _ h3 => hk q h1 (zge_n (a := a) (i := 2) (j := 4) h3 (Nat.le_of_ble_eq_true rfl)))
  have g2 := zkp g2 zRg_1 (fun q h1 _ h3 => hk q h1 (zge_n (a := a) (i := 3) (j := 4) h3 (Nat.le_of_ble_eq_true rfl)))
  have g3 := zkp g3 zRg_1 (fun q h1 _ h3 => hk q h1 (zge_n (a := a) (i := 4) (j := 4) h3 (Nat.le_of_ble_eq_true rfl)))
  have g4 := hJ.1
  have hsz : H8.size = a + 13 := hJ.2
  refine W.cs (cells' := 12) (slots' := 746) rfl rfl ?_
  refine zAast (t := 4) (r := (RX2, TX2, 15)) zc hK g3 (zD1 (Nat.le_add_right a 3)) hS 0 0 rfl rfl g4 rfl rfl (by unfold vp_in; decide) dX9_init_39 (fun H9 locs hN oq hz1 hS => ?_)
  have g0 := zkp g0 zRg_1 (fun q _ h2 h3 => oq q (znB (a := a) (i := 1) (p := 3) h3 (Nat.le_of_ble_eq_true rfl)))
  have g1 := zkp g1 zRg_1 (fun q _ h2 h3 => oq q (znB (a := a) (i := 2) (p := 3) h3 (Nat.le_of_ble_eq_true rfl)))
  have g2 := zkp g2 zRg_1 (fun q _ h2 h3 => oq q (znB (a := a) (i := 3) (p := 3) h3 (Nat.le_of_ble_eq_true rfl)))
  have g4 := zkp g4 zrg_X2_init (fun q _ h2 h3 => oq q (znA (a := a) (i := 4) (p := 3) h2 (Nat.le_of_ble_eq_true rfl)))
  have g3 : va_P E.1 zcl [((a + 3), .inl (E.2 4, 2, .inr (.inr (.inr (.inr (va_up (fun _ => none) (Int32.toNatClampNeg (0 : Int32)) (some (a + 4))))))))] H9 := hN
  have hsz := hz1.trans hsz
  refine lv_dup hx hb dX9_init_40 rfl ?_
  refine lv_iconst (v := (1 : Int32)) hx hb dX9_init_41 (by decide) ?_
  refine zNew (ws := []) (C := RX2) (T := TX2) (N := 15) (ci := 2) zc hK (fun k q h => by simp at h) hS hsz uw2 tyX2 tyX2_ok kcl_9_23 kins_2 kinit_2 rfl [.int 0, .int 0, .int 0, .int 0, .int 0, .int 0, .int 0, .null, .null, .null, .null, .null, .null, .null, .null] (fun j hj => match j, hj with | 0, _ => rfl | 1, _ => rfl | 2, _ => rfl | 3, _ => rfl | 4, _ => rfl | 5, _ => rfl | 6, _ => rfl | 7, _ => rfl | 8, _ => rfl | 9, _ => rfl | 10, _ => rfl | 11, _ => rfl | 12, _ => rfl | 13, _ => rfl | 14, _ => rfl | j + 15, hj => absurd hj (by omega)) (Nat.le_of_ble_eq_true rfl) (Nat.le_of_ble_eq_true rfl) dX9_init_42 (fun H10 hN o1 hz1 hS => ?_)
  have g0 := zkp g0 zRg_1 (fun q h1 _ _ => o1 q (Nat.lt_of_lt_of_eq h1 hsz))
  have g1 := zkp g1 zRg_1 (fun q h1 _ _ => o1 q (Nat.lt_of_lt_of_eq h1 hsz))
  have g2 := zkp g2 zRg_1 (fun q h1 _ _ => o1 q (Nat.lt_of_lt_of_eq h1 hsz))
  have g3 := zkp g3 zRg_1 (fun q h1 _ _ => o1 q (Nat.lt_of_lt_of_eq h1 hsz))
  have g4 := zkp g4 zrg_X2_init (fun q h1 _ _ => o1 q (Nat.lt_of_lt_of_eq h1 hsz))
  have g13 : va_P E.1 zcl [((a + 13), .inr (2, [.int 0, .int 0, .int 0, .int 0, .int 0, .int 0, .int 0, .null, .null, .null, .null, .null, .null, .null, .null]))] H10 := hN
  have hsz : H10.size = a + 14 := hz1
  refine W.cs (cells' := 13) (slots' := 761) rfl rfl ?_
  refine lv_dup hx hb dX9_init_45 rfl ?_
  refine zIc zc ky_X2_init kz_X2_init rfl km_9_25 (ci_X2_init l) (zIpre hK hO g13 hsz) hS (fun q (h : (a + 13) ≤ q) => Nat.le_trans (Nat.le_add_right a 13) h) hl.1 (Nat.le_of_ble_eq_true rfl) ⟨rfl, rfl⟩ ⟨Nat.le_of_ble_eq_true rfl, Nat.le_of_ble_eq_true rfl⟩ ⟨Nat.le_of_ble_eq_true rfl, Nat.le_of_ble_eq_true rfl⟩ dX9_init_46 (fun _ H11 locs _ hJ hk hS => ?_)
  have g0 := zkp g0 zRg_1 (fun q h1 _ h3 => hk q h1 (zge_n (a := a) (i := 1) (j := 13) h3 (Nat.le_of_ble_eq_true rfl)))
  have g1 := zkp g1 zRg_1 (fun q h1 _ h3 => hk q h1 (zge_n (a := a) (i := 2) (j := 13) h3 (Nat.le_of_ble_eq_true rfl)))
  have g2 := zkp g2 zRg_1 (fun q h1 _ h3 => hk q h1 (zge_n (a := a) (i := 3) (j := 13) h3 (Nat.le_of_ble_eq_true rfl)))
  have g3 := zkp g3 zRg_1 (fun q h1 _ h3 => hk q h1 (zge_n (a := a) (i := 4) (j := 13) h3 (Nat.le_of_ble_eq_true rfl)))
  have g4 := zkp g4 zrg_X2_init (fun q h1 _ h3 => hk q h1 (zge_n (a := a) (i := 13) (j := 13) h3 (Nat.le_of_ble_eq_true rfl)))
  have g13 := hJ.1
  have hsz : H11.size = a + 22 := hJ.2
  refine W.cs (cells' := 21) (slots' := 886) rfl rfl ?_
  refine zAast (t := 4) (r := (RX2, TX2, 15)) zc hK g3 (zD1 (Nat.le_add_right a 3)) hS 0 0 rfl rfl g13 rfl rfl (by unfold vp_in; decide) dX9_init_49 (fun H12 locs hN oq hz1 hS => ?_)
  have g0 := zkp g0 zRg_1 (fun q _ h2 h3 => oq q (znB (a := a) (i := 1) (p := 3) h3 (Nat.le_of_ble_eq_true rfl)))
  have g1 := zkp g1 zRg_1 (fun q _ h2 h3 => oq q (znB (a := a) (i := 2) (p := 3) h3 (Nat.le_of_ble_eq_true rfl)))
  have g2 := zkp g2 zRg_1 (fun q _ h2 h3 => oq q (znB (a := a) (i := 3) (p := 3) h3 (Nat.le_of_ble_eq_true rfl)))
  have g4 := zkp g4 zrg_X2_init (fun q _ h2 h3 => oq q (znA (a := a) (i := 4) (p := 3) h2 (Nat.le_of_ble_eq_true rfl)))
  have g13 := zkp g13 zrg_X2_init (fun q _ h2 h3 => oq q (znA (a := a) (i := 13) (p := 3) h2 (Nat.le_of_ble_eq_true rfl)))
  have g3 : va_P E.1 zcl [((a + 3), .inl (E.2 4, 2, .inr (.inr (.inr (.inr (va_up (va_up (fun _ => none) (Int32.toNatClampNeg (0 : Int32)) (some (a + 4))) (Int32.toNatClampNeg (1 : Int32)) (some (a + 13))))))))] H12 := hN
  have hsz := hz1.trans hsz
  refine zPut (C := RX9) (T := TX9) (N := 9) (ci := 9) (v := .ref (a + 3)) (ty := .array (.object "DownhillSong$Land")) zc hK g0 (zD1 (Nat.le_refl a)) hS uw9 tyX9 tyX9_ok nmX9 0 rfl rfl 5 (by decide) kf_9_26 (fun _ h9 => h9) (Or.inr ⟨rfl, hin, rfl⟩) (by decide +kernel) rfl rfl (Nat.le_of_ble_eq_true rfl) dX9_init_50 (fun H13 locs hN oq hz1 hS => ?_)
  have g1 := zkp g1 zRg_1 (fun q _ h2 h3 => oq q (znA (a := a) (i := 1) (p := 0) h2 (Nat.le_of_ble_eq_true rfl)))
  have g2 := zkp g2 zRg_1 (fun q _ h2 h3 => oq q (znA (a := a) (i := 2) (p := 0) h2 (Nat.le_of_ble_eq_true rfl)))
  have g3 := zkp g3 zRg_1 (fun q _ h2 h3 => oq q (znA (a := a) (i := 3) (p := 0) h2 (Nat.le_of_ble_eq_true rfl)))
  have g4 := zkp g4 zrg_X2_init (fun q _ h2 h3 => oq q (znA (a := a) (i := 4) (p := 0) h2 (Nat.le_of_ble_eq_true rfl)))
  have g13 := zkp g13 zrg_X2_init (fun q _ h2 h3 => oq q (znA (a := a) (i := 13) (p := 0) h2 (Nat.le_of_ble_eq_true rfl)))
  have g0 : va_P E.1 zcl [(a, .inr (9, [.ref (a + 1), .int 0, .int 0, .int (-1 : Int32), .ref (a + 2), .ref (a + 3), .null, .null, .null]))] H13 := hN
  have hsz := hz1.trans hsz
  refine lv_aload_n hx hb dX9_init_53 rfl (lv_at hl 0 rfl) ?_
  refine lv_iconst (v := (2 : Int32)) hx hb dX9_init_54 (by decide) ?_
  refine zNewq (ws := []) (t := 5) (N := 2) zc hK (hO RX1 (by simp [zover])) (fun k q h => by simp at h) hS hsz kcl_9_30 rfl (by decide) (by decide) (by decide) (Nat.le_of_ble_eq_true rfl) (Nat.le_of_ble_eq_true rfl) dX9_init_55 (fun H14 hN o1 hz1 hS => ?_)
  have g0 := zkp g0 zRg_1 (fun q h1 _ _ => o1 q (Nat.lt_of_lt_of_eq h1 hsz))
  have g1 := zkp g1 zRg_1 (fun q h1 _ _ => o1 q (Nat.lt_of_lt_of_eq h1 hsz))
  have g2 := zkp g2 zRg_1 (fun q h1 _ _ => o1 q (Nat.lt_of_lt_of_eq h1 hsz))
  have g3 := zkp g3 zRg_1 (fun q h1 _ _ => o1 q (Nat.lt_of_lt_of_eq h1 hsz))
  have g4 := zkp g4 zrg_X2_init (fun q h1 _ _ => o1 q (Nat.lt_of_lt_of_eq h1 hsz))
  have g13 := zkp g13 zrg_X2_init (fun q h1 _ _ => o1 q (Nat.lt_of_lt_of_eq h1 hsz))
  have g22 : va_P E.1 zcl [((a + 22), .inl (E.2 5, 2, .inr (.inr (.inr (.inr (fun _ => none))))))] H14 := hN
  have hsz : H14.size = a + 23 := hz1
  refine W.cs (cells' := 22) (slots' := 888) rfl rfl ?_
  refine lv_dup hx hb dX9_init_58 rfl ?_
  refine lv_iconst (v := (0 : Int32)) hx hb dX9_init_59 (by decide) ?_
  refine zNew (ws := []) (C := RX1) (T := TX1) (N := 4) (ci := 1) zc hK (fun k q h => by simp at h) hS hsz uw1 tyX1 tyX1_ok kcl_9_30 kins_1 kinit_1 rfl [.int 0, .null, .null, .null] (fun j hj => match j, hj with | 0, _ => rfl | 1, _ => rfl | 2, _ => rfl | 3, _ => rfl | j + 4, hj => absurd hj (by omega)) (Nat.le_of_ble_eq_true rfl) (Nat.le_of_ble_eq_true rfl) dX9_init_60 (fun H15 hN o1 hz1 hS => ?_)
  have g0 := zkp g0 zRg_1 (fun q h1 _ _ => o1 q (Nat.lt_of_lt_of_eq h1 hsz))
  have g1 := zkp g1 zRg_1 (fun q h1 _ _ => o1 q (Nat.lt_of_lt_of_eq h1 hsz))
  have g2 := zkp g2 zRg_1 (fun q h1 _ _ => o1 q (Nat.lt_of_lt_of_eq h1 hsz))
  have g3 := zkp g3 zRg_1 (fun q h1 _ _ => o1 q (Nat.lt_of_lt_of_eq h1 hsz))
  have g4 := zkp g4 zrg_X2_init (fun q h1 _ _ => o1 q (Nat.lt_of_lt_of_eq h1 hsz))
  have g13 := zkp g13 zrg_X2_init (fun q h1 _ _ => o1 q (Nat.lt_of_lt_of_eq h1 hsz))
  have g22 := zkp g22 zRg_1 (fun q h1 _ _ => o1 q (Nat.lt_of_lt_of_eq h1 hsz))
  have g23 : va_P E.1 zcl [((a + 23), .inr (1, [.int 0, .null, .null, .null]))] H15 := hN
  have hsz : H15.size = a + 24 := hz1
  refine W.cs (cells' := 23) (slots' := 892) rfl rfl ?_
  refine lv_dup hx hb dX9_init_63 rfl ?_
  refine zIc zc ky_X1_init kz_X1_init rfl km_9_32 (ci_X1_init l) (zIpre hK hO g23 hsz) hS (fun q (h : (a + 23) ≤ q) => Nat.le_trans (Nat.le_add_right a 23) h) hl.1 (Nat.le_of_ble_eq_true rfl) ⟨rfl, rfl⟩ ⟨Nat.le_of_ble_eq_true rfl, Nat.le_of_ble_eq_true rfl⟩ ⟨Nat.le_of_ble_eq_true rfl, Nat.le_of_ble_eq_true rfl⟩ dX9_init_64 (fun _ H16 locs _ hJ hk hS => ?_)
  have g0 := zkp g0 zRg_1 (fun q h1 _ h3 => hk q h1 (zge_n (a := a) (i := 1) (j := 23) h3 (Nat.le_of_ble_eq_true rfl)))
  have g1 := zkp g1 zRg_1 (fun q h1 _ h3 => hk q h1 (zge_n (a := a) (i := 2) (j := 23) h3 (Nat.le_of_ble_eq_true rfl)))
  have g2 := zkp g2 zRg_1 (fun q h1 _ h3 => hk q h1 (zge_n (a := a) (i := 3) (j := 23) h3 (Nat.le_of_ble_eq_true rfl)))
  have g3 := zkp g3 zRg_1 (fun q h1 _ h3 => hk q h1 (zge_n (a := a) (i := 4) (j := 23) h3 (Nat.le_of_ble_eq_true rfl)))
  have g4 := zkp g4 zrg_X2_init (fun q h1 _ h3 => hk q h1 (zge_n (a := a) (i := 13) (j := 23) h3 (Nat.le_of_ble_eq_true rfl)))
  have g13 := zkp g13 zrg_X2_init (fun q h1 _ h3 => hk q h1 (zge_n (a := a) (i := 22) (j := 23) h3 (Nat.le_of_ble_eq_true rfl)))
  have g22 := zkp g22 zRg_1 (fun q h1 _ h3 => hk q h1 (zge_n (a := a) (i := 23) (j := 23) h3 (Nat.le_of_ble_eq_true rfl)))
  have g23 := hJ.1
  have hsz : H16.size = a + 27 := hJ.2
  refine W.cs (cells' := 26) (slots' := 1012) rfl rfl ?_
  refine zAast (t := 5) (r := (RX1, TX1, 4)) zc hK g22 (zD1 (Nat.le_add_right a 22)) hS 0 0 rfl rfl g23 rfl rfl (by unfold vp_in; decide) dX9_init_67 (fun H17 locs hN oq hz1 hS => ?_)
  have g0 := zkp g0 zRg_1 (fun q _ h2 h3 => oq q (znB (a := a) (i := 1) (p := 22) h3 (Nat.le_of_ble_eq_true rfl)))
  have g1 := zkp g1 zRg_1 (fun q _ h2 h3 => oq q (znB (a := a) (i := 2) (p := 22) h3 (Nat.le_of_ble_eq_true rfl)))
  have g2 := zkp g2 zRg_1 (fun q _ h2 h3 => oq q (znB (a := a) (i := 3) (p := 22) h3 (Nat.le_of_ble_eq_true rfl)))
  have g3 := zkp g3 zRg_1 (fun q _ h2 h3 => oq q (znB (a := a) (i := 4) (p := 22) h3 (Nat.le_of_ble_eq_true rfl)))
  have g4 := zkp g4 zrg_X2_init (fun q _ h2 h3 => oq q (znB (a := a) (i := 13) (p := 22) h3 (Nat.le_of_ble_eq_true rfl)))
  have g13 := zkp g13 zrg_X2_init (fun q _ h2 h3 => oq q (znB (a := a) (i := 22) (p := 22) h3 (Nat.le_of_ble_eq_true rfl)))
  have g23 := zkp g23 zrg_X1_init (fun q _ h2 h3 => oq q (znA (a := a) (i := 23) (p := 22) h2 (Nat.le_of_ble_eq_true rfl)))
  have g22 : va_P E.1 zcl [((a + 22), .inl (E.2 5, 2, .inr (.inr (.inr (.inr (va_up (fun _ => none) (Int32.toNatClampNeg (0 : Int32)) (some (a + 23))))))))] H17 := hN
  have hsz := hz1.trans hsz
  refine lv_dup hx hb dX9_init_68 rfl ?_
  refine lv_iconst (v := (1 : Int32)) hx hb dX9_init_69 (by decide) ?_
  refine zNew (ws := []) (C := RX1) (T := TX1) (N := 4) (ci := 1) zc hK (fun k q h => by simp at h) hS hsz uw1 tyX1 tyX1_ok kcl_9_30 kins_1 kinit_1 rfl [.int 0, .null, .null, .null] (fun j hj => match j, hj with | 0, _ => rfl | 1, _ => rfl | 2, _ => rfl | 3, _ => rfl | j + 4, hj => absurd hj (by omega)) (Nat.le_of_ble_eq_true rfl) (Nat.le_of_ble_eq_true rfl) dX9_init_70 (fun H18 hN o1 hz1 hS => ?_)
  have g0 := zkp g0 zRg_1 (fun q h1 _ _ => o1 q (Nat.lt_of_lt_of_eq h1 hsz))
  have g1 := zkp g1 zRg_1 (fun q h1 _ _ => o1 q (Nat.lt_of_lt_of_eq h1 hsz))
  have g2 := zkp g2 zRg_1 (fun q h1 _ _ => o1 q (Nat.lt_of_lt_of_eq h1 hsz))
  have g3 := zkp g3 zRg_1 (fun q h1 _ _ => o1 q (Nat.lt_of_lt_of_eq h1 hsz))
  have g4 := zkp g4 zrg_X2_init (fun q h1 _ _ => o1 q (Nat.lt_of_lt_of_eq h1 hsz))
  have g13 := zkp g13 zrg_X2_init (fun q h1 _ _ => o1 q (Nat.lt_of_lt_of_eq h1 hsz))
  have g22 := zkp g22 zRg_1 (fun q h1 _ _ => o1 q (Nat.lt_of_lt_of_eq h1 hsz))
  have g23 := zkp g23 zrg_X1_init (fun q h1 _ _ => o1 q (Nat.lt_of_lt_of_eq h1 hsz))
  have g27 : va_P E.1 zcl [((a + 27), .inr (1, [.int 0, .null, .null, .null]))] H18 := hN
  have hsz : H18.size = a + 28 := hz1
  refine W.cs (cells' := 27) (slots' := 1016) rfl rfl ?_
  refine lv_dup hx hb dX9_init_73 rfl ?_
  refine zIc zc ky_X1_init kz_X1_init rfl km_9_32 (ci_X1_init l) (zIpre hK hO g27 hsz) hS (fun q (h : (a + 27) ≤ q) => Nat.le_trans (Nat.le_add_right a 27) h) hl.1 (Nat.le_of_ble_eq_true rfl) ⟨rfl, rfl⟩ ⟨Nat.le_of_ble_eq_true rfl, Nat.le_of_ble_eq_true rfl⟩ ⟨Nat.le_of_ble_eq_true rfl, Nat.le_of_ble_eq_true rfl⟩ dX9_init_74 (fun _ H19 locs _ hJ hk hS => ?_)
  have g0 := zkp g0 zRg_1 (fun q h1 _ h3 => hk q h1 (zge_n (a := a) (i := 1) (j := 27) h3 (Nat.le_of_ble_eq_true rfl)))
  have g1 := zkp g1 zRg_1 (fun q h1 _ h3 => hk q h1 (zge_n (a := a) (i := 2) (j := 27) h3 (Nat.le_of_ble_eq_true rfl)))
  have g2 := zkp g2 zRg_1 (fun q h1 _ h3 => hk q h1 (zge_n (a := a) (i := 3) (j := 27) h3 (Nat.le_of_ble_eq_true rfl)))
  have g3 := zkp g3 zRg_1 (fun q h1 _ h3 => hk q h1 (zge_n (a := a) (i := 4) (j := 27) h3 (Nat.le_of_ble_eq_true rfl)))
  have g4 := zkp g4 zrg_X2_init (fun q h1 _ h3 => hk q h1 (zge_n (a := a) (i := 13) (j := 27) h3 (Nat.le_of_ble_eq_true rfl)))
  have g13 := zkp g13 zrg_X2_init (fun q h1 _ h3 => hk q h1 (zge_n (a := a) (i := 22) (j := 27) h3 (Nat.le_of_ble_eq_true rfl)))
  have g22 := zkp g22 zRg_1 (fun q h1 _ h3 => hk q h1 (zge_n (a := a) (i := 23) (j := 27) h3 (Nat.le_of_ble_eq_true rfl)))
  have g23 := zkp g23 zrg_X1_init (fun q h1 _ h3 => hk q h1 (zge_n (a := a) (i := 27) (j := 27) h3 (Nat.le_of_ble_eq_true rfl)))
  have g27 := hJ.1
  have hsz : H19.size = a + 31 := hJ.2
  refine W.cs (cells' := 30) (slots' := 1136) rfl rfl ?_
  refine zAast (t := 5) (r := (RX1, TX1, 4)) zc hK g22 (zD1 (Nat.le_add_right a 22)) hS 0 0 rfl rfl g27 rfl rfl (by unfold vp_in; decide) dX9_init_77 (fun H20 locs hN oq hz1 hS => ?_)
  have g0 := zkp g0 zRg_1 (fun q _ h2 h3 => oq q (znB (a := a) (i := 1) (p := 22) h3 (Nat.le_of_ble_eq_true rfl)))
  have g1 := zkp g1 zRg_1 (fun q _ h2 h3 => oq q (znB (a := a) (i := 2) (p := 22) h3 (Nat.le_of_ble_eq_true rfl)))
  have g2 := zkp g2 zRg_1 (fun q _ h2 h3 => oq q (znB (a := a) (i := 3) (p := 22) h3 (Nat.le_of_ble_eq_true rfl)))
  have g3 := zkp g3 zRg_1 (fun q _ h2 h3 => oq q (znB (a := a) (i := 4) (p := 22) h3 (Nat.le_of_ble_eq_true rfl)))
  have g4 := zkp g4 zrg_X2_init (fun q _ h2 h3 => oq q (znB (a := a) (i := 13) (p := 22) h3 (Nat.le_of_ble_eq_true rfl)))
  have g13 := zkp g13 zrg_X2_init (fun q _ h2 h3 => oq q (znB (a := a) (i := 22) (p := 22) h3 (Nat.le_of_ble_eq_true rfl)))
  have g23 := zkp g23 zrg_X1_init (fun q _ h2 h3 => oq q (znA (a := a) (i := 23) (p := 22) h2 (Nat.le_of_ble_eq_true rfl)))
  have g27 := zkp g27 zrg_X1_init (fun q _ h2 h3 => oq q (znA (a := a) (i := 27) (p := 22) h2 (Nat.le_of_ble_eq_true rfl)))
  have g22 : va_P E.1 zcl [((a + 22), .inl (E.2 5, 2, .inr (.inr (.inr (.inr (va_up (va_up (fun _ => none) (Int32.toNatClampNeg (0 : Int32)) (some (a + 23))) (Int32.toNatClampNeg (1 : Int32)) (some (a + 27))))))))] H20 := hN
  have hsz := hz1.trans hsz
  refine zPut (C := RX9) (T := TX9) (N := 9) (ci := 9) (v := .ref (a + 22)) (ty := .array (.object "DownhillSong$Evening")) zc hK g0 (zD1 (Nat.le_refl a)) hS uw9 tyX9 tyX9_ok nmX9 0 rfl rfl 6 (by decide) kf_9_33 (fun _ h9 => h9) (Or.inr ⟨rfl, hin, rfl⟩) (by decide +kernel) rfl rfl (Nat.le_of_ble_eq_true rfl) dX9_init_78 (fun H21 locs hN oq hz1 hS => ?_)
  have g1 := zkp g1 zRg_1 (fun q _ h2 h3 => oq q (znA (a := a) (i := 1) (p := 0) h2 (Nat.le_of_ble_eq_true rfl)))
  have g2 := zkp g2 zRg_1 (fun q _ h2 h3 => oq q (znA (a := a) (i := 2) (p := 0) h2 (Nat.le_of_ble_eq_true rfl)))
  have g3 := zkp g3 zRg_1 (fun q _ h2 h3 => oq q (znA (a := a) (i := 3) (p := 0) h2 (Nat.le_of_ble_eq_true rfl)))
  have g4 := zkp g4 zrg_X2_init (fun q _ h2 h3 => oq q (znA (a := a) (i := 4) (p := 0) h2 (Nat.le_of_ble_eq_true rfl)))
  have g13 := zkp g13 zrg_X2_init (fun q _ h2 h3 => oq q (znA (a := a) (i := 13) (p := 0) h2 (Nat.le_of_ble_eq_true rfl)))
  have g22 := zkp g22 zRg_1 (fun q _ h2 h3 => oq q (znA (a := a) (i := 22) (p := 0) h2 (Nat.le_of_ble_eq_true rfl)))
  have g23 := zkp g23 zrg_X1_init (fun q _ h2 h3 => oq q (znA (a := a) (i := 23) (p := 0) h2 (Nat.le_of_ble_eq_true rfl)))
  have g27 := zkp g27 zrg_X1_init (fun q _ h2 h3 => oq q (znA (a := a) (i := 27) (p := 0) h2 (Nat.le_of_ble_eq_true rfl)))
  have g0 : va_P E.1 zcl [(a, .inr (9, [.ref (a + 1), .int 0, .int 0, .int (-1 : Int32), .ref (a + 2), .ref (a + 3), .ref (a + 22), .null, .null]))] H21 := hN
  have hsz := hz1.trans hsz
  refine lv_aload_n hx hb dX9_init_81 rfl (lv_at hl 0 rfl) ?_
  refine lv_iconst (v := (2 : Int32)) hx hb dX9_init_82 (by decide) ?_
  refine zNewq (ws := []) (t := 6) (N := 2) zc hK (hO RX6 (by simp [zover])) (fun k q h => by simp at h) hS hsz kcl_9_37 rfl (by decide) (by decide) (by decide) (Nat.le_of_ble_eq_true rfl) (Nat.le_of_ble_eq_true rfl) dX9_init_83 (fun H22 hN o1 hz1 hS => ?_)
  have g0 := zkp g0 zRg_1 (fun q h1 _ _ => o1 q (Nat.lt_of_lt_of_eq h1 hsz))
  have g1 := zkp g1 zRg_1 (fun q h1 _ _ => o1 q (Nat.lt_of_lt_of_eq h1 hsz))
  have g2 := zkp g2 zRg_1 (fun q h1 _ _ => o1 q (Nat.lt_of_lt_of_eq h1 hsz))
  have g3 := zkp g3 zRg_1 (fun q h1 _ _ => o1 q (Nat.lt_of_lt_of_eq h1 hsz))
  have g4 := zkp g4 zrg_X2_init (fun q h1 _ _ => o1 q (Nat.lt_of_lt_of_eq h1 hsz))
  have g13 := zkp g13 zrg_X2_init (fun q h1 _ _ => o1 q (Nat.lt_of_lt_of_eq h1 hsz))
  have g22 := zkp g22 zRg_1 (fun q h1 _ _ => o1 q (Nat.lt_of_lt_of_eq h1 hsz))
  have g23 := zkp g23 zrg_X1_init (fun q h1 _ _ => o1 q (Nat.lt_of_lt_of_eq h1 hsz))
  have g27 := zkp g27 zrg_X1_init (fun q h1 _ _ => o1 q (Nat.lt_of_lt_of_eq h1 hsz))
  have g31 : va_P E.1 zcl [((a + 31), .inl (E.2 6, 2, .inr (.inr (.inr (.inr (fun _ => none))))))] H22 := hN
  have hsz : H22.size = a + 32 := hz1
  refine W.cs (cells' := 31) (slots' := 1138) rfl rfl ?_
  refine lv_dup hx hb dX9_init_86 rfl ?_
  refine lv_iconst (v := (0 : Int32)) hx hb dX9_init_87 (by decide) ?_
  refine zNew (ws := []) (C := RX6) (T := TX6) (N := 4) (ci := 6) zc hK (fun k q h => by simp at h) hS hsz uw6 tyX6 tyX6_ok kcl_9_37 kins_6 kinit_6 rfl [.int 0, .null, .null, .null] (fun j hj => match j, hj with | 0, _ => rfl | 1, _ => rfl | 2, _ => rfl | 3, _ => rfl | j + 4, hj => absurd hj (by omega)) (Nat.le_of_ble_eq_true rfl) (Nat.le_of_ble_eq_true rfl) dX9_init_88 (fun H23 hN o1 hz1 hS => ?_)
  have g0 := zkp g0 zRg_1 (fun q h1 _ _ => o1 q (Nat.lt_of_lt_of_eq h1 hsz))
  have g1 := zkp g1 zRg_1 (fun q h1 _ _ => o1 q (Nat.lt_of_lt_of_eq h1 hsz))
  have g2 := zkp g2 zRg_1 (fun q h1 _ _ => o1 q (Nat.lt_of_lt_of_eq h1 hsz))
  have g3 := zkp g3 zRg_1 (fun q h1 _ _ => o1 q (Nat.lt_of_lt_of_eq h1 hsz))
  have g4 := zkp g4 zrg_X2_init (fun q h1 _ _ => o1 q (Nat.lt_of_lt_of_eq h1 hsz))
  have g13 := zkp g13 zrg_X2_init (fun q h1 _ _ => o1 q (Nat.lt_of_lt_of_eq h1 hsz))
  have g22 := zkp g22 zRg_1 (fun q h1 _ _ => o1 q (Nat.lt_of_lt_of_eq h1 hsz))
  have g23 := zkp g23 zrg_X1_init (fun q h1 _ _ => o1 q (Nat.lt_of_lt_of_eq h1 hsz))
  have g27 := zkp g27 zrg_X1_init (fun q h1 _ _ => o1 q (Nat.lt_of_lt_of_eq h1 hsz))
  have g31 := zkp g31 zRg_1 (fun q h1 _ _ => o1 q (Nat.lt_of_lt_of_eq h1 hsz))
  have g32 : va_P E.1 zcl [((a + 32), .inr (6, [.int 0, .null, .null, .null]))] H23 := hN
  have hsz : H23.size = a + 33 := hz1
  refine W.cs (cells' := 32) (slots' := 1142) rfl rfl ?_
  refine lv_dup hx hb dX9_init_91 rfl ?_
  refine zIc zc ky_X6_init kz_X6_init rfl km_9_39 (ci_X6_init l) (zIpre hK hO g32 hsz) hS (fun q (h : (a + 32) ≤ q) => Nat.le_trans (Nat.le_add_right a 32) h) hl.1 (Nat.le_of_ble_eq_true rfl) ⟨rfl, rfl⟩ ⟨Nat.le_of_ble_eq_true rfl, Nat.le_of_ble_eq_true rfl⟩ ⟨Nat.le_of_ble_eq_true rfl, Nat.le_of_ble_eq_true rfl⟩ dX9_init_92 (fun _ H24 locs _ hJ hk hS => ?_)
  have g0 := zkp g0 zRg_1 (fun q h1 _ h3 => hk q h1 (zge_n (a := a) (i := 1) (j := 32) h3 (Nat.le_of_ble_eq_true rfl)))
  have g1 := zkp g1 zRg_1 (fun q h1 _ h3 => hk q h1 (zge_n (a := a) (i := 2) (j := 32) h3 (Nat.le_of_ble_eq_true rfl)))
  have g2 := zkp g2 zRg_1 (fun q h1 _ h3 => hk q h1 (zge_n (a := a) (i := 3) (j := 32) h3 (Nat.le_of_ble_eq_true rfl)))
  have g3 := zkp g3 zRg_1 (fun q h1 _ h3 => hk q h1 (zge_n (a := a) (i := 4) (j := 32) h3 (Nat.le_of_ble_eq_true rfl)))
  have g4 := zkp g4 zrg_X2_init (fun q h1 _ h3 => hk q h1 (zge_n (a := a) (i := 13) (j := 32) h3 (Nat.le_of_ble_eq_true rfl)))
  have g13 := zkp g13 zrg_X2_init (fun q h1 _ h3 => hk q h1 (zge_n (a := a) (i := 22) (j := 32) h3 (Nat.le_of_ble_eq_true rfl)))
  have g22 := zkp g22 zRg_1 (fun q h1 _ h3 => hk q h1 (zge_n (a := a) (i := 23) (j := 32) h3 (Nat.le_of_ble_eq_true rfl)))
  have g23 := zkp g23 zrg_X1_init (fun q h1 _ h3 => hk q h1 (zge_n (a := a) (i := 27) (j := 32) h3 (Nat.le_of_ble_eq_true rfl)))
  have g27 := zkp g27 zrg_X1_init (fun q h1 _ h3 => hk q h1 (zge_n (a := a) (i := 31) (j := 32) h3 (Nat.le_of_ble_eq_true rfl)))
  have g31 := zkp g31 zRg_1 (fun q h1 _ h3 => hk q h1 (zge_n (a := a) (i := 32) (j := 32) h3 (Nat.le_of_ble_eq_true rfl)))
  have g32 := hJ.1
  have hsz : H24.size = a + 36 := hJ.2
  refine W.cs (cells' := 35) (slots' := 1172) rfl rfl ?_
  refine zAast (t := 6) (r := (RX6, TX6, 4)) zc hK g31 (zD1 (Nat.le_add_right a 31)) hS 0 0 rfl rfl g32 rfl rfl (by unfold vp_in; decide) dX9_init_95 (fun H25 locs hN oq hz1 hS => ?_)
  have g0 := zkp g0 zRg_1 (fun q _ h2 h3 => oq q (znB (a := a) (i := 1) (p := 31) h3 (Nat.le_of_ble_eq_true rfl)))
  have g1 := zkp g1 zRg_1 (fun q _ h2 h3 => oq q (znB (a := a) (i := 2) (p := 31) h3 (Nat.le_of_ble_eq_true rfl)))
  have g2 := zkp g2 zRg_1 (fun q _ h2 h3 => oq q (znB (a := a) (i := 3) (p := 31) h3 (Nat.le_of_ble_eq_true rfl)))
  have g3 := zkp g3 zRg_1 (fun q _ h2 h3 => oq q (znB (a := a) (i := 4) (p := 31) h3 (Nat.le_of_ble_eq_true rfl)))
  have g4 := zkp g4 zrg_X2_init (fun q _ h2 h3 => oq q (znB (a := a) (i := 13) (p := 31) h3 (Nat.le_of_ble_eq_true rfl)))
  have g13 := zkp g13 zrg_X2_init (fun q _ h2 h3 => oq q (znB (a := a) (i := 22) (p := 31) h3 (Nat.le_of_ble_eq_true rfl)))
  have g22 := zkp g22 zRg_1 (fun q _ h2 h3 => oq q (znB (a := a) (i := 23) (p := 31) h3 (Nat.le_of_ble_eq_true rfl)))
  have g23 := zkp g23 zrg_X1_init (fun q _ h2 h3 => oq q (znB (a := a) (i := 27) (p := 31) h3 (Nat.le_of_ble_eq_true rfl)))
  have g27 := zkp g27 zrg_X1_init (fun q _ h2 h3 => oq q (znB (a := a) (i := 31) (p := 31) h3 (Nat.le_of_ble_eq_true rfl)))
  have g32 := zkp g32 zrg_X6_init (fun q _ h2 h3 => oq q (znA (a := a) (i := 32) (p := 31) h2 (Nat.le_of_ble_eq_true rfl)))
  have g31 : va_P E.1 zcl [((a + 31), .inl (E.2 6, 2, .inr (.inr (.inr (.inr (va_up (fun _ => none) (Int32.toNatClampNeg (0 : Int32)) (some (a + 32))))))))] H25 := hN
  have hsz := hz1.trans hsz
  refine lv_dup hx hb dX9_init_96 rfl ?_
  refine lv_iconst (v := (1 : Int32)) hx hb dX9_init_97 (by decide) ?_
  refine zNew (ws := []) (C := RX6) (T := TX6) (N := 4) (ci := 6) zc hK (fun k q h => by simp at h) hS hsz uw6 tyX6 tyX6_ok kcl_9_37 kins_6 kinit_6 rfl [.int 0, .null, .null, .null] (fun j hj => match j, hj with | 0, _ => rfl | 1, _ => rfl | 2, _ => rfl | 3, _ => rfl | j + 4, hj => absurd hj (by omega)) (Nat.le_of_ble_eq_true rfl) (Nat.le_of_ble_eq_true rfl) dX9_init_98 (fun H26 hN o1 hz1 hS => ?_)
  have g0 := zkp g0 zRg_1 (fun q h1 _ _ => o1 q (Nat.lt_of_lt_of_eq h1 hsz))
  have g1 := zkp g1 zRg_1 (fun q h1 _ _ => o1 q (Nat.lt_of_lt_of_eq h1 hsz))
  have g2 := zkp g2 zRg_1 (fun q h1 _ _ => o1 q (Nat.lt_of_lt_of_eq h1 hsz))
  have g3 := zkp g3 zRg_1 (fun q h1 _ _ => o1 q (Nat.lt_of_lt_of_eq h1 hsz))
  have g4 := zkp g4 zrg_X2_init (fun q h1 _ _ => o1 q (Nat.lt_of_lt_of_eq h1 hsz))
  have g13 := zkp g13 zrg_X2_init (fun q h1 _ _ => o1 q (Nat.lt_of_lt_of_eq h1 hsz))
  have g22 := zkp g22 zRg_1 (fun q h1 _ _ => o1 q (Nat.lt_of_lt_of_eq h1 hsz))
  have g23 := zkp g23 zrg_X1_init (fun q h1 _ _ => o1 q (Nat.lt_of_lt_of_eq h1 hsz))
  have g27 := zkp g27 zrg_X1_init (fun q h1 _ _ => o1 q (Nat.lt_of_lt_of_eq h1 hsz))
  have g31 := zkp g31 zRg_1 (fun q h1 _ _ => o1 q (Nat.lt_of_lt_of_eq h1 hsz))
  have g32 := zkp g32 zrg_X6_init (fun q h1 _ _ => o1 q (Nat.lt_of_lt_of_eq h1 hsz))
  have g36 : va_P E.1 zcl [((a + 36), .inr (6, [.int 0, .null, .null, .null]))] H26 := hN
  have hsz : H26.size = a + 37 := hz1
  refine W.cs (cells' := 36) (slots' := 1176) rfl rfl ?_
  refine lv_dup hx hb dX9_init_101 rfl ?_
  refine zIc zc ky_X6_init kz_X6_init rfl km_9_39 (ci_X6_init l) (zIpre hK hO g36 hsz) hS (fun q (h : (a + 36) ≤ q) => Nat.le_trans (Nat.le_add_right a 36) h) hl.1 (Nat.le_of_ble_eq_true rfl) ⟨rfl, rfl⟩ ⟨Nat.le_of_ble_eq_true rfl, Nat.le_of_ble_eq_true rfl⟩ ⟨Nat.le_of_ble_eq_true rfl, Nat.le_of_ble_eq_true rfl⟩ dX9_init_102 (fun _ H27 locs _ hJ hk hS => ?_)
  have g0 := zkp g0 zRg_1 (fun q h1 _ h3 => hk q h1 (zge_n (a := a) (i := 1) (j := 36) h3 (Nat.le_of_ble_eq_true rfl)))
  have g1 := zkp g1 zRg_1 (fun q h1 _ h3 => hk q h1 (zge_n (a := a) (i := 2) (j := 36) h3 (Nat.le_of_ble_eq_true rfl)))
  have g2 := zkp g2 zRg_1 (fun q h1 _ h3 => hk q h1 (zge_n (a := a) (i := 3) (j := 36) h3 (Nat.le_of_ble_eq_true rfl)))
  have g3 := zkp g3 zRg_1 (fun q h1 _ h3 => hk q h1 (zge_n (a := a) (i := 4) (j := 36) h3 (Nat.le_of_ble_eq_true rfl)))
  have g4 := zkp g4 zrg_X2_init (fun q h1 _ h3 => hk q h1 (zge_n (a := a) (i := 13) (j := 36) h3 (Nat.le_of_ble_eq_true rfl)))
  have g13 := zkp g13 zrg_X2_init (fun q h1 _ h3 => hk q h1 (zge_n (a := a) (i := 22) (j := 36) h3 (Nat.le_of_ble_eq_true rfl)))
  have g22 := zkp g22 zRg_1 (fun q h1 _ h3 => hk q h1 (zge_n (a := a) (i := 23) (j := 36) h3 (Nat.le_of_ble_eq_true rfl)))
  have g23 := zkp g23 zrg_X1_init (fun q h1 _ h3 => hk q h1 (zge_n (a := a) (i := 27) (j := 36) h3 (Nat.le_of_ble_eq_true rfl)))
  have g27 := zkp g27 zrg_X1_init (fun q h1 _ h3 => hk q h1 (zge_n (a := a) (i := 31) (j := 36) h3 (Nat.le_of_ble_eq_true rfl)))
  have g31 := zkp g31 zRg_1 (fun q h1 _ h3 => hk q h1 (zge_n (a := a) (i := 32) (j := 36) h3 (Nat.le_of_ble_eq_true rfl)))
  have g32 := zkp g32 zrg_X6_init (fun q h1 _ h3 => hk q h1 (zge_n (a := a) (i := 36) (j := 36) h3 (Nat.le_of_ble_eq_true rfl)))
  have g36 := hJ.1
  have hsz : H27.size = a + 40 := hJ.2
  refine W.cs (cells' := 39) (slots' := 1206) rfl rfl ?_
  refine zAast (t := 6) (r := (RX6, TX6, 4)) zc hK g31 (zD1 (Nat.le_add_right a 31)) hS 0 0 rfl rfl g36 rfl rfl (by unfold vp_in; decide) dX9_init_105 (fun H28 locs hN oq hz1 hS => ?_)
  have g0 := zkp g0 zRg_1 (fun q _ h2 h3 => oq q (znB (a := a) (i := 1) (p := 31) h3 (Nat.le_of_ble_eq_true rfl)))
  have g1 := zkp g1 zRg_1 (fun q _ h2 h3 => oq q (znB (a := a) (i := 2) (p := 31) h3 (Nat.le_of_ble_eq_true rfl)))
  have g2 := zkp g2 zRg_1 (fun q _ h2 h3 => oq q (znB (a := a) (i := 3) (p := 31) h3 (Nat.le_of_ble_eq_true rfl)))
  have g3 := zkp g3 zRg_1 (fun q _ h2 h3 => oq q (znB (a := a) (i := 4) (p := 31) h3 (Nat.le_of_ble_eq_true rfl)))
  have g4 := zkp g4 zrg_X2_init (fun q _ h2 h3 => oq q (znB (a := a) (i := 13) (p := 31) h3 (Nat.le_of_ble_eq_true rfl)))
  have g13 := zkp g13 zrg_X2_init (fun q _ h2 h3 => oq q (znB (a := a) (i := 22) (p := 31) h3 (Nat.le_of_ble_eq_true rfl)))
  have g22 := zkp g22 zRg_1 (fun q _ h2 h3 => oq q (znB (a := a) (i := 23) (p := 31) h3 (Nat.le_of_ble_eq_true rfl)))
  have g23 := zkp g23 zrg_X1_init (fun q _ h2 h3 => oq q (znB (a := a) (i := 27) (p := 31) h3 (Nat.le_of_ble_eq_true rfl)))
  have g27 := zkp g27 zrg_X1_init (fun q _ h2 h3 => oq q (znB (a := a) (i := 31) (p := 31) h3 (Nat.le_of_ble_eq_true rfl)))
  have g32 := zkp g32 zrg_X6_init (fun q _ h2 h3 => oq q (znA (a := a) (i := 32) (p := 31) h2 (Nat.le_of_ble_eq_true rfl)))
  have g36 := zkp g36 zrg_X6_init (fun q _ h2 h3 => oq q (znA (a := a) (i := 36) (p := 31) h2 (Nat.le_of_ble_eq_true rfl)))
  have g31 : va_P E.1 zcl [((a + 31), .inl (E.2 6, 2, .inr (.inr (.inr (.inr (va_up (va_up (fun _ => none) (Int32.toNatClampNeg (0 : Int32)) (some (a + 32))) (Int32.toNatClampNeg (1 : Int32)) (some (a + 36))))))))] H28 := hN
  have hsz := hz1.trans hsz
  refine zPut (C := RX9) (T := TX9) (N := 9) (ci := 9) (v := .ref (a + 31)) (ty := .array (.object "DownhillSong$Sight")) zc hK g0 (zD1 (Nat.le_refl a)) hS uw9 tyX9 tyX9_ok nmX9 0 rfl rfl 7 (by decide) kf_9_40 (fun _ h9 => h9) (Or.inr ⟨rfl, hin, rfl⟩) (by decide +kernel) rfl rfl (Nat.le_of_ble_eq_true rfl) dX9_init_106 (fun H29 locs hN oq hz1 hS => ?_)
  have g1 := zkp g1 zRg_1 (fun q _ h2 h3 => oq q (znA (a := a) (i := 1) (p := 0) h2 (Nat.le_of_ble_eq_true rfl)))
  have g2 := zkp g2 zRg_1 (fun q _ h2 h3 => oq q (znA (a := a) (i := 2) (p := 0) h2 (Nat.le_of_ble_eq_true rfl)))
  have g3 := zkp g3 zRg_1 (fun q _ h2 h3 => oq q (znA (a := a) (i := 3) (p := 0) h2 (Nat.le_of_ble_eq_true rfl)))
  have g4 := zkp g4 zrg_X2_init (fun q _ h2 h3 => oq q (znA (a := a) (i := 4) (p := 0) h2 (Nat.le_of_ble_eq_true rfl)))
  have g13 := zkp g13 zrg_X2_init (fun q _ h2 h3 => oq q (znA (a := a) (i := 13) (p := 0) h2 (Nat.le_of_ble_eq_true rfl)))
  have g22 := zkp g22 zRg_1 (fun q _ h2 h3 => oq q (znA (a := a) (i := 22) (p := 0) h2 (Nat.le_of_ble_eq_true rfl)))
  have g23 := zkp g23 zrg_X1_init (fun q _ h2 h3 => oq q (znA (a := a) (i := 23) (p := 0) h2 (Nat.le_of_ble_eq_true rfl)))
  have g27 := zkp g27 zrg_X1_init (fun q _ h2 h3 => oq q (znA (a := a) (i := 27) (p := 0) h2 (Nat.le_of_ble_eq_true rfl)))
  have g31 := zkp g31 zRg_1 (fun q _ h2 h3 => oq q (znA (a := a) (i := 31) (p := 0) h2 (Nat.le_of_ble_eq_true rfl)))
  have g32 := zkp g32 zrg_X6_init (fun q _ h2 h3 => oq q (znA (a := a) (i := 32) (p := 0) h2 (Nat.le_of_ble_eq_true rfl)))
  have g36 := zkp g36 zrg_X6_init (fun q _ h2 h3 => oq q (znA (a := a) (i := 36) (p := 0) h2 (Nat.le_of_ble_eq_true rfl)))
  have g0 : va_P E.1 zcl [(a, .inr (9, [.ref (a + 1), .int 0, .int 0, .int (-1 : Int32), .ref (a + 2), .ref (a + 3), .ref (a + 22), .ref (a + 31), .null]))] H29 := hN
  have hsz := hz1.trans hsz
  refine lv_aload_n hx hb dX9_init_109 rfl (lv_at hl 0 rfl) ?_
  refine lv_iconst (v := (2 : Int32)) hx hb dX9_init_110 (by decide) ?_
  refine zNewq (ws := []) (t := 7) (N := 2) zc hK (hO RX0 (by simp [zover])) (fun k q h => by simp at h) hS hsz kcl_9_44 rfl (by decide) (by decide) (by decide) (Nat.le_of_ble_eq_true rfl) (Nat.le_of_ble_eq_true rfl) dX9_init_111 (fun H30 hN o1 hz1 hS => ?_)
  have g0 := zkp g0 zRg_1 (fun q h1 _ _ => o1 q (Nat.lt_of_lt_of_eq h1 hsz))
  have g1 := zkp g1 zRg_1 (fun q h1 _ _ => o1 q (Nat.lt_of_lt_of_eq h1 hsz))
  have g2 := zkp g2 zRg_1 (fun q h1 _ _ => o1 q (Nat.lt_of_lt_of_eq h1 hsz))
  have g3 := zkp g3 zRg_1 (fun q h1 _ _ => o1 q (Nat.lt_of_lt_of_eq h1 hsz))
  have g4 := zkp g4 zrg_X2_init (fun q h1 _ _ => o1 q (Nat.lt_of_lt_of_eq h1 hsz))
  have g13 := zkp g13 zrg_X2_init (fun q h1 _ _ => o1 q (Nat.lt_of_lt_of_eq h1 hsz))
  have g22 := zkp g22 zRg_1 (fun q h1 _ _ => o1 q (Nat.lt_of_lt_of_eq h1 hsz))
  have g23 := zkp g23 zrg_X1_init (fun q h1 _ _ => o1 q (Nat.lt_of_lt_of_eq h1 hsz))
  have g27 := zkp g27 zrg_X1_init (fun q h1 _ _ => o1 q (Nat.lt_of_lt_of_eq h1 hsz))
  have g31 := zkp g31 zRg_1 (fun q h1 _ _ => o1 q (Nat.lt_of_lt_of_eq h1 hsz))
  have g32 := zkp g32 zrg_X6_init (fun q h1 _ _ => o1 q (Nat.lt_of_lt_of_eq h1 hsz))
  have g36 := zkp g36 zrg_X6_init (fun q h1 _ _ => o1 q (Nat.lt_of_lt_of_eq h1 hsz))
  have g40 : va_P E.1 zcl [((a + 40), .inl (E.2 7, 2, .inr (.inr (.inr (.inr (fun _ => none))))))] H30 := hN
  have hsz : H30.size = a + 41 := hz1
  refine W.cs (cells' := 40) (slots' := 1208) rfl rfl ?_
  refine lv_dup hx hb dX9_init_114 rfl ?_
  refine lv_iconst (v := (0 : Int32)) hx hb dX9_init_115 (by decide) ?_
  refine zNew (ws := []) (C := RX0) (T := TX0) (N := 4) (ci := 0) zc hK (fun k q h => by simp at h) hS hsz uw0 tyX0 tyX0_ok kcl_9_44 kins_0 kinit_0 rfl [.int 0, .int 0, .null, .null] (fun j hj => match j, hj with | 0, _ => rfl | 1, _ => rfl | 2, _ => rfl | 3, _ => rfl | j + 4, hj => absurd hj (by omega)) (Nat.le_of_ble_eq_true rfl) (Nat.le_of_ble_eq_true rfl) dX9_init_116 (fun H31 hN o1 hz1 hS => ?_)
  have g0 := zkp g0 zRg_1 (fun q h1 _ _ => o1 q (Nat.lt_of_lt_of_eq h1 hsz))
  have g1 := zkp g1 zRg_1 (fun q h1 _ _ => o1 q (Nat.lt_of_lt_of_eq h1 hsz))
  have g2 := zkp g2 zRg_1 (fun q h1 _ _ => o1 q (Nat.lt_of_lt_of_eq h1 hsz))
  have g3 := zkp g3 zRg_1 (fun q h1 _ _ => o1 q (Nat.lt_of_lt_of_eq h1 hsz))
  have g4 := zkp g4 zrg_X2_init (fun q h1 _ _ => o1 q (Nat.lt_of_lt_of_eq h1 hsz))
  have g13 := zkp g13 zrg_X2_init (fun q h1 _ _ => o1 q (Nat.lt_of_lt_of_eq h1 hsz))
  have g22 := zkp g22 zRg_1 (fun q h1 _ _ => o1 q (Nat.lt_of_lt_of_eq h1 hsz))
  have g23 := zkp g23 zrg_X1_init (fun q h1 _ _ => o1 q (Nat.lt_of_lt_of_eq h1 hsz))
  have g27 := zkp g27 zrg_X1_init (fun q h1 _ _ => o1 q (Nat.lt_of_lt_of_eq h1 hsz))
  have g31 := zkp g31 zRg_1 (fun q h1 _ _ => o1 q (Nat.lt_of_lt_of_eq h1 hsz))
  have g32 := zkp g32 zrg_X6_init (fun q h1 _ _ => o1 q (Nat.lt_of_lt_of_eq h1 hsz))
  have g36 := zkp g36 zrg_X6_init (fun q h1 _ _ => o1 q (Nat.lt_of_lt_of_eq h1 hsz))
  have g40 := zkp g40 zRg_1 (fun q h1 _ _ => o1 q (Nat.lt_of_lt_of_eq h1 hsz))
  have g41 : va_P E.1 zcl [((a + 41), .inr (0, [.int 0, .int 0, .null, .null]))] H31 := hN
  have hsz : H31.size = a + 42 := hz1
  refine W.cs (cells' := 41) (slots' := 1212) rfl rfl ?_
  refine lv_dup hx hb dX9_init_119 rfl ?_
  refine zIc zc ky_X0_init kz_X0_init rfl km_9_46 (ci_X0_init l) (zIpre hK hO g41 hsz) hS (fun q (h : (a + 41) ≤ q) => Nat.le_trans (Nat.le_add_right a 41) h) hl.1 (Nat.le_of_ble_eq_true rfl) ⟨rfl, rfl⟩ ⟨Nat.le_of_ble_eq_true rfl, Nat.le_of_ble_eq_true rfl⟩ ⟨Nat.le_of_ble_eq_true rfl, Nat.le_of_ble_eq_true rfl⟩ dX9_init_120 (fun _ H32 locs _ hJ hk hS => ?_)
  have g0 := zkp g0 zRg_1 (fun q h1 _ h3 => hk q h1 (zge_n (a := a) (i := 1) (j := 41) h3 (Nat.le_of_ble_eq_true rfl)))
  have g1 := zkp g1 zRg_1 (fun q h1 _ h3 => hk q h1 (zge_n (a := a) (i := 2) (j := 41) h3 (Nat.le_of_ble_eq_true rfl)))
  have g2 := zkp g2 zRg_1 (fun q h1 _ h3 => hk q h1 (zge_n (a := a) (i := 3) (j := 41) h3 (Nat.le_of_ble_eq_true rfl)))
  have g3 := zkp g3 zRg_1 (fun q h1 _ h3 => hk q h1 (zge_n (a := a) (i := 4) (j := 41) h3 (Nat.le_of_ble_eq_true rfl)))
  have g4 := zkp g4 zrg_X2_init (fun q h1 _ h3 => hk q h1 (zge_n (a := a) (i := 13) (j := 41) h3 (Nat.le_of_ble_eq_true rfl)))
  have g13 := zkp g13 zrg_X2_init (fun q h1 _ h3 => hk q h1 (zge_n (a := a) (i := 22) (j := 41) h3 (Nat.le_of_ble_eq_true rfl)))
  have g22 := zkp g22 zRg_1 (fun q h1 _ h3 => hk q h1 (zge_n (a := a) (i := 23) (j := 41) h3 (Nat.le_of_ble_eq_true rfl)))
  have g23 := zkp g23 zrg_X1_init (fun q h1 _ h3 => hk q h1 (zge_n (a := a) (i := 27) (j := 41) h3 (Nat.le_of_ble_eq_true rfl)))
  have g27 := zkp g27 zrg_X1_init (fun q h1 _ h3 => hk q h1 (zge_n (a := a) (i := 31) (j := 41) h3 (Nat.le_of_ble_eq_true rfl)))
  have g31 := zkp g31 zRg_1 (fun q h1 _ h3 => hk q h1 (zge_n (a := a) (i := 32) (j := 41) h3 (Nat.le_of_ble_eq_true rfl)))
  have g32 := zkp g32 zrg_X6_init (fun q h1 _ h3 => hk q h1 (zge_n (a := a) (i := 36) (j := 41) h3 (Nat.le_of_ble_eq_true rfl)))
  have g36 := zkp g36 zrg_X6_init (fun q h1 _ h3 => hk q h1 (zge_n (a := a) (i := 40) (j := 41) h3 (Nat.le_of_ble_eq_true rfl)))
  have g40 := zkp g40 zRg_1 (fun q h1 _ h3 => hk q h1 (zge_n (a := a) (i := 41) (j := 41) h3 (Nat.le_of_ble_eq_true rfl)))
  have g41 := hJ.1
  have hsz : H32.size = a + 44 := hJ.2
  refine W.cs (cells' := 43) (slots' := 1230) rfl rfl ?_
  refine zAast (t := 7) (r := (RX0, TX0, 4)) zc hK g40 (zD1 (Nat.le_add_right a 40)) hS 0 0 rfl rfl g41 rfl rfl (by unfold vp_in; decide) dX9_init_123 (fun H33 locs hN oq hz1 hS => ?_)
  have g0 := zkp g0 zRg_1 (fun q _ h2 h3 => oq q (znB (a := a) (i := 1) (p := 40) h3 (Nat.le_of_ble_eq_true rfl)))
  have g1 := zkp g1 zRg_1 (fun q _ h2 h3 => oq q (znB (a := a) (i := 2) (p := 40) h3 (Nat.le_of_ble_eq_true rfl)))
  have g2 := zkp g2 zRg_1 (fun q _ h2 h3 => oq q (znB (a := a) (i := 3) (p := 40) h3 (Nat.le_of_ble_eq_true rfl)))
  have g3 := zkp g3 zRg_1 (fun q _ h2 h3 => oq q (znB (a := a) (i := 4) (p := 40) h3 (Nat.le_of_ble_eq_true rfl)))
  have g4 := zkp g4 zrg_X2_init (fun q _ h2 h3 => oq q (znB (a := a) (i := 13) (p := 40) h3 (Nat.le_of_ble_eq_true rfl)))
  have g13 := zkp g13 zrg_X2_init (fun q _ h2 h3 => oq q (znB (a := a) (i := 22) (p := 40) h3 (Nat.le_of_ble_eq_true rfl)))
  have g22 := zkp g22 zRg_1 (fun q _ h2 h3 => oq q (znB (a := a) (i := 23) (p := 40) h3 (Nat.le_of_ble_eq_true rfl)))
  have g23 := zkp g23 zrg_X1_init (fun q _ h2 h3 => oq q (znB (a := a) (i := 27) (p := 40) h3 (Nat.le_of_ble_eq_true rfl)))
  have g27 := zkp g27 zrg_X1_init (fun q _ h2 h3 => oq q (znB (a := a) (i := 31) (p := 40) h3 (Nat.le_of_ble_eq_true rfl)))
  have g31 := zkp g31 zRg_1 (fun q _ h2 h3 => oq q (znB (a := a) (i := 32) (p := 40) h3 (Nat.le_of_ble_eq_true rfl)))
  have g32 := zkp g32 zrg_X6_init (fun q _ h2 h3 => oq q (znB (a := a) (i := 36) (p := 40) h3 (Nat.le_of_ble_eq_true rfl)))
  have g36 := zkp g36 zrg_X6_init (fun q _ h2 h3 => oq q (znB (a := a) (i := 40) (p := 40) h3 (Nat.le_of_ble_eq_true rfl)))
  have g41 := zkp g41 zrg_X0_init (fun q _ h2 h3 => oq q (znA (a := a) (i := 41) (p := 40) h2 (Nat.le_of_ble_eq_true rfl)))
  have g40 : va_P E.1 zcl [((a + 40), .inl (E.2 7, 2, .inr (.inr (.inr (.inr (va_up (fun _ => none) (Int32.toNatClampNeg (0 : Int32)) (some (a + 41))))))))] H33 := hN
  have hsz := hz1.trans hsz
  refine lv_dup hx hb dX9_init_124 rfl ?_
  refine lv_iconst (v := (1 : Int32)) hx hb dX9_init_125 (by decide) ?_
  refine zNew (ws := []) (C := RX0) (T := TX0) (N := 4) (ci := 0) zc hK (fun k q h => by simp at h) hS hsz uw0 tyX0 tyX0_ok kcl_9_44 kins_0 kinit_0 rfl [.int 0, .int 0, .null, .null] (fun j hj => match j, hj with | 0, _ => rfl | 1, _ => rfl | 2, _ => rfl | 3, _ => rfl | j + 4, hj => absurd hj (by omega)) (Nat.le_of_ble_eq_true rfl) (Nat.le_of_ble_eq_true rfl) dX9_init_126 (fun H34 hN o1 hz1 hS => ?_)
  have g0 := zkp g0 zRg_1 (fun q h1 _ _ => o1 q (Nat.lt_of_lt_of_eq h1 hsz))
  have g1 := zkp g1 zRg_1 (fun q h1 _ _ => o1 q (Nat.lt_of_lt_of_eq h1 hsz))
  have g2 := zkp g2 zRg_1 (fun q h1 _ _ => o1 q (Nat.lt_of_lt_of_eq h1 hsz))
  have g3 := zkp g3 zRg_1 (fun q h1 _ _ => o1 q (Nat.lt_of_lt_of_eq h1 hsz))
  have g4 := zkp g4 zrg_X2_init (fun q h1 _ _ => o1 q (Nat.lt_of_lt_of_eq h1 hsz))
  have g13 := zkp g13 zrg_X2_init (fun q h1 _ _ => o1 q (Nat.lt_of_lt_of_eq h1 hsz))
  have g22 := zkp g22 zRg_1 (fun q h1 _ _ => o1 q (Nat.lt_of_lt_of_eq h1 hsz))
  have g23 := zkp g23 zrg_X1_init (fun q h1 _ _ => o1 q (Nat.lt_of_lt_of_eq h1 hsz))
  have g27 := zkp g27 zrg_X1_init (fun q h1 _ _ => o1 q (Nat.lt_of_lt_of_eq h1 hsz))
  have g31 := zkp g31 zRg_1 (fun q h1 _ _ => o1 q (Nat.lt_of_lt_of_eq h1 hsz))
  have g32 := zkp g32 zrg_X6_init (fun q h1 _ _ => o1 q (Nat.lt_of_lt_of_eq h1 hsz))
  have g36 := zkp g36 zrg_X6_init (fun q h1 _ _ => o1 q (Nat.lt_of_lt_of_eq h1 hsz))
  have g40 := zkp g40 zRg_1 (fun q h1 _ _ => o1 q (Nat.lt_of_lt_of_eq h1 hsz))
  have g41 := zkp g41 zrg_X0_init (fun q h1 _ _ => o1 q (Nat.lt_of_lt_of_eq h1 hsz))
  have g44 : va_P E.1 zcl [((a + 44), .inr (0, [.int 0, .int 0, .null, .null]))] H34 := hN
  have hsz : H34.size = a + 45 := hz1
  refine W.cs (cells' := 44) (slots' := 1234) rfl rfl ?_
  refine lv_dup hx hb dX9_init_129 rfl ?_
  refine zIc zc ky_X0_init kz_X0_init rfl km_9_46 (ci_X0_init l) (zIpre hK hO g44 hsz) hS (fun q (h : (a + 44) ≤ q) => Nat.le_trans (Nat.le_add_right a 44) h) hl.1 (Nat.le_of_ble_eq_true rfl) ⟨rfl, rfl⟩ ⟨Nat.le_of_ble_eq_true rfl, Nat.le_of_ble_eq_true rfl⟩ ⟨Nat.le_of_ble_eq_true rfl, Nat.le_of_ble_eq_true rfl⟩ dX9_init_130 (fun _ H35 locs _ hJ hk hS => ?_)
  have g0 := zkp g0 zRg_1 (fun q h1 _ h3 => hk q h1 (zge_n (a := a) (i := 1) (j := 44) h3 (Nat.le_of_ble_eq_true rfl)))
  have g1 := zkp g1 zRg_1 (fun q h1 _ h3 => hk q h1 (zge_n (a := a) (i := 2) (j := 44) h3 (Nat.le_of_ble_eq_true rfl)))
  have g2 := zkp g2 zRg_1 (fun q h1 _ h3 => hk q h1 (zge_n (a := a) (i := 3) (j := 44) h3 (Nat.le_of_ble_eq_true rfl)))
  have g3 := zkp g3 zRg_1 (fun q h1 _ h3 => hk q h1 (zge_n (a := a) (i := 4) (j := 44) h3 (Nat.le_of_ble_eq_true rfl)))
  have g4 := zkp g4 zrg_X2_init (fun q h1 _ h3 => hk q h1 (zge_n (a := a) (i := 13) (j := 44) h3 (Nat.le_of_ble_eq_true rfl)))
  have g13 := zkp g13 zrg_X2_init (fun q h1 _ h3 => hk q h1 (zge_n (a := a) (i := 22) (j := 44) h3 (Nat.le_of_ble_eq_true rfl)))
  have g22 := zkp g22 zRg_1 (fun q h1 _ h3 => hk q h1 (zge_n (a := a) (i := 23) (j := 44) h3 (Nat.le_of_ble_eq_true rfl)))
  have g23 := zkp g23 zrg_X1_init (fun q h1 _ h3 => hk q h1 (zge_n (a := a) (i := 27) (j := 44) h3 (Nat.le_of_ble_eq_true rfl)))
  have g27 := zkp g27 zrg_X1_init (fun q h1 _ h3 => hk q h1 (zge_n (a := a) (i := 31) (j := 44) h3 (Nat.le_of_ble_eq_true rfl)))
  have g31 := zkp g31 zRg_1 (fun q h1 _ h3 => hk q h1 (zge_n (a := a) (i := 32) (j := 44) h3 (Nat.le_of_ble_eq_true rfl)))
  have g32 := zkp g32 zrg_X6_init (fun q h1 _ h3 => hk q h1 (zge_n (a := a) (i := 36) (j := 44) h3 (Nat.le_of_ble_eq_true rfl)))
  have g36 := zkp g36 zrg_X6_init (fun q h1 _ h3 => hk q h1 (zge_n (a := a) (i := 40) (j := 44) h3 (Nat.le_of_ble_eq_true rfl)))
  have g40 := zkp g40 zRg_1 (fun q h1 _ h3 => hk q h1 (zge_n (a := a) (i := 41) (j := 44) h3 (Nat.le_of_ble_eq_true rfl)))
  have g41 := zkp g41 zrg_X0_init (fun q h1 _ h3 => hk q h1 (zge_n (a := a) (i := 44) (j := 44) h3 (Nat.le_of_ble_eq_true rfl)))
  have g44 := hJ.1
  have hsz : H35.size = a + 47 := hJ.2
  refine W.cs (cells' := 46) (slots' := 1252) rfl rfl ?_
  refine zAast (t := 7) (r := (RX0, TX0, 4)) zc hK g40 (zD1 (Nat.le_add_right a 40)) hS 0 0 rfl rfl g44 rfl rfl (by unfold vp_in; decide) dX9_init_133 (fun H36 locs hN oq hz1 hS => ?_)
  have g0 := zkp g0 zRg_1 (fun q _ h2 h3 => oq q (znB (a := a) (i := 1) (p := 40) h3 (Nat.le_of_ble_eq_true rfl)))
  have g1 := zkp g1 zRg_1 (fun q _ h2 h3 => oq q (znB (a := a) (i := 2) (p := 40) h3 (Nat.le_of_ble_eq_true rfl)))
  have g2 := zkp g2 zRg_1 (fun q _ h2 h3 => oq q (znB (a := a) (i := 3) (p := 40) h3 (Nat.le_of_ble_eq_true rfl)))
  have g3 := zkp g3 zRg_1 (fun q _ h2 h3 => oq q (znB (a := a) (i := 4) (p := 40) h3 (Nat.le_of_ble_eq_true rfl)))
  have g4 := zkp g4 zrg_X2_init (fun q _ h2 h3 => oq q (znB (a := a) (i := 13) (p := 40) h3 (Nat.le_of_ble_eq_true rfl)))
  have g13 := zkp g13 zrg_X2_init (fun q _ h2 h3 => oq q (znB (a := a) (i := 22) (p := 40) h3 (Nat.le_of_ble_eq_true rfl)))
  have g22 := zkp g22 zRg_1 (fun q _ h2 h3 => oq q (znB (a := a) (i := 23) (p := 40) h3 (Nat.le_of_ble_eq_true rfl)))
  have g23 := zkp g23 zrg_X1_init (fun q _ h2 h3 => oq q (znB (a := a) (i := 27) (p := 40) h3 (Nat.le_of_ble_eq_true rfl)))
  have g27 := zkp g27 zrg_X1_init (fun q _ h2 h3 => oq q (znB (a := a) (i := 31) (p := 40) h3 (Nat.le_of_ble_eq_true rfl)))
  have g31 := zkp g31 zRg_1 (fun q _ h2 h3 => oq q (znB (a := a) (i := 32) (p := 40) h3 (Nat.le_of_ble_eq_true rfl)))
  have g32 := zkp g32 zrg_X6_init (fun q _ h2 h3 => oq q (znB (a := a) (i := 36) (p := 40) h3 (Nat.le_of_ble_eq_true rfl)))
  have g36 := zkp g36 zrg_X6_init (fun q _ h2 h3 => oq q (znB (a := a) (i := 40) (p := 40) h3 (Nat.le_of_ble_eq_true rfl)))
  have g41 := zkp g41 zrg_X0_init (fun q _ h2 h3 => oq q (znA (a := a) (i := 41) (p := 40) h2 (Nat.le_of_ble_eq_true rfl)))
  have g44 := zkp g44 zrg_X0_init (fun q _ h2 h3 => oq q (znA (a := a) (i := 44) (p := 40) h2 (Nat.le_of_ble_eq_true rfl)))
  have g40 : va_P E.1 zcl [((a + 40), .inl (E.2 7, 2, .inr (.inr (.inr (.inr (va_up (va_up (fun _ => none) (Int32.toNatClampNeg (0 : Int32)) (some (a + 41))) (Int32.toNatClampNeg (1 : Int32)) (some (a + 44))))))))] H36 := hN
  have hsz := hz1.trans hsz
  refine zPut (C := RX9) (T := TX9) (N := 9) (ci := 9) (v := .ref (a + 40)) (ty := .array (.object "DownhillSong$Choir")) zc hK g0 (zD1 (Nat.le_refl a)) hS uw9 tyX9 tyX9_ok nmX9 0 rfl rfl 8 (by decide) kf_9_47 (fun _ h9 => h9) (Or.inr ⟨rfl, hin, rfl⟩) (by decide +kernel) rfl rfl (Nat.le_of_ble_eq_true rfl) dX9_init_134 (fun H37 locs hN oq hz1 hS => ?_)
  have g1 := zkp g1 zRg_1 (fun q _ h2 h3 => oq q (znA (a := a) (i := 1) (p := 0) h2 (Nat.le_of_ble_eq_true rfl)))
  have g2 := zkp g2 zRg_1 (fun q _ h2 h3 => oq q (znA (a := a) (i := 2) (p := 0) h2 (Nat.le_of_ble_eq_true rfl)))
  have g3 := zkp g3 zRg_1 (fun q _ h2 h3 => oq q (znA (a := a) (i := 3) (p := 0) h2 (Nat.le_of_ble_eq_true rfl)))
  have g4 := zkp g4 zrg_X2_init (fun q _ h2 h3 => oq q (znA (a := a) (i := 4) (p := 0) h2 (Nat.le_of_ble_eq_true rfl)))
  have g13 := zkp g13 zrg_X2_init (fun q _ h2 h3 => oq q (znA (a := a) (i := 13) (p := 0) h2 (Nat.le_of_ble_eq_true rfl)))
  have g22 := zkp g22 zRg_1 (fun q _ h2 h3 => oq q (znA (a := a) (i := 22) (p := 0) h2 (Nat.le_of_ble_eq_true rfl)))
  have g23 := zkp g23 zrg_X1_init (fun q _ h2 h3 => oq q (znA (a := a) (i := 23) (p := 0) h2 (Nat.le_of_ble_eq_true rfl)))
  have g27 := zkp g27 zrg_X1_init (fun q _ h2 h3 => oq q (znA (a := a) (i := 27) (p := 0) h2 (Nat.le_of_ble_eq_true rfl)))
  have g31 := zkp g31 zRg_1 (fun q _ h2 h3 => oq q (znA (a := a) (i := 31) (p := 0) h2 (Nat.le_of_ble_eq_true rfl)))
  have g32 := zkp g32 zrg_X6_init (fun q _ h2 h3 => oq q (znA (a := a) (i := 32) (p := 0) h2 (Nat.le_of_ble_eq_true rfl)))
  have g36 := zkp g36 zrg_X6_init (fun q _ h2 h3 => oq q (znA (a := a) (i := 36) (p := 0) h2 (Nat.le_of_ble_eq_true rfl)))
  have g40 := zkp g40 zRg_1 (fun q _ h2 h3 => oq q (znA (a := a) (i := 40) (p := 0) h2 (Nat.le_of_ble_eq_true rfl)))
  have g41 := zkp g41 zrg_X0_init (fun q _ h2 h3 => oq q (znA (a := a) (i := 41) (p := 0) h2 (Nat.le_of_ble_eq_true rfl)))
  have g44 := zkp g44 zrg_X0_init (fun q _ h2 h3 => oq q (znA (a := a) (i := 44) (p := 0) h2 (Nat.le_of_ble_eq_true rfl)))
  have g0 : va_P E.1 zcl [(a, .inr (9, [.ref (a + 1), .int 0, .int 0, .int (-1 : Int32), .ref (a + 2), .ref (a + 3), .ref (a + 22), .ref (a + 31), .ref (a + 40)]))] H37 := hN
  have hsz := hz1.trans hsz
  have g3 : va_P E.1 zcl [((a + 3), .inl (E.2 4, 2, .inr (.inr (.inr (.inr (fun k => if k = 0 then some (a + 4) else some (a + 13)))))))] H37 := by
    refine zP1 ?_
    show H37[(a + 3)]? = some (vp_cell _ _)
    refine (g3 0 _ rfl : _).trans (congrArg some (zarr_q ?_))
    intro j hj
    match j, hj with
    | 0, _ => rfl
    | 1, _ => rfl
  have g22 : va_P E.1 zcl [((a + 22), .inl (E.2 5, 2, .inr (.inr (.inr (.inr (fun k => if k = 0 then some (a + 23) else some (a + 27)))))))] H37 := by
    refine zP1 ?_
    show H37[(a + 22)]? = some (vp_cell _ _)
    refine (g22 0 _ rfl : _).trans (congrArg some (zarr_q ?_))
    intro j hj
    match j, hj with
    | 0, _ => rfl
    | 1, _ => rfl
  have g31 : va_P E.1 zcl [((a + 31), .inl (E.2 6, 2, .inr (.inr (.inr (.inr (fun k => if k = 0 then some (a + 32) else some (a + 36)))))))] H37 := by
    refine zP1 ?_
    show H37[(a + 31)]? = some (vp_cell _ _)
    refine (g31 0 _ rfl : _).trans (congrArg some (zarr_q ?_))
    intro j hj
    match j, hj with
    | 0, _ => rfl
    | 1, _ => rfl
  have g40 : va_P E.1 zcl [((a + 40), .inl (E.2 7, 2, .inr (.inr (.inr (.inr (fun k => if k = 0 then some (a + 41) else some (a + 44)))))))] H37 := by
    refine zP1 ?_
    show H37[(a + 40)]? = some (vp_cell _ _)
    refine (g40 0 _ rfl : _).trans (congrArg some (zarr_q ?_))
    intro j hj
    match j, hj with
    | 0, _ => rfl
    | 1, _ => rfl
  exact zIret (post := fun _ => True) (B := zJ E a 47 ([(a, .inr (9, [.ref (a + 1), .int 0, .int 0, .int (-1 : Int32), .ref (a + 2), .ref (a + 3), .ref (a + 22), .ref (a + 31), .ref (a + 40)]))] ++ ([((a + 1), .inl (E.2 0, 600, .inl (fun _ => 0)))] ++ ([((a + 2), .inl (E.2 1, 4, .inl (fun _ => 0)))] ++ ([((a + 3), .inl (E.2 4, 2, .inr (.inr (.inr (.inr (fun k => if k = 0 then some (a + 4) else some (a + 13)))))))] ++ (zb_X2_init E (a + 4) ++ (zb_X2_init E (a + 13) ++ ([((a + 22), .inl (E.2 5, 2, .inr (.inr (.inr (.inr (fun k => if k = 0 then some (a + 23) else some (a + 27)))))))] ++ (zb_X1_init E (a + 23) ++ (zb_X1_init E (a + 27) ++ ([((a + 31), .inl (E.2 6, 2, .inr (.inr (.inr (.inr (fun k => if k = 0 then some (a + 32) else some (a + 36)))))))] ++ (zb_X6_init E (a + 32) ++ (zb_X6_init E (a + 36) ++ ([((a + 40), .inl (E.2 7, 2, .inr (.inr (.inr (.inr (fun k => if k = 0 then some (a + 41) else some (a + 44)))))))] ++ (zb_X0_init E (a + 41) ++ (zb_X0_init E (a + 44))))))))))))))))) () zc hS trivial ⟨(va_P.app g0 (va_P.app g1 (va_P.app g2 (va_P.app g3 (va_P.app g4 (va_P.app g13 (va_P.app g22 (va_P.app g23 (va_P.app g27 (va_P.app g31 (va_P.app g32 (va_P.app g36 (va_P.app g40 (va_P.app g41 g44)))))))))))))), hsz⟩ dX9_init_137
end
section
abbrev rmi_X4_init : Room := { frames := 2, cells := 22, slots := 923, locals := 40 }
abbrev zb_X4_init (E : zE) (a : Nat) : va_W := ([(a, .inr (4, [.ref (a + 1), .ref (a + 10), .ref (a + 14), .ref (a + 18), .int 0, .int (-1 : Int32), .ref (a + 21), .ref (a + 22), .int 0, .int 0, .int 0, .int 0, .int 0, .int 0, .int 0]))] ++ (zb_X2_init E (a + 1) ++ (zb_X1_init E (a + 10) ++ (zb_X6_init E (a + 14) ++ (zb_X0_init E (a + 18) ++ ([((a + 21), .inl (E.2 1, 3, .inl (fun _ => 0)))] ++ ([((a + 22), .inl (E.2 0, 600, .inl (fun _ => 0)))])))))))
theorem zrg_X4_init {E : zE} {a : Nat} : zRg (zb_X4_init E a) a (a + 23) := by
  exact ((zRg_1).mono (by omega) (by omega)).app (((zrg_X2_init).mono (by omega) (by omega)).app (((zrg_X1_init).mono (by omega) (by omega)).app (((zrg_X6_init).mono (by omega) (by omega)).app (((zrg_X0_init).mono (by omega) (by omega)).app (((zRg_1).mono (by omega) (by omega)).app ((zRg_1).mono (by omega) (by omega)))))))
set_option maxRecDepth 40000 in
set_option maxHeartbeats 4000000 in
theorem ci_X4_init (l : Launch) {E : zE} {a : Nat} : Met l yX4_init (Cond.code yX4_init cX4_init 1 none :: zb) rmi_X4_init (va_Pc [.ref a] (zI E a 4 [.null, .null, .null, .null, .int 0, .int 0, .null, .null, .int 0, .int 0, .int 0, .int 0, .int 0, .int 0, .int 0])) (zQv (S := Unit) (fun _ => True) (zJ E a 23 (zb_X4_init E a)) (fun q => a ≤ q)) 22 923 (fun q => a ≤ q) := by
  refine Met.ofW (cc := cX4_init) (maxL := 1) (ret := none) (by decide) rfl ?_
  intro p e s m args below meth c s₁ B hml hv
  obtain ⟨rfl, hsz, g0, hK, hO⟩ := hv
  have zc := zc_of B hml
  have hx := zc.1
  have hb := zc.2.1
  have hz := zc.2.2.2.2.1
  have hin : meth.name = "<init>" := (name_of_methodNamed B.named B.method).1
  have hS : va_S (fun q => a ≤ q) s.heap s.heap [] := va_S.rf
  have hl := lv_entry ([.ref a]) (n := 1) (Nat.le_of_ble_eq_true rfl)
  rw [lg_entry_eq]
  generalize (lg_sl ([.ref a]) ++ List.replicate (1 - (lg_sl ([.ref a])).length) Slot.unset).toArray = ls at hl ⊢
  have hl : lv_has ls 1 [(0, .ref a)] := hl
  refine lv_aload_n hx hb dX4_init_0 rfl (lv_at hl 0 rfl) ?_
  refine W.objInit hx hb zc.2.2.2.1 (hz _ km_4_3) (hz _ k_oi) (hz _ k_oc) rfl (by rw [zc.2.2.1]; exact hl.1) rfl dX4_init_1 (Nat.le_of_ble_eq_true rfl) (Nat.le_of_ble_eq_true rfl) ?_
  refine W.eq (g2 := F0 m 4 ls []) rfl ?_
  refine lv_aload_n hx hb dX4_init_4 rfl (lv_at hl 0 rfl) ?_
  refine zNew (ws := []) (C := RX2) (T := TX2) (N := 15) (ci := 2) zc hK (fun k q h => by simp at h) hS hsz uw2 tyX2 tyX2_ok kcl_4_9 kins_2 kinit_2 rfl [.int 0, .int 0, .int 0, .int 0, .int 0, .int 0, .int 0, .null, .null, .null, .null, .null, .null, .null, .null] (fun j hj => match j, hj with | 0, _ => rfl | 1, _ => rfl | 2, _ => rfl | 3, _ => rfl | 4, _ => rfl | 5, _ => rfl | 6, _ => rfl | 7, _ => rfl | 8, _ => rfl | 9, _ => rfl | 10, _ => rfl | 11, _ => rfl | 12, _ => rfl | 13, _ => rfl | 14, _ => rfl | j + 15, hj => absurd hj (by omega)) (Nat.le_of_ble_eq_true rfl) (Nat.le_of_ble_eq_true rfl) dX4_init_5 (fun H1 hN o1 hz1 hS => ?_)
  have g0 := zkp g0 zRg_1 (fun q h1 _ _ => o1 q (Nat.lt_of_lt_of_eq h1 hsz))
  have g1 : va_P E.1 zcl [((a + 1), .inr (2, [.int 0, .int 0, .int 0, .int 0, .int 0, .int 0, .int 0, .null, .null, .null, .null, .null, .null, .null, .null]))] H1 := hN
  have hsz : H1.size = a + 2 := hz1
  refine W.cs (cells' := 1) (slots' := 15) rfl rfl ?_
  refine lv_dup hx hb dX4_init_8 rfl ?_
  refine zIc zc ky_X2_init kz_X2_init rfl km_4_11 (ci_X2_init l) (zIpre hK hO g1 hsz) hS (fun q (h : (a + 1) ≤ q) => Nat.le_trans (Nat.le_add_right a 1) h) hl.1 (Nat.le_of_ble_eq_true rfl) ⟨rfl, rfl⟩ ⟨Nat.le_of_ble_eq_true rfl, Nat.le_of_ble_eq_true rfl⟩ ⟨Nat.le_of_ble_eq_true rfl, Nat.le_of_ble_eq_true rfl⟩ dX4_init_9 (fun _ H2 locs _ hJ hk hS => ?_)
  have g0 := zkp g0 zRg_1 (fun q h1 _ h3 => hk q h1 (zge_n (a := a) (i := 1) (j := 1) h3 (Nat.le_of_ble_eq_true rfl)))
  have g1 := hJ.1
  have hsz : H2.size = a + 10 := hJ.2
  refine W.cs (cells' := 9) (slots' := 140) rfl rfl ?_
  refine zPut (C := RX4) (T := TX4) (N := 15) (ci := 4) (v := .ref (a + 1)) (ty := .object "DownhillSong$Land") zc hK g0 (zD1 (Nat.le_refl a)) hS uw4 tyX4 tyX4_ok nmX4 0 rfl rfl 0 (by decide) kf_4_12 (fun _ h9 => h9) (Or.inr ⟨rfl, hin, rfl⟩) (by decide +kernel) rfl rfl (Nat.le_of_ble_eq_true rfl) dX4_init_12 (fun H3 locs hN oq hz1 hS => ?_)
  have g1 := zkp g1 zrg_X2_init (fun q _ h2 h3 => oq q (znA (a := a) (i := 1) (p := 0) h2 (Nat.le_of_ble_eq_true rfl)))
  have g0 : va_P E.1 zcl [(a, .inr (4, [.ref (a + 1), .null, .null, .null, .int 0, .int 0, .null, .null, .int 0, .int 0, .int 0, .int 0, .int 0, .int 0, .int 0]))] H3 := hN
  have hsz := hz1.trans hsz
  refine lv_aload_n hx hb dX4_init_15 rfl (lv_at hl 0 rfl) ?_
  refine zNew (ws := []) (C := RX1) (T := TX1) (N := 4) (ci := 1) zc hK (fun k q h => by simp at h) hS hsz uw1 tyX1 tyX1_ok kcl_4_18 kins_1 kinit_1 rfl [.int 0, .null, .null, .null] (fun j hj => match j, hj with | 0, _ => rfl | 1, _ => rfl | 2, _ => rfl | 3, _ => rfl | j + 4, hj => absurd hj (by omega)) (Nat.le_of_ble_eq_true rfl) (Nat.le_of_ble_eq_true rfl) dX4_init_16 (fun H4 hN o1 hz1 hS => ?_)
  have g0 := zkp g0 zRg_1 (fun q h1 _ _ => o1 q (Nat.lt_of_lt_of_eq h1 hsz))
  have g1 := zkp g1 zrg_X2_init (fun q h1 _ _ => o1 q (Nat.lt_of_lt_of_eq h1 hsz))
  have g10 : va_P E.1 zcl [((a + 10), .inr (1, [.int 0, .null, .null, .null]))] H4 := hN
  have hsz : H4.size = a + 11 := hz1
  refine W.cs (cells' := 10) (slots' := 144) rfl rfl ?_
  refine lv_dup hx hb dX4_init_19 rfl ?_
  refine zIc zc ky_X1_init kz_X1_init rfl km_4_20 (ci_X1_init l) (zIpre hK hO g10 hsz) hS (fun q (h : (a + 10) ≤ q) => Nat.le_trans (Nat.le_add_right a 10) h) hl.1 (Nat.le_of_ble_eq_true rfl) ⟨rfl, rfl⟩ ⟨Nat.le_of_ble_eq_true rfl, Nat.le_of_ble_eq_true rfl⟩ ⟨Nat.le_of_ble_eq_true rfl, Nat.le_of_ble_eq_true rfl⟩ dX4_init_20 (fun _ H5 locs _ hJ hk hS => ?_)
  have g0 := zkp g0 zRg_1 (fun q h1 _ h3 => hk q h1 (zge_n (a := a) (i := 1) (j := 10) h3 (Nat.le_of_ble_eq_true rfl)))
  have g1 := zkp g1 zrg_X2_init (fun q h1 _ h3 => hk q h1 (zge_n (a := a) (i := 10) (j := 10) h3 (Nat.le_of_ble_eq_true rfl)))
  have g10 := hJ.1
  have hsz : H5.size = a + 14 := hJ.2
  refine W.cs (cells' := 13) (slots' := 264) rfl rfl ?_
  refine zPut (C := RX4) (T := TX4) (N := 15) (ci := 4) (v := .ref (a + 10)) (ty := .object "DownhillSong$Evening") zc hK g0 (zD1 (Nat.le_refl a)) hS uw4 tyX4 tyX4_ok nmX4 0 rfl rfl 1 (by decide) kf_4_21 (fun _ h9 => h9) (Or.inr ⟨rfl, hin, rfl⟩) (by decide +kernel) rfl rfl (Nat.le_of_ble_eq_true rfl) dX4_init_23 (fun H6 locs hN oq hz1 hS => ?_)
  have g1 := zkp g1 zrg_X2_init (fun q _ h2 h3 => oq q (znA (a := a) (i := 1) (p := 0) h2 (Nat.le_of_ble_eq_true rfl)))
  have g10 := zkp g10 zrg_X1_init (fun q _ h2 h3 => oq q (znA (a := a) (i := 10) (p := 0) h2 (Nat.le_of_ble_eq_true rfl)))
  have g0 : va_P E.1 zcl [(a, .inr (4, [.ref (a + 1), .ref (a + 10), .null, .null, .int 0, .int 0, .null, .null, .int 0, .int 0, .int 0, .int 0, .int 0, .int 0, .int 0]))] H6 := hN
  have hsz := hz1.trans hsz
  refine lv_aload_n hx hb dX4_init_26 rfl (lv_at hl 0 rfl) ?_
  refine zNew (ws := []) (C := RX6) (T := TX6) (N := 4) (ci := 6) zc hK (fun k q h => by simp at h) hS hsz uw6 tyX6 tyX6_ok kcl_4_25 kins_6 kinit_6 rfl [.int 0, .null, .null, .null] (fun j hj => match j, hj with | 0, _ => rfl | 1, _ => rfl | 2, _ => rfl | 3, _ => rfl | j + 4, hj => absurd hj (by omega)) (Nat.le_of_ble_eq_true rfl) (Nat.le_of_ble_eq_true rfl) dX4_init_27 (fun H7 hN o1 hz1 hS => ?_)
  have g0 := zkp g0 zRg_1 (fun q h1 _ _ => o1 q (Nat.lt_of_lt_of_eq h1 hsz))
  have g1 := zkp g1 zrg_X2_init (fun q h1 _ _ => o1 q (Nat.lt_of_lt_of_eq h1 hsz))
  have g10 := zkp g10 zrg_X1_init (fun q h1 _ _ => o1 q (Nat.lt_of_lt_of_eq h1 hsz))
  have g14 : va_P E.1 zcl [((a + 14), .inr (6, [.int 0, .null, .null, .null]))] H7 := hN
  have hsz : H7.size = a + 15 := hz1
  refine W.cs (cells' := 14) (slots' := 268) rfl rfl ?_
  refine lv_dup hx hb dX4_init_30 rfl ?_
  refine zIc zc ky_X6_init kz_X6_init rfl km_4_27 (ci_X6_init l) (zIpre hK hO g14 hsz) hS (fun q (h : (a + 14) ≤ q) => Nat.le_trans (Nat.le_add_right a 14) h) hl.1 (Nat.le_of_ble_eq_true rfl) ⟨rfl, rfl⟩ ⟨Nat.le_of_ble_eq_true rfl, Nat.le_of_ble_eq_true rfl⟩ ⟨Nat.le_of_ble_eq_true rfl, Nat.le_of_ble_eq_true rfl⟩ dX4_init_31 (fun _ H8 locs _ hJ hk hS => ?_)
  have g0 := zkp g0 zRg_1 (fun q h1 _ h3 => hk q h1 (zge_n (a := a) (i := 1) (j := 14) h3 (Nat.le_of_ble_eq_true rfl)))
  have g1 := zkp g1 zrg_X2_init (fun q h1 _ h3 => hk q h1 (zge_n (a := a) (i := 10) (j := 14) h3 (Nat.le_of_ble_eq_true rfl)))
  have g10 := zkp g10 zrg_X1_init (fun q h1 _ h3 => hk q h1 (zge_n (a := a) (i := 14) (j := 14) h3 (Nat.le_of_ble_eq_true rfl)))
  have g14 := hJ.1
  have hsz : H8.size = a + 18 := hJ.2
  refine W.cs (cells' := 17) (slots' := 298) rfl rfl ?_
  refine zPut (C := RX4) (T := TX4) (N := 15) (ci := 4) (v := .ref (a + 14)) (ty := .object "DownhillSong$Sight") zc hK g0 (zD1 (Nat.le_refl a)) hS uw4 tyX4 tyX4_ok nmX4 0 rfl rfl 2 (by decide) kf_4_28 (fun _ h9 => h9) (Or.inr ⟨rfl, hin, rfl⟩) (by decide +kernel) rfl rfl (Nat.le_of_ble_eq_true rfl) dX4_init_34 (fun H9 locs hN oq hz1 hS => ?_)
  have g1 := zkp g1 zrg_X2_init (fun q _ h2 h3 => oq q (znA (a := a) (i := 1) (p := 0) h2 (Nat.le_of_ble_eq_true rfl)))
  have g10 := zkp g10 zrg_X1_init (fun q _ h2 h3 => oq q (znA (a := a) (i := 10) (p := 0) h2 (Nat.le_of_ble_eq_true rfl)))
  have g14 := zkp g14 zrg_X6_init (fun q _ h2 h3 => oq q (znA (a := a) (i := 14) (p := 0) h2 (Nat.le_of_ble_eq_true rfl)))
  have g0 : va_P E.1 zcl [(a, .inr (4, [.ref (a + 1), .ref (a + 10), .ref (a + 14), .null, .int 0, .int 0, .null, .null, .int 0, .int 0, .int 0, .int 0, .int 0, .int 0, .int 0]))] H9 := hN
  have hsz := hz1.trans hsz
  refine lv_aload_n hx hb dX4_init_37 rfl (lv_at hl 0 rfl) ?_
  refine zNew (ws := []) (C := RX0) (T := TX0) (N := 4) (ci := 0) zc hK (fun k q h => by simp at h) hS hsz uw0 tyX0 tyX0_ok kcl_4_32 kins_0 kinit_0 rfl [.int 0, .int 0, .null, .null] (fun j hj => match j, hj with | 0, _ => rfl | 1, _ => rfl | 2, _ => rfl | 3, _ => rfl | j + 4, hj => absurd hj (by omega)) (Nat.le_of_ble_eq_true rfl) (Nat.le_of_ble_eq_true rfl) dX4_init_38 (fun H10 hN o1 hz1 hS => ?_)
  have g0 := zkp g0 zRg_1 (fun q h1 _ _ => o1 q (Nat.lt_of_lt_of_eq h1 hsz))
  have g1 := zkp g1 zrg_X2_init (fun q h1 _ _ => o1 q (Nat.lt_of_lt_of_eq h1 hsz))
  have g10 := zkp g10 zrg_X1_init (fun q h1 _ _ => o1 q (Nat.lt_of_lt_of_eq h1 hsz))
  have g14 := zkp g14 zrg_X6_init (fun q h1 _ _ => o1 q (Nat.lt_of_lt_of_eq h1 hsz))
  have g18 : va_P E.1 zcl [((a + 18), .inr (0, [.int 0, .int 0, .null, .null]))] H10 := hN
  have hsz : H10.size = a + 19 := hz1
  refine W.cs (cells' := 18) (slots' := 302) rfl rfl ?_
  refine lv_dup hx hb dX4_init_41 rfl ?_
  refine zIc zc ky_X0_init kz_X0_init rfl km_4_34 (ci_X0_init l) (zIpre hK hO g18 hsz) hS (fun q (h : (a + 18) ≤ q) => Nat.le_trans (Nat.le_add_right a 18) h) hl.1 (Nat.le_of_ble_eq_true rfl) ⟨rfl, rfl⟩ ⟨Nat.le_of_ble_eq_true rfl, Nat.le_of_ble_eq_true rfl⟩ ⟨Nat.le_of_ble_eq_true rfl, Nat.le_of_ble_eq_true rfl⟩ dX4_init_42 (fun _ H11 locs _ hJ hk hS => ?_)
  have g0 := zkp g0 zRg_1 (fun q h1 _ h3 => hk q h1 (zge_n (a := a) (i := 1) (j := 18) h3 (Nat.le_of_ble_eq_true rfl)))
  have g1 := zkp g1 zrg_X2_init (fun q h1 _ h3 => hk q h1 (zge_n (a := a) (i := 10) (j := 18) h3 (Nat.le_of_ble_eq_true rfl)))
  have g10 := zkp g10 zrg_X1_init (fun q h1 _ h3 => hk q h1 (zge_n (a := a) (i := 14) (j := 18) h3 (Nat.le_of_ble_eq_true rfl)))
  have g14 := zkp g14 zrg_X6_init (fun q h1 _ h3 => hk q h1 (zge_n (a := a) (i := 18) (j := 18) h3 (Nat.le_of_ble_eq_true rfl)))
  have g18 := hJ.1
  have hsz : H11.size = a + 21 := hJ.2
  refine W.cs (cells' := 20) (slots' := 320) rfl rfl ?_
  refine zPut (C := RX4) (T := TX4) (N := 15) (ci := 4) (v := .ref (a + 18)) (ty := .object "DownhillSong$Choir") zc hK g0 (zD1 (Nat.le_refl a)) hS uw4 tyX4 tyX4_ok nmX4 0 rfl rfl 3 (by decide) kf_4_35 (fun _ h9 => h9) (Or.inr ⟨rfl, hin, rfl⟩) (by decide +kernel) rfl rfl (Nat.le_of_ble_eq_true rfl) dX4_init_45 (fun H12 locs hN oq hz1 hS => ?_)
  have g1 := zkp g1 zrg_X2_init (fun q _ h2 h3 => oq q (znA (a := a) (i := 1) (p := 0) h2 (Nat.le_of_ble_eq_true rfl)))
  have g10 := zkp g10 zrg_X1_init (fun q _ h2 h3 => oq q (znA (a := a) (i := 10) (p := 0) h2 (Nat.le_of_ble_eq_true rfl)))
  have g14 := zkp g14 zrg_X6_init (fun q _ h2 h3 => oq q (znA (a := a) (i := 14) (p := 0) h2 (Nat.le_of_ble_eq_true rfl)))
  have g18 := zkp g18 zrg_X0_init (fun q _ h2 h3 => oq q (znA (a := a) (i := 18) (p := 0) h2 (Nat.le_of_ble_eq_true rfl)))
  have g0 : va_P E.1 zcl [(a, .inr (4, [.ref (a + 1), .ref (a + 10), .ref (a + 14), .ref (a + 18), .int 0, .int 0, .null, .null, .int 0, .int 0, .int 0, .int 0, .int 0, .int 0, .int 0]))] H12 := hN
  have hsz := hz1.trans hsz
  refine lv_aload_n hx hb dX4_init_48 rfl (lv_at hl 0 rfl) ?_
  refine lv_iconst (v := (-1 : Int32)) hx hb dX4_init_49 (by decide) ?_
  refine zPut (C := RX4) (T := TX4) (N := 15) (ci := 4) (v := .int (-1 : Int32)) (ty := .int) zc hK g0 (zD1 (Nat.le_refl a)) hS uw4 tyX4 tyX4_ok nmX4 0 rfl rfl 5 (by decide) kf_4_39 (fun _ h9 => h9) (Or.inl rfl) (by decide +kernel) rfl rfl (Nat.le_of_ble_eq_true rfl) dX4_init_50 (fun H13 locs hN oq hz1 hS => ?_)
  have g1 := zkp g1 zrg_X2_init (fun q _ h2 h3 => oq q (znA (a := a) (i := 1) (p := 0) h2 (Nat.le_of_ble_eq_true rfl)))
  have g10 := zkp g10 zrg_X1_init (fun q _ h2 h3 => oq q (znA (a := a) (i := 10) (p := 0) h2 (Nat.le_of_ble_eq_true rfl)))
  have g14 := zkp g14 zrg_X6_init (fun q _ h2 h3 => oq q (znA (a := a) (i := 14) (p := 0) h2 (Nat.le_of_ble_eq_true rfl)))
  have g18 := zkp g18 zrg_X0_init (fun q _ h2 h3 => oq q (znA (a := a) (i := 18) (p := 0) h2 (Nat.le_of_ble_eq_true rfl)))
  have g0 : va_P E.1 zcl [(a, .inr (4, [.ref (a + 1), .ref (a + 10), .ref (a + 14), .ref (a + 18), .int 0, .int (-1 : Int32), .null, .null, .int 0, .int 0, .int 0, .int 0, .int 0, .int 0, .int 0]))] H13 := hN
  have hsz := hz1.trans hsz
  refine lv_aload_n hx hb dX4_init_53 rfl (lv_at hl 0 rfl) ?_
  refine lv_iconst (v := (3 : Int32)) hx hb dX4_init_54 (by decide) ?_
  refine zNewa (ws := []) (atype := .int) (t := 1) (N := 3) (a0 := (3, .inl (fun _ => 0))) zc hK (fun k q h => by simp at h) hS hsz kac_I rfl (fun _ => rfl) (by decide) (by decide) (by decide) (Nat.le_of_ble_eq_true rfl) (Nat.le_of_ble_eq_true rfl) dX4_init_55 (fun H14 hN o1 hz1 hS => ?_)
  have g0 := zkp g0 zRg_1 (fun q h1 _ _ => o1 q (Nat.lt_of_lt_of_eq h1 hsz))
  have g1 := zkp g1 zrg_X2_init (fun q h1 _ _ => o1 q (Nat.lt_of_lt_of_eq h1 hsz))
  have g10 := zkp g10 zrg_X1_init (fun q h1 _ _ => o1 q (Nat.lt_of_lt_of_eq h1 hsz))
  have g14 := zkp g14 zrg_X6_init (fun q h1 _ _ => o1 q (Nat.lt_of_lt_of_eq h1 hsz))
  have g18 := zkp g18 zrg_X0_init (fun q h1 _ _ => o1 q (Nat.lt_of_lt_of_eq h1 hsz))
  have g21 : va_P E.1 zcl [((a + 21), .inl (E.2 1, 3, .inl (fun _ => 0)))] H14 := hN
  have hsz : H14.size = a + 22 := hz1
  refine W.cs (cells' := 21) (slots' := 323) rfl rfl ?_
  refine zPut (C := RX4) (T := TX4) (N := 15) (ci := 4) (v := .ref (a + 21)) (ty := .array .int) zc hK g0 (zD1 (Nat.le_refl a)) hS uw4 tyX4 tyX4_ok nmX4 0 rfl rfl 6 (by decide) kf_4_43 (fun _ h9 => h9) (Or.inr ⟨rfl, hin, rfl⟩) (by decide +kernel) rfl rfl (Nat.le_of_ble_eq_true rfl) dX4_init_57 (fun H15 locs hN oq hz1 hS => ?_)
  have g1 := zkp g1 zrg_X2_init (fun q _ h2 h3 => oq q (znA (a := a) (i := 1) (p := 0) h2 (Nat.le_of_ble_eq_true rfl)))
  have g10 := zkp g10 zrg_X1_init (fun q _ h2 h3 => oq q (znA (a := a) (i := 10) (p := 0) h2 (Nat.le_of_ble_eq_true rfl)))
  have g14 := zkp g14 zrg_X6_init (fun q _ h2 h3 => oq q (znA (a := a) (i := 14) (p := 0) h2 (Nat.le_of_ble_eq_true rfl)))
  have g18 := zkp g18 zrg_X0_init (fun q _ h2 h3 => oq q (znA (a := a) (i := 18) (p := 0) h2 (Nat.le_of_ble_eq_true rfl)))
  have g21 := zkp g21 zRg_1 (fun q _ h2 h3 => oq q (znA (a := a) (i := 21) (p := 0) h2 (Nat.le_of_ble_eq_true rfl)))
  have g0 : va_P E.1 zcl [(a, .inr (4, [.ref (a + 1), .ref (a + 10), .ref (a + 14), .ref (a + 18), .int 0, .int (-1 : Int32), .ref (a + 21), .null, .int 0, .int 0, .int 0, .int 0, .int 0, .int 0, .int 0]))] H15 := hN
  have hsz := hz1.trans hsz
  refine lv_aload_n hx hb dX4_init_60 rfl (lv_at hl 0 rfl) ?_
  refine lv_sipush (v := (600 : Int32)) hx hb dX4_init_61 (by decide) ?_
  refine zNewa (ws := []) (atype := .byte) (t := 0) (N := 600) (a0 := (600, .inl (fun _ => 0))) zc hK (fun k q h => by simp at h) hS hsz kac_B rfl (fun _ => rfl) (by decide) (by decide) (by decide) (Nat.le_of_ble_eq_true rfl) (Nat.le_of_ble_eq_true rfl) dX4_init_64 (fun H16 hN o1 hz1 hS => ?_)
  have g0 := zkp g0 zRg_1 (fun q h1 _ _ => o1 q (Nat.lt_of_lt_of_eq h1 hsz))
  have g1 := zkp g1 zrg_X2_init (fun q h1 _ _ => o1 q (Nat.lt_of_lt_of_eq h1 hsz))
  have g10 := zkp g10 zrg_X1_init (fun q h1 _ _ => o1 q (Nat.lt_of_lt_of_eq h1 hsz))
  have g14 := zkp g14 zrg_X6_init (fun q h1 _ _ => o1 q (Nat.lt_of_lt_of_eq h1 hsz))
  have g18 := zkp g18 zrg_X0_init (fun q h1 _ _ => o1 q (Nat.lt_of_lt_of_eq h1 hsz))
  have g21 := zkp g21 zRg_1 (fun q h1 _ _ => o1 q (Nat.lt_of_lt_of_eq h1 hsz))
  have g22 : va_P E.1 zcl [((a + 22), .inl (E.2 0, 600, .inl (fun _ => 0)))] H16 := hN
  have hsz : H16.size = a + 23 := hz1
  refine W.cs (cells' := 22) (slots' := 923) rfl rfl ?_
  refine zPut (C := RX4) (T := TX4) (N := 15) (ci := 4) (v := .ref (a + 22)) (ty := .array .byte) zc hK g0 (zD1 (Nat.le_refl a)) hS uw4 tyX4 tyX4_ok nmX4 0 rfl rfl 7 (by decide) kf_4_47 (fun _ h9 => h9) (Or.inr ⟨rfl, hin, rfl⟩) (by decide +kernel) rfl rfl (Nat.le_of_ble_eq_true rfl) dX4_init_66 (fun H17 locs hN oq hz1 hS => ?_)
  have g1 := zkp g1 zrg_X2_init (fun q _ h2 h3 => oq q (znA (a := a) (i := 1) (p := 0) h2 (Nat.le_of_ble_eq_true rfl)))
  have g10 := zkp g10 zrg_X1_init (fun q _ h2 h3 => oq q (znA (a := a) (i := 10) (p := 0) h2 (Nat.le_of_ble_eq_true rfl)))
  have g14 := zkp g14 zrg_X6_init (fun q _ h2 h3 => oq q (znA (a := a) (i := 14) (p := 0) h2 (Nat.le_of_ble_eq_true rfl)))
  have g18 := zkp g18 zrg_X0_init (fun q _ h2 h3 => oq q (znA (a := a) (i := 18) (p := 0) h2 (Nat.le_of_ble_eq_true rfl)))
  have g21 := zkp g21 zRg_1 (fun q _ h2 h3 => oq q (znA (a := a) (i := 21) (p := 0) h2 (Nat.le_of_ble_eq_true rfl)))
  have g22 := zkp g22 zRg_1 (fun q _ h2 h3 => oq q (znA (a := a) (i := 22) (p := 0) h2 (Nat.le_of_ble_eq_true rfl)))
  have g0 : va_P E.1 zcl [(a, .inr (4, [.ref (a + 1), .ref (a + 10), .ref (a + 14), .ref (a + 18), .int 0, .int (-1 : Int32), .ref (a + 21), .ref (a + 22), .int 0, .int 0, .int 0, .int 0, .int 0, .int 0, .int 0]))] H17 := hN
  have hsz := hz1.trans hsz
  exact zIret (post := fun _ => True) (B := zJ E a 23 ([(a, .inr (4, [.ref (a + 1), .ref (a + 10), .ref (a + 14), .ref (a + 18), .int 0, .int (-1 : Int32), .ref (a + 21), .ref (a + 22), .int 0, .int 0, .int 0, .int 0, .int 0, .int 0, .int 0]))] ++ (zb_X2_init E (a + 1) ++ (zb_X1_init E (a + 10) ++ (zb_X6_init E (a + 14) ++ (zb_X0_init E (a + 18) ++ ([((a + 21), .inl (E.2 1, 3, .inl (fun _ => 0)))] ++ ([((a + 22), .inl (E.2 0, 600, .inl (fun _ => 0)))])))))))) () zc hS trivial ⟨(va_P.app g0 (va_P.app g1 (va_P.app g10 (va_P.app g14 (va_P.app g18 (va_P.app g21 g22)))))), hsz⟩ dX4_init_69
end
section
abbrev rmi_X3_init : Room := { frames := 1, cells := 5, slots := 35, locals := 20 }
abbrev zb_X3_init (E : zE) (a : Nat) : va_W := ([(a, .inr (3, [.int 0, .int 0, .int 0, .int 0, .int 0, .ref (a + 1), .ref (a + 2), .ref (a + 3), .ref (a + 4), .ref (a + 5)]))] ++ ([((a + 1), .inl (E.2 1, 6, .inl (fun _ => 0)))] ++ ([((a + 2), .inl (E.2 1, 6, .inl (fun _ => 0)))] ++ ([((a + 3), .inl (E.2 1, 5, .inl (fun _ => 0)))] ++ ([((a + 4), .inl (E.2 1, 9, .inl (fun _ => 0)))] ++ ([((a + 5), .inl (E.2 1, 9, .inl (fun _ => 0)))]))))))
theorem zrg_X3_init {E : zE} {a : Nat} : zRg (zb_X3_init E a) a (a + 6) := by
  exact ((zRg_1).mono (by omega) (by omega)).app (((zRg_1).mono (by omega) (by omega)).app (((zRg_1).mono (by omega) (by omega)).app (((zRg_1).mono (by omega) (by omega)).app (((zRg_1).mono (by omega) (by omega)).app ((zRg_1).mono (by omega) (by omega))))))
set_option maxRecDepth 40000 in
set_option maxHeartbeats 4000000 in
theorem ci_X3_init (l : Launch) {E : zE} {a : Nat} : Met l yX3_init (Cond.code yX3_init cX3_init 1 none :: zb) rmi_X3_init (va_Pc [.ref a] (zI E a 3 [.int 0, .int 0, .int 0, .int 0, .int 0, .null, .null, .null, .null, .null])) (zQv (S := Unit) (fun _ => True) (zJ E a 6 (zb_X3_init E a)) (fun q => a ≤ q)) 5 35 (fun q => a ≤ q) := by
  refine Met.ofW (cc := cX3_init) (maxL := 1) (ret := none) (by decide) rfl ?_
  intro p e s m args below meth c s₁ B hml hv
  obtain ⟨rfl, hsz, g0, hK, hO⟩ := hv
  have zc := zc_of B hml
  have hx := zc.1
  have hb := zc.2.1
  have hz := zc.2.2.2.2.1
  have hin : meth.name = "<init>" := (name_of_methodNamed B.named B.method).1
  have hS : va_S (fun q => a ≤ q) s.heap s.heap [] := va_S.rf
  have hl := lv_entry ([.ref a]) (n := 1) (Nat.le_of_ble_eq_true rfl)
  rw [lg_entry_eq]
  generalize (lg_sl ([.ref a]) ++ List.replicate (1 - (lg_sl ([.ref a])).length) Slot.unset).toArray = ls at hl ⊢
  have hl : lv_has ls 1 [(0, .ref a)] := hl
  refine lv_aload_n hx hb dX3_init_0 rfl (lv_at hl 0 rfl) ?_
  refine W.objInit hx hb zc.2.2.2.1 (hz _ km_3_3) (hz _ k_oi) (hz _ k_oc) rfl (by rw [zc.2.2.1]; exact hl.1) rfl dX3_init_1 (Nat.le_of_ble_eq_true rfl) (Nat.le_of_ble_eq_true rfl) ?_
  refine W.eq (g2 := F0 m 4 ls []) rfl ?_
  refine lv_aload_n hx hb dX3_init_4 rfl (lv_at hl 0 rfl) ?_
  refine lv_bipush (v := (6 : Int32)) hx hb dX3_init_5 (by decide) ?_
  refine zNewa (ws := []) (atype := .int) (t := 1) (N := 6) (a0 := (6, .inl (fun _ => 0))) zc hK (fun k q h => by simp at h) hS hsz kac_I rfl (fun _ => rfl) (by decide) (by decide) (by decide) (Nat.le_of_ble_eq_true rfl) (Nat.le_of_ble_eq_true rfl) dX3_init_7 (fun H1 hN o1 hz1 hS => ?_)
  have g0 := zkp g0 zRg_1 (fun q h1 _ _ => o1 q (Nat.lt_of_lt_of_eq h1 hsz))
  have g1 : va_P E.1 zcl [((a + 1), .inl (E.2 1, 6, .inl (fun _ => 0)))] H1 := hN
  have hsz : H1.size = a + 2 := hz1
  refine W.cs (cells' := 1) (slots' := 6) rfl rfl ?_
  refine zPut (C := RX3) (T := TX3) (N := 10) (ci := 3) (v := .ref (a + 1)) (ty := .array .int) zc hK g0 (zD1 (Nat.le_refl a)) hS uw3 tyX3 tyX3_ok nmX3 0 rfl rfl 5 (by decide) kf_3_9 (fun _ h9 => h9) (Or.inr ⟨rfl, hin, rfl⟩) (by decide +kernel) rfl rfl (Nat.le_of_ble_eq_true rfl) dX3_init_9 (fun H2 locs hN oq hz1 hS => ?_)
  have g1 := zkp g1 zRg_1 (fun q _ h2 h3 => oq q (znA (a := a) (i := 1) (p := 0) h2 (Nat.le_of_ble_eq_true rfl)))
  have g0 : va_P E.1 zcl [(a, .inr (3, [.int 0, .int 0, .int 0, .int 0, .int 0, .ref (a + 1), .null, .null, .null, .null]))] H2 := hN
  have hsz := hz1.trans hsz
  refine lv_aload_n hx hb dX3_init_12 rfl (lv_at hl 0 rfl) ?_
  refine lv_bipush (v := (6 : Int32)) hx hb dX3_init_13 (by decide) ?_
  refine zNewa (ws := []) (atype := .int) (t := 1) (N := 6) (a0 := (6, .inl (fun _ => 0))) zc hK (fun k q h => by simp at h) hS hsz kac_I rfl (fun _ => rfl) (by decide) (by decide) (by decide) (Nat.le_of_ble_eq_true rfl) (Nat.le_of_ble_eq_true rfl) dX3_init_15 (fun H3 hN o1 hz1 hS => ?_)
  have g0 := zkp g0 zRg_1 (fun q h1 _ _ => o1 q (Nat.lt_of_lt_of_eq h1 hsz))
  have g1 := zkp g1 zRg_1 (fun q h1 _ _ => o1 q (Nat.lt_of_lt_of_eq h1 hsz))
  have g2 : va_P E.1 zcl [((a + 2), .inl (E.2 1, 6, .inl (fun _ => 0)))] H3 := hN
  have hsz : H3.size = a + 3 := hz1
  refine W.cs (cells' := 2) (slots' := 12) rfl rfl ?_
  refine zPut (C := RX3) (T := TX3) (N := 10) (ci := 3) (v := .ref (a + 2)) (ty := .array .int) zc hK g0 (zD1 (Nat.le_refl a)) hS uw3 tyX3 tyX3_ok nmX3 0 rfl rfl 6 (by decide) kf_3_15 (fun _ h9 => h9) (Or.inr ⟨rfl, hin, rfl⟩) (by decide +kernel) rfl rfl (Nat.le_of_ble_eq_true rfl) dX3_init_17 (fun H4 locs hN oq hz1 hS => ?_)
  have g1 := zkp g1 zRg_1 (fun q _ h2 h3 => oq q (znA (a := a) (i := 1) (p := 0) h2 (Nat.le_of_ble_eq_true rfl)))
  have g2 := zkp g2 zRg_1 (fun q _ h2 h3 => oq q (znA (a := a) (i := 2) (p := 0) h2 (Nat.le_of_ble_eq_true rfl)))
  have g0 : va_P E.1 zcl [(a, .inr (3, [.int 0, .int 0, .int 0, .int 0, .int 0, .ref (a + 1), .ref (a + 2), .null, .null, .null]))] H4 := hN
  have hsz := hz1.trans hsz
  refine lv_aload_n hx hb dX3_init_20 rfl (lv_at hl 0 rfl) ?_
  refine lv_iconst (v := (5 : Int32)) hx hb dX3_init_21 (by decide) ?_
  refine zNewa (ws := []) (atype := .int) (t := 1) (N := 5) (a0 := (5, .inl (fun _ => 0))) zc hK (fun k q h => by simp at h) hS hsz kac_I rfl (fun _ => rfl) (by decide) (by decide) (by decide) (Nat.le_of_ble_eq_true rfl) (Nat.le_of_ble_eq_true rfl) dX3_init_22 (fun H5 hN o1 hz1 hS => ?_)
  have g0 := zkp g0 zRg_1 (fun q h1 _ _ => o1 q (Nat.lt_of_lt_of_eq h1 hsz))
  have g1 := zkp g1 zRg_1 (fun q h1 _ _ => o1 q (Nat.lt_of_lt_of_eq h1 hsz))
  have g2 := zkp g2 zRg_1 (fun q h1 _ _ => o1 q (Nat.lt_of_lt_of_eq h1 hsz))
  have g3 : va_P E.1 zcl [((a + 3), .inl (E.2 1, 5, .inl (fun _ => 0)))] H5 := hN
  have hsz : H5.size = a + 4 := hz1
  refine W.cs (cells' := 3) (slots' := 17) rfl rfl ?_
  refine zPut (C := RX3) (T := TX3) (N := 10) (ci := 3) (v := .ref (a + 3)) (ty := .array .int) zc hK g0 (zD1 (Nat.le_refl a)) hS uw3 tyX3 tyX3_ok nmX3 0 rfl rfl 7 (by decide) kf_3_18 (fun _ h9 => h9) (Or.inr ⟨rfl, hin, rfl⟩) (by decide +kernel) rfl rfl (Nat.le_of_ble_eq_true rfl) dX3_init_24 (fun H6 locs hN oq hz1 hS => ?_)
  have g1 := zkp g1 zRg_1 (fun q _ h2 h3 => oq q (znA (a := a) (i := 1) (p := 0) h2 (Nat.le_of_ble_eq_true rfl)))
  have g2 := zkp g2 zRg_1 (fun q _ h2 h3 => oq q (znA (a := a) (i := 2) (p := 0) h2 (Nat.le_of_ble_eq_true rfl)))
  have g3 := zkp g3 zRg_1 (fun q _ h2 h3 => oq q (znA (a := a) (i := 3) (p := 0) h2 (Nat.le_of_ble_eq_true rfl)))
  have g0 : va_P E.1 zcl [(a, .inr (3, [.int 0, .int 0, .int 0, .int 0, .int 0, .ref (a + 1), .ref (a + 2), .ref (a + 3), .null, .null]))] H6 := hN
  have hsz := hz1.trans hsz
  refine lv_aload_n hx hb dX3_init_27 rfl (lv_at hl 0 rfl) ?_
  refine lv_bipush (v := (9 : Int32)) hx hb dX3_init_28 (by decide) ?_
  refine zNewa (ws := []) (atype := .int) (t := 1) (N := 9) (a0 := (9, .inl (fun _ => 0))) zc hK (fun k q h => by simp at h) hS hsz kac_I rfl (fun _ => rfl) (by decide) (by decide) (by decide) (Nat.le_of_ble_eq_true rfl) (Nat.le_of_ble_eq_true rfl) dX3_init_30 (fun H7 hN o1 hz1 hS => ?_)
  have g0 := zkp g0 zRg_1 (fun q h1 _ _ => o1 q (Nat.lt_of_lt_of_eq h1 hsz))
  have g1 := zkp g1 zRg_1 (fun q h1 _ _ => o1 q (Nat.lt_of_lt_of_eq h1 hsz))
  have g2 := zkp g2 zRg_1 (fun q h1 _ _ => o1 q (Nat.lt_of_lt_of_eq h1 hsz))
  have g3 := zkp g3 zRg_1 (fun q h1 _ _ => o1 q (Nat.lt_of_lt_of_eq h1 hsz))
  have g4 : va_P E.1 zcl [((a + 4), .inl (E.2 1, 9, .inl (fun _ => 0)))] H7 := hN
  have hsz : H7.size = a + 5 := hz1
  refine W.cs (cells' := 4) (slots' := 26) rfl rfl ?_
  refine zPut (C := RX3) (T := TX3) (N := 10) (ci := 3) (v := .ref (a + 4)) (ty := .array .int) zc hK g0 (zD1 (Nat.le_refl a)) hS uw3 tyX3 tyX3_ok nmX3 0 rfl rfl 8 (by decide) kf_3_21 (fun _ h9 => h9) (Or.inr ⟨rfl, hin, rfl⟩) (by decide +kernel) rfl rfl (Nat.le_of_ble_eq_true rfl) dX3_init_32 (fun H8 locs hN oq hz1 hS => ?_)
  have g1 := zkp g1 zRg_1 (fun q _ h2 h3 => oq q (znA (a := a) (i := 1) (p := 0) h2 (Nat.le_of_ble_eq_true rfl)))
  have g2 := zkp g2 zRg_1 (fun q _ h2 h3 => oq q (znA (a := a) (i := 2) (p := 0) h2 (Nat.le_of_ble_eq_true rfl)))
  have g3 := zkp g3 zRg_1 (fun q _ h2 h3 => oq q (znA (a := a) (i := 3) (p := 0) h2 (Nat.le_of_ble_eq_true rfl)))
  have g4 := zkp g4 zRg_1 (fun q _ h2 h3 => oq q (znA (a := a) (i := 4) (p := 0) h2 (Nat.le_of_ble_eq_true rfl)))
  have g0 : va_P E.1 zcl [(a, .inr (3, [.int 0, .int 0, .int 0, .int 0, .int 0, .ref (a + 1), .ref (a + 2), .ref (a + 3), .ref (a + 4), .null]))] H8 := hN
  have hsz := hz1.trans hsz
  refine lv_aload_n hx hb dX3_init_35 rfl (lv_at hl 0 rfl) ?_
  refine lv_bipush (v := (9 : Int32)) hx hb dX3_init_36 (by decide) ?_
  refine zNewa (ws := []) (atype := .int) (t := 1) (N := 9) (a0 := (9, .inl (fun _ => 0))) zc hK (fun k q h => by simp at h) hS hsz kac_I rfl (fun _ => rfl) (by decide) (by decide) (by decide) (Nat.le_of_ble_eq_true rfl) (Nat.le_of_ble_eq_true rfl) dX3_init_38 (fun H9 hN o1 hz1 hS => ?_)
  have g0 := zkp g0 zRg_1 (fun q h1 _ _ => o1 q (Nat.lt_of_lt_of_eq h1 hsz))
  have g1 := zkp g1 zRg_1 (fun q h1 _ _ => o1 q (Nat.lt_of_lt_of_eq h1 hsz))
  have g2 := zkp g2 zRg_1 (fun q h1 _ _ => o1 q (Nat.lt_of_lt_of_eq h1 hsz))
  have g3 := zkp g3 zRg_1 (fun q h1 _ _ => o1 q (Nat.lt_of_lt_of_eq h1 hsz))
  have g4 := zkp g4 zRg_1 (fun q h1 _ _ => o1 q (Nat.lt_of_lt_of_eq h1 hsz))
  have g5 : va_P E.1 zcl [((a + 5), .inl (E.2 1, 9, .inl (fun _ => 0)))] H9 := hN
  have hsz : H9.size = a + 6 := hz1
  refine W.cs (cells' := 5) (slots' := 35) rfl rfl ?_
  refine zPut (C := RX3) (T := TX3) (N := 10) (ci := 3) (v := .ref (a + 5)) (ty := .array .int) zc hK g0 (zD1 (Nat.le_refl a)) hS uw3 tyX3 tyX3_ok nmX3 0 rfl rfl 9 (by decide) kf_3_24 (fun _ h9 => h9) (Or.inr ⟨rfl, hin, rfl⟩) (by decide +kernel) rfl rfl (Nat.le_of_ble_eq_true rfl) dX3_init_40 (fun H10 locs hN oq hz1 hS => ?_)
  have g1 := zkp g1 zRg_1 (fun q _ h2 h3 => oq q (znA (a := a) (i := 1) (p := 0) h2 (Nat.le_of_ble_eq_true rfl)))
  have g2 := zkp g2 zRg_1 (fun q _ h2 h3 => oq q (znA (a := a) (i := 2) (p := 0) h2 (Nat.le_of_ble_eq_true rfl)))
  have g3 := zkp g3 zRg_1 (fun q _ h2 h3 => oq q (znA (a := a) (i := 3) (p := 0) h2 (Nat.le_of_ble_eq_true rfl)))
  have g4 := zkp g4 zRg_1 (fun q _ h2 h3 => oq q (znA (a := a) (i := 4) (p := 0) h2 (Nat.le_of_ble_eq_true rfl)))
  have g5 := zkp g5 zRg_1 (fun q _ h2 h3 => oq q (znA (a := a) (i := 5) (p := 0) h2 (Nat.le_of_ble_eq_true rfl)))
  have g0 : va_P E.1 zcl [(a, .inr (3, [.int 0, .int 0, .int 0, .int 0, .int 0, .ref (a + 1), .ref (a + 2), .ref (a + 3), .ref (a + 4), .ref (a + 5)]))] H10 := hN
  have hsz := hz1.trans hsz
  exact zIret (post := fun _ => True) (B := zJ E a 6 ([(a, .inr (3, [.int 0, .int 0, .int 0, .int 0, .int 0, .ref (a + 1), .ref (a + 2), .ref (a + 3), .ref (a + 4), .ref (a + 5)]))] ++ ([((a + 1), .inl (E.2 1, 6, .inl (fun _ => 0)))] ++ ([((a + 2), .inl (E.2 1, 6, .inl (fun _ => 0)))] ++ ([((a + 3), .inl (E.2 1, 5, .inl (fun _ => 0)))] ++ ([((a + 4), .inl (E.2 1, 9, .inl (fun _ => 0)))] ++ ([((a + 5), .inl (E.2 1, 9, .inl (fun _ => 0)))]))))))) () zc hS trivial ⟨(va_P.app g0 (va_P.app g1 (va_P.app g2 (va_P.app g3 (va_P.app g4 g5))))), hsz⟩ dX3_init_43
end
section
abbrev rmi_X7_init : Room := { frames := 1, cells := 8, slots := 216, locals := 20 }
abbrev zb_X7_init (E : zE) (a : Nat) : va_W := ([(a, .inr (7, [.ref (a + 1), .ref (a + 2), .ref (a + 3), .ref (a + 4), .ref (a + 5), .ref (a + 6), .ref (a + 7), .ref (a + 8)]))] ++ ([((a + 1), .inl (E.2 1, 81, .inl (fun _ => 0)))] ++ ([((a + 2), .inl (E.2 1, 81, .inl (fun _ => 0)))] ++ ([((a + 3), .inl (E.2 1, 9, .inl (fun _ => 0)))] ++ ([((a + 4), .inl (E.2 1, 9, .inl (fun _ => 0)))] ++ ([((a + 5), .inl (E.2 1, 9, .inl (fun _ => 0)))] ++ ([((a + 6), .inl (E.2 1, 9, .inl (fun _ => 0)))] ++ ([((a + 7), .inl (E.2 1, 9, .inl (fun _ => 0)))] ++ ([((a + 8), .inl (E.2 1, 9, .inl (fun _ => 0)))])))))))))
theorem zrg_X7_init {E : zE} {a : Nat} : zRg (zb_X7_init E a) a (a + 9) := by
  exact ((zRg_1).mono (by omega) (by omega)).app (((zRg_1).mono (by omega) (by omega)).app (((zRg_1).mono (by omega) (by omega)).app (((zRg_1).mono (by omega) (by omega)).app (((zRg_1).mono (by omega) (by omega)).app (((zRg_1).mono (by omega) (by omega)).app (((zRg_1).mono (by omega) (by omega)).app (((zRg_1).mono (by omega) (by omega)).app ((zRg_1).mono (by omega) (by omega)))))))))
set_option maxRecDepth 40000 in
set_option maxHeartbeats 4000000 in
theorem ci_X7_init (l : Launch) {E : zE} {a : Nat} : Met l yX7_init (Cond.code yX7_init cX7_init 1 none :: zb) rmi_X7_init (va_Pc [.ref a] (zI E a 7 [.null, .null, .null, .null, .null, .null, .null, .null])) (zQv (S := Unit) (fun _ => True) (zJ E a 9 (zb_X7_init E a)) (fun q => a ≤ q)) 8 216 (fun q => a ≤ q) := by
  refine Met.ofW (cc := cX7_init) (maxL := 1) (ret := none) (by decide) rfl ?_
  intro p e s m args below meth c s₁ B hml hv
  obtain ⟨rfl, hsz, g0, hK, hO⟩ := hv
  have zc := zc_of B hml
  have hx := zc.1
  have hb := zc.2.1
  have hz := zc.2.2.2.2.1
  have hin : meth.name = "<init>" := (name_of_methodNamed B.named B.method).1
  have hS : va_S (fun q => a ≤ q) s.heap s.heap [] := va_S.rf
  have hl := lv_entry ([.ref a]) (n := 1) (Nat.le_of_ble_eq_true rfl)
  rw [lg_entry_eq]
  generalize (lg_sl ([.ref a]) ++ List.replicate (1 - (lg_sl ([.ref a])).length) Slot.unset).toArray = ls at hl ⊢
  have hl : lv_has ls 1 [(0, .ref a)] := hl
  refine lv_aload_n hx hb dX7_init_0 rfl (lv_at hl 0 rfl) ?_
  refine W.objInit hx hb zc.2.2.2.1 (hz _ km_7_3) (hz _ k_oi) (hz _ k_oc) rfl (by rw [zc.2.2.1]; exact hl.1) rfl dX7_init_1 (Nat.le_of_ble_eq_true rfl) (Nat.le_of_ble_eq_true rfl) ?_
  refine W.eq (g2 := F0 m 4 ls []) rfl ?_
  refine lv_aload_n hx hb dX7_init_4 rfl (lv_at hl 0 rfl) ?_
  refine lv_bipush (v := (81 : Int32)) hx hb dX7_init_5 (by decide) ?_
  refine zNewa (ws := []) (atype := .int) (t := 1) (N := 81) (a0 := (81, .inl (fun _ => 0))) zc hK (fun k q h => by simp at h) hS hsz kac_I rfl (fun _ => rfl) (by decide) (by decide) (by decide) (Nat.le_of_ble_eq_true rfl) (Nat.le_of_ble_eq_true rfl) dX7_init_7 (fun H1 hN o1 hz1 hS => ?_)
  have g0 := zkp g0 zRg_1 (fun q h1 _ _ => o1 q (Nat.lt_of_lt_of_eq h1 hsz))
  have g1 : va_P E.1 zcl [((a + 1), .inl (E.2 1, 81, .inl (fun _ => 0)))] H1 := hN
  have hsz : H1.size = a + 2 := hz1
  refine W.cs (cells' := 1) (slots' := 81) rfl rfl ?_
  refine zPut (C := RX7) (T := TX7) (N := 8) (ci := 7) (v := .ref (a + 1)) (ty := .array .int) zc hK g0 (zD1 (Nat.le_refl a)) hS uw7 tyX7 tyX7_ok nmX7 0 rfl rfl 0 (by decide) kf_7_9 (fun _ h9 => h9) (Or.inr ⟨rfl, hin, rfl⟩) (by decide +kernel) rfl rfl (Nat.le_of_ble_eq_true rfl) dX7_init_9 (fun H2 locs hN oq hz1 hS => ?_)
  have g1 := zkp g1 zRg_1 (fun q _ h2 h3 => oq q (znA (a := a) (i := 1) (p := 0) h2 (Nat.le_of_ble_eq_true rfl)))
  have g0 : va_P E.1 zcl [(a, .inr (7, [.ref (a + 1), .null, .null, .null, .null, .null, .null, .null]))] H2 := hN
  have hsz := hz1.trans hsz
  refine lv_aload_n hx hb dX7_init_12 rfl (lv_at hl 0 rfl) ?_
  refine lv_bipush (v := (81 : Int32)) hx hb dX7_init_13 (by decide) ?_
  refine zNewa (ws := []) (atype := .int) (t := 1) (N := 81) (a0 := (81, .inl (fun _ => 0))) zc hK (fun k q h => by simp at h) hS hsz kac_I rfl (fun _ => rfl) (by decide) (by decide) (by decide) (Nat.le_of_ble_eq_true rfl) (Nat.le_of_ble_eq_true rfl) dX7_init_15 (fun H3 hN o1 hz1 hS => ?_)
  have g0 := zkp g0 zRg_1 (fun q h1 _ _ => o1 q (Nat.lt_of_lt_of_eq h1 hsz))
  have g1 := zkp g1 zRg_1 (fun q h1 _ _ => o1 q (Nat.lt_of_lt_of_eq h1 hsz))
  have g2 : va_P E.1 zcl [((a + 2), .inl (E.2 1, 81, .inl (fun _ => 0)))] H3 := hN
  have hsz : H3.size = a + 3 := hz1
  refine W.cs (cells' := 2) (slots' := 162) rfl rfl ?_
  refine zPut (C := RX7) (T := TX7) (N := 8) (ci := 7) (v := .ref (a + 2)) (ty := .array .int) zc hK g0 (zD1 (Nat.le_refl a)) hS uw7 tyX7 tyX7_ok nmX7 0 rfl rfl 1 (by decide) kf_7_15 (fun _ h9 => h9) (Or.inr ⟨rfl, hin, rfl⟩) (by decide +kernel) rfl rfl (Nat.le_of_ble_eq_true rfl) dX7_init_17 (fun H4 locs hN oq hz1 hS => ?_)
  have g1 := zkp g1 zRg_1 (fun q _ h2 h3 => oq q (znA (a := a) (i := 1) (p := 0) h2 (Nat.le_of_ble_eq_true rfl)))
  have g2 := zkp g2 zRg_1 (fun q _ h2 h3 => oq q (znA (a := a) (i := 2) (p := 0) h2 (Nat.le_of_ble_eq_true rfl)))
  have g0 : va_P E.1 zcl [(a, .inr (7, [.ref (a + 1), .ref (a + 2), .null, .null, .null, .null, .null, .null]))] H4 := hN
  have hsz := hz1.trans hsz
  refine lv_aload_n hx hb dX7_init_20 rfl (lv_at hl 0 rfl) ?_
  refine lv_bipush (v := (9 : Int32)) hx hb dX7_init_21 (by decide) ?_
  refine zNewa (ws := []) (atype := .int) (t := 1) (N := 9) (a0 := (9, .inl (fun _ => 0))) zc hK (fun k q h => by simp at h) hS hsz kac_I rfl (fun _ => rfl) (by decide) (by decide) (by decide) (Nat.le_of_ble_eq_true rfl) (Nat.le_of_ble_eq_true rfl) dX7_init_23 (fun H5 hN o1 hz1 hS => ?_)
  have g0 := zkp g0 zRg_1 (fun q h1 _ _ => o1 q (Nat.lt_of_lt_of_eq h1 hsz))
  have g1 := zkp g1 zRg_1 (fun q h1 _ _ => o1 q (Nat.lt_of_lt_of_eq h1 hsz))
  have g2 := zkp g2 zRg_1 (fun q h1 _ _ => o1 q (Nat.lt_of_lt_of_eq h1 hsz))
  have g3 : va_P E.1 zcl [((a + 3), .inl (E.2 1, 9, .inl (fun _ => 0)))] H5 := hN
  have hsz : H5.size = a + 4 := hz1
  refine W.cs (cells' := 3) (slots' := 171) rfl rfl ?_
  refine zPut (C := RX7) (T := TX7) (N := 8) (ci := 7) (v := .ref (a + 3)) (ty := .array .int) zc hK g0 (zD1 (Nat.le_refl a)) hS uw7 tyX7 tyX7_ok nmX7 0 rfl rfl 2 (by decide) kf_7_18 (fun _ h9 => h9) (Or.inr ⟨rfl, hin, rfl⟩) (by decide +kernel) rfl rfl (Nat.le_of_ble_eq_true rfl) dX7_init_25 (fun H6 locs hN oq hz1 hS => ?_)
  have g1 := zkp g1 zRg_1 (fun q _ h2 h3 => oq q (znA (a := a) (i := 1) (p := 0) h2 (Nat.le_of_ble_eq_true rfl)))
  have g2 := zkp g2 zRg_1 (fun q _ h2 h3 => oq q (znA (a := a) (i := 2) (p := 0) h2 (Nat.le_of_ble_eq_true rfl)))
  have g3 := zkp g3 zRg_1 (fun q _ h2 h3 => oq q (znA (a := a) (i := 3) (p := 0) h2 (Nat.le_of_ble_eq_true rfl)))
  have g0 : va_P E.1 zcl [(a, .inr (7, [.ref (a + 1), .ref (a + 2), .ref (a + 3), .null, .null, .null, .null, .null]))] H6 := hN
  have hsz := hz1.trans hsz
  refine lv_aload_n hx hb dX7_init_28 rfl (lv_at hl 0 rfl) ?_
  refine lv_bipush (v := (9 : Int32)) hx hb dX7_init_29 (by decide) ?_
  refine zNewa (ws := []) (atype := .int) (t := 1) (N := 9) (a0 := (9, .inl (fun _ => 0))) zc hK (fun k q h => by simp at h) hS hsz kac_I rfl (fun _ => rfl) (by decide) (by decide) (by decide) (Nat.le_of_ble_eq_true rfl) (Nat.le_of_ble_eq_true rfl) dX7_init_31 (fun H7 hN o1 hz1 hS => ?_)
  have g0 := zkp g0 zRg_1 (fun q h1 _ _ => o1 q (Nat.lt_of_lt_of_eq h1 hsz))
  have g1 := zkp g1 zRg_1 (fun q h1 _ _ => o1 q (Nat.lt_of_lt_of_eq h1 hsz))
  have g2 := zkp g2 zRg_1 (fun q h1 _ _ => o1 q (Nat.lt_of_lt_of_eq h1 hsz))
  have g3 := zkp g3 zRg_1 (fun q h1 _ _ => o1 q (Nat.lt_of_lt_of_eq h1 hsz))
  have g4 : va_P E.1 zcl [((a + 4), .inl (E.2 1, 9, .inl (fun _ => 0)))] H7 := hN
  have hsz : H7.size = a + 5 := hz1
  refine W.cs (cells' := 4) (slots' := 180) rfl rfl ?_
  refine zPut (C := RX7) (T := TX7) (N := 8) (ci := 7) (v := .ref (a + 4)) (ty := .array .int) zc hK g0 (zD1 (Nat.le_refl a)) hS uw7 tyX7 tyX7_ok nmX7 0 rfl rfl 3 (by decide) kf_7_21 (fun _ h9 => h9) (Or.inr ⟨rfl, hin, rfl⟩) (by decide +kernel) rfl rfl (Nat.le_of_ble_eq_true rfl) dX7_init_33 (fun H8 locs hN oq hz1 hS => ?_)
  have g1 := zkp g1 zRg_1 (fun q _ h2 h3 => oq q (znA (a := a) (i := 1) (p := 0) h2 (Nat.le_of_ble_eq_true rfl)))
  have g2 := zkp g2 zRg_1 (fun q _ h2 h3 => oq q (znA (a := a) (i := 2) (p := 0) h2 (Nat.le_of_ble_eq_true rfl)))
  have g3 := zkp g3 zRg_1 (fun q _ h2 h3 => oq q (znA (a := a) (i := 3) (p := 0) h2 (Nat.le_of_ble_eq_true rfl)))
  have g4 := zkp g4 zRg_1 (fun q _ h2 h3 => oq q (znA (a := a) (i := 4) (p := 0) h2 (Nat.le_of_ble_eq_true rfl)))
  have g0 : va_P E.1 zcl [(a, .inr (7, [.ref (a + 1), .ref (a + 2), .ref (a + 3), .ref (a + 4), .null, .null, .null, .null]))] H8 := hN
  have hsz := hz1.trans hsz
  refine lv_aload_n hx hb dX7_init_36 rfl (lv_at hl 0 rfl) ?_
  refine lv_bipush (v := (9 : Int32)) hx hb dX7_init_37 (by decide) ?_
  refine zNewa (ws := []) (atype := .int) (t := 1) (N := 9) (a0 := (9, .inl (fun _ => 0))) zc hK (fun k q h => by simp at h) hS hsz kac_I rfl (fun _ => rfl) (by decide) (by decide) (by decide) (Nat.le_of_ble_eq_true rfl) (Nat.le_of_ble_eq_true rfl) dX7_init_39 (fun H9 hN o1 hz1 hS => ?_)
  have g0 := zkp g0 zRg_1 (fun q h1 _ _ => o1 q (Nat.lt_of_lt_of_eq h1 hsz))
  have g1 := zkp g1 zRg_1 (fun q h1 _ _ => o1 q (Nat.lt_of_lt_of_eq h1 hsz))
  have g2 := zkp g2 zRg_1 (fun q h1 _ _ => o1 q (Nat.lt_of_lt_of_eq h1 hsz))
  have g3 := zkp g3 zRg_1 (fun q h1 _ _ => o1 q (Nat.lt_of_lt_of_eq h1 hsz))
  have g4 := zkp g4 zRg_1 (fun q h1 _ _ => o1 q (Nat.lt_of_lt_of_eq h1 hsz))
  have g5 : va_P E.1 zcl [((a + 5), .inl (E.2 1, 9, .inl (fun _ => 0)))] H9 := hN
  have hsz : H9.size = a + 6 := hz1
  refine W.cs (cells' := 5) (slots' := 189) rfl rfl ?_
  refine zPut (C := RX7) (T := TX7) (N := 8) (ci := 7) (v := .ref (a + 5)) (ty := .array .int) zc hK g0 (zD1 (Nat.le_refl a)) hS uw7 tyX7 tyX7_ok nmX7 0 rfl rfl 4 (by decide) kf_7_24 (fun _ h9 => h9) (Or.inr ⟨rfl, hin, rfl⟩) (by decide +kernel) rfl rfl (Nat.le_of_ble_eq_true rfl) dX7_init_41 (fun H10 locs hN oq hz1 hS => ?_)
  have g1 := zkp g1 zRg_1 (fun q _ h2 h3 => oq q (znA (a := a) (i := 1) (p := 0) h2 (Nat.le_of_ble_eq_true rfl)))
  have g2 := zkp g2 zRg_1 (fun q _ h2 h3 => oq q (znA (a := a) (i := 2) (p := 0) h2 (Nat.le_of_ble_eq_true rfl)))
  have g3 := zkp g3 zRg_1 (fun q _ h2 h3 => oq q (znA (a := a) (i := 3) (p := 0) h2 (Nat.le_of_ble_eq_true rfl)))
  have g4 := zkp g4 zRg_1 (fun q _ h2 h3 => oq q (znA (a := a) (i := 4) (p := 0) h2 (Nat.le_of_ble_eq_true rfl)))
  have g5 := zkp g5 zRg_1 (fun q _ h2 h3 => oq q (znA (a := a) (i := 5) (p := 0) h2 (Nat.le_of_ble_eq_true rfl)))
  have g0 : va_P E.1 zcl [(a, .inr (7, [.ref (a + 1), .ref (a + 2), .ref (a + 3), .ref (a + 4), .ref (a + 5), .null, .null, .null]))] H10 := hN
  have hsz := hz1.trans hsz
  refine lv_aload_n hx hb dX7_init_44 rfl (lv_at hl 0 rfl) ?_
  refine lv_bipush (v := (9 : Int32)) hx hb dX7_init_45 (by decide) ?_
  refine zNewa (ws := []) (atype := .int) (t := 1) (N := 9) (a0 := (9, .inl (fun _ => 0))) zc hK (fun k q h => by simp at h) hS hsz kac_I rfl (fun _ => rfl) (by decide) (by decide) (by decide) (Nat.le_of_ble_eq_true rfl) (Nat.le_of_ble_eq_true rfl) dX7_init_47 (fun H11 hN o1 hz1 hS => ?_)
  have g0 := zkp g0 zRg_1 (fun q h1 _ _ => o1 q (Nat.lt_of_lt_of_eq h1 hsz))
  have g1 := zkp g1 zRg_1 (fun q h1 _ _ => o1 q (Nat.lt_of_lt_of_eq h1 hsz))
  have g2 := zkp g2 zRg_1 (fun q h1 _ _ => o1 q (Nat.lt_of_lt_of_eq h1 hsz))
  have g3 := zkp g3 zRg_1 (fun q h1 _ _ => o1 q (Nat.lt_of_lt_of_eq h1 hsz))
  have g4 := zkp g4 zRg_1 (fun q h1 _ _ => o1 q (Nat.lt_of_lt_of_eq h1 hsz))
  have g5 := zkp g5 zRg_1 (fun q h1 _ _ => o1 q (Nat.lt_of_lt_of_eq h1 hsz))
  have g6 : va_P E.1 zcl [((a + 6), .inl (E.2 1, 9, .inl (fun _ => 0)))] H11 := hN
  have hsz : H11.size = a + 7 := hz1
  refine W.cs (cells' := 6) (slots' := 198) rfl rfl ?_
  refine zPut (C := RX7) (T := TX7) (N := 8) (ci := 7) (v := .ref (a + 6)) (ty := .array .int) zc hK g0 (zD1 (Nat.le_refl a)) hS uw7 tyX7 tyX7_ok nmX7 0 rfl rfl 5 (by decide) kf_7_27 (fun _ h9 => h9) (Or.inr ⟨rfl, hin, rfl⟩) (by decide +kernel) rfl rfl (Nat.le_of_ble_eq_true rfl) dX7_init_49 (fun H12 locs hN oq hz1 hS => ?_)
  have g1 := zkp g1 zRg_1 (fun q _ h2 h3 => oq q (znA (a := a) (i := 1) (p := 0) h2 (Nat.le_of_ble_eq_true rfl)))
  have g2 := zkp g2 zRg_1 (fun q _ h2 h3 => oq q (znA (a := a) (i := 2) (p := 0) h2 (Nat.le_of_ble_eq_true rfl)))
  have g3 := zkp g3 zRg_1 (fun q _ h2 h3 => oq q (znA (a := a) (i := 3) (p := 0) h2 (Nat.le_of_ble_eq_true rfl)))
  have g4 := zkp g4 zRg_1 (fun q _ h2 h3 => oq q (znA (a := a) (i := 4) (p := 0) h2 (Nat.le_of_ble_eq_true rfl)))
  have g5 := zkp g5 zRg_1 (fun q _ h2 h3 => oq q (znA (a := a) (i := 5) (p := 0) h2 (Nat.le_of_ble_eq_true rfl)))
  have g6 := zkp g6 zRg_1 (fun q _ h2 h3 => oq q (znA (a := a) (i := 6) (p := 0) h2 (Nat.le_of_ble_eq_true rfl)))
  have g0 : va_P E.1 zcl [(a, .inr (7, [.ref (a + 1), .ref (a + 2), .ref (a + 3), .ref (a + 4), .ref (a + 5), .ref (a + 6), .null, .null]))] H12 := hN
  have hsz := hz1.trans hsz
  refine lv_aload_n hx hb dX7_init_52 rfl (lv_at hl 0 rfl) ?_
  refine lv_bipush (v := (9 : Int32)) hx hb dX7_init_53 (by decide) ?_
  refine zNewa (ws := []) (atype := .int) (t := 1) (N := 9) (a0 := (9, .inl (fun _ => 0))) zc hK (fun k q h => by simp at h) hS hsz kac_I rfl (fun _ => rfl) (by decide) (by decide) (by decide) (Nat.le_of_ble_eq_true rfl) (Nat.le_of_ble_eq_true rfl) dX7_init_55 (fun H13 hN o1 hz1 hS => ?_)
  have g0 := zkp g0 zRg_1 (fun q h1 _ _ => o1 q (Nat.lt_of_lt_of_eq h1 hsz))
  have g1 := zkp g1 zRg_1 (fun q h1 _ _ => o1 q (Nat.lt_of_lt_of_eq h1 hsz))
  have g2 := zkp g2 zRg_1 (fun q h1 _ _ => o1 q (Nat.lt_of_lt_of_eq h1 hsz))
  have g3 := zkp g3 zRg_1 (fun q h1 _ _ => o1 q (Nat.lt_of_lt_of_eq h1 hsz))
  have g4 := zkp g4 zRg_1 (fun q h1 _ _ => o1 q (Nat.lt_of_lt_of_eq h1 hsz))
  have g5 := zkp g5 zRg_1 (fun q h1 _ _ => o1 q (Nat.lt_of_lt_of_eq h1 hsz))
  have g6 := zkp g6 zRg_1 (fun q h1 _ _ => o1 q (Nat.lt_of_lt_of_eq h1 hsz))
  have g7 : va_P E.1 zcl [((a + 7), .inl (E.2 1, 9, .inl (fun _ => 0)))] H13 := hN
  have hsz : H13.size = a + 8 := hz1
  refine W.cs (cells' := 7) (slots' := 207) rfl rfl ?_
  refine zPut (C := RX7) (T := TX7) (N := 8) (ci := 7) (v := .ref (a + 7)) (ty := .array .int) zc hK g0 (zD1 (Nat.le_refl a)) hS uw7 tyX7 tyX7_ok nmX7 0 rfl rfl 6 (by decide) kf_7_30 (fun _ h9 => h9) (Or.inr ⟨rfl, hin, rfl⟩) (by decide +kernel) rfl rfl (Nat.le_of_ble_eq_true rfl) dX7_init_57 (fun H14 locs hN oq hz1 hS => ?_)
  have g1 := zkp g1 zRg_1 (fun q _ h2 h3 => oq q (znA (a := a) (i := 1) (p := 0) h2 (Nat.le_of_ble_eq_true rfl)))
  have g2 := zkp g2 zRg_1 (fun q _ h2 h3 => oq q (znA (a := a) (i := 2) (p := 0) h2 (Nat.le_of_ble_eq_true rfl)))
  have g3 := zkp g3 zRg_1 (fun q _ h2 h3 => oq q (znA (a := a) (i := 3) (p := 0) h2 (Nat.le_of_ble_eq_true rfl)))
  have g4 := zkp g4 zRg_1 (fun q _ h2 h3 => oq q (znA (a := a) (i := 4) (p := 0) h2 (Nat.le_of_ble_eq_true rfl)))
  have g5 := zkp g5 zRg_1 (fun q _ h2 h3 => oq q (znA (a := a) (i := 5) (p := 0) h2 (Nat.le_of_ble_eq_true rfl)))
  have g6 := zkp g6 zRg_1 (fun q _ h2 h3 => oq q (znA (a := a) (i := 6) (p := 0) h2 (Nat.le_of_ble_eq_true rfl)))
  have g7 := zkp g7 zRg_1 (fun q _ h2 h3 => oq q (znA (a := a) (i := 7) (p := 0) h2 (Nat.le_of_ble_eq_true rfl)))
  have g0 : va_P E.1 zcl [(a, .inr (7, [.ref (a + 1), .ref (a + 2), .ref (a + 3), .ref (a + 4), .ref (a + 5), .ref (a + 6), .ref (a + 7), .null]))] H14 := hN
  have hsz := hz1.trans hsz
  refine lv_aload_n hx hb dX7_init_60 rfl (lv_at hl 0 rfl) ?_
  refine lv_bipush (v := (9 : Int32)) hx hb dX7_init_61 (by decide) ?_
  refine zNewa (ws := []) (atype := .int) (t := 1) (N := 9) (a0 := (9, .inl (fun _ => 0))) zc hK (fun k q h => by simp at h) hS hsz kac_I rfl (fun _ => rfl) (by decide) (by decide) (by decide) (Nat.le_of_ble_eq_true rfl) (Nat.le_of_ble_eq_true rfl) dX7_init_63 (fun H15 hN o1 hz1 hS => ?_)
  have g0 := zkp g0 zRg_1 (fun q h1 _ _ => o1 q (Nat.lt_of_lt_of_eq h1 hsz))
  have g1 := zkp g1 zRg_1 (fun q h1 _ _ => o1 q (Nat.lt_of_lt_of_eq h1 hsz))
  have g2 := zkp g2 zRg_1 (fun q h1 _ _ => o1 q (Nat.lt_of_lt_of_eq h1 hsz))
  have g3 := zkp g3 zRg_1 (fun q h1 _ _ => o1 q (Nat.lt_of_lt_of_eq h1 hsz))
  have g4 := zkp g4 zRg_1 (fun q h1 _ _ => o1 q (Nat.lt_of_lt_of_eq h1 hsz))
  have g5 := zkp g5 zRg_1 (fun q h1 _ _ => o1 q (Nat.lt_of_lt_of_eq h1 hsz))
  have g6 := zkp g6 zRg_1 (fun q h1 _ _ => o1 q (Nat.lt_of_lt_of_eq h1 hsz))
  have g7 := zkp g7 zRg_1 (fun q h1 _ _ => o1 q (Nat.lt_of_lt_of_eq h1 hsz))
  have g8 : va_P E.1 zcl [((a + 8), .inl (E.2 1, 9, .inl (fun _ => 0)))] H15 := hN
  have hsz : H15.size = a + 9 := hz1
  refine W.cs (cells' := 8) (slots' := 216) rfl rfl ?_
  refine zPut (C := RX7) (T := TX7) (N := 8) (ci := 7) (v := .ref (a + 8)) (ty := .array .int) zc hK g0 (zD1 (Nat.le_refl a)) hS uw7 tyX7 tyX7_ok nmX7 0 rfl rfl 7 (by decide) kf_7_33 (fun _ h9 => h9) (Or.inr ⟨rfl, hin, rfl⟩) (by decide +kernel) rfl rfl (Nat.le_of_ble_eq_true rfl) dX7_init_65 (fun H16 locs hN oq hz1 hS => ?_)
  have g1 := zkp g1 zRg_1 (fun q _ h2 h3 => oq q (znA (a := a) (i := 1) (p := 0) h2 (Nat.le_of_ble_eq_true rfl)))
  have g2 := zkp g2 zRg_1 (fun q _ h2 h3 => oq q (znA (a := a) (i := 2) (p := 0) h2 (Nat.le_of_ble_eq_true rfl)))
  have g3 := zkp g3 zRg_1 (fun q _ h2 h3 => oq q (znA (a := a) (i := 3) (p := 0) h2 (Nat.le_of_ble_eq_true rfl)))
  have g4 := zkp g4 zRg_1 (fun q _ h2 h3 => oq q (znA (a := a) (i := 4) (p := 0) h2 (Nat.le_of_ble_eq_true rfl)))
  have g5 := zkp g5 zRg_1 (fun q _ h2 h3 => oq q (znA (a := a) (i := 5) (p := 0) h2 (Nat.le_of_ble_eq_true rfl)))
  have g6 := zkp g6 zRg_1 (fun q _ h2 h3 => oq q (znA (a := a) (i := 6) (p := 0) h2 (Nat.le_of_ble_eq_true rfl)))
  have g7 := zkp g7 zRg_1 (fun q _ h2 h3 => oq q (znA (a := a) (i := 7) (p := 0) h2 (Nat.le_of_ble_eq_true rfl)))
  have g8 := zkp g8 zRg_1 (fun q _ h2 h3 => oq q (znA (a := a) (i := 8) (p := 0) h2 (Nat.le_of_ble_eq_true rfl)))
  have g0 : va_P E.1 zcl [(a, .inr (7, [.ref (a + 1), .ref (a + 2), .ref (a + 3), .ref (a + 4), .ref (a + 5), .ref (a + 6), .ref (a + 7), .ref (a + 8)]))] H16 := hN
  have hsz := hz1.trans hsz
  exact zIret (post := fun _ => True) (B := zJ E a 9 ([(a, .inr (7, [.ref (a + 1), .ref (a + 2), .ref (a + 3), .ref (a + 4), .ref (a + 5), .ref (a + 6), .ref (a + 7), .ref (a + 8)]))] ++ ([((a + 1), .inl (E.2 1, 81, .inl (fun _ => 0)))] ++ ([((a + 2), .inl (E.2 1, 81, .inl (fun _ => 0)))] ++ ([((a + 3), .inl (E.2 1, 9, .inl (fun _ => 0)))] ++ ([((a + 4), .inl (E.2 1, 9, .inl (fun _ => 0)))] ++ ([((a + 5), .inl (E.2 1, 9, .inl (fun _ => 0)))] ++ ([((a + 6), .inl (E.2 1, 9, .inl (fun _ => 0)))] ++ ([((a + 7), .inl (E.2 1, 9, .inl (fun _ => 0)))] ++ ([((a + 8), .inl (E.2 1, 9, .inl (fun _ => 0)))])))))))))) () zc hS trivial ⟨(va_P.app g0 (va_P.app g1 (va_P.app g2 (va_P.app g3 (va_P.app g4 (va_P.app g5 (va_P.app g6 (va_P.app g7 g8)))))))), hsz⟩ dX7_init_68
end
section
abbrev rmi_X5_init : Room := { frames := 1, cells := 2, slots := 90, locals := 20 }
abbrev zb_X5_init (E : zE) (a : Nat) : va_W := ([(a, .inr (5, [.null, .ref (a + 1), .ref (a + 2)]))] ++ ([((a + 1), .inl (E.2 1, 81, .inl (fun _ => 0)))] ++ ([((a + 2), .inl (E.2 1, 9, .inl (fun _ => 0)))])))
theorem zrg_X5_init {E : zE} {a : Nat} : zRg (zb_X5_init E a) a (a + 3) := by
  exact ((zRg_1).mono (by omega) (by omega)).app (((zRg_1).mono (by omega) (by omega)).app ((zRg_1).mono (by omega) (by omega)))
set_option maxRecDepth 40000 in
set_option maxHeartbeats 4000000 in
theorem ci_X5_init (l : Launch) {E : zE} {a : Nat} : Met l yX5_init (Cond.code yX5_init cX5_init 1 none :: zb) rmi_X5_init (va_Pc [.ref a] (zI E a 5 [.null, .null, .null])) (zQv (S := Unit) (fun _ => True) (zJ E a 3 (zb_X5_init E a)) (fun q => a ≤ q)) 2 90 (fun q => a ≤ q) := by
  refine Met.ofW (cc := cX5_init) (maxL := 1) (ret := none) (by decide) rfl ?_
  intro p e s m args below meth c s₁ B hml hv
  obtain ⟨rfl, hsz, g0, hK, hO⟩ := hv
  have zc := zc_of B hml
  have hx := zc.1
  have hb := zc.2.1
  have hz := zc.2.2.2.2.1
  have hin : meth.name = "<init>" := (name_of_methodNamed B.named B.method).1
  have hS : va_S (fun q => a ≤ q) s.heap s.heap [] := va_S.rf
  have hl := lv_entry ([.ref a]) (n := 1) (Nat.le_of_ble_eq_true rfl)
  rw [lg_entry_eq]
  generalize (lg_sl ([.ref a]) ++ List.replicate (1 - (lg_sl ([.ref a])).length) Slot.unset).toArray = ls at hl ⊢
  have hl : lv_has ls 1 [(0, .ref a)] := hl
  refine lv_aload_n hx hb dX5_init_0 rfl (lv_at hl 0 rfl) ?_
  refine W.objInit hx hb zc.2.2.2.1 (hz _ km_5_3) (hz _ k_oi) (hz _ k_oc) rfl (by rw [zc.2.2.1]; exact hl.1) rfl dX5_init_1 (Nat.le_of_ble_eq_true rfl) (Nat.le_of_ble_eq_true rfl) ?_
  refine W.eq (g2 := F0 m 4 ls []) rfl ?_
  refine lv_aload_n hx hb dX5_init_4 rfl (lv_at hl 0 rfl) ?_
  refine lv_bipush (v := (81 : Int32)) hx hb dX5_init_5 (by decide) ?_
  refine zNewa (ws := []) (atype := .int) (t := 1) (N := 81) (a0 := (81, .inl (fun _ => 0))) zc hK (fun k q h => by simp at h) hS hsz kac_I rfl (fun _ => rfl) (by decide) (by decide) (by decide) (Nat.le_of_ble_eq_true rfl) (Nat.le_of_ble_eq_true rfl) dX5_init_7 (fun H1 hN o1 hz1 hS => ?_)
  have g0 := zkp g0 zRg_1 (fun q h1 _ _ => o1 q (Nat.lt_of_lt_of_eq h1 hsz))
  have g1 : va_P E.1 zcl [((a + 1), .inl (E.2 1, 81, .inl (fun _ => 0)))] H1 := hN
  have hsz : H1.size = a + 2 := hz1
  refine W.cs (cells' := 1) (slots' := 81) rfl rfl ?_
  refine zPut (C := RX5) (T := TX5) (N := 3) (ci := 5) (v := .ref (a + 1)) (ty := .array .int) zc hK g0 (zD1 (Nat.le_refl a)) hS uw5 tyX5 tyX5_ok nmX5 0 rfl rfl 1 (by decide) kf_5_9 (fun _ h9 => h9) (Or.inr ⟨rfl, hin, rfl⟩) (by decide +kernel) rfl rfl (Nat.le_of_ble_eq_true rfl) dX5_init_9 (fun H2 locs hN oq hz1 hS => ?_)
  have g1 := zkp g1 zRg_1 (fun q _ h2 h3 => oq q (znA (a := a) (i := 1) (p := 0) h2 (Nat.le_of_ble_eq_true rfl)))
  have g0 : va_P E.1 zcl [(a, .inr (5, [.null, .ref (a + 1), .null]))] H2 := hN
  have hsz := hz1.trans hsz
  refine lv_aload_n hx hb dX5_init_12 rfl (lv_at hl 0 rfl) ?_
  refine lv_bipush (v := (9 : Int32)) hx hb dX5_init_13 (by decide) ?_
  refine zNewa (ws := []) (atype := .int) (t := 1) (N := 9) (a0 := (9, .inl (fun _ => 0))) zc hK (fun k q h => by simp at h) hS hsz kac_I rfl (fun _ => rfl) (by decide) (by decide) (by decide) (Nat.le_of_ble_eq_true rfl) (Nat.le_of_ble_eq_true rfl) dX5_init_15 (fun H3 hN o1 hz1 hS => ?_)
  have g0 := zkp g0 zRg_1 (fun q h1 _ _ => o1 q (Nat.lt_of_lt_of_eq h1 hsz))
  have g1 := zkp g1 zRg_1 (fun q h1 _ _ => o1 q (Nat.lt_of_lt_of_eq h1 hsz))
  have g2 : va_P E.1 zcl [((a + 2), .inl (E.2 1, 9, .inl (fun _ => 0)))] H3 := hN
  have hsz : H3.size = a + 3 := hz1
  refine W.cs (cells' := 2) (slots' := 90) rfl rfl ?_
  refine zPut (C := RX5) (T := TX5) (N := 3) (ci := 5) (v := .ref (a + 2)) (ty := .array .int) zc hK g0 (zD1 (Nat.le_refl a)) hS uw5 tyX5 tyX5_ok nmX5 0 rfl rfl 2 (by decide) kf_5_15 (fun _ h9 => h9) (Or.inr ⟨rfl, hin, rfl⟩) (by decide +kernel) rfl rfl (Nat.le_of_ble_eq_true rfl) dX5_init_17 (fun H4 locs hN oq hz1 hS => ?_)
  have g1 := zkp g1 zRg_1 (fun q _ h2 h3 => oq q (znA (a := a) (i := 1) (p := 0) h2 (Nat.le_of_ble_eq_true rfl)))
  have g2 := zkp g2 zRg_1 (fun q _ h2 h3 => oq q (znA (a := a) (i := 2) (p := 0) h2 (Nat.le_of_ble_eq_true rfl)))
  have g0 : va_P E.1 zcl [(a, .inr (5, [.null, .ref (a + 1), .ref (a + 2)]))] H4 := hN
  have hsz := hz1.trans hsz
  exact zIret (post := fun _ => True) (B := zJ E a 3 ([(a, .inr (5, [.null, .ref (a + 1), .ref (a + 2)]))] ++ ([((a + 1), .inl (E.2 1, 81, .inl (fun _ => 0)))] ++ ([((a + 2), .inl (E.2 1, 9, .inl (fun _ => 0)))])))) () zc hS trivial ⟨(va_P.app g0 (va_P.app g1 g2)), hsz⟩ dX5_init_20
end
section
abbrev rmi_X8_init : Room := { frames := 1, cells := 2, slots := 122, locals := 20 }
abbrev zb_X8_init (E : zE) (a : Nat) : va_W := ([(a, .inr (8, [.ref (a + 1), .ref (a + 2)]))] ++ ([((a + 1), .inl (E.2 1, 61, .inl (fun _ => 0)))] ++ ([((a + 2), .inl (E.2 1, 61, .inl (fun _ => 0)))])))
theorem zrg_X8_init {E : zE} {a : Nat} : zRg (zb_X8_init E a) a (a + 3) := by
  exact ((zRg_1).mono (by omega) (by omega)).app (((zRg_1).mono (by omega) (by omega)).app ((zRg_1).mono (by omega) (by omega)))
set_option maxRecDepth 40000 in
set_option maxHeartbeats 4000000 in
theorem ci_X8_init (l : Launch) {E : zE} {a : Nat} : Met l yX8_init (Cond.code yX8_init cX8_init 1 none :: zb) rmi_X8_init (va_Pc [.ref a] (zI E a 8 [.null, .null])) (zQv (S := Unit) (fun _ => True) (zJ E a 3 (zb_X8_init E a)) (fun q => a ≤ q)) 2 122 (fun q => a ≤ q) := by
  refine Met.ofW (cc := cX8_init) (maxL := 1) (ret := none) (by decide) rfl ?_
  intro p e s m args below meth c s₁ B hml hv
  obtain ⟨rfl, hsz, g0, hK, hO⟩ := hv
  have zc := zc_of B hml
  have hx := zc.1
  have hb := zc.2.1
  have hz := zc.2.2.2.2.1
  have hin : meth.name = "<init>" := (name_of_methodNamed B.named B.method).1
  have hS : va_S (fun q => a ≤ q) s.heap s.heap [] := va_S.rf
  have hl := lv_entry ([.ref a]) (n := 1) (Nat.le_of_ble_eq_true rfl)
  rw [lg_entry_eq]
  generalize (lg_sl ([.ref a]) ++ List.replicate (1 - (lg_sl ([.ref a])).length) Slot.unset).toArray = ls at hl ⊢
  have hl : lv_has ls 1 [(0, .ref a)] := hl
  refine lv_aload_n hx hb dX8_init_0 rfl (lv_at hl 0 rfl) ?_
  refine W.objInit hx hb zc.2.2.2.1 (hz _ km_8_3) (hz _ k_oi) (hz _ k_oc) rfl (by rw [zc.2.2.1]; exact hl.1) rfl dX8_init_1 (Nat.le_of_ble_eq_true rfl) (Nat.le_of_ble_eq_true rfl) ?_
  refine W.eq (g2 := F0 m 4 ls []) rfl ?_
  refine lv_aload_n hx hb dX8_init_4 rfl (lv_at hl 0 rfl) ?_
  refine lv_bipush (v := (61 : Int32)) hx hb dX8_init_5 (by decide) ?_
  refine zNewa (ws := []) (atype := .int) (t := 1) (N := 61) (a0 := (61, .inl (fun _ => 0))) zc hK (fun k q h => by simp at h) hS hsz kac_I rfl (fun _ => rfl) (by decide) (by decide) (by decide) (Nat.le_of_ble_eq_true rfl) (Nat.le_of_ble_eq_true rfl) dX8_init_7 (fun H1 hN o1 hz1 hS => ?_)
  have g0 := zkp g0 zRg_1 (fun q h1 _ _ => o1 q (Nat.lt_of_lt_of_eq h1 hsz))
  have g1 : va_P E.1 zcl [((a + 1), .inl (E.2 1, 61, .inl (fun _ => 0)))] H1 := hN
  have hsz : H1.size = a + 2 := hz1
  refine W.cs (cells' := 1) (slots' := 61) rfl rfl ?_
  refine zPut (C := RX8) (T := TX8) (N := 2) (ci := 8) (v := .ref (a + 1)) (ty := .array .int) zc hK g0 (zD1 (Nat.le_refl a)) hS uw8 tyX8 tyX8_ok nmX8 0 rfl rfl 0 (by decide) kf_8_9 (fun _ h9 => h9) (Or.inr ⟨rfl, hin, rfl⟩) (by decide +kernel) rfl rfl (Nat.le_of_ble_eq_true rfl) dX8_init_9 (fun H2 locs hN oq hz1 hS => ?_)
  have g1 := zkp g1 zRg_1 (fun q _ h2 h3 => oq q (znA (a := a) (i := 1) (p := 0) h2 (Nat.le_of_ble_eq_true rfl)))
  have g0 : va_P E.1 zcl [(a, .inr (8, [.ref (a + 1), .null]))] H2 := hN
  have hsz := hz1.trans hsz
  refine lv_aload_n hx hb dX8_init_12 rfl (lv_at hl 0 rfl) ?_
  refine lv_bipush (v := (61 : Int32)) hx hb dX8_init_13 (by decide) ?_
  refine zNewa (ws := []) (atype := .int) (t := 1) (N := 61) (a0 := (61, .inl (fun _ => 0))) zc hK (fun k q h => by simp at h) hS hsz kac_I rfl (fun _ => rfl) (by decide) (by decide) (by decide) (Nat.le_of_ble_eq_true rfl) (Nat.le_of_ble_eq_true rfl) dX8_init_15 (fun H3 hN o1 hz1 hS => ?_)
  have g0 := zkp g0 zRg_1 (fun q h1 _ _ => o1 q (Nat.lt_of_lt_of_eq h1 hsz))
  have g1 := zkp g1 zRg_1 (fun q h1 _ _ => o1 q (Nat.lt_of_lt_of_eq h1 hsz))
  have g2 : va_P E.1 zcl [((a + 2), .inl (E.2 1, 61, .inl (fun _ => 0)))] H3 := hN
  have hsz : H3.size = a + 3 := hz1
  refine W.cs (cells' := 2) (slots' := 122) rfl rfl ?_
  refine zPut (C := RX8) (T := TX8) (N := 2) (ci := 8) (v := .ref (a + 2)) (ty := .array .int) zc hK g0 (zD1 (Nat.le_refl a)) hS uw8 tyX8 tyX8_ok nmX8 0 rfl rfl 1 (by decide) kf_8_15 (fun _ h9 => h9) (Or.inr ⟨rfl, hin, rfl⟩) (by decide +kernel) rfl rfl (Nat.le_of_ble_eq_true rfl) dX8_init_17 (fun H4 locs hN oq hz1 hS => ?_)
  have g1 := zkp g1 zRg_1 (fun q _ h2 h3 => oq q (znA (a := a) (i := 1) (p := 0) h2 (Nat.le_of_ble_eq_true rfl)))
  have g2 := zkp g2 zRg_1 (fun q _ h2 h3 => oq q (znA (a := a) (i := 2) (p := 0) h2 (Nat.le_of_ble_eq_true rfl)))
  have g0 : va_P E.1 zcl [(a, .inr (8, [.ref (a + 1), .ref (a + 2)]))] H4 := hN
  have hsz := hz1.trans hsz
  exact zIret (post := fun _ => True) (B := zJ E a 3 ([(a, .inr (8, [.ref (a + 1), .ref (a + 2)]))] ++ ([((a + 1), .inl (E.2 1, 61, .inl (fun _ => 0)))] ++ ([((a + 2), .inl (E.2 1, 61, .inl (fun _ => 0)))])))) () zc hS trivial ⟨(va_P.app g0 (va_P.app g1 g2)), hsz⟩ dX8_init_20
end
section
abbrev rmi_X10_init : Room := { frames := 3, cells := 92, slots := 2688, locals := 60 }
abbrev zb_X10_init (E : zE) (a : Nat) : va_W := ([(a, .inr (10, [.ref (a + 1), .ref (a + 48), .ref (a + 49), .ref (a + 72), .ref (a + 78), .ref (a + 87), .ref (a + 90)]))] ++ (zb_X9_init E (a + 1) ++ ([((a + 48), .inl (E.2 8, 3, .inr (.inr (.inr (.inr (fun _ => none))))))] ++ (zb_X4_init E (a + 49) ++ (zb_X3_init E (a + 72) ++ (zb_X7_init E (a + 78) ++ (zb_X5_init E (a + 87) ++ (zb_X8_init E (a + 90)))))))))
theorem zrg_X10_init {E : zE} {a : Nat} : zRg (zb_X10_init E a) a (a + 93) := by
  exact ((zRg_1).mono (by omega) (by omega)).app (((zrg_X9_init).mono (by omega) (by omega)).app (((zRg_1).mono (by omega) (by omega)).app (((zrg_X4_init).mono (by omega) (by omega)).app (((zrg_X3_init).mono (by omega) (by omega)).app (((zrg_X7_init).mono (by omega) (by omega)).app (((zrg_X5_init).mono (by omega) (by omega)).app ((zrg_X8_init).mono (by omega) (by omega))))))))
set_option maxRecDepth 40000 in
set_option maxHeartbeats 4000000 in
theorem ci_X10_init (l : Launch) {E : zE} {a : Nat} : Met l yX10_init (Cond.code yX10_init cX10_init 1 none :: zb) rmi_X10_init (va_Pc [.ref a] (zI E a 10 [.null, .null, .null, .null, .null, .null, .null])) (zQv (S := Unit) (fun _ => True) (zJ E a 93 (zb_X10_init E a)) (fun q => a ≤ q)) 92 2688 (fun q => a ≤ q) := by
  refine Met.ofW (cc := cX10_init) (maxL := 1) (ret := none) (by decide) rfl ?_
  intro p e s m args below meth c s₁ B hml hv
  obtain ⟨rfl, hsz, g0, hK, hO⟩ := hv
  have zc := zc_of B hml
  have hx := zc.1
  have hb := zc.2.1
  have hz := zc.2.2.2.2.1
  have hin : meth.name = "<init>" := (name_of_methodNamed B.named B.method).1
  have hS : va_S (fun q => a ≤ q) s.heap s.heap [] := va_S.rf
  have hl := lv_entry ([.ref a]) (n := 1) (Nat.le_of_ble_eq_true rfl)
  rw [lg_entry_eq]
  generalize (lg_sl ([.ref a]) ++ List.replicate (1 - (lg_sl ([.ref a])).length) Slot.unset).toArray = ls at hl ⊢
  have hl : lv_has ls 1 [(0, .ref a)] := hl
  refine lv_aload_n hx hb dX10_init_0 rfl (lv_at hl 0 rfl) ?_
  refine W.objInit hx hb zc.2.2.2.1 (hz _ km_10_1) (hz _ k_oi) (hz _ k_oc) rfl (by rw [zc.2.2.1]; exact hl.1) rfl dX10_init_1 (Nat.le_of_ble_eq_true rfl) (Nat.le_of_ble_eq_true rfl) ?_
  refine W.eq (g2 := F0 m 4 ls []) rfl ?_
  refine lv_aload_n hx hb dX10_init_4 rfl (lv_at hl 0 rfl) ?_
  refine zNew (ws := []) (C := RX9) (T := TX9) (N := 9) (ci := 9) zc hK (fun k q h => by simp at h) hS hsz uw9 tyX9 tyX9_ok kcl_10_7 kins_9 kinit_9 rfl [.null, .int 0, .int 0, .int 0, .null, .null, .null, .null, .null] (fun j hj => match j, hj with | 0, _ => rfl | 1, _ => rfl | 2, _ => rfl | 3, _ => rfl | 4, _ => rfl | 5, _ => rfl | 6, _ => rfl | 7, _ => rfl | 8, _ => rfl | j + 9, hj => absurd hj (by omega)) (Nat.le_of_ble_eq_true rfl) (Nat.le_of_ble_eq_true rfl) dX10_init_5 (fun H1 hN o1 hz1 hS => ?_)
  have g0 := zkp g0 zRg_1 (fun q h1 _ _ => o1 q (Nat.lt_of_lt_of_eq h1 hsz))
  have g1 : va_P E.1 zcl [((a + 1), .inr (9, [.null, .int 0, .int 0, .int 0, .null, .null, .null, .null, .null]))] H1 := hN
  have hsz : H1.size = a + 2 := hz1
  refine W.cs (cells' := 1) (slots' := 9) rfl rfl ?_
  refine lv_dup hx hb dX10_init_8 rfl ?_
  refine zIc zc ky_X9_init kz_X9_init rfl km_10_9 (ci_X9_init l) (zIpre hK hO g1 hsz) hS (fun q (h : (a + 1) ≤ q) => Nat.le_trans (Nat.le_add_right a 1) h) hl.1 (Nat.le_of_ble_eq_true rfl) ⟨rfl, rfl⟩ ⟨Nat.le_of_ble_eq_true rfl, Nat.le_of_ble_eq_true rfl⟩ ⟨Nat.le_of_ble_eq_true rfl, Nat.le_of_ble_eq_true rfl⟩ dX10_init_9 (fun _ H2 locs _ hJ hk hS => ?_)
  have g0 := zkp g0 zRg_1 (fun q h1 _ h3 => hk q h1 (zge_n (a := a) (i := 1) (j := 1) h3 (Nat.le_of_ble_eq_true rfl)))
  have g1 := hJ.1
  have hsz : H2.size = a + 48 := hJ.2
  refine W.cs (cells' := 47) (slots' := 1261) rfl rfl ?_
  refine zPut (C := RX10) (T := TX10) (N := 7) (ci := 10) (v := .ref (a + 1)) (ty := .object "DownhillSong$Told") zc hK g0 (zD1 (Nat.le_refl a)) hS uw10 tyX10 tyX10_ok nmX10 0 rfl rfl 0 (by decide) kf_10_10 (fun _ h9 => h9) (Or.inr ⟨rfl, hin, rfl⟩) (by decide +kernel) rfl rfl (Nat.le_of_ble_eq_true rfl) dX10_init_12 (fun H3 locs hN oq hz1 hS => ?_)
  have g1 := zkp g1 zrg_X9_init (fun q _ h2 h3 => oq q (znA (a := a) (i := 1) (p := 0) h2 (Nat.le_of_ble_eq_true rfl)))
  have g0 : va_P E.1 zcl [(a, .inr (10, [.ref (a + 1), .null, .null, .null, .null, .null, .null]))] H3 := hN
  have hsz := hz1.trans hsz
  refine lv_aload_n hx hb dX10_init_15 rfl (lv_at hl 0 rfl) ?_
  refine lv_iconst (v := (3 : Int32)) hx hb dX10_init_16 (by decide) ?_
  refine zNewq (ws := []) (t := 8) (N := 3) zc hK (hO RX9 (by simp [zover])) (fun k q h => by simp at h) hS hsz kcl_10_7 rfl (by decide) (by decide) (by decide) (Nat.le_of_ble_eq_true rfl) (Nat.le_of_ble_eq_true rfl) dX10_init_17 (fun H4 hN o1 hz1 hS => ?_)
  have g0 := zkp g0 zRg_1 (fun q h1 _ _ => o1 q (Nat.lt_of_lt_of_eq h1 hsz))
  have g1 := zkp g1 zrg_X9_init (fun q h1 _ _ => o1 q (Nat.lt_of_lt_of_eq h1 hsz))
  have g48 : va_P E.1 zcl [((a + 48), .inl (E.2 8, 3, .inr (.inr (.inr (.inr (fun _ => none))))))] H4 := hN
  have hsz : H4.size = a + 49 := hz1
  refine W.cs (cells' := 48) (slots' := 1264) rfl rfl ?_
  refine zPut (C := RX10) (T := TX10) (N := 7) (ci := 10) (v := .ref (a + 48)) (ty := .array (.object "DownhillSong$Told")) zc hK g0 (zD1 (Nat.le_refl a)) hS uw10 tyX10 tyX10_ok nmX10 0 rfl rfl 1 (by decide) kf_10_16 (fun _ h9 => h9) (Or.inr ⟨rfl, hin, rfl⟩) (by decide +kernel) rfl rfl (Nat.le_of_ble_eq_true rfl) dX10_init_20 (fun H5 locs hN oq hz1 hS => ?_)
  have g1 := zkp g1 zrg_X9_init (fun q _ h2 h3 => oq q (znA (a := a) (i := 1) (p := 0) h2 (Nat.le_of_ble_eq_true rfl)))
  have g48 := zkp g48 zRg_1 (fun q _ h2 h3 => oq q (znA (a := a) (i := 48) (p := 0) h2 (Nat.le_of_ble_eq_true rfl)))
  have g0 : va_P E.1 zcl [(a, .inr (10, [.ref (a + 1), .ref (a + 48), .null, .null, .null, .null, .null]))] H5 := hN
  have hsz := hz1.trans hsz
  refine lv_aload_n hx hb dX10_init_23 rfl (lv_at hl 0 rfl) ?_
  refine zNew (ws := []) (C := RX4) (T := TX4) (N := 15) (ci := 4) zc hK (fun k q h => by simp at h) hS hsz uw4 tyX4 tyX4_ok kcl_10_20 kins_4 kinit_4 rfl [.null, .null, .null, .null, .int 0, .int 0, .null, .null, .int 0, .int 0, .int 0, .int 0, .int 0, .int 0, .int 0] (fun j hj => match j, hj with | 0, _ => rfl | 1, _ => rfl | 2, _ => rfl | 3, _ => rfl | 4, _ => rfl | 5, _ => rfl | 6, _ => rfl | 7, _ => rfl | 8, _ => rfl | 9, _ => rfl | 10, _ => rfl | 11, _ => rfl | 12, _ => rfl | 13, _ => rfl | 14, _ => rfl | j + 15, hj => absurd hj (by omega)) (Nat.le_of_ble_eq_true rfl) (Nat.le_of_ble_eq_true rfl) dX10_init_24 (fun H6 hN o1 hz1 hS => ?_)
  have g0 := zkp g0 zRg_1 (fun q h1 _ _ => o1 q (Nat.lt_of_lt_of_eq h1 hsz))
  have g1 := zkp g1 zrg_X9_init (fun q h1 _ _ => o1 q (Nat.lt_of_lt_of_eq h1 hsz))
  have g48 := zkp g48 zRg_1 (fun q h1 _ _ => o1 q (Nat.lt_of_lt_of_eq h1 hsz))
  have g49 : va_P E.1 zcl [((a + 49), .inr (4, [.null, .null, .null, .null, .int 0, .int 0, .null, .null, .int 0, .int 0, .int 0, .int 0, .int 0, .int 0, .int 0]))] H6 := hN
  have hsz : H6.size = a + 50 := hz1
  refine W.cs (cells' := 49) (slots' := 1279) rfl rfl ?_
  refine lv_dup hx hb dX10_init_27 rfl ?_
  refine zIc zc ky_X4_init kz_X4_init rfl km_10_22 (ci_X4_init l) (zIpre hK hO g49 hsz) hS (fun q (h : (a + 49) ≤ q) => Nat.le_trans (Nat.le_add_right a 49) h) hl.1 (Nat.le_of_ble_eq_true rfl) ⟨rfl, rfl⟩ ⟨Nat.le_of_ble_eq_true rfl, Nat.le_of_ble_eq_true rfl⟩ ⟨Nat.le_of_ble_eq_true rfl, Nat.le_of_ble_eq_true rfl⟩ dX10_init_28 (fun _ H7 locs _ hJ hk hS => ?_)
  have g0 := zkp g0 zRg_1 (fun q h1 _ h3 => hk q h1 (zge_n (a := a) (i := 1) (j := 49) h3 (Nat.le_of_ble_eq_true rfl)))
  have g1 := zkp g1 zrg_X9_init (fun q h1 _ h3 => hk q h1 (zge_n (a := a) (i := 48) (j := 49) h3 (Nat.le_of_ble_eq_true rfl)))
  have g48 := zkp g48 zRg_1 (fun q h1 _ h3 => hk q h1 (zge_n (a := a) (i := 49) (j := 49) h3 (Nat.le_of_ble_eq_true rfl)))
  have g49 := hJ.1
  have hsz : H7.size = a + 72 := hJ.2
  refine W.cs (cells' := 71) (slots' := 2202) rfl rfl ?_
  refine zPut (C := RX10) (T := TX10) (N := 7) (ci := 10) (v := .ref (a + 49)) (ty := .object "DownhillSong$Reader") zc hK g0 (zD1 (Nat.le_refl a)) hS uw10 tyX10 tyX10_ok nmX10 0 rfl rfl 2 (by decide) kf_10_23 (fun _ h9 => h9) (Or.inr ⟨rfl, hin, rfl⟩) (by decide +kernel) rfl rfl (Nat.le_of_ble_eq_true rfl) dX10_init_31 (fun H8 locs hN oq hz1 hS => ?_)
  have g1 := zkp g1 zrg_X9_init (fun q _ h2 h3 => oq q (znA (a := a) (i := 1) (p := 0) h2 (Nat.le_of_ble_eq_true rfl)))
  have g48 := zkp g48 zRg_1 (fun q _ h2 h3 => oq q (znA (a := a) (i := 48) (p := 0) h2 (Nat.le_of_ble_eq_true rfl)))
  have g49 := zkp g49 zrg_X4_init (fun q _ h2 h3 => oq q (znA (a := a) (i := 49) (p := 0) h2 (Nat.le_of_ble_eq_true rfl)))
  have g0 : va_P E.1 zcl [(a, .inr (10, [.ref (a + 1), .ref (a + 48), .ref (a + 49), .null, .null, .null, .null]))] H8 := hN
  have hsz := hz1.trans hsz
  refine lv_aload_n hx hb dX10_init_34 rfl (lv_at hl 0 rfl) ?_
  refine zNew (ws := []) (C := RX3) (T := TX3) (N := 10) (ci := 3) zc hK (fun k q h => by simp at h) hS hsz uw3 tyX3 tyX3_ok kcl_10_27 kins_3 kinit_3 rfl [.int 0, .int 0, .int 0, .int 0, .int 0, .null, .null, .null, .null, .null] (fun j hj => match j, hj with | 0, _ => rfl | 1, _ => rfl | 2, _ => rfl | 3, _ => rfl | 4, _ => rfl | 5, _ => rfl | 6, _ => rfl | 7, _ => rfl | 8, _ => rfl | 9, _ => rfl | j + 10, hj => absurd hj (by omega)) (Nat.le_of_ble_eq_true rfl) (Nat.le_of_ble_eq_true rfl) dX10_init_35 (fun H9 hN o1 hz1 hS => ?_)
  have g0 := zkp g0 zRg_1 (fun q h1 _ _ => o1 q (Nat.lt_of_lt_of_eq h1 hsz))
  have g1 := zkp g1 zrg_X9_init (fun q h1 _ _ => o1 q (Nat.lt_of_lt_of_eq h1 hsz))
  have g48 := zkp g48 zRg_1 (fun q h1 _ _ => o1 q (Nat.lt_of_lt_of_eq h1 hsz))
  have g49 := zkp g49 zrg_X4_init (fun q h1 _ _ => o1 q (Nat.lt_of_lt_of_eq h1 hsz))
  have g72 : va_P E.1 zcl [((a + 72), .inr (3, [.int 0, .int 0, .int 0, .int 0, .int 0, .null, .null, .null, .null, .null]))] H9 := hN
  have hsz : H9.size = a + 73 := hz1
  refine W.cs (cells' := 72) (slots' := 2212) rfl rfl ?_
  refine lv_dup hx hb dX10_init_38 rfl ?_
  refine zIc zc ky_X3_init kz_X3_init rfl km_10_29 (ci_X3_init l) (zIpre hK hO g72 hsz) hS (fun q (h : (a + 72) ≤ q) => Nat.le_trans (Nat.le_add_right a 72) h) hl.1 (Nat.le_of_ble_eq_true rfl) ⟨rfl, rfl⟩ ⟨Nat.le_of_ble_eq_true rfl, Nat.le_of_ble_eq_true rfl⟩ ⟨Nat.le_of_ble_eq_true rfl, Nat.le_of_ble_eq_true rfl⟩ dX10_init_39 (fun _ H10 locs _ hJ hk hS => ?_)
  have g0 := zkp g0 zRg_1 (fun q h1 _ h3 => hk q h1 (zge_n (a := a) (i := 1) (j := 72) h3 (Nat.le_of_ble_eq_true rfl)))
  have g1 := zkp g1 zrg_X9_init (fun q h1 _ h3 => hk q h1 (zge_n (a := a) (i := 48) (j := 72) h3 (Nat.le_of_ble_eq_true rfl)))
  have g48 := zkp g48 zRg_1 (fun q h1 _ h3 => hk q h1 (zge_n (a := a) (i := 49) (j := 72) h3 (Nat.le_of_ble_eq_true rfl)))
  have g49 := zkp g49 zrg_X4_init (fun q h1 _ h3 => hk q h1 (zge_n (a := a) (i := 72) (j := 72) h3 (Nat.le_of_ble_eq_true rfl)))
  have g72 := hJ.1
  have hsz : H10.size = a + 78 := hJ.2
  refine W.cs (cells' := 77) (slots' := 2247) rfl rfl ?_
  refine zPut (C := RX10) (T := TX10) (N := 7) (ci := 10) (v := .ref (a + 72)) (ty := .object "DownhillSong$Night") zc hK g0 (zD1 (Nat.le_refl a)) hS uw10 tyX10 tyX10_ok nmX10 0 rfl rfl 3 (by decide) kf_10_30 (fun _ h9 => h9) (Or.inr ⟨rfl, hin, rfl⟩) (by decide +kernel) rfl rfl (Nat.le_of_ble_eq_true rfl) dX10_init_42 (fun H11 locs hN oq hz1 hS => ?_)
  have g1 := zkp g1 zrg_X9_init (fun q _ h2 h3 => oq q (znA (a := a) (i := 1) (p := 0) h2 (Nat.le_of_ble_eq_true rfl)))
  have g48 := zkp g48 zRg_1 (fun q _ h2 h3 => oq q (znA (a := a) (i := 48) (p := 0) h2 (Nat.le_of_ble_eq_true rfl)))
  have g49 := zkp g49 zrg_X4_init (fun q _ h2 h3 => oq q (znA (a := a) (i := 49) (p := 0) h2 (Nat.le_of_ble_eq_true rfl)))
  have g72 := zkp g72 zrg_X3_init (fun q _ h2 h3 => oq q (znA (a := a) (i := 72) (p := 0) h2 (Nat.le_of_ble_eq_true rfl)))
  have g0 : va_P E.1 zcl [(a, .inr (10, [.ref (a + 1), .ref (a + 48), .ref (a + 49), .ref (a + 72), .null, .null, .null]))] H11 := hN
  have hsz := hz1.trans hsz
  refine lv_aload_n hx hb dX10_init_45 rfl (lv_at hl 0 rfl) ?_
  refine zNew (ws := []) (C := RX7) (T := TX7) (N := 8) (ci := 7) zc hK (fun k q h => by simp at h) hS hsz uw7 tyX7 tyX7_ok kcl_10_34 kins_7 kinit_7 rfl [.null, .null, .null, .null, .null, .null, .null, .null] (fun j hj => match j, hj with | 0, _ => rfl | 1, _ => rfl | 2, _ => rfl | 3, _ => rfl | 4, _ => rfl | 5, _ => rfl | 6, _ => rfl | 7, _ => rfl | j + 8, hj => absurd hj (by omega)) (Nat.le_of_ble_eq_true rfl) (Nat.le_of_ble_eq_true rfl) dX10_init_46 (fun H12 hN o1 hz1 hS => ?_)
  have g0 := zkp g0 zRg_1 (fun q h1 _ _ => o1 q (Nat.lt_of_lt_of_eq h1 hsz))
  have g1 := zkp g1 zrg_X9_init (fun q h1 _ _ => o1 q (Nat.lt_of_lt_of_eq h1 hsz))
  have g48 := zkp g48 zRg_1 (fun q h1 _ _ => o1 q (Nat.lt_of_lt_of_eq h1 hsz))
  have g49 := zkp g49 zrg_X4_init (fun q h1 _ _ => o1 q (Nat.lt_of_lt_of_eq h1 hsz))
  have g72 := zkp g72 zrg_X3_init (fun q h1 _ _ => o1 q (Nat.lt_of_lt_of_eq h1 hsz))
  have g78 : va_P E.1 zcl [((a + 78), .inr (7, [.null, .null, .null, .null, .null, .null, .null, .null]))] H12 := hN
  have hsz : H12.size = a + 79 := hz1
  refine W.cs (cells' := 78) (slots' := 2255) rfl rfl ?_
  refine lv_dup hx hb dX10_init_49 rfl ?_
  refine zIc zc ky_X7_init kz_X7_init rfl km_10_36 (ci_X7_init l) (zIpre hK hO g78 hsz) hS (fun q (h : (a + 78) ≤ q) => Nat.le_trans (Nat.le_add_right a 78) h) hl.1 (Nat.le_of_ble_eq_true rfl) ⟨rfl, rfl⟩ ⟨Nat.le_of_ble_eq_true rfl, Nat.le_of_ble_eq_true rfl⟩ ⟨Nat.le_of_ble_eq_true rfl, Nat.le_of_ble_eq_true rfl⟩ dX10_init_50 (fun _ H13 locs _ hJ hk hS => ?_)
  have g0 := zkp g0 zRg_1 (fun q h1 _ h3 => hk q h1 (zge_n (a := a) (i := 1) (j := 78) h3 (Nat.le_of_ble_eq_true rfl)))
  have g1 := zkp g1 zrg_X9_init (fun q h1 _ h3 => hk q h1 (zge_n (a := a) (i := 48) (j := 78) h3 (Nat.le_of_ble_eq_true rfl)))
  have g48 := zkp g48 zRg_1 (fun q h1 _ h3 => hk q h1 (zge_n (a := a) (i := 49) (j := 78) h3 (Nat.le_of_ble_eq_true rfl)))
  have g49 := zkp g49 zrg_X4_init (fun q h1 _ h3 => hk q h1 (zge_n (a := a) (i := 72) (j := 78) h3 (Nat.le_of_ble_eq_true rfl)))
  have g72 := zkp g72 zrg_X3_init (fun q h1 _ h3 => hk q h1 (zge_n (a := a) (i := 78) (j := 78) h3 (Nat.le_of_ble_eq_true rfl)))
  have g78 := hJ.1
  have hsz : H13.size = a + 87 := hJ.2
  refine W.cs (cells' := 86) (slots' := 2471) rfl rfl ?_
  refine zPut (C := RX10) (T := TX10) (N := 7) (ci := 10) (v := .ref (a + 78)) (ty := .object "DownhillSong$Slope") zc hK g0 (zD1 (Nat.le_refl a)) hS uw10 tyX10 tyX10_ok nmX10 0 rfl rfl 4 (by decide) kf_10_37 (fun _ h9 => h9) (Or.inr ⟨rfl, hin, rfl⟩) (by decide +kernel) rfl rfl (Nat.le_of_ble_eq_true rfl) dX10_init_53 (fun H14 locs hN oq hz1 hS => ?_)
  have g1 := zkp g1 zrg_X9_init (fun q _ h2 h3 => oq q (znA (a := a) (i := 1) (p := 0) h2 (Nat.le_of_ble_eq_true rfl)))
  have g48 := zkp g48 zRg_1 (fun q _ h2 h3 => oq q (znA (a := a) (i := 48) (p := 0) h2 (Nat.le_of_ble_eq_true rfl)))
  have g49 := zkp g49 zrg_X4_init (fun q _ h2 h3 => oq q (znA (a := a) (i := 49) (p := 0) h2 (Nat.le_of_ble_eq_true rfl)))
  have g72 := zkp g72 zrg_X3_init (fun q _ h2 h3 => oq q (znA (a := a) (i := 72) (p := 0) h2 (Nat.le_of_ble_eq_true rfl)))
  have g78 := zkp g78 zrg_X7_init (fun q _ h2 h3 => oq q (znA (a := a) (i := 78) (p := 0) h2 (Nat.le_of_ble_eq_true rfl)))
  have g0 : va_P E.1 zcl [(a, .inr (10, [.ref (a + 1), .ref (a + 48), .ref (a + 49), .ref (a + 72), .ref (a + 78), .null, .null]))] H14 := hN
  have hsz := hz1.trans hsz
  refine lv_aload_n hx hb dX10_init_56 rfl (lv_at hl 0 rfl) ?_
  refine zNew (ws := []) (C := RX5) (T := TX5) (N := 3) (ci := 5) zc hK (fun k q h => by simp at h) hS hsz uw5 tyX5 tyX5_ok kcl_10_41 kins_5 kinit_5 rfl [.null, .null, .null] (fun j hj => match j, hj with | 0, _ => rfl | 1, _ => rfl | 2, _ => rfl | j + 3, hj => absurd hj (by omega)) (Nat.le_of_ble_eq_true rfl) (Nat.le_of_ble_eq_true rfl) dX10_init_57 (fun H15 hN o1 hz1 hS => ?_)
  have g0 := zkp g0 zRg_1 (fun q h1 _ _ => o1 q (Nat.lt_of_lt_of_eq h1 hsz))
  have g1 := zkp g1 zrg_X9_init (fun q h1 _ _ => o1 q (Nat.lt_of_lt_of_eq h1 hsz))
  have g48 := zkp g48 zRg_1 (fun q h1 _ _ => o1 q (Nat.lt_of_lt_of_eq h1 hsz))
  have g49 := zkp g49 zrg_X4_init (fun q h1 _ _ => o1 q (Nat.lt_of_lt_of_eq h1 hsz))
  have g72 := zkp g72 zrg_X3_init (fun q h1 _ _ => o1 q (Nat.lt_of_lt_of_eq h1 hsz))
  have g78 := zkp g78 zrg_X7_init (fun q h1 _ _ => o1 q (Nat.lt_of_lt_of_eq h1 hsz))
  have g87 : va_P E.1 zcl [((a + 87), .inr (5, [.null, .null, .null]))] H15 := hN
  have hsz : H15.size = a + 88 := hz1
  refine W.cs (cells' := 87) (slots' := 2474) rfl rfl ?_
  refine lv_dup hx hb dX10_init_60 rfl ?_
  refine zIc zc ky_X5_init kz_X5_init rfl km_10_43 (ci_X5_init l) (zIpre hK hO g87 hsz) hS (fun q (h : (a + 87) ≤ q) => Nat.le_trans (Nat.le_add_right a 87) h) hl.1 (Nat.le_of_ble_eq_true rfl) ⟨rfl, rfl⟩ ⟨Nat.le_of_ble_eq_true rfl, Nat.le_of_ble_eq_true rfl⟩ ⟨Nat.le_of_ble_eq_true rfl, Nat.le_of_ble_eq_true rfl⟩ dX10_init_61 (fun _ H16 locs _ hJ hk hS => ?_)
  have g0 := zkp g0 zRg_1 (fun q h1 _ h3 => hk q h1 (zge_n (a := a) (i := 1) (j := 87) h3 (Nat.le_of_ble_eq_true rfl)))
  have g1 := zkp g1 zrg_X9_init (fun q h1 _ h3 => hk q h1 (zge_n (a := a) (i := 48) (j := 87) h3 (Nat.le_of_ble_eq_true rfl)))
  have g48 := zkp g48 zRg_1 (fun q h1 _ h3 => hk q h1 (zge_n (a := a) (i := 49) (j := 87) h3 (Nat.le_of_ble_eq_true rfl)))
  have g49 := zkp g49 zrg_X4_init (fun q h1 _ h3 => hk q h1 (zge_n (a := a) (i := 72) (j := 87) h3 (Nat.le_of_ble_eq_true rfl)))
  have g72 := zkp g72 zrg_X3_init (fun q h1 _ h3 => hk q h1 (zge_n (a := a) (i := 78) (j := 87) h3 (Nat.le_of_ble_eq_true rfl)))
  have g78 := zkp g78 zrg_X7_init (fun q h1 _ h3 => hk q h1 (zge_n (a := a) (i := 87) (j := 87) h3 (Nat.le_of_ble_eq_true rfl)))
  have g87 := hJ.1
  have hsz : H16.size = a + 90 := hJ.2
  refine W.cs (cells' := 89) (slots' := 2564) rfl rfl ?_
  refine zPut (C := RX10) (T := TX10) (N := 7) (ci := 10) (v := .ref (a + 87)) (ty := .object "DownhillSong$Rows") zc hK g0 (zD1 (Nat.le_refl a)) hS uw10 tyX10 tyX10_ok nmX10 0 rfl rfl 5 (by decide) kf_10_44 (fun _ h9 => h9) (Or.inr ⟨rfl, hin, rfl⟩) (by decide +kernel) rfl rfl (Nat.le_of_ble_eq_true rfl) dX10_init_64 (fun H17 locs hN oq hz1 hS => ?_)
  have g1 := zkp g1 zrg_X9_init (fun q _ h2 h3 => oq q (znA (a := a) (i := 1) (p := 0) h2 (Nat.le_of_ble_eq_true rfl)))
  have g48 := zkp g48 zRg_1 (fun q _ h2 h3 => oq q (znA (a := a) (i := 48) (p := 0) h2 (Nat.le_of_ble_eq_true rfl)))
  have g49 := zkp g49 zrg_X4_init (fun q _ h2 h3 => oq q (znA (a := a) (i := 49) (p := 0) h2 (Nat.le_of_ble_eq_true rfl)))
  have g72 := zkp g72 zrg_X3_init (fun q _ h2 h3 => oq q (znA (a := a) (i := 72) (p := 0) h2 (Nat.le_of_ble_eq_true rfl)))
  have g78 := zkp g78 zrg_X7_init (fun q _ h2 h3 => oq q (znA (a := a) (i := 78) (p := 0) h2 (Nat.le_of_ble_eq_true rfl)))
  have g87 := zkp g87 zrg_X5_init (fun q _ h2 h3 => oq q (znA (a := a) (i := 87) (p := 0) h2 (Nat.le_of_ble_eq_true rfl)))
  have g0 : va_P E.1 zcl [(a, .inr (10, [.ref (a + 1), .ref (a + 48), .ref (a + 49), .ref (a + 72), .ref (a + 78), .ref (a + 87), .null]))] H17 := hN
  have hsz := hz1.trans hsz
  refine lv_aload_n hx hb dX10_init_67 rfl (lv_at hl 0 rfl) ?_
  refine zNew (ws := []) (C := RX8) (T := TX8) (N := 2) (ci := 8) zc hK (fun k q h => by simp at h) hS hsz uw8 tyX8 tyX8_ok kcl_10_48 kins_8 kinit_8 rfl [.null, .null] (fun j hj => match j, hj with | 0, _ => rfl | 1, _ => rfl | j + 2, hj => absurd hj (by omega)) (Nat.le_of_ble_eq_true rfl) (Nat.le_of_ble_eq_true rfl) dX10_init_68 (fun H18 hN o1 hz1 hS => ?_)
  have g0 := zkp g0 zRg_1 (fun q h1 _ _ => o1 q (Nat.lt_of_lt_of_eq h1 hsz))
  have g1 := zkp g1 zrg_X9_init (fun q h1 _ _ => o1 q (Nat.lt_of_lt_of_eq h1 hsz))
  have g48 := zkp g48 zRg_1 (fun q h1 _ _ => o1 q (Nat.lt_of_lt_of_eq h1 hsz))
  have g49 := zkp g49 zrg_X4_init (fun q h1 _ _ => o1 q (Nat.lt_of_lt_of_eq h1 hsz))
  have g72 := zkp g72 zrg_X3_init (fun q h1 _ _ => o1 q (Nat.lt_of_lt_of_eq h1 hsz))
  have g78 := zkp g78 zrg_X7_init (fun q h1 _ _ => o1 q (Nat.lt_of_lt_of_eq h1 hsz))
  have g87 := zkp g87 zrg_X5_init (fun q h1 _ _ => o1 q (Nat.lt_of_lt_of_eq h1 hsz))
  have g90 : va_P E.1 zcl [((a + 90), .inr (8, [.null, .null]))] H18 := hN
  have hsz : H18.size = a + 91 := hz1
  refine W.cs (cells' := 90) (slots' := 2566) rfl rfl ?_
  refine lv_dup hx hb dX10_init_71 rfl ?_
  refine zIc zc ky_X8_init kz_X8_init rfl km_10_50 (ci_X8_init l) (zIpre hK hO g90 hsz) hS (fun q (h : (a + 90) ≤ q) => Nat.le_trans (Nat.le_add_right a 90) h) hl.1 (Nat.le_of_ble_eq_true rfl) ⟨rfl, rfl⟩ ⟨Nat.le_of_ble_eq_true rfl, Nat.le_of_ble_eq_true rfl⟩ ⟨Nat.le_of_ble_eq_true rfl, Nat.le_of_ble_eq_true rfl⟩ dX10_init_72 (fun _ H19 locs _ hJ hk hS => ?_)
  have g0 := zkp g0 zRg_1 (fun q h1 _ h3 => hk q h1 (zge_n (a := a) (i := 1) (j := 90) h3 (Nat.le_of_ble_eq_true rfl)))
  have g1 := zkp g1 zrg_X9_init (fun q h1 _ h3 => hk q h1 (zge_n (a := a) (i := 48) (j := 90) h3 (Nat.le_of_ble_eq_true rfl)))
  have g48 := zkp g48 zRg_1 (fun q h1 _ h3 => hk q h1 (zge_n (a := a) (i := 49) (j := 90) h3 (Nat.le_of_ble_eq_true rfl)))
  have g49 := zkp g49 zrg_X4_init (fun q h1 _ h3 => hk q h1 (zge_n (a := a) (i := 72) (j := 90) h3 (Nat.le_of_ble_eq_true rfl)))
  have g72 := zkp g72 zrg_X3_init (fun q h1 _ h3 => hk q h1 (zge_n (a := a) (i := 78) (j := 90) h3 (Nat.le_of_ble_eq_true rfl)))
  have g78 := zkp g78 zrg_X7_init (fun q h1 _ h3 => hk q h1 (zge_n (a := a) (i := 87) (j := 90) h3 (Nat.le_of_ble_eq_true rfl)))
  have g87 := zkp g87 zrg_X5_init (fun q h1 _ h3 => hk q h1 (zge_n (a := a) (i := 90) (j := 90) h3 (Nat.le_of_ble_eq_true rfl)))
  have g90 := hJ.1
  have hsz : H19.size = a + 93 := hJ.2
  refine W.cs (cells' := 92) (slots' := 2688) rfl rfl ?_
  refine zPut (C := RX10) (T := TX10) (N := 7) (ci := 10) (v := .ref (a + 90)) (ty := .object "DownhillSong$Table") zc hK g0 (zD1 (Nat.le_refl a)) hS uw10 tyX10 tyX10_ok nmX10 0 rfl rfl 6 (by decide) kf_10_51 (fun _ h9 => h9) (Or.inr ⟨rfl, hin, rfl⟩) (by decide +kernel) rfl rfl (Nat.le_of_ble_eq_true rfl) dX10_init_75 (fun H20 locs hN oq hz1 hS => ?_)
  have g1 := zkp g1 zrg_X9_init (fun q _ h2 h3 => oq q (znA (a := a) (i := 1) (p := 0) h2 (Nat.le_of_ble_eq_true rfl)))
  have g48 := zkp g48 zRg_1 (fun q _ h2 h3 => oq q (znA (a := a) (i := 48) (p := 0) h2 (Nat.le_of_ble_eq_true rfl)))
  have g49 := zkp g49 zrg_X4_init (fun q _ h2 h3 => oq q (znA (a := a) (i := 49) (p := 0) h2 (Nat.le_of_ble_eq_true rfl)))
  have g72 := zkp g72 zrg_X3_init (fun q _ h2 h3 => oq q (znA (a := a) (i := 72) (p := 0) h2 (Nat.le_of_ble_eq_true rfl)))
  have g78 := zkp g78 zrg_X7_init (fun q _ h2 h3 => oq q (znA (a := a) (i := 78) (p := 0) h2 (Nat.le_of_ble_eq_true rfl)))
  have g87 := zkp g87 zrg_X5_init (fun q _ h2 h3 => oq q (znA (a := a) (i := 87) (p := 0) h2 (Nat.le_of_ble_eq_true rfl)))
  have g90 := zkp g90 zrg_X8_init (fun q _ h2 h3 => oq q (znA (a := a) (i := 90) (p := 0) h2 (Nat.le_of_ble_eq_true rfl)))
  have g0 : va_P E.1 zcl [(a, .inr (10, [.ref (a + 1), .ref (a + 48), .ref (a + 49), .ref (a + 72), .ref (a + 78), .ref (a + 87), .ref (a + 90)]))] H20 := hN
  have hsz := hz1.trans hsz
  exact zIret (post := fun _ => True) (B := zJ E a 93 ([(a, .inr (10, [.ref (a + 1), .ref (a + 48), .ref (a + 49), .ref (a + 72), .ref (a + 78), .ref (a + 87), .ref (a + 90)]))] ++ (zb_X9_init E (a + 1) ++ ([((a + 48), .inl (E.2 8, 3, .inr (.inr (.inr (.inr (fun _ => none))))))] ++ (zb_X4_init E (a + 49) ++ (zb_X3_init E (a + 72) ++ (zb_X7_init E (a + 78) ++ (zb_X5_init E (a + 87) ++ (zb_X8_init E (a + 90)))))))))) () zc hS trivial ⟨(va_P.app g0 (va_P.app g1 (va_P.app g48 (va_P.app g49 (va_P.app g72 (va_P.app g78 (va_P.app g87 g90))))))), hsz⟩ dX10_init_78
end
