abbrev rmi_X7_init : Room := { frames := 1, cells := 8, slots := 216, locals := 20 }
abbrev zb_X7_init (E : zE) (a : Nat) : va_W := ([(a, .inr (7, [.ref (a + 1), .ref (a + 2), .ref (a + 3), .ref (a + 4), .ref (a + 5), .ref (a + 6), .ref (a + 7), .ref (a + 8)]))] ++ ([((a + 1), .inl (E.2 1, 81, .inl (fun _ => 0)))] ++ ([((a + 2), .inl (E.2 1, 81, .inl (fun _ => 0)))] ++ ([((a + 3), .inl (E.2 1, 9, .inl (fun _ => 0)))] ++ ([((a + 4), .inl (E.2 1, 9, .inl (fun _ => 0)))] ++ ([((a + 5), .inl (E.2 1, 9, .inl (fun _ => 0)))] ++ ([((a + 6), .inl (E.2 1, 9, .inl (fun _ => 0)))] ++ ([((a + 7), .inl (E.2 1, 9, .inl (fun _ => 0)))] ++ ([((a + 8), .inl (E.2 1, 9, .inl (fun _ => 0)))])))))))))
theorem zrg_X7_init {E : zE} {a : Nat} : zRg (zb_X7_init E a) a (a + 9) := by
  exact ((zRg_1).mono (by omega) (by omega)).app (((zRg_1).mono (by omega) (by omega)).app (((zRg_1).mono (by omega) (by omega)).app (((zRg_1).mono (by omega) (by omega)).app (((zRg_1).mono (by omega) (by omega)).app (((zRg_1).mono (by omega) (by omega)).app (((zRg_1).mono (by omega) (by omega)).app (((zRg_1).mono (by omega) (by omega)).app ((zRg_1).mono (by omega) (by omega)))))))))
set_option maxRecDepth 40000 in
set_option maxHeartbeats 4000000 in
theorem ci_X7_init (l : Launch) {E : zE} {a : Nat} : Met l yX7_init (Cond.code yX7_init cX7_init 1 none :: zb) rmi_X7_init (va_Pc [.ref a] (zI E a 7 [.null, .null, .null, .null, .null, .null, .null, .null])) (zQv (S := Unit) (fun _ => True) (zJ E a 9 (zb_X7_init E a)) (fun q => a ≤ q)) 8 216 (fun q => a ≤ q) := by
  refine Met.ofW (cc := cX7_init) (maxL := 1) (ret := none) (by decide) rfl ?_
  intro p e s m args below meth c s₁ B hml hv
  obtain ⟨rfl, hsz, g0, hK, hO⟩ := hv
  have zc := zc_of B hml
  have hx := zc.1
  have hb := zc.2.1
  have hz := zc.2.2.2.2.1
  have hin : meth.name = "<init>" := (name_of_methodNamed B.named B.method).1
  have hS : va_S (fun q => a ≤ q) s.heap s.heap [] := va_S.rf
  have hl := lv_entry ([.ref a]) (n := 1) (Nat.le_of_ble_eq_true rfl)
  rw [lg_entry_eq]
  generalize (lg_sl ([.ref a]) ++ List.replicate (1 - (lg_sl ([.ref a])).length) Slot.unset).toArray = ls at hl ⊢
  have hl : lv_has ls 1 [(0, .ref a)] := hl
  refine lv_aload_n hx hb dX7_init_0 rfl (lv_at hl 0 rfl) ?_
  refine W.objInit hx hb zc.2.2.2.1 (hz _ km_7_3) (hz _ k_oi) (hz _ k_oc) rfl (by rw [zc.2.2.1]; exact hl.1) rfl dX7_init_1 (Nat.le_of_ble_eq_true rfl) (Nat.le_of_ble_eq_true rfl) ?_
  refine W.eq (g2 := F0 m 4 ls []) rfl ?_
  refine lv_aload_n hx hb dX7_init_4 rfl (lv_at hl 0 rfl) ?_
  refine lv_bipush (v := (81 : Int32)) hx hb dX7_init_5 (by decide) ?_
  refine zNewa (ws := []) (atype := .int) (t := 1) (N := 81) (a0 := (81, .inl (fun _ => 0))) zc hK (fun k q h => by simp at h) hS hsz kac_I rfl (fun _ => rfl) (by decide) (by decide) (by decide) (Nat.le_of_ble_eq_true rfl) (Nat.le_of_ble_eq_true rfl) dX7_init_7 (fun H1 hN o1 hz1 hS => ?_)
  have g0 := zkp g0 zRg_1 (fun q h1 _ _ => o1 q (Nat.lt_of_lt_of_eq h1 hsz))
  have g1 : va_P E.1 zcl [((a + 1), .inl (E.2 1, 81, .inl (fun _ => 0)))] H1 := hN
  have hsz : H1.size = a + 2 := hz1
  refine W.cs (cells' := 1) (slots' := 81) rfl rfl ?_
  refine zPut (C := RX7) (T := TX7) (N := 8) (ci := 7) (v := .ref (a + 1)) (ty := .array .int) zc hK g0 (zD1 (Nat.le_refl a)) hS uw7 tyX7 tyX7_ok nmX7 0 rfl rfl 0 (by decide) kf_7_9 (fun _ h9 => h9) (Or.inr ⟨rfl, hin, rfl⟩) (by decide +kernel) rfl rfl (Nat.le_of_ble_eq_true rfl) dX7_init_9 (fun H2 locs hN oq hz1 hS => ?_)
  have g1 := zkp g1 zRg_1 (fun q _ h2 h3 => oq q (znA (a := a) (i := 1) (p := 0) h2 (Nat.le_of_ble_eq_true rfl)))
  have g0 : va_P E.1 zcl [(a, .inr (7, [.ref (a + 1), .null, .null, .null, .null, .null, .null, .null]))] H2 := hN
  have hsz := hz1.trans hsz
  refine lv_aload_n hx hb dX7_init_12 rfl (lv_at hl 0 rfl) ?_
  refine lv_bipush (v := (81 : Int32)) hx hb dX7_init_13 (by decide) ?_
  refine zNewa (ws := []) (atype := .int) (t := 1) (N := 81) (a0 := (81, .inl (fun _ => 0))) zc hK (fun k q h => by simp at h) hS hsz kac_I rfl (fun _ => rfl) (by decide) (by decide) (by decide) (Nat.le_of_ble_eq_true rfl) (Nat.le_of_ble_eq_true rfl) dX7_init_15 (fun H3 hN o1 hz1 hS => ?_)
  have g0 := zkp g0 zRg_1 (fun q h1 _ _ => o1 q (Nat.lt_of_lt_of_eq h1 hsz))
  have g1 := zkp g1 zRg_1 (fun q h1 _ _ => o1 q (Nat.lt_of_lt_of_eq h1 hsz))
  have g2 : va_P E.1 zcl [((a + 2), .inl (E.2 1, 81, .inl (fun _ => 0)))] H3 := hN
  have hsz : H3.size = a + 3 := hz1
  refine W.cs (cells' := 2) (slots' := 162) rfl rfl ?_
  refine zPut (C := RX7) (T := TX7) (N := 8) (ci := 7) (v := .ref (a + 2)) (ty := .array .int) zc hK g0 (zD1 (Nat.le_refl a)) hS uw7 tyX7 tyX7_ok nmX7 0 rfl rfl 1 (by decide) kf_7_15 (fun _ h9 => h9) (Or.inr ⟨rfl, hin, rfl⟩) (by decide +kernel) rfl rfl (Nat.le_of_ble_eq_true rfl) dX7_init_17 (fun H4 locs hN oq hz1 hS => ?_)
  have g1 := zkp g1 zRg_1 (fun q _ h2 h3 => oq q (znA (a := a) (i := 1) (p := 0) h2 (Nat.le_of_ble_eq_true rfl)))
  have g2 := zkp g2 zRg_1 (fun q _ h2 h3 => oq q (znA (a := a) (i := 2) (p := 0) h2 (Nat.le_of_ble_eq_true rfl)))
  have g0 : va_P E.1 zcl [(a, .inr (7, [.ref (a + 1), .ref (a + 2), .null, .null, .null, .null, .null, .null]))] H4 := hN
  have hsz := hz1.trans hsz
  refine lv_aload_n hx hb dX7_init_20 rfl (lv_at hl 0 rfl) ?_
  refine lv_bipush (v := (9 : Int32)) hx hb dX7_init_21 (by decide) ?_
  refine zNewa (ws := []) (atype := .int) (t := 1) (N := 9) (a0 := (9, .inl (fun _ => 0))) zc hK (fun k q h => by simp at h) hS hsz kac_I rfl (fun _ => rfl) (by decide) (by decide) (by decide) (Nat.le_of_ble_eq_true rfl) (Nat.le_of_ble_eq_true rfl) dX7_init_23 (fun H5 hN o1 hz1 hS => ?_)
  have g0 := zkp g0 zRg_1 (fun q h1 _ _ => o1 q (Nat.lt_of_lt_of_eq h1 hsz))
  have g1 := zkp g1 zRg_1 (fun q h1 _ _ => o1 q (Nat.lt_of_lt_of_eq h1 hsz))
  have g2 := zkp g2 zRg_1 (fun q h1 _ _ => o1 q (Nat.lt_of_lt_of_eq h1 hsz))
  have g3 : va_P E.1 zcl [((a + 3), .inl (E.2 1, 9, .inl (fun _ => 0)))] H5 := hN
  have hsz : H5.size = a + 4 := hz1
  refine W.cs (cells' := 3) (slots' := 171) rfl rfl ?_
  refine zPut (C := RX7) (T := TX7) (N := 8) (ci := 7) (v := .ref (a + 3)) (ty := .array .int) zc hK g0 (zD1 (Nat.le_refl a)) hS uw7 tyX7 tyX7_ok nmX7 0 rfl rfl 2 (by decide) kf_7_18 (fun _ h9 => h9) (Or.inr ⟨rfl, hin, rfl⟩) (by decide +kernel) rfl rfl (Nat.le_of_ble_eq_true rfl) dX7_init_25 (fun H6 locs hN oq hz1 hS => ?_)
  have g1 := zkp g1 zRg_1 (fun q _ h2 h3 => oq q (znA (a := a) (i := 1) (p := 0) h2 (Nat.le_of_ble_eq_true rfl)))
  have g2 := zkp g2 zRg_1 (fun q _ h2 h3 => oq q (znA (a := a) (i := 2) (p := 0) h2 (Nat.le_of_ble_eq_true rfl)))
  have g3 := zkp g3 zRg_1 (fun q _ h2 h3 => oq q (znA (a := a) (i := 3) (p := 0) h2 (Nat.le_of_ble_eq_true rfl)))
  have g0 : va_P E.1 zcl [(a, .inr (7, [.ref (a + 1), .ref (a + 2), .ref (a + 3), .null, .null, .null, .null, .null]))] H6 := hN
  have hsz := hz1.trans hsz
  refine lv_aload_n hx hb dX7_init_28 rfl (lv_at hl 0 rfl) ?_
  refine lv_bipush (v := (9 : Int32)) hx hb dX7_init_29 (by decide) ?_
  refine zNewa (ws := []) (atype := .int) (t := 1) (N := 9) (a0 := (9, .inl (fun _ => 0))) zc hK (fun k q h => by simp at h) hS hsz kac_I rfl (fun _ => rfl) (by decide) (by decide) (by decide) (Nat.le_of_ble_eq_true rfl) (Nat.le_of_ble_eq_true rfl) dX7_init_31 (fun H7 hN o1 hz1 hS => ?_)
  have g0 := zkp g0 zRg_1 (fun q h1 _ _ => o1 q (Nat.lt_of_lt_of_eq h1 hsz))
  have g1 := zkp g1 zRg_1 (fun q h1 _ _ => o1 q (Nat.lt_of_lt_of_eq h1 hsz))
  have g2 := zkp g2 zRg_1 (fun q h1 _ _ => o1 q (Nat.lt_of_lt_of_eq h1 hsz))
  have g3 := zkp g3 zRg_1 (fun q h1 _ _ => o1 q (Nat.lt_of_lt_of_eq h1 hsz))
  have g4 : va_P E.1 zcl [((a + 4), .inl (E.2 1, 9, .inl (fun _ => 0)))] H7 := hN
  have hsz : H7.size = a + 5 := hz1
  refine W.cs (cells' := 4) (slots' := 180) rfl rfl ?_
  refine zPut (C := RX7) (T := TX7) (N := 8) (ci := 7) (v := .ref (a + 4)) (ty := .array .int) zc hK g0 (zD1 (Nat.le_refl a)) hS uw7 tyX7 tyX7_ok nmX7 0 rfl rfl 3 (by decide) kf_7_21 (fun _ h9 => h9) (Or.inr ⟨rfl, hin, rfl⟩) (by decide +kernel) rfl rfl (Nat.le_of_ble_eq_true rfl) dX7_init_33 (fun H8 locs hN oq hz1 hS => ?_)
  have g1 := zkp g1 zRg_1 (fun q _ h2 h3 => oq q (znA (a := a) (i := 1) (p := 0) h2 (Nat.le_of_ble_eq_true rfl)))
  have g2 := zkp g2 zRg_1 (fun q _ h2 h3 => oq q (znA (a := a) (i := 2) (p := 0) h2 (Nat.le_of_ble_eq_true rfl)))
  have g3 := zkp g3 zRg_1 (fun q _ h2 h3 => oq q (znA (a := a) (i := 3) (p := 0) h2 (Nat.le_of_ble_eq_true rfl)))
  have g4 := zkp g4 zRg_1 (fun q _ h2 h3 => oq q (znA (a := a) (i := 4) (p := 0) h2 (Nat.le_of_ble_eq_true rfl)))
  have g0 : va_P E.1 zcl [(a, .inr (7, [.ref (a + 1), .ref (a + 2), .ref (a + 3), .ref (a + 4), .null, .null, .null, .null]))] H8 := hN
  have hsz := hz1.trans hsz
  refine lv_aload_n hx hb dX7_init_36 rfl (lv_at hl 0 rfl) ?_
  refine lv_bipush (v := (9 : Int32)) hx hb dX7_init_37 (by decide) ?_
  refine zNewa (ws := []) (atype := .int) (t := 1) (N := 9) (a0 := (9, .inl (fun _ => 0))) zc hK (fun k q h => by simp at h) hS hsz kac_I rfl (fun _ => rfl) (by decide) (by decide) (by decide) (Nat.le_of_ble_eq_true rfl) (Nat.le_of_ble_eq_true rfl) dX7_init_39 (fun H9 hN o1 hz1 hS => ?_)
  have g0 := zkp g0 zRg_1 (fun q h1 _ _ => o1 q (Nat.lt_of_lt_of_eq h1 hsz))
  have g1 := zkp g1 zRg_1 (fun q h1 _ _ => o1 q (Nat.lt_of_lt_of_eq h1 hsz))
  have g2 := zkp g2 zRg_1 (fun q h1 _ _ => o1 q (Nat.lt_of_lt_of_eq h1 hsz))
  have g3 := zkp g3 zRg_1 (fun q h1 _ _ => o1 q (Nat.lt_of_lt_of_eq h1 hsz))
  have g4 := zkp g4 zRg_1 (fun q h1 _ _ => o1 q (Nat.lt_of_lt_of_eq h1 hsz))
  have g5 : va_P E.1 zcl [((a + 5), .inl (E.2 1, 9, .inl (fun _ => 0)))] H9 := hN
  have hsz : H9.size = a + 6 := hz1
  refine W.cs (cells' := 5) (slots' := 189) rfl rfl ?_
  refine zPut (C := RX7) (T := TX7) (N := 8) (ci := 7) (v := .ref (a + 5)) (ty := .array .int) zc hK g0 (zD1 (Nat.le_refl a)) hS uw7 tyX7 tyX7_ok nmX7 0 rfl rfl 4 (by decide) kf_7_24 (fun _ h9 => h9) (Or.inr ⟨rfl, hin, rfl⟩) (by decide +kernel) rfl rfl (Nat.le_of_ble_eq_true rfl) dX7_init_41 (fun H10 locs hN oq hz1 hS => ?_)
  have g1 := zkp g1 zRg_1 (fun q _ h2 h3 => oq q (znA (a := a) (i := 1) (p := 0) h2 (Nat.le_of_ble_eq_true rfl)))
  have g2 := zkp g2 zRg_1 (fun q _ h2 h3 => oq q (znA (a := a) (i := 2) (p := 0) h2 (Nat.le_of_ble_eq_true rfl)))
  have g3 := zkp g3 zRg_1 (fun q _ h2 h3 => oq q (znA (a := a) (i := 3) (p := 0) h2 (Nat.le_of_ble_eq_true rfl)))
  have g4 := zkp g4 zRg_1 (fun q _ h2 h3 => oq q (znA (a := a) (i := 4) (p := 0) h2 (Nat.le_of_ble_eq_true rfl)))
  have g5 := zkp g5 zRg_1 (fun q _ h2 h3 => oq q (znA (a := a) (i := 5) (p := 0) h2 (Nat.le_of_ble_eq_true rfl)))
  have g0 : va_P E.1 zcl [(a, .inr (7, [.ref (a + 1), .ref (a + 2), .ref (a + 3), .ref (a + 4), .ref (a + 5), .null, .null, .null]))] H10 := hN
  have hsz := hz1.trans hsz
  refine lv_aload_n hx hb dX7_init_44 rfl (lv_at hl 0 rfl) ?_
  refine lv_bipush (v := (9 : Int32)) hx hb dX7_init_45 (by decide) ?_
  refine zNewa (ws := []) (atype := .int) (t := 1) (N := 9) (a0 := (9, .inl (fun _ => 0))) zc hK (fun k q h => by simp at h) hS hsz kac_I rfl (fun _ => rfl) (by decide) (by decide) (by decide) (Nat.le_of_ble_eq_true rfl) (Nat.le_of_ble_eq_true rfl) dX7_init_47 (fun H11 hN o1 hz1 hS => ?_)
  have g0 := zkp g0 zRg_1 (fun q h1 _ _ => o1 q (Nat.lt_of_lt_of_eq h1 hsz))
  have g1 := zkp g1 zRg_1 (fun q h1 _ _ => o1 q (Nat.lt_of_lt_of_eq h1 hsz))
  have g2 := zkp g2 zRg_1 (fun q h1 _ _ => o1 q (Nat.lt_of_lt_of_eq h1 hsz))
  have g3 := zkp g3 zRg_1 (fun q h1 _ _ => o1 q (Nat.lt_of_lt_of_eq h1 hsz))
  have g4 := zkp g4 zRg_1 (fun q h1 _ _ => o1 q (Nat.lt_of_lt_of_eq h1 hsz))
  have g5 := zkp g5 zRg_1 (fun q h1 _ _ => o1 q (Nat.lt_of_lt_of_eq h1 hsz))
  have g6 : va_P E.1 zcl [((a + 6), .inl (E.2 1, 9, .inl (fun _ => 0)))] H11 := hN
  have hsz : H11.size = a + 7 := hz1
  refine W.cs (cells' := 6) (slots' := 198) rfl rfl ?_
  refine zPut (C := RX7) (T := TX7) (N := 8) (ci := 7) (v := .ref (a + 6)) (ty := .array .int) zc hK g0 (zD1 (Nat.le_refl a)) hS uw7 tyX7 tyX7_ok nmX7 0 rfl rfl 5 (by decide) kf_7_27 (fun _ h9 => h9) (Or.inr ⟨rfl, hin, rfl⟩) (by decide +kernel) rfl rfl (Nat.le_of_ble_eq_true rfl) dX7_init_49 (fun H12 locs hN oq hz1 hS => ?_)
  have g1 := zkp g1 zRg_1 (fun q _ h2 h3 => oq q (znA (a := a) (i := 1) (p := 0) h2 (Nat.le_of_ble_eq_true rfl)))
  have g2 := zkp g2 zRg_1 (fun q _ h2 h3 => oq q (znA (a := a) (i := 2) (p := 0) h2 (Nat.le_of_ble_eq_true rfl)))
  have g3 := zkp g3 zRg_1 (fun q _ h2 h3 => oq q (znA (a := a) (i := 3) (p := 0) h2 (Nat.le_of_ble_eq_true rfl)))
  have g4 := zkp g4 zRg_1 (fun q _ h2 h3 => oq q (znA (a := a) (i := 4) (p := 0) h2 (Nat.le_of_ble_eq_true rfl)))
  have g5 := zkp g5 zRg_1 (fun q _ h2 h3 => oq q (znA (a := a) (i := 5) (p := 0) h2 (Nat.le_of_ble_eq_true rfl)))
  have g6 := zkp g6 zRg_1 (fun q _ h2 h3 => oq q (znA (a := a) (i := 6) (p := 0) h2 (Nat.le_of_ble_eq_true rfl)))
  have g0 : va_P E.1 zcl [(a, .inr (7, [.ref (a + 1), .ref (a + 2), .ref (a + 3), .ref (a + 4), .ref (a + 5), .ref (a + 6), .null, .null]))] H12 := hN
  have hsz := hz1.trans hsz
  refine lv_aload_n hx hb dX7_init_52 rfl (lv_at hl 0 rfl) ?_
  refine lv_bipush (v := (9 : Int32)) hx hb dX7_init_53 (by decide) ?_
  refine zNewa (ws := []) (atype := .int) (t := 1) (N := 9) (a0 := (9, .inl (fun _ => 0))) zc hK (fun k q h => by simp at h) hS hsz kac_I rfl (fun _ => rfl) (by decide) (by decide) (by decide) (Nat.le_of_ble_eq_true rfl) (Nat.le_of_ble_eq_true rfl) dX7_init_55 (fun H13 hN o1 hz1 hS => ?_)
  have g0 := zkp g0 zRg_1 (fun q h1 _ _ => o1 q (Nat.lt_of_lt_of_eq h1 hsz))
  have g1 := zkp g1 zRg_1 (fun q h1 _ _ => o1 q (Nat.lt_of_lt_of_eq h1 hsz))
  have g2 := zkp g2 zRg_1 (fun q h1 _ _ => o1 q (Nat.lt_of_lt_of_eq h1 hsz))
  have g3 := zkp g3 zRg_1 (fun q h1 _ _ => o1 q (Nat.lt_of_lt_of_eq h1 hsz))
  have g4 := zkp g4 zRg_1 (fun q h1 _ _ => o1 q (Nat.lt_of_lt_of_eq h1 hsz))
  have g5 := zkp g5 zRg_1 (fun q h1 _ _ => o1 q (Nat.lt_of_lt_of_eq h1 hsz))
  have g6 := zkp g6 zRg_1 (fun q h1 _ _ => o1 q (Nat.lt_of_lt_of_eq h1 hsz))
  have g7 : va_P E.1 zcl [((a + 7), .inl (E.2 1, 9, .inl (fun _ => 0)))] H13 := hN
  have hsz : H13.size = a + 8 := hz1
  refine W.cs (cells' := 7) (slots' := 207) rfl rfl ?_
  refine zPut (C := RX7) (T := TX7) (N := 8) (ci := 7) (v := .ref (a + 7)) (ty := .array .int) zc hK g0 (zD1 (Nat.le_refl a)) hS uw7 tyX7 tyX7_ok nmX7 0 rfl rfl 6 (by decide) kf_7_30 (fun _ h9 => h9) (Or.inr ⟨rfl, hin, rfl⟩) (by decide +kernel) rfl rfl (Nat.le_of_ble_eq_true rfl) dX7_init_57 (fun H14 locs hN oq hz1 hS => ?_)
  have g1 := zkp g1 zRg_1 (fun q _ h2 h3 => oq q (znA (a := a) (i := 1) (p := 0) h2 (Nat.le_of_ble_eq_true rfl)))
  have g2 := zkp g2 zRg_1 (fun q _ h2 h3 => oq q (znA (a := a) (i := 2) (p := 0) h2 (Nat.le_of_ble_eq_true rfl)))
  have g3 := zkp g3 zRg_1 (fun q _ h2 h3 => oq q (znA (a := a) (i := 3) (p := 0) h2 (Nat.le_of_ble_eq_true rfl)))
  have g4 := zkp g4 zRg_1 (fun q _ h2 h3 => oq q (znA (a := a) (i := 4) (p := 0) h2 (Nat.le_of_ble_eq_true rfl)))
  have g5 := zkp g5 zRg_1 (fun q _ h2 h3 => oq q (znA (a := a) (i := 5) (p := 0) h2 (Nat.le_of_ble_eq_true rfl)))
  have g6 := zkp g6 zRg_1 (fun q _ h2 h3 => oq q (znA (a := a) (i := 6) (p := 0) h2 (Nat.le_of_ble_eq_true rfl)))
  have g7 := zkp g7 zRg_1 (fun q _ h2 h3 => oq q (znA (a := a) (i := 7) (p := 0) h2 (Nat.le_of_ble_eq_true rfl)))
  have g0 : va_P E.1 zcl [(a, .inr (7, [.ref (a + 1), .ref (a + 2), .ref (a + 3), .ref (a + 4), .ref (a + 5), .ref (a + 6), .ref (a + 7), .null]))] H14 := hN
  have hsz := hz1.trans hsz
  refine lv_aload_n hx hb dX7_init_60 rfl (lv_at hl 0 rfl) ?_
  refine lv_bipush (v := (9 : Int32)) hx hb dX7_init_61 (by decide) ?_
  refine zNewa (ws := []) (atype := .int) (t := 1) (N := 9) (a0 := (9, .inl (fun _ => 0))) zc hK (fun k q h => by simp at h) hS hsz kac_I rfl (fun _ => rfl) (by decide) (by decide) (by decide) (Nat.le_of_ble_eq_true rfl) (Nat.le_of_ble_eq_true rfl) dX7_init_63 (fun H15 hN o1 hz1 hS => ?_)
  have g0 := zkp g0 zRg_1 (fun q h1 _ _ => o1 q (Nat.lt_of_lt_of_eq h1 hsz))
  have g1 := zkp g1 zRg_1 (fun q h1 _ _ => o1 q (Nat.lt_of_lt_of_eq h1 hsz))
  have g2 := zkp g2 zRg_1 (fun q h1 _ _ => o1 q (Nat.lt_of_lt_of_eq h1 hsz))
  have g3 := zkp g3 zRg_1 (fun q h1 _ _ => o1 q (Nat.lt_of_lt_of_eq h1 hsz))
  have g4 := zkp g4 zRg_1 (fun q h1 _ _ => o1 q (Nat.lt_of_lt_of_eq h1 hsz))
  have g5 := zkp g5 zRg_1 (fun q h1 _ _ => o1 q (Nat.lt_of_lt_of_eq h1 hsz))
  have g6 := zkp g6 zRg_1 (fun q h1 _ _ => o1 q (Nat.lt_of_lt_of_eq h1 hsz))
  have g7 := zkp g7 zRg_1 (fun q h1 _ _ => o1 q (Nat.lt_of_lt_of_eq h1 hsz))
  have g8 : va_P E.1 zcl [((a + 8), .inl (E.2 1, 9, .inl (fun _ => 0)))] H15 := hN
  have hsz : H15.size = a + 9 := hz1
  refine W.cs (cells' := 8) (slots' := 216) rfl rfl ?_
  refine zPut (C := RX7) (T := TX7) (N := 8) (ci := 7) (v := .ref (a + 8)) (ty := .array .int) zc hK g0 (zD1 (Nat.le_refl a)) hS uw7 tyX7 tyX7_ok nmX7 0 rfl rfl 7 (by decide) kf_7_33 (fun _ h9 => h9) (Or.inr ⟨rfl, hin, rfl⟩) (by decide +kernel) rfl rfl (Nat.le_of_ble_eq_true rfl) dX7_init_65 (fun H16 locs hN oq hz1 hS => ?_)
  have g1 := zkp g1 zRg_1 (fun q _ h2 h3 => oq q (znA (a := a) (i := 1) (p := 0) h2 (Nat.le_of_ble_eq_true rfl)))
  have g2 := zkp g2 zRg_1 (fun q _ h2 h3 => oq q (znA (a := a) (i := 2) (p := 0) h2 (Nat.le_of_ble_eq_true rfl)))
  have g3 := zkp g3 zRg_1 (fun q _ h2 h3 => oq q (znA (a := a) (i := 3) (p := 0) h2 (Nat.le_of_ble_eq_true rfl)))
  have g4 := zkp g4 zRg_1 (fun q _ h2 h3 => oq q (znA (a := a) (i := 4) (p := 0) h2 (Nat.le_of_ble_eq_true rfl)))
  have g5 := zkp g5 zRg_1 (fun q _ h2 h3 => oq q (znA (a := a) (i := 5) (p := 0) h2 (Nat.le_of_ble_eq_true rfl)))
  have g6 := zkp g6 zRg_1 (fun q _ h2 h3 => oq q (znA (a := a) (i := 6) (p := 0) h2 (Nat.le_of_ble_eq_true rfl)))
  have g7 := zkp g7 zRg_1 (fun q _ h2 h3 => oq q (znA (a := a) (i := 7) (p := 0) h2 (Nat.le_of_ble_eq_true rfl)))
  have g8 := zkp g8 zRg_1 (fun q _ h2 h3 => oq q (znA (a := a) (i := 8) (p := 0) h2 (Nat.le_of_ble_eq_true rfl)))
  have g0 : va_P E.1 zcl [(a, .inr (7, [.ref (a + 1), .ref (a + 2), .ref (a + 3), .ref (a + 4), .ref (a + 5), .ref (a + 6), .ref (a + 7), .ref (a + 8)]))] H16 := hN
  have hsz := hz1.trans hsz
  exact zIret (post := fun _ => True) (B := zJ E a 9 ([(a, .inr (7, [.ref (a + 1), .ref (a + 2), .ref (a + 3), .ref (a + 4), .ref (a + 5), .ref (a + 6), .ref (a + 7), .ref (a + 8)]))] ++ ([((a + 1), .inl (E.2 1, 81, .inl (fun _ => 0)))] ++ ([((a + 2), .inl (E.2 1, 81, .inl (fun _ => 0)))] ++ ([((a + 3), .inl (E.2 1, 9, .inl (fun _ => 0)))] ++ ([((a + 4), .inl (E.2 1, 9, .inl (fun _ => 0)))] ++ ([((a + 5), .inl (E.2 1, 9, .inl (fun _ => 0)))] ++ ([((a + 6), .inl (E.2 1, 9, .inl (fun _ => 0)))] ++ ([((a + 7), .inl (E.2 1, 9, .inl (fun _ => 0)))] ++ ([((a + 8), .inl (E.2 1, 9, .inl (fun _ => 0)))])))))))))) () zc hS trivial ⟨(va_P.app g0 (va_P.app g1 (va_P.app g2 (va_P.app g3 (va_P.app g4 (va_P.app g5 (va_P.app g6 (va_P.app g7 g8)))))))), hsz⟩ dX7_init_68
