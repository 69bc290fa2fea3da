abbrev rmi_X3_init : Room := { frames := 1, cells := 5, slots := 35, locals := 20 }
abbrev zb_X3_init (E : zE) (a : Nat) : va_W := ([(a, .inr (3, [.int 0, .int 0, .int 0, .int 0, .int 0, .ref (a + 1), .ref (a + 2), .ref (a + 3), .ref (a + 4), .ref (a + 5)]))] ++ ([((a + 1), .inl (E.2 1, 6, .inl (fun _ => 0)))] ++ ([((a + 2), .inl (E.2 1, 6, .inl (fun _ => 0)))] ++ ([((a + 3), .inl (E.2 1, 5, .inl (fun _ => 0)))] ++ ([((a + 4), .inl (E.2 1, 9, .inl (fun _ => 0)))] ++ ([((a + 5), .inl (E.2 1, 9, .inl (fun _ => 0)))]))))))
theorem zrg_X3_init {E : zE} {a : Nat} : zRg (zb_X3_init E a) a (a + 6) := by
  exact ((zRg_1).mono (by omega) (by omega)).app (((zRg_1).mono (by omega) (by omega)).app (((zRg_1).mono (by omega) (by omega)).app (((zRg_1).mono (by omega) (by omega)).app (((zRg_1).mono (by omega) (by omega)).app ((zRg_1).mono (by omega) (by omega))))))
set_option maxRecDepth 40000 in
set_option maxHeartbeats 4000000 in
theorem ci_X3_init (l : Launch) {E : zE} {a : Nat} : Met l yX3_init (Cond.code yX3_init cX3_init 1 none :: zb) rmi_X3_init (va_Pc [.ref a] (zI E a 3 [.int 0, .int 0, .int 0, .int 0, .int 0, .null, .null, .null, .null, .null])) (zQv (S := Unit) (fun _ => True) (zJ E a 6 (zb_X3_init E a)) (fun q => a ≤ q)) 5 35 (fun q => a ≤ q) := by
  refine Met.ofW (cc := cX3_init) (maxL := 1) (ret := none) (by decide) rfl ?_
  intro p e s m args below meth c s₁ B hml hv
  obtain ⟨rfl, hsz, g0, hK, hO⟩ := hv
  have zc := zc_of B hml
  have hx := zc.1
  have hb := zc.2.1
  have hz := zc.2.2.2.2.1
  have hin : meth.name = "<init>" := (name_of_methodNamed B.named B.method).1
  have hS : va_S (fun q => a ≤ q) s.heap s.heap [] := va_S.rf
  have hl := lv_entry ([.ref a]) (n := 1) (Nat.le_of_ble_eq_true rfl)
  rw [lg_entry_eq]
  generalize (lg_sl ([.ref a]) ++ List.replicate (1 - (lg_sl ([.ref a])).length) Slot.unset).toArray = ls at hl ⊢
  have hl : lv_has ls 1 [(0, .ref a)] := hl
  refine lv_aload_n hx hb dX3_init_0 rfl (lv_at hl 0 rfl) ?_
  refine W.objInit hx hb zc.2.2.2.1 (hz _ km_3_3) (hz _ k_oi) (hz _ k_oc) rfl (by rw [zc.2.2.1]; exact hl.1) rfl dX3_init_1 (Nat.le_of_ble_eq_true rfl) (Nat.le_of_ble_eq_true rfl) ?_
  refine W.eq (g2 := F0 m 4 ls []) rfl ?_
  refine lv_aload_n hx hb dX3_init_4 rfl (lv_at hl 0 rfl) ?_
  refine lv_bipush (v := (6 : Int32)) hx hb dX3_init_5 (by decide) ?_
  refine zNewa (ws := []) (atype := .int) (t := 1) (N := 6) (a0 := (6, .inl (fun _ => 0))) zc hK (fun k q h => by simp at h) hS hsz kac_I rfl (fun _ => rfl) (by decide) (by decide) (by decide) (Nat.le_of_ble_eq_true rfl) (Nat.le_of_ble_eq_true rfl) dX3_init_7 (fun H1 hN o1 hz1 hS => ?_)
  have g0 := zkp g0 zRg_1 (fun q h1 _ _ => o1 q (Nat.lt_of_lt_of_eq h1 hsz))
  have g1 : va_P E.1 zcl [((a + 1), .inl (E.2 1, 6, .inl (fun _ => 0)))] H1 := hN
  have hsz : H1.size = a + 2 := hz1
  refine W.cs (cells' := 1) (slots' := 6) rfl rfl ?_
  refine zPut (C := RX3) (T := TX3) (N := 10) (ci := 3) (v := .ref (a + 1)) (ty := .array .int) zc hK g0 (zD1 (Nat.le_refl a)) hS uw3 tyX3 tyX3_ok nmX3 0 rfl rfl 5 (by decide) kf_3_9 (fun _ h9 => h9) (Or.inr ⟨rfl, hin, rfl⟩) (by decide +kernel) rfl rfl (Nat.le_of_ble_eq_true rfl) dX3_init_9 (fun H2 locs hN oq hz1 hS => ?_)
  have g1 := zkp g1 zRg_1 (fun q _ h2 h3 => oq q (znA (a := a) (i := 1) (p := 0) h2 (Nat.le_of_ble_eq_true rfl)))
  have g0 : va_P E.1 zcl [(a, .inr (3, [.int 0, .int 0, .int 0, .int 0, .int 0, .ref (a + 1), .null, .null, .null, .null]))] H2 := hN
  have hsz := hz1.trans hsz
  refine lv_aload_n hx hb dX3_init_12 rfl (lv_at hl 0 rfl) ?_
  refine lv_bipush (v := (6 : Int32)) hx hb dX3_init_13 (by decide) ?_
  refine zNewa (ws := []) (atype := .int) (t := 1) (N := 6) (a0 := (6, .inl (fun _ => 0))) zc hK (fun k q h => by simp at h) hS hsz kac_I rfl (fun _ => rfl) (by decide) (by decide) (by decide) (Nat.le_of_ble_eq_true rfl) (Nat.le_of_ble_eq_true rfl) dX3_init_15 (fun H3 hN o1 hz1 hS => ?_)
  have g0 := zkp g0 zRg_1 (fun q h1 _ _ => o1 q (Nat.lt_of_lt_of_eq h1 hsz))
  have g1 := zkp g1 zRg_1 (fun q h1 _ _ => o1 q (Nat.lt_of_lt_of_eq h1 hsz))
  have g2 : va_P E.1 zcl [((a + 2), .inl (E.2 1, 6, .inl (fun _ => 0)))] H3 := hN
  have hsz : H3.size = a + 3 := hz1
  refine W.cs (cells' := 2) (slots' := 12) rfl rfl ?_
  refine zPut (C := RX3) (T := TX3) (N := 10) (ci := 3) (v := .ref (a + 2)) (ty := .array .int) zc hK g0 (zD1 (Nat.le_refl a)) hS uw3 tyX3 tyX3_ok nmX3 0 rfl rfl 6 (by decide) kf_3_15 (fun _ h9 => h9) (Or.inr ⟨rfl, hin, rfl⟩) (by decide +kernel) rfl rfl (Nat.le_of_ble_eq_true rfl) dX3_init_17 (fun H4 locs hN oq hz1 hS => ?_)
  have g1 := zkp g1 zRg_1 (fun q _ h2 h3 => oq q (znA (a := a) (i := 1) (p := 0) h2 (Nat.le_of_ble_eq_true rfl)))
  have g2 := zkp g2 zRg_1 (fun q _ h2 h3 => oq q (znA (a := a) (i := 2) (p := 0) h2 (Nat.le_of_ble_eq_true rfl)))
  have g0 : va_P E.1 zcl [(a, .inr (3, [.int 0, .int 0, .int 0, .int 0, .int 0, .ref (a + 1), .ref (a + 2), .null, .null, .null]))] H4 := hN
  have hsz := hz1.trans hsz
  refine lv_aload_n hx hb dX3_init_20 rfl (lv_at hl 0 rfl) ?_
  refine lv_iconst (v := (5 : Int32)) hx hb dX3_init_21 (by decide) ?_
  refine zNewa (ws := []) (atype := .int) (t := 1) (N := 5) (a0 := (5, .inl (fun _ => 0))) zc hK (fun k q h => by simp at h) hS hsz kac_I rfl (fun _ => rfl) (by decide) (by decide) (by decide) (Nat.le_of_ble_eq_true rfl) (Nat.le_of_ble_eq_true rfl) dX3_init_22 (fun H5 hN o1 hz1 hS => ?_)
  have g0 := zkp g0 zRg_1 (fun q h1 _ _ => o1 q (Nat.lt_of_lt_of_eq h1 hsz))
  have g1 := zkp g1 zRg_1 (fun q h1 _ _ => o1 q (Nat.lt_of_lt_of_eq h1 hsz))
  have g2 := zkp g2 zRg_1 (fun q h1 _ _ => o1 q (Nat.lt_of_lt_of_eq h1 hsz))
  have g3 : va_P E.1 zcl [((a + 3), .inl (E.2 1, 5, .inl (fun _ => 0)))] H5 := hN
  have hsz : H5.size = a + 4 := hz1
  refine W.cs (cells' := 3) (slots' := 17) rfl rfl ?_
  refine zPut (C := RX3) (T := TX3) (N := 10) (ci := 3) (v := .ref (a + 3)) (ty := .array .int) zc hK g0 (zD1 (Nat.le_refl a)) hS uw3 tyX3 tyX3_ok nmX3 0 rfl rfl 7 (by decide) kf_3_18 (fun _ h9 => h9) (Or.inr ⟨rfl, hin, rfl⟩) (by decide +kernel) rfl rfl (Nat.le_of_ble_eq_true rfl) dX3_init_24 (fun H6 locs hN oq hz1 hS => ?_)
  have g1 := zkp g1 zRg_1 (fun q _ h2 h3 => oq q (znA (a := a) (i := 1) (p := 0) h2 (Nat.le_of_ble_eq_true rfl)))
  have g2 := zkp g2 zRg_1 (fun q _ h2 h3 => oq q (znA (a := a) (i := 2) (p := 0) h2 (Nat.le_of_ble_eq_true rfl)))
  have g3 := zkp g3 zRg_1 (fun q _ h2 h3 => oq q (znA (a := a) (i := 3) (p := 0) h2 (Nat.le_of_ble_eq_true rfl)))
  have g0 : va_P E.1 zcl [(a, .inr (3, [.int 0, .int 0, .int 0, .int 0, .int 0, .ref (a + 1), .ref (a + 2), .ref (a + 3), .null, .null]))] H6 := hN
  have hsz := hz1.trans hsz
  refine lv_aload_n hx hb dX3_init_27 rfl (lv_at hl 0 rfl) ?_
  refine lv_bipush (v := (9 : Int32)) hx hb dX3_init_28 (by decide) ?_
  refine zNewa (ws := []) (atype := .int) (t := 1) (N := 9) (a0 := (9, .inl (fun _ => 0))) zc hK (fun k q h => by simp at h) hS hsz kac_I rfl (fun _ => rfl) (by decide) (by decide) (by decide) (Nat.le_of_ble_eq_true rfl) (Nat.le_of_ble_eq_true rfl) dX3_init_30 (fun H7 hN o1 hz1 hS => ?_)
  have g0 := zkp g0 zRg_1 (fun q h1 _ _ => o1 q (Nat.lt_of_lt_of_eq h1 hsz))
  have g1 := zkp g1 zRg_1 (fun q h1 _ _ => o1 q (Nat.lt_of_lt_of_eq h1 hsz))
  have g2 := zkp g2 zRg_1 (fun q h1 _ _ => o1 q (Nat.lt_of_lt_of_eq h1 hsz))
  have g3 := zkp g3 zRg_1 (fun q h1 _ _ => o1 q (Nat.lt_of_lt_of_eq h1 hsz))
  have g4 : va_P E.1 zcl [((a + 4), .inl (E.2 1, 9, .inl (fun _ => 0)))] H7 := hN
  have hsz : H7.size = a + 5 := hz1
  refine W.cs (cells' := 4) (slots' := 26) rfl rfl ?_
  refine zPut (C := RX3) (T := TX3) (N := 10) (ci := 3) (v := .ref (a + 4)) (ty := .array .int) zc hK g0 (zD1 (Nat.le_refl a)) hS uw3 tyX3 tyX3_ok nmX3 0 rfl rfl 8 (by decide) kf_3_21 (fun _ h9 => h9) (Or.inr ⟨rfl, hin, rfl⟩) (by decide +kernel) rfl rfl (Nat.le_of_ble_eq_true rfl) dX3_init_32 (fun H8 locs hN oq hz1 hS => ?_)
  have g1 := zkp g1 zRg_1 (fun q _ h2 h3 => oq q (znA (a := a) (i := 1) (p := 0) h2 (Nat.le_of_ble_eq_true rfl)))
  have g2 := zkp g2 zRg_1 (fun q _ h2 h3 => oq q (znA (a := a) (i := 2) (p := 0) h2 (Nat.le_of_ble_eq_true rfl)))
  have g3 := zkp g3 zRg_1 (fun q _ h2 h3 => oq q (znA (a := a) (i := 3) (p := 0) h2 (Nat.le_of_ble_eq_true rfl)))
  have g4 := zkp g4 zRg_1 (fun q _ h2 h3 => oq q (znA (a := a) (i := 4) (p := 0) h2 (Nat.le_of_ble_eq_true rfl)))
  have g0 : va_P E.1 zcl [(a, .inr (3, [.int 0, .int 0, .int 0, .int 0, .int 0, .ref (a + 1), .ref (a + 2), .ref (a + 3), .ref (a + 4), .null]))] H8 := hN
  have hsz := hz1.trans hsz
  refine lv_aload_n hx hb dX3_init_35 rfl (lv_at hl 0 rfl) ?_
  refine lv_bipush (v := (9 : Int32)) hx hb dX3_init_36 (by decide) ?_
  refine zNewa (ws := []) (atype := .int) (t := 1) (N := 9) (a0 := (9, .inl (fun _ => 0))) zc hK (fun k q h => by simp at h) hS hsz kac_I rfl (fun _ => rfl) (by decide) (by decide) (by decide) (Nat.le_of_ble_eq_true rfl) (Nat.le_of_ble_eq_true rfl) dX3_init_38 (fun H9 hN o1 hz1 hS => ?_)
  have g0 := zkp g0 zRg_1 (fun q h1 _ _ => o1 q (Nat.lt_of_lt_of_eq h1 hsz))
  have g1 := zkp g1 zRg_1 (fun q h1 _ _ => o1 q (Nat.lt_of_lt_of_eq h1 hsz))
  have g2 := zkp g2 zRg_1 (fun q h1 _ _ => o1 q (Nat.lt_of_lt_of_eq h1 hsz))
  have g3 := zkp g3 zRg_1 (fun q h1 _ _ => o1 q (Nat.lt_of_lt_of_eq h1 hsz))
  have g4 := zkp g4 zRg_1 (fun q h1 _ _ => o1 q (Nat.lt_of_lt_of_eq h1 hsz))
  have g5 : va_P E.1 zcl [((a + 5), .inl (E.2 1, 9, .inl (fun _ => 0)))] H9 := hN
  have hsz : H9.size = a + 6 := hz1
  refine W.cs (cells' := 5) (slots' := 35) rfl rfl ?_
  refine zPut (C := RX3) (T := TX3) (N := 10) (ci := 3) (v := .ref (a + 5)) (ty := .array .int) zc hK g0 (zD1 (Nat.le_refl a)) hS uw3 tyX3 tyX3_ok nmX3 0 rfl rfl 9 (by decide) kf_3_24 (fun _ h9 => h9) (Or.inr ⟨rfl, hin, rfl⟩) (by decide +kernel) rfl rfl (Nat.le_of_ble_eq_true rfl) dX3_init_40 (fun H10 locs hN oq hz1 hS => ?_)
  have g1 := zkp g1 zRg_1 (fun q _ h2 h3 => oq q (znA (a := a) (i := 1) (p := 0) h2 (Nat.le_of_ble_eq_true rfl)))
  have g2 := zkp g2 zRg_1 (fun q _ h2 h3 => oq q (znA (a := a) (i := 2) (p := 0) h2 (Nat.le_of_ble_eq_true rfl)))
  have g3 := zkp g3 zRg_1 (fun q _ h2 h3 => oq q (znA (a := a) (i := 3) (p := 0) h2 (Nat.le_of_ble_eq_true rfl)))
  have g4 := zkp g4 zRg_1 (fun q _ h2 h3 => oq q (znA (a := a) (i := 4) (p := 0) h2 (Nat.le_of_ble_eq_true rfl)))
  have g5 := zkp g5 zRg_1 (fun q _ h2 h3 => oq q (znA (a := a) (i := 5) (p := 0) h2 (Nat.le_of_ble_eq_true rfl)))
  have g0 : va_P E.1 zcl [(a, .inr (3, [.int 0, .int 0, .int 0, .int 0, .int 0, .ref (a + 1), .ref (a + 2), .ref (a + 3), .ref (a + 4), .ref (a + 5)]))] H10 := hN
  have hsz := hz1.trans hsz
  exact zIret (post := fun _ => True) (B := zJ E a 6 ([(a, .inr (3, [.int 0, .int 0, .int 0, .int 0, .int 0, .ref (a + 1), .ref (a + 2), .ref (a + 3), .ref (a + 4), .ref (a + 5)]))] ++ ([((a + 1), .inl (E.2 1, 6, .inl (fun _ => 0)))] ++ ([((a + 2), .inl (E.2 1, 6, .inl (fun _ => 0)))] ++ ([((a + 3), .inl (E.2 1, 5, .inl (fun _ => 0)))] ++ ([((a + 4), .inl (E.2 1, 9, .inl (fun _ => 0)))] ++ ([((a + 5), .inl (E.2 1, 9, .inl (fun _ => 0)))]))))))) () zc hS trivial ⟨(va_P.app g0 (va_P.app g1 (va_P.app g2 (va_P.app g3 (va_P.app g4 g5))))), hsz⟩ dX3_init_43
