abbrev rmi_X6_init : Room := { frames := 1, cells := 3, slots := 30, locals := 20 }
abbrev zb_X6_init (E : zE) (a : Nat) : va_W := ([(a, .inr (6, [.int 0, .ref (a + 1), .ref (a + 2), .ref (a + 3)]))] ++ ([((a + 1), .inl (E.2 1, 10, .inl (fun _ => 0)))] ++ ([((a + 2), .inl (E.2 1, 10, .inl (fun _ => 0)))] ++ ([((a + 3), .inl (E.2 1, 10, .inl (fun _ => 0)))]))))
theorem zrg_X6_init {E : zE} {a : Nat} : zRg (zb_X6_init E a) a (a + 4) := by
  exact ((zRg_1).mono (by omega) (by omega)).app (((zRg_1).mono (by omega) (by omega)).app (((zRg_1).mono (by omega) (by omega)).app ((zRg_1).mono (by omega) (by omega))))
set_option maxRecDepth 40000 in
set_option maxHeartbeats 4000000 in
theorem ci_X6_init (l : Launch) {E : zE} {a : Nat} : Met l yX6_init (Cond.code yX6_init cX6_init 1 none :: zb) rmi_X6_init (va_Pc [.ref a] (zI E a 6 [.int 0, .null, .null, .null])) (zQv (S := Unit) (fun _ => True) (zJ E a 4 (zb_X6_init E a)) (fun q => a ≤ q)) 3 30 (fun q => a ≤ q) := by
  refine Met.ofW (cc := cX6_init) (maxL := 1) (ret := none) (by decide) rfl ?_
  intro p e s m args below meth c s₁ B hml hv
  obtain ⟨rfl, hsz, g0, hK, hO⟩ := hv
  have zc := zc_of B hml
  have hx := zc.1
  have hb := zc.2.1
  have hz := zc.2.2.2.2.1
  have hin : meth.name = "<init>" := (name_of_methodNamed B.named B.method).1
  have hS : va_S (fun q => a ≤ q) s.heap s.heap [] := va_S.rf
  have hl := lv_entry ([.ref a]) (n := 1) (Nat.le_of_ble_eq_true rfl)
  rw [lg_entry_eq]
  generalize (lg_sl ([.ref a]) ++ List.replicate (1 - (lg_sl ([.ref a])).length) Slot.unset).toArray = ls at hl ⊢
  have hl : lv_has ls 1 [(0, .ref a)] := hl
  refine lv_aload_n hx hb dX6_init_0 rfl (lv_at hl 0 rfl) ?_
  refine W.objInit hx hb zc.2.2.2.1 (hz _ km_6_3) (hz _ k_oi) (hz _ k_oc) rfl (by rw [zc.2.2.1]; exact hl.1) rfl dX6_init_1 (Nat.le_of_ble_eq_true rfl) (Nat.le_of_ble_eq_true rfl) ?_
  refine W.eq (g2 := F0 m 4 ls []) rfl ?_
  refine lv_aload_n hx hb dX6_init_4 rfl (lv_at hl 0 rfl) ?_
  refine lv_bipush (v := (10 : Int32)) hx hb dX6_init_5 (by decide) ?_
  refine zNewa (ws := []) (atype := .int) (t := 1) (N := 10) (a0 := (10, .inl (fun _ => 0))) zc hK (fun k q h => by simp at h) hS hsz kac_I rfl (fun _ => rfl) (by decide) (by decide) (by decide) (Nat.le_of_ble_eq_true rfl) (Nat.le_of_ble_eq_true rfl) dX6_init_7 (fun H1 hN o1 hz1 hS => ?_)
  have g0 := zkp g0 zRg_1 (fun q h1 _ _ => o1 q (Nat.lt_of_lt_of_eq h1 hsz))
  have g1 : va_P E.1 zcl [((a + 1), .inl (E.2 1, 10, .inl (fun _ => 0)))] H1 := hN
  have hsz : H1.size = a + 2 := hz1
  refine W.cs (cells' := 1) (slots' := 10) rfl rfl ?_
  refine zPut (C := RX6) (T := TX6) (N := 4) (ci := 6) (v := .ref (a + 1)) (ty := .array .int) zc hK g0 (zD1 (Nat.le_refl a)) hS uw6 tyX6 tyX6_ok nmX6 0 rfl rfl 1 (by decide) kf_6_9 (fun _ h9 => h9) (Or.inr ⟨rfl, hin, rfl⟩) (by decide +kernel) rfl rfl (Nat.le_of_ble_eq_true rfl) dX6_init_9 (fun H2 locs hN oq hz1 hS => ?_)
  have g1 := zkp g1 zRg_1 (fun q _ h2 h3 => oq q (znA (a := a) (i := 1) (p := 0) h2 (Nat.le_of_ble_eq_true rfl)))
  have g0 : va_P E.1 zcl [(a, .inr (6, [.int 0, .ref (a + 1), .null, .null]))] H2 := hN
  have hsz := hz1.trans hsz
  refine lv_aload_n hx hb dX6_init_12 rfl (lv_at hl 0 rfl) ?_
  refine lv_bipush (v := (10 : Int32)) hx hb dX6_init_13 (by decide) ?_
  refine zNewa (ws := []) (atype := .int) (t := 1) (N := 10) (a0 := (10, .inl (fun _ => 0))) zc hK (fun k q h => by simp at h) hS hsz kac_I rfl (fun _ => rfl) (by decide) (by decide) (by decide) (Nat.le_of_ble_eq_true rfl) (Nat.le_of_ble_eq_true rfl) dX6_init_15 (fun H3 hN o1 hz1 hS => ?_)
  have g0 := zkp g0 zRg_1 (fun q h1 _ _ => o1 q (Nat.lt_of_lt_of_eq h1 hsz))
  have g1 := zkp g1 zRg_1 (fun q h1 _ _ => o1 q (Nat.lt_of_lt_of_eq h1 hsz))
  have g2 : va_P E.1 zcl [((a + 2), .inl (E.2 1, 10, .inl (fun _ => 0)))] H3 := hN
  have hsz : H3.size = a + 3 := hz1
  refine W.cs (cells' := 2) (slots' := 20) rfl rfl ?_
  refine zPut (C := RX6) (T := TX6) (N := 4) (ci := 6) (v := .ref (a + 2)) (ty := .array .int) zc hK g0 (zD1 (Nat.le_refl a)) hS uw6 tyX6 tyX6_ok nmX6 0 rfl rfl 2 (by decide) kf_6_15 (fun _ h9 => h9) (Or.inr ⟨rfl, hin, rfl⟩) (by decide +kernel) rfl rfl (Nat.le_of_ble_eq_true rfl) dX6_init_17 (fun H4 locs hN oq hz1 hS => ?_)
  have g1 := zkp g1 zRg_1 (fun q _ h2 h3 => oq q (znA (a := a) (i := 1) (p := 0) h2 (Nat.le_of_ble_eq_true rfl)))
  have g2 := zkp g2 zRg_1 (fun q _ h2 h3 => oq q (znA (a := a) (i := 2) (p := 0) h2 (Nat.le_of_ble_eq_true rfl)))
  have g0 : va_P E.1 zcl [(a, .inr (6, [.int 0, .ref (a + 1), .ref (a + 2), .null]))] H4 := hN
  have hsz := hz1.trans hsz
  refine lv_aload_n hx hb dX6_init_20 rfl (lv_at hl 0 rfl) ?_
  refine lv_bipush (v := (10 : Int32)) hx hb dX6_init_21 (by decide) ?_
  refine zNewa (ws := []) (atype := .int) (t := 1) (N := 10) (a0 := (10, .inl (fun _ => 0))) zc hK (fun k q h => by simp at h) hS hsz kac_I rfl (fun _ => rfl) (by decide) (by decide) (by decide) (Nat.le_of_ble_eq_true rfl) (Nat.le_of_ble_eq_true rfl) dX6_init_23 (fun H5 hN o1 hz1 hS => ?_)
  have g0 := zkp g0 zRg_1 (fun q h1 _ _ => o1 q (Nat.lt_of_lt_of_eq h1 hsz))
  have g1 := zkp g1 zRg_1 (fun q h1 _ _ => o1 q (Nat.lt_of_lt_of_eq h1 hsz))
  have g2 := zkp g2 zRg_1 (fun q h1 _ _ => o1 q (Nat.lt_of_lt_of_eq h1 hsz))
  have g3 : va_P E.1 zcl [((a + 3), .inl (E.2 1, 10, .inl (fun _ => 0)))] H5 := hN
  have hsz : H5.size = a + 4 := hz1
  refine W.cs (cells' := 3) (slots' := 30) rfl rfl ?_
  refine zPut (C := RX6) (T := TX6) (N := 4) (ci := 6) (v := .ref (a + 3)) (ty := .array .int) zc hK g0 (zD1 (Nat.le_refl a)) hS uw6 tyX6 tyX6_ok nmX6 0 rfl rfl 3 (by decide) kf_6_18 (fun _ h9 => h9) (Or.inr ⟨rfl, hin, rfl⟩) (by decide +kernel) rfl rfl (Nat.le_of_ble_eq_true rfl) dX6_init_25 (fun H6 locs hN oq hz1 hS => ?_)
  have g1 := zkp g1 zRg_1 (fun q _ h2 h3 => oq q (znA (a := a) (i := 1) (p := 0) h2 (Nat.le_of_ble_eq_true rfl)))
  have g2 := zkp g2 zRg_1 (fun q _ h2 h3 => oq q (znA (a := a) (i := 2) (p := 0) h2 (Nat.le_of_ble_eq_true rfl)))
  have g3 := zkp g3 zRg_1 (fun q _ h2 h3 => oq q (znA (a := a) (i := 3) (p := 0) h2 (Nat.le_of_ble_eq_true rfl)))
  have g0 : va_P E.1 zcl [(a, .inr (6, [.int 0, .ref (a + 1), .ref (a + 2), .ref (a + 3)]))] H6 := hN
  have hsz := hz1.trans hsz
  exact zIret (post := fun _ => True) (B := zJ E a 4 ([(a, .inr (6, [.int 0, .ref (a + 1), .ref (a + 2), .ref (a + 3)]))] ++ ([((a + 1), .inl (E.2 1, 10, .inl (fun _ => 0)))] ++ ([((a + 2), .inl (E.2 1, 10, .inl (fun _ => 0)))] ++ ([((a + 3), .inl (E.2 1, 10, .inl (fun _ => 0)))]))))) () zc hS trivial ⟨(va_P.app g0 (va_P.app g1 (va_P.app g2 g3))), hsz⟩ dX6_init_28
