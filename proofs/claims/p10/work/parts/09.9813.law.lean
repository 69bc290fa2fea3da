theorem zArrP {args : Array Value} {s : State} {ty : FieldType} (h : (Cond.arrayClass ty).before args s = true) : ∃ cA, ArrOfT s cA ty ∧ s.vm.findClass ("[" ++ ty.toString) = some cA := by
  obtain ⟨c, k, comp, h1, h2, h3⟩ := Cond.arrayClass_spec h
  exact ⟨c, fun n z => ⟨fun k h => (by cases h), k, h2, comp, h3⟩, h1⟩
theorem zArrQ {s : State} {C : String} (h : va_AO C s) : ∃ cA, ArrOfT s cA (.object C) ∧ va_RA s cA (.object C) := by
  obtain ⟨comp, c, k, h1, h2, h3, h4, h5⟩ := Cond.arrayOver_spec h
  exact ⟨c, fun n z => ⟨fun k h => (by cases h), k, h3, comp, h4⟩, k, comp, h3, h4, h1, h5⟩
theorem zK_start {p : Program} {s : State} {m : MethodId} {meth : Method} {c : Code} {b L : Nat} {xs : Nat → Int32} (C0 : lw_At p s m meth c b L xs) : ∃ E : zE, zK E s ∧ zO s := by
  obtain ⟨hx, hb, hr, hml, hown, hts, hX, hbl, hlocks, hgv⟩ := C0
  obtain ⟨c0, i0, h0⟩ := u_known (C := RX0) (T := TX0) (N := 4) (n := 4) hts (fun w hw => zb_in (uw0 w hw)) (hts (.instantiable RX0 4) (zb_in kins_0))
  obtain ⟨c1, i1, h1⟩ := u_known (C := RX1) (T := TX1) (N := 4) (n := 4) hts (fun w hw => zb_in (uw1 w hw)) (hts (.instantiable RX1 4) (zb_in kins_1))
  obtain ⟨c2, i2, h2⟩ := u_known (C := RX2) (T := TX2) (N := 15) (n := 15) hts (fun w hw => zb_in (uw2 w hw)) (hts (.instantiable RX2 15) (zb_in kins_2))
  obtain ⟨c3, i3, h3⟩ := u_known (C := RX3) (T := TX3) (N := 10) (n := 10) hts (fun w hw => zb_in (uw3 w hw)) (hts (.instantiable RX3 10) (zb_in kins_3))
  obtain ⟨c4, i4, h4⟩ := u_known (C := RX4) (T := TX4) (N := 15) (n := 15) hts (fun w hw => zb_in (uw4 w hw)) (hts (.instantiable RX4 15) (zb_in kins_4))
  obtain ⟨c5, i5, h5⟩ := u_known (C := RX5) (T := TX5) (N := 3) (n := 3) hts (fun w hw => zb_in (uw5 w hw)) (hts (.instantiable RX5 3) (zb_in kins_5))
  obtain ⟨c6, i6, h6⟩ := u_known (C := RX6) (T := TX6) (N := 4) (n := 4) hts (fun w hw => zb_in (uw6 w hw)) (hts (.instantiable RX6 4) (zb_in kins_6))
  obtain ⟨c7, i7, h7⟩ := u_known (C := RX7) (T := TX7) (N := 8) (n := 8) hts (fun w hw => zb_in (uw7 w hw)) (hts (.instantiable RX7 8) (zb_in kins_7))
  obtain ⟨c8, i8, h8⟩ := u_known (C := RX8) (T := TX8) (N := 2) (n := 2) hts (fun w hw => zb_in (uw8 w hw)) (hts (.instantiable RX8 2) (zb_in kins_8))
  obtain ⟨c9, i9, h9⟩ := u_known (C := RX9) (T := TX9) (N := 9) (n := 9) hts (fun w hw => zb_in (uw9 w hw)) (hts (.instantiable RX9 9) (zb_in kins_9))
  obtain ⟨c10, i10, h10⟩ := u_known (C := RX10) (T := TX10) (N := 7) (n := 7) hts (fun w hw => zb_in (uw10 w hw)) (hts (.instantiable RX10 7) (zb_in kins_10))
  obtain ⟨c11, i11, h11⟩ := u_known (C := RX11) (T := TX11) (N := 52) (n := 52) hts (fun w hw => zb_in (uw11 w hw)) (hts (.instantiable RX11 52) (zb_in kins_11))
  obtain ⟨t0, a0, n0⟩ := zArrP (hts _ (zb_in kac_B))
  obtain ⟨t1, a1, n1⟩ := zArrP (hts _ (zb_in kac_I))
  obtain ⟨t2, a2, n2⟩ := zArrP (hts _ (zb_in kac_J))
  obtain ⟨t3, a3, n3⟩ := zArrP (hts _ (zb_in kac_Z))
  have o4 : va_AO RX2 s := va_AO.of (hts (.arrayOver (.object RX2)) (List.mem_of_getElem? (i := 181) (by decide +kernel)))
  obtain ⟨t4, a4, n4⟩ := zArrQ o4
  have o5 : va_AO RX1 s := va_AO.of (hts (.arrayOver (.object RX1)) (List.mem_of_getElem? (i := 272) (by decide +kernel)))
  obtain ⟨t5, a5, n5⟩ := zArrQ o5
  have o6 : va_AO RX6 s := va_AO.of (hts (.arrayOver (.object RX6)) (List.mem_of_getElem? (i := 298) (by decide +kernel)))
  obtain ⟨t6, a6, n6⟩ := zArrQ o6
  have o7 : va_AO RX0 s := va_AO.of (hts (.arrayOver (.object RX0)) (List.mem_of_getElem? (i := 324) (by decide +kernel)))
  obtain ⟨t7, a7, n7⟩ := zArrQ o7
  have o8 : va_AO RX9 s := va_AO.of (hts (.arrayOver (.object RX9)) (List.mem_of_getElem? (i := 385) (by decide +kernel)))
  obtain ⟨t8, a8, n8⟩ := zArrQ o8
  refine ⟨((fun k => match k with | 0 => c0 | 1 => c1 | 2 => c2 | 3 => c3 | 4 => c4 | 5 => c5 | 6 => c6 | 7 => c7 | 8 => c8 | 9 => c9 | 10 => c10 | _ => c11, fun k => match k with | 0 => i0 | 1 => i1 | 2 => i2 | 3 => i3 | 4 => i4 | 5 => i5 | 6 => i6 | 7 => i7 | 8 => i8 | 9 => i9 | 10 => i10 | _ => i11), fun k => match k with | 0 => t0 | 1 => t1 | 2 => t2 | 3 => t3 | 4 => t4 | 5 => t5 | 6 => t6 | 7 => t7 | _ => t8), ⟨⟨?_, ?_⟩, ?_⟩, ?_⟩
  · intro k q hq
    match k, hq with
    | 0, hq => cases hq; exact h0
    | 1, hq => cases hq; exact h1
    | 2, hq => cases hq; exact h2
    | 3, hq => cases hq; exact h3
    | 4, hq => cases hq; exact h4
    | 5, hq => cases hq; exact h5
    | 6, hq => cases hq; exact h6
    | 7, hq => cases hq; exact h7
    | 8, hq => cases hq; exact h8
    | 9, hq => cases hq; exact h9
    | 10, hq => cases hq; exact h10
    | 11, hq => cases hq; exact h11
    | k + 12, hq => simp at hq
  · intro k q hq
    match k, hq with
    | 0, hq => cases hq; exact ⟨a0, n0⟩
    | 1, hq => cases hq; exact ⟨a1, n1⟩
    | 2, hq => cases hq; exact ⟨a2, n2⟩
    | 3, hq => cases hq; exact ⟨a3, n3⟩
    | 4, hq => cases hq; exact ⟨a4, n4⟩
    | 5, hq => cases hq; exact ⟨a5, n5⟩
    | 6, hq => cases hq; exact ⟨a6, n6⟩
    | 7, hq => cases hq; exact ⟨a7, n7⟩
    | 8, hq => cases hq; exact ⟨a8, n8⟩
    | k + 9, hq => simp at hq
  · intro w hw
    have h9 := hts w (znest_in w hw)
    obtain ⟨a, i, y, b2, rfl⟩ := znest_form w hw
    exact va_Nw.of rfl h9
  · intro C hC
    simp only [zover, List.mem_cons, List.not_mem_nil, or_false] at hC
    rcases hC with rfl | rfl | rfl | rfl | rfl
    · exact o4
    · exact o5
    · exact o6
    · exact o7
    · exact o8

