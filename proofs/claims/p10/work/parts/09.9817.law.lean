theorem zs_len : ∀ i, i < 20 → sLen.getD i 0 < 2 ^ 31 := by decide +kernel
set_option maxHeartbeats 4000000 in
theorem zs_ref : ∀ i, i < 20 → Cond.stringRef RX4 (sEnt.getD i 0) (sTxt.getD i "") ∈ lw_tbl := fun i hi => match i, hi with
  | 0, _ => (List.mem_of_getElem? (i := 641) (by decide +kernel))
  | 1, _ => (List.mem_of_getElem? (i := 642) (by decide +kernel))
  | 2, _ => (List.mem_of_getElem? (i := 643) (by decide +kernel))
  | 3, _ => (List.mem_of_getElem? (i := 644) (by decide +kernel))
  | 4, _ => (List.mem_of_getElem? (i := 645) (by decide +kernel))
  | 5, _ => (List.mem_of_getElem? (i := 646) (by decide +kernel))
  | 6, _ => (List.mem_of_getElem? (i := 647) (by decide +kernel))
  | 7, _ => (List.mem_of_getElem? (i := 648) (by decide +kernel))
  | 8, _ => (List.mem_of_getElem? (i := 649) (by decide +kernel))
  | 9, _ => (List.mem_of_getElem? (i := 650) (by decide +kernel))
  | 10, _ => (List.mem_of_getElem? (i := 651) (by decide +kernel))
  | 11, _ => (List.mem_of_getElem? (i := 652) (by decide +kernel))
  | 12, _ => (List.mem_of_getElem? (i := 653) (by decide +kernel))
  | 13, _ => (List.mem_of_getElem? (i := 654) (by decide +kernel))
  | 14, _ => (List.mem_of_getElem? (i := 655) (by decide +kernel))
  | 15, _ => (List.mem_of_getElem? (i := 656) (by decide +kernel))
  | 16, _ => (List.mem_of_getElem? (i := 657) (by decide +kernel))
  | 17, _ => (List.mem_of_getElem? (i := 658) (by decide +kernel))
  | 18, _ => (List.mem_of_getElem? (i := 659) (by decide +kernel))
  | 19, _ => (List.mem_of_getElem? (i := 660) (by decide +kernel))
  | i + 20, h => absurd h (by omega)
theorem zZ_start {p : Program} {s : State} {m : MethodId} {meth : Method} {c : Code} {b L : Nat} {xs : Nat → Int32} (C0 : lw_At p s m meth c b L xs) : ∃ G : zG, zZ G (fun q => s.heap.size ≤ q) s s.heap := by
  obtain ⟨hx, hb, hr, hml, hown, hts, hX, hbl, hlocks, hgv⟩ := C0
  have hs := flat_of_before _ hgv
  have hA : ∀ a : Nat, a < s.heap.size → ¬ (fun q : Nat => s.heap.size ≤ q) a := fun a h => Nat.not_le.mpr h
  obtain ⟨t0, e0, T0⟩ := va_Tof (tm := .static RX4 "FIRST_WORDS" "[I") (ty := .int) (N := 5) (f := fun j => .int (tbf_0 j)) (by decide) (hs _ (by decide +kernel)) (va_eqt (hs _ (by decide +kernel))) (fun j hj => va_eqt (hs _ (zs_t0 j hj))) hA
  have Z0 := va_Zref (hts (.laysStatic RX4 "FIRST_WORDS" "[I") (List.mem_of_getElem? (i := 637) (by decide +kernel))) (hts (.initialized RX4) (List.mem_of_getElem? (i := 152) (by decide +kernel))) e0 hA
  obtain ⟨t1, e1, T1⟩ := va_Tof (tm := .static RX4 "NUMBERS" "[I") (ty := .int) (N := 20) (f := fun j => .int (tbf_1 j)) (by decide) (hs _ (by decide +kernel)) (va_eqt (hs _ (by decide +kernel))) (fun j hj => va_eqt (hs _ (zs_t1 j hj))) hA
  have Z1 := va_Zref (hts (.laysStatic RX4 "NUMBERS" "[I") (List.mem_of_getElem? (i := 726) (by decide +kernel))) (hts (.initialized RX4) (List.mem_of_getElem? (i := 152) (by decide +kernel))) e1 hA
  obtain ⟨t2, e2, T2⟩ := va_Tof (tm := .static RX4 "LEAST" "[I") (ty := .int) (N := 60) (f := fun j => .int (tbf_2 j)) (by decide) (hs _ (by decide +kernel)) (va_eqt (hs _ (by decide +kernel))) (fun j hj => va_eqt (hs _ (zs_t2 j hj))) hA
  have Z2 := va_Zref (hts (.laysStatic RX4 "LEAST" "[I") (List.mem_of_getElem? (i := 732) (by decide +kernel))) (hts (.initialized RX4) (List.mem_of_getElem? (i := 152) (by decide +kernel))) e2 hA
  obtain ⟨t3, e3, T3⟩ := va_Tof (tm := .static RX4 "MOST" "[I") (ty := .int) (N := 60) (f := fun j => .int (tbf_3 j)) (by decide) (hs _ (by decide +kernel)) (va_eqt (hs _ (by decide +kernel))) (fun j hj => va_eqt (hs _ (zs_t3 j hj))) hA
  have Z3 := va_Zref (hts (.laysStatic RX4 "MOST" "[I") (List.mem_of_getElem? (i := 734) (by decide +kernel))) (hts (.initialized RX4) (List.mem_of_getElem? (i := 152) (by decide +kernel))) e3 hA
  have Zc := va_Zof (hts (.laysStatic "java/lang/String" "COMPACT_STRINGS" "Z") (List.mem_of_getElem? (i := 674) (by decide +kernel))) (hts (.initialized "java/lang/String") (List.mem_of_getElem? (i := 160) (by decide +kernel))) (va_eqi (z := 1) (hs _ (by decide +kernel))) hA
  have Zf := va_Zqof (hts (.laysStatic "jdk/internal/util/Preconditions" "SIOOBE_FORMATTER" "Ljava/util/function/BiFunction;") (List.mem_of_getElem? (i := 690) (by decide +kernel))) (hts (.initialized "jdk/internal/util/Preconditions") (List.mem_of_getElem? (i := 162) (by decide +kernel))) (hs _ (by decide +kernel)) hA
  obtain ⟨adK, adV, hSt, hev⟩ := vk_Sof (N := 20) (tm := fun i => .string RX4 (sEnt.getD i 0)) (len := sLen) (byt := sByt) zs_len (fun i hi => hs _ (zs_ex i hi)) (fun i hi => hs _ (zs_co i hi)) (fun i hi => hs _ (zs_ar i hi)) (fun i hi => hs _ (zs_le i hi)) (fun i hi j hj => hs _ (zs_el i hi j hj)) (fun i j hi hj hne => (zs_ne i hi j hj hne).elim (fun h => Or.inl (hs _ h)) (fun h => Or.inr (hs _ h))) hA
  exact ⟨(adK, adV, fun k => match k with | 0 => t0 | 1 => t1 | 2 => t2 | _ => t3), ⟨Z0, Z1, Z2, Z3⟩, ⟨T0, T1, T2, T3⟩, ⟨Zc, Zf⟩, hSt, fun i hi => vk_R.of (hts _ (zs_ref i hi)) (hev i hi)⟩
