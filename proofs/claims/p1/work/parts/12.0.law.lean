theorem p1_gt : ∀ L, L < 7 → Int32.ofNat L - 6 < 6 := by decide
theorem p1_gt0 : ∀ L, L < 6 → Int32.ofNat L - 6 < nI 0 := by decide
theorem p1_end {p : Program} {l : Launch} {e : Env} {s : State} {m : MethodId} {below : List Frame} {meth : Method} {c : Code} {b L cells slots : Nat} {xs : Nat → Int32} {H : Heap} {locs : List Loc} {ls : Array Slot} (C0 : lw_At p s m meth c b L xs) (hcs : cells ≤ 600000 ∧ slots ≤ 7302250) (hS : va_S (fun q => s.heap.size ≤ q) s.heap H locs) : W p l e room_1 s m #[Value.ref b] below meth c H locs cells slots (lw_Z below #[Value.ref b] s) (F0 m 1655 ls []) := by
  obtain ⟨hx, hb, hr, hml, hown, hts, hX0, hbl, hlocks, hgv⟩ := id C0
  have zc : zC p s m #[Value.ref b] meth c cL_law 4 RL ret := ⟨hx, hb, hml, hown, fun w hw => hts w (zb_in hw), hr, hlocks⟩
  have hbA : ¬ (fun q : Nat => s.heap.size ≤ q) b := Nat.not_le.mpr hbl
  refine va_forget (fun q hq => hS.2.2 q hq) ?_
  refine W.widen (k := 600000) (n := 7302250) hcs.1 hcs.2 ?_
  refine lv_iconst (v := (1 : Int32)) hx hb dL_law_1655 (by decide) ?_
  exact lw_ret hx hb hr hlocks dL_law_1656
theorem p1_back {p : Program} {l : Launch} {e : Env} {s : State} {m : MethodId} {below : List Frame} {meth : Method} {c : Code} {b L bx bm cells slots : Nat} {xs : Nat → Int32} {H : Heap} {locs : List Loc} {ls : Array Slot} (C0 : lw_At p s m meth c b L xs) (hL : L ≤ 6) (hcs : cells ≤ 600000 ∧ slots ≤ 7302250) (hS : va_S (fun q => s.heap.size ≤ q) s.heap H locs) (hl : lv_has ls 4 [(0, .ref b), (1, .ref bx), (2, .ref bm), (3, .int (nI 0))]) : W p l e room_1 s m #[Value.ref b] below meth c H locs cells slots (lw_Z below #[Value.ref b] s) (F0 m 1649 ls []) := by
  obtain ⟨hx, hb, hr, hml, hown, hts, hX0, hbl, hlocks, hgv⟩ := id C0
  have zc : zC p s m #[Value.ref b] meth c cL_law 4 RL ret := ⟨hx, hb, hml, hown, fun w hw => hts w (zb_in hw), hr, hlocks⟩
  have hbA : ¬ (fun q : Nat => s.heap.size ≤ q) b := Nat.not_le.mpr hbl
  obtain ⟨v, ev⟩ : ∃ y : Int32, y = nI 0 + (6 : Int32) := ⟨_, rfl⟩
  refine lv_iinc (v := v) (k := 3) (lv' := [(3, .int v), (0, .ref b), (1, .ref bx), (2, .ref bm)]) hx hb dL_law_1649 hl rfl (by rw [ev]; rfl) (by decide) rfl (fun ls hl => ?_)
  have e6 : v = 6 := by rw [ev]; decide
  subst e6
  refine lv_goto (tgt := 18) hx hb dL_law_1652 (by decide) ?_
  refine lv_iload_n hx hb dL_law_18 rfl (lv_at hl 0 rfl) ?_
  refine lv_aload_n hx hb dL_law_19 rfl (lv_at hl 1 rfl) ?_
  refine va_slen hx hb hX0 hbl hbA hS dL_law_20 ?_
  refine lv_bipush (v := (6 : Int32)) hx hb dL_law_21 (by decide) ?_
  refine lv_isub hx hb dL_law_23 ?_
  refine lv_icmp_gt (tgt := 1655) hx hb dL_law_24 (by decide) (fun hd => ?_) (fun hd => absurd (p1_gt L (by omega)) hd)
  exact p1_end C0 hcs hS
