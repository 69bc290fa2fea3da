section
set_option maxRecDepth 40000 in
set_option maxHeartbeats 4000000 in
theorem g_11 {p : Program} {l : Launch} {e : Env} {s : State} {m : MethodId} {below : List Frame} {meth : Method} {c : Code} {E : zE} {G : zG} {b L i bx bm cells slots : Nat} {xs : Nat → Int32} {mi : Nat → Option Nat} {ko : Option Nat} {T : TT} {M : Nat → Nat → Int32} {I : Nat → TT} {H : Heap} {locs : List Loc} {ls : Array Slot} (hi : i + 6 ≤ L) (hL : L ≤ 3072) (hR : RG T M I mi) (hcs : cells + 47 ≤ room_1.cells ∧ slots + 4608 ≤ room_1.slots) (C0 : lw_At p s m meth c b L xs) (hbx : s.heap.size ≤ bx) (hbm : bx + 93 ≤ bm) (hK : zK E s) (hO : zO s ∧ zZ G (fun q => s.heap.size ≤ q) s s.heap) (hG : GG E bx bm mi ko T M I H) (hS : va_S (fun q => s.heap.size ≤ q) s.heap H locs) (hl : lv_has ls 4 [(0, .ref b), (1, .ref bx), (2, .ref bm), (3, .int (nI i))])
    (kk : ∀ (mi : Nat → Option Nat) (ko : Option Nat) (T : TT) (M : Nat → Nat → Int32) (I : Nat → TT) (H : Heap) (locs : List Loc) (cells' slots' : Nat), cells' ≤ cells + 47 → slots' ≤ slots + 4608 → RG T M I mi → GG E bx bm mi ko T M I H → va_S (fun q => s.heap.size ≤ q) s.heap H locs → W p l e room_1 s m #[Value.ref b] below meth c H locs cells' slots' (lw_Z below #[Value.ref b] s) (F0 m 1647 ls [])) : W p l e room_1 s m #[Value.ref b] below meth c H locs cells slots (lw_Z below #[Value.ref b] s) (F0 m 613 ls []) := by
  obtain ⟨hx, hb, hr, hml, hown, hts, hX0, hbl, hlocks, hgv⟩ := id C0
  have zc : zC p s m #[Value.ref b] meth c cL_law 4 RL ret := ⟨hx, hb, hml, hown, fun w hw => hts w (zb_in hw), hr, hlocks⟩
  have hbA : ¬ (fun q : Nat => s.heap.size ≤ q) b := Nat.not_le.mpr hbl
  refine lv_aload_n hx hb dL_law_613 rfl (lv_at hl 1 rfl) ?_
  refine lv_aload_n hx hb dL_law_614 rfl (lv_at hl 0 rfl) ?_
  refine lv_iload_n hx hb dL_law_615 rfl (lv_at hl 3 rfl) ?_
  refine lv_iconst (v := (1 : Int32)) hx hb dL_law_616 (by decide) ?_
  refine lv_iadd hx hb dL_law_617 ?_
  refine va_sld hx hb hX0 hbl hbA hS (zidx (k := 1) hi hL rfl (by decide)) dL_law_618 ?_
  refine lv_aload_n hx hb dL_law_619 rfl (lv_at hl 0 rfl) ?_
  refine lv_iload_n hx hb dL_law_620 rfl (lv_at hl 3 rfl) ?_
  refine lv_iconst (v := (2 : Int32)) hx hb dL_law_621 (by decide) ?_
  refine lv_iadd hx hb dL_law_622 ?_
  refine va_sld hx hb hX0 hbl hbA hS (zidx (k := 2) hi hL rfl (by decide)) dL_law_623 ?_
  refine lv_if_eq (tgt := 631) hx hb dL_law_624 (by decide) (fun hc0 => ?_) (fun hc0 => ?_)
  ·
    refine lv_iconst (v := (0 : Int32)) hx hb dL_law_631 (by decide) ?_
    have hB0 := tB_of hG.2.2.2.1
    have hI0 := tBI_of hG.2.2.1
    refine gx_best [] hcs C0 hbx hbm hK hO hG hS hl.1 (Nat.le_of_ble_eq_true rfl) kmL_62 dL_law_632 (fun r1 mi' ko' T' I' H locs cells' slots' hx1 e1 e2 hG1 hS1 => ?_)
    obtain ⟨rfl, rfl, rfl⟩ := hx1
    have hG := hG1
    have hS := hS1
    refine lv_pop hx hb dL_law_635 rfl ?_
    refine lv_aload_n hx hb dL_law_636 rfl (lv_at hl 2 rfl) ?_
    refine lv_aload_n hx hb dL_law_637 rfl (lv_at hl 0 rfl) ?_
    refine lv_iload_n hx hb dL_law_638 rfl (lv_at hl 3 rfl) ?_
    refine lv_iconst (v := (1 : Int32)) hx hb dL_law_639 (by decide) ?_
    refine lv_iadd hx hb dL_law_640 ?_
    refine va_sld hx hb hX0 hbl hbA hS (zidx (k := 1) hi hL rfl (by decide)) dL_law_641 ?_
    refine lv_aload_n hx hb dL_law_642 rfl (lv_at hl 0 rfl) ?_
    refine lv_iload_n hx hb dL_law_643 rfl (lv_at hl 3 rfl) ?_
    refine lv_iconst (v := (2 : Int32)) hx hb dL_law_644 (by decide) ?_
    refine lv_iadd hx hb dL_law_645 ?_
    refine va_sld hx hb hX0 hbl hbA hS (zidx (k := 2) hi hL rfl (by decide)) dL_law_646 ?_
    refine lv_if_eq (tgt := 654) hx hb dL_law_647 (by decide) (fun hc11 => ?_) (fun hc11 => ?_)
    ·
      refine lv_iconst (v := (0 : Int32)) hx hb dL_law_654 (by decide) ?_
      refine gm_best [] ⟨Nat.le_trans e1 hcs.1, Nat.le_trans e2 hcs.2⟩ C0 hbx hbm hK hO hG hS hl.1 (Nat.le_of_ble_eq_true rfl) kmL_66 dL_law_655 (fun r2 M' H locs hm1 hG2 hS2 => ?_)
      obtain rfl := hm1
      have hG := hG2
      have hS := hS2
      refine lv_pop hx hb dL_law_658 rfl ?_
      refine lv_goto (tgt := 1647) hx hb dL_law_659 (by decide) ?_
      exact kk _ _ _ _ _ _ _ _ _ e1 e2 hR hG hS
    ·
      refine lv_iconst (v := (1 : Int32)) hx hb dL_law_650 (by decide) ?_
      refine lv_goto (tgt := 655) hx hb dL_law_651 (by decide) ?_
      refine gm_best [] ⟨Nat.le_trans e1 hcs.1, Nat.le_trans e2 hcs.2⟩ C0 hbx hbm hK hO hG hS hl.1 (Nat.le_of_ble_eq_true rfl) kmL_66 dL_law_655 (fun r2 M' H locs hm1 hG2 hS2 => ?_)
      obtain rfl := hm1
      have hG := hG2
      have hS := hS2
      refine lv_pop hx hb dL_law_658 rfl ?_
      refine lv_goto (tgt := 1647) hx hb dL_law_659 (by decide) ?_
      exact kk _ _ _ _ _ _ _ _ _ e1 e2 hR hG hS
  ·
    refine lv_iconst (v := (1 : Int32)) hx hb dL_law_627 (by decide) ?_
    refine lv_goto (tgt := 632) hx hb dL_law_628 (by decide) ?_
    have hB0 := tB_of hG.2.2.2.1
    have hI0 := tBI_of hG.2.2.1
    refine gx_best [] hcs C0 hbx hbm hK hO hG hS hl.1 (Nat.le_of_ble_eq_true rfl) kmL_62 dL_law_632 (fun r1 mi' ko' T' I' H locs cells' slots' hx1 e1 e2 hG1 hS1 => ?_)
    obtain ⟨rfl, rfl, rfl⟩ := hx1
    have hG := hG1
    have hS := hS1
    refine lv_pop hx hb dL_law_635 rfl ?_
    refine lv_aload_n hx hb dL_law_636 rfl (lv_at hl 2 rfl) ?_
    refine lv_aload_n hx hb dL_law_637 rfl (lv_at hl 0 rfl) ?_
    refine lv_iload_n hx hb dL_law_638 rfl (lv_at hl 3 rfl) ?_
    refine lv_iconst (v := (1 : Int32)) hx hb dL_law_639 (by decide) ?_
    refine lv_iadd hx hb dL_law_640 ?_
    refine va_sld hx hb hX0 hbl hbA hS (zidx (k := 1) hi hL rfl (by decide)) dL_law_641 ?_
    refine lv_aload_n hx hb dL_law_642 rfl (lv_at hl 0 rfl) ?_
    refine lv_iload_n hx hb dL_law_643 rfl (lv_at hl 3 rfl) ?_
    refine lv_iconst (v := (2 : Int32)) hx hb dL_law_644 (by decide) ?_
    refine lv_iadd hx hb dL_law_645 ?_
    refine va_sld hx hb hX0 hbl hbA hS (zidx (k := 2) hi hL rfl (by decide)) dL_law_646 ?_
    refine lv_if_eq (tgt := 654) hx hb dL_law_647 (by decide) (fun hc11 => ?_) (fun hc11 => ?_)
    ·
      refine lv_iconst (v := (0 : Int32)) hx hb dL_law_654 (by decide) ?_
      refine gm_best [] ⟨Nat.le_trans e1 hcs.1, Nat.le_trans e2 hcs.2⟩ C0 hbx hbm hK hO hG hS hl.1 (Nat.le_of_ble_eq_true rfl) kmL_66 dL_law_655 (fun r2 M' H locs hm1 hG2 hS2 => ?_)
      obtain rfl := hm1
      have hG := hG2
      have hS := hS2
      refine lv_pop hx hb dL_law_658 rfl ?_
      refine lv_goto (tgt := 1647) hx hb dL_law_659 (by decide) ?_
      exact kk _ _ _ _ _ _ _ _ _ e1 e2 hR hG hS
    ·
      refine lv_iconst (v := (1 : Int32)) hx hb dL_law_650 (by decide) ?_
      refine lv_goto (tgt := 655) hx hb dL_law_651 (by decide) ?_
      refine gm_best [] ⟨Nat.le_trans e1 hcs.1, Nat.le_trans e2 hcs.2⟩ C0 hbx hbm hK hO hG hS hl.1 (Nat.le_of_ble_eq_true rfl) kmL_66 dL_law_655 (fun r2 M' H locs hm1 hG2 hS2 => ?_)
      obtain rfl := hm1
      have hG := hG2
      have hS := hS2
      refine lv_pop hx hb dL_law_658 rfl ?_
      refine lv_goto (tgt := 1647) hx hb dL_law_659 (by decide) ?_
      exact kk _ _ _ _ _ _ _ _ _ e1 e2 hR hG hS

set_option maxRecDepth 40000 in
set_option maxHeartbeats 4000000 in
theorem g_12 {p : Program} {l : Launch} {e : Env} {s : State} {m : MethodId} {below : List Frame} {meth : Method} {c : Code} {E : zE} {G : zG} {b L i bx bm cells slots : Nat} {xs : Nat → Int32} {mi : Nat → Option Nat} {ko : Option Nat} {T : TT} {M : Nat → Nat → Int32} {I : Nat → TT} {H : Heap} {locs : List Loc} {ls : Array Slot} (hi : i + 6 ≤ L) (hL : L ≤ 3072) (hR : RG T M I mi) (hcs : cells + 47 ≤ room_1.cells ∧ slots + 4608 ≤ room_1.slots) (C0 : lw_At p s m meth c b L xs) (hbx : s.heap.size ≤ bx) (hbm : bx + 93 ≤ bm) (hK : zK E s) (hO : zO s ∧ zZ G (fun q => s.heap.size ≤ q) s s.heap) (hG : GG E bx bm mi ko T M I H) (hS : va_S (fun q => s.heap.size ≤ q) s.heap H locs) (hl : lv_has ls 4 [(0, .ref b), (1, .ref bx), (2, .ref bm), (3, .int (nI i))])
    (kk : ∀ (mi : Nat → Option Nat) (ko : Option Nat) (T : TT) (M : Nat → Nat → Int32) (I : Nat → TT) (H : Heap) (locs : List Loc) (cells' slots' : Nat), cells' ≤ cells + 47 → slots' ≤ slots + 4608 → RG T M I mi → GG E bx bm mi ko T M I H → va_S (fun q => s.heap.size ≤ q) s.heap H locs → W p l e room_1 s m #[Value.ref b] below meth c H locs cells' slots' (lw_Z below #[Value.ref b] s) (F0 m 1647 ls [])) : W p l e room_1 s m #[Value.ref b] below meth c H locs cells slots (lw_Z below #[Value.ref b] s) (F0 m 662 ls []) := by
  obtain ⟨hx, hb, hr, hml, hown, hts, hX0, hbl, hlocks, hgv⟩ := id C0
  have zc : zC p s m #[Value.ref b] meth c cL_law 4 RL ret := ⟨hx, hb, hml, hown, fun w hw => hts w (zb_in hw), hr, hlocks⟩
  have hbA : ¬ (fun q : Nat => s.heap.size ≤ q) b := Nat.not_le.mpr hbl
  refine lv_aload_n hx hb dL_law_662 rfl (lv_at hl 1 rfl) ?_
  refine lv_aload_n hx hb dL_law_663 rfl (lv_at hl 0 rfl) ?_
  refine lv_iload_n hx hb dL_law_664 rfl (lv_at hl 3 rfl) ?_
  refine lv_iconst (v := (1 : Int32)) hx hb dL_law_665 (by decide) ?_
  refine lv_iadd hx hb dL_law_666 ?_
  refine va_sld hx hb hX0 hbl hbA hS (zidx (k := 1) hi hL rfl (by decide)) dL_law_667 ?_
  refine lv_aload_n hx hb dL_law_668 rfl (lv_at hl 0 rfl) ?_
  refine lv_iload_n hx hb dL_law_669 rfl (lv_at hl 3 rfl) ?_
  refine lv_iconst (v := (2 : Int32)) hx hb dL_law_670 (by decide) ?_
  refine lv_iadd hx hb dL_law_671 ?_
  refine va_sld hx hb hX0 hbl hbA hS (zidx (k := 2) hi hL rfl (by decide)) dL_law_672 ?_
  refine lv_aload_n hx hb dL_law_673 rfl (lv_at hl 0 rfl) ?_
  refine lv_iload_n hx hb dL_law_674 rfl (lv_at hl 3 rfl) ?_
  refine lv_iconst (v := (3 : Int32)) hx hb dL_law_675 (by decide) ?_
  refine lv_iadd hx hb dL_law_676 ?_
  refine va_sld hx hb hX0 hbl hbA hS (zidx (k := 3) hi hL rfl (by decide)) dL_law_677 ?_
  refine lv_aload_n hx hb dL_law_678 rfl (lv_at hl 0 rfl) ?_
  refine lv_iload_n hx hb dL_law_679 rfl (lv_at hl 3 rfl) ?_
  refine lv_iconst (v := (4 : Int32)) hx hb dL_law_680 (by decide) ?_
  refine lv_iadd hx hb dL_law_681 ?_
  refine va_sld hx hb hX0 hbl hbA hS (zidx (k := 4) hi hL rfl (by decide)) dL_law_682 ?_
  have hB0 := tB_of hG.2.2.2.1
  have hI0 := tBI_of hG.2.2.1
  refine gx_routes [] hcs C0 hbx hbm hK hO hG hS hl.1 (Nat.le_of_ble_eq_true rfl) kmL_67 dL_law_683 (fun r1 mi' ko' T' I' H locs cells' slots' hx1 e1 e2 hG1 hS1 => ?_)
  obtain ⟨rfl, rfl, rfl⟩ := hx1
  have hG := hG1
  have hS := hS1
  refine lv_pop hx hb dL_law_686 rfl ?_
  refine lv_aload_n hx hb dL_law_687 rfl (lv_at hl 2 rfl) ?_
  refine lv_aload_n hx hb dL_law_688 rfl (lv_at hl 0 rfl) ?_
  refine lv_iload_n hx hb dL_law_689 rfl (lv_at hl 3 rfl) ?_
  refine lv_iconst (v := (1 : Int32)) hx hb dL_law_690 (by decide) ?_
  refine lv_iadd hx hb dL_law_691 ?_
  refine va_sld hx hb hX0 hbl hbA hS (zidx (k := 1) hi hL rfl (by decide)) dL_law_692 ?_
  refine lv_aload_n hx hb dL_law_693 rfl (lv_at hl 0 rfl) ?_
  refine lv_iload_n hx hb dL_law_694 rfl (lv_at hl 3 rfl) ?_
  refine lv_iconst (v := (2 : Int32)) hx hb dL_law_695 (by decide) ?_
  refine lv_iadd hx hb dL_law_696 ?_
  refine va_sld hx hb hX0 hbl hbA hS (zidx (k := 2) hi hL rfl (by decide)) dL_law_697 ?_
  refine lv_aload_n hx hb dL_law_698 rfl (lv_at hl 0 rfl) ?_
  refine lv_iload_n hx hb dL_law_699 rfl (lv_at hl 3 rfl) ?_
  refine lv_iconst (v := (3 : Int32)) hx hb dL_law_700 (by decide) ?_
  refine lv_iadd hx hb dL_law_701 ?_
  refine va_sld hx hb hX0 hbl hbA hS (zidx (k := 3) hi hL rfl (by decide)) dL_law_702 ?_
  refine lv_aload_n hx hb dL_law_703 rfl (lv_at hl 0 rfl) ?_
  refine lv_iload_n hx hb dL_law_704 rfl (lv_at hl 3 rfl) ?_
  refine lv_iconst (v := (4 : Int32)) hx hb dL_law_705 (by decide) ?_
  refine lv_iadd hx hb dL_law_706 ?_
  refine va_sld hx hb hX0 hbl hbA hS (zidx (k := 4) hi hL rfl (by decide)) dL_law_707 ?_
  refine gm_routes [] ⟨Nat.le_trans e1 hcs.1, Nat.le_trans e2 hcs.2⟩ C0 hbx hbm hK hO hG hS hl.1 (Nat.le_of_ble_eq_true rfl) kmL_70 dL_law_708 (fun r2 M' H locs hm1 hG2 hS2 => ?_)
  obtain rfl := hm1
  have hG := hG2
  have hS := hS2
  refine lv_pop hx hb dL_law_711 rfl ?_
  refine lv_goto (tgt := 1647) hx hb dL_law_712 (by decide) ?_
  exact kk _ _ _ _ _ _ _ _ _ e1 e2 hR hG hS

set_option maxRecDepth 40000 in
set_option maxHeartbeats 4000000 in
theorem g_13 {p : Program} {l : Launch} {e : Env} {s : State} {m : MethodId} {below : List Frame} {meth : Method} {c : Code} {E : zE} {G : zG} {b L i bx bm cells slots : Nat} {xs : Nat → Int32} {mi : Nat → Option Nat} {ko : Option Nat} {T : TT} {M : Nat → Nat → Int32} {I : Nat → TT} {H : Heap} {locs : List Loc} {ls : Array Slot} (hi : i + 6 ≤ L) (hL : L ≤ 3072) (hR : RG T M I mi) (hcs : cells + 47 ≤ room_1.cells ∧ slots + 4608 ≤ room_1.slots) (C0 : lw_At p s m meth c b L xs) (hbx : s.heap.size ≤ bx) (hbm : bx + 93 ≤ bm) (hK : zK E s) (hO : zO s ∧ zZ G (fun q => s.heap.size ≤ q) s s.heap) (hG : GG E bx bm mi ko T M I H) (hS : va_S (fun q => s.heap.size ≤ q) s.heap H locs) (hl : lv_has ls 4 [(0, .ref b), (1, .ref bx), (2, .ref bm), (3, .int (nI i))])
    (kk : ∀ (mi : Nat → Option Nat) (ko : Option Nat) (T : TT) (M : Nat → Nat → Int32) (I : Nat → TT) (H : Heap) (locs : List Loc) (cells' slots' : Nat), cells' ≤ cells + 47 → slots' ≤ slots + 4608 → RG T M I mi → GG E bx bm mi ko T M I H → va_S (fun q => s.heap.size ≤ q) s.heap H locs → W p l e room_1 s m #[Value.ref b] below meth c H locs cells' slots' (lw_Z below #[Value.ref b] s) (F0 m 1647 ls [])) : W p l e room_1 s m #[Value.ref b] below meth c H locs cells slots (lw_Z below #[Value.ref b] s) (F0 m 715 ls []) := by
  obtain ⟨hx, hb, hr, hml, hown, hts, hX0, hbl, hlocks, hgv⟩ := id C0
  have zc : zC p s m #[Value.ref b] meth c cL_law 4 RL ret := ⟨hx, hb, hml, hown, fun w hw => hts w (zb_in hw), hr, hlocks⟩
  have hbA : ¬ (fun q : Nat => s.heap.size ≤ q) b := Nat.not_le.mpr hbl
  refine lv_aload_n hx hb dL_law_715 rfl (lv_at hl 1 rfl) ?_
  refine lv_aload_n hx hb dL_law_716 rfl (lv_at hl 0 rfl) ?_
  refine lv_iload_n hx hb dL_law_717 rfl (lv_at hl 3 rfl) ?_
  refine lv_iconst (v := (1 : Int32)) hx hb dL_law_718 (by decide) ?_
  refine lv_iadd hx hb dL_law_719 ?_
  refine va_sld hx hb hX0 hbl hbA hS (zidx (k := 1) hi hL rfl (by decide)) dL_law_720 ?_
  refine lv_aload_n hx hb dL_law_721 rfl (lv_at hl 0 rfl) ?_
  refine lv_iload_n hx hb dL_law_722 rfl (lv_at hl 3 rfl) ?_
  refine lv_iconst (v := (2 : Int32)) hx hb dL_law_723 (by decide) ?_
  refine lv_iadd hx hb dL_law_724 ?_
  refine va_sld hx hb hX0 hbl hbA hS (zidx (k := 2) hi hL rfl (by decide)) dL_law_725 ?_
  refine lv_aload_n hx hb dL_law_726 rfl (lv_at hl 0 rfl) ?_
  refine lv_iload_n hx hb dL_law_727 rfl (lv_at hl 3 rfl) ?_
  refine lv_iconst (v := (3 : Int32)) hx hb dL_law_728 (by decide) ?_
  refine lv_iadd hx hb dL_law_729 ?_
  refine va_sld hx hb hX0 hbl hbA hS (zidx (k := 3) hi hL rfl (by decide)) dL_law_730 ?_
  have hB0 := tB_of hG.2.2.2.1
  have hI0 := tBI_of hG.2.2.1
  refine gx_mutes [] hcs C0 hbx hbm hK hO hG hS hl.1 (Nat.le_of_ble_eq_true rfl) kmL_71 dL_law_731 (fun r1 mi' ko' T' I' H locs cells' slots' hx1 e1 e2 hG1 hS1 => ?_)
  obtain ⟨rfl, rfl, rfl⟩ := hx1
  have hG := hG1
  have hS := hS1
  refine lv_pop hx hb dL_law_734 rfl ?_
  refine lv_aload_n hx hb dL_law_735 rfl (lv_at hl 2 rfl) ?_
  refine lv_aload_n hx hb dL_law_736 rfl (lv_at hl 0 rfl) ?_
  refine lv_iload_n hx hb dL_law_737 rfl (lv_at hl 3 rfl) ?_
  refine lv_iconst (v := (1 : Int32)) hx hb dL_law_738 (by decide) ?_
  refine lv_iadd hx hb dL_law_739 ?_
  refine va_sld hx hb hX0 hbl hbA hS (zidx (k := 1) hi hL rfl (by decide)) dL_law_740 ?_
  refine lv_aload_n hx hb dL_law_741 rfl (lv_at hl 0 rfl) ?_
  refine lv_iload_n hx hb dL_law_742 rfl (lv_at hl 3 rfl) ?_
  refine lv_iconst (v := (2 : Int32)) hx hb dL_law_743 (by decide) ?_
  refine lv_iadd hx hb dL_law_744 ?_
  refine va_sld hx hb hX0 hbl hbA hS (zidx (k := 2) hi hL rfl (by decide)) dL_law_745 ?_
  refine lv_aload_n hx hb dL_law_746 rfl (lv_at hl 0 rfl) ?_
  refine lv_iload_n hx hb dL_law_747 rfl (lv_at hl 3 rfl) ?_
  refine lv_iconst (v := (3 : Int32)) hx hb dL_law_748 (by decide) ?_
  refine lv_iadd hx hb dL_law_749 ?_
  refine va_sld hx hb hX0 hbl hbA hS (zidx (k := 3) hi hL rfl (by decide)) dL_law_750 ?_
  refine gm_mutes [] ⟨Nat.le_trans e1 hcs.1, Nat.le_trans e2 hcs.2⟩ C0 hbx hbm hK hO hG hS hl.1 (Nat.le_of_ble_eq_true rfl) kmL_74 dL_law_751 (fun r2 M' H locs hm1 hG2 hS2 => ?_)
  obtain rfl := hm1
  have hG := hG2
  have hS := hS2
  refine lv_pop hx hb dL_law_754 rfl ?_
  refine lv_goto (tgt := 1647) hx hb dL_law_755 (by decide) ?_
  exact kk _ _ _ _ _ _ _ _ _ e1 e2 hR hG hS

set_option maxRecDepth 40000 in
set_option maxHeartbeats 4000000 in
theorem g_14 {p : Program} {l : Launch} {e : Env} {s : State} {m : MethodId} {below : List Frame} {meth : Method} {c : Code} {E : zE} {G : zG} {b L i bx bm cells slots : Nat} {xs : Nat → Int32} {mi : Nat → Option Nat} {ko : Option Nat} {T : TT} {M : Nat → Nat → Int32} {I : Nat → TT} {H : Heap} {locs : List Loc} {ls : Array Slot} (hi : i + 6 ≤ L) (hL : L ≤ 3072) (hR : RG T M I mi) (hcs : cells + 47 ≤ room_1.cells ∧ slots + 4608 ≤ room_1.slots) (C0 : lw_At p s m meth c b L xs) (hbx : s.heap.size ≤ bx) (hbm : bx + 93 ≤ bm) (hK : zK E s) (hO : zO s ∧ zZ G (fun q => s.heap.size ≤ q) s s.heap) (hG : GG E bx bm mi ko T M I H) (hS : va_S (fun q => s.heap.size ≤ q) s.heap H locs) (hl : lv_has ls 4 [(0, .ref b), (1, .ref bx), (2, .ref bm), (3, .int (nI i))])
    (kk : ∀ (mi : Nat → Option Nat) (ko : Option Nat) (T : TT) (M : Nat → Nat → Int32) (I : Nat → TT) (H : Heap) (locs : List Loc) (cells' slots' : Nat), cells' ≤ cells + 47 → slots' ≤ slots + 4608 → RG T M I mi → GG E bx bm mi ko T M I H → va_S (fun q => s.heap.size ≤ q) s.heap H locs → W p l e room_1 s m #[Value.ref b] below meth c H locs cells' slots' (lw_Z below #[Value.ref b] s) (F0 m 1647 ls [])) : W p l e room_1 s m #[Value.ref b] below meth c H locs cells slots (lw_Z below #[Value.ref b] s) (F0 m 758 ls []) := by
  obtain ⟨hx, hb, hr, hml, hown, hts, hX0, hbl, hlocks, hgv⟩ := id C0
  have zc : zC p s m #[Value.ref b] meth c cL_law 4 RL ret := ⟨hx, hb, hml, hown, fun w hw => hts w (zb_in hw), hr, hlocks⟩
  have hbA : ¬ (fun q : Nat => s.heap.size ≤ q) b := Nat.not_le.mpr hbl
  refine lv_aload_n hx hb dL_law_758 rfl (lv_at hl 1 rfl) ?_
  refine lv_aload_n hx hb dL_law_759 rfl (lv_at hl 0 rfl) ?_
  refine lv_iload_n hx hb dL_law_760 rfl (lv_at hl 3 rfl) ?_
  refine lv_iconst (v := (1 : Int32)) hx hb dL_law_761 (by decide) ?_
  refine lv_iadd hx hb dL_law_762 ?_
  refine va_sld hx hb hX0 hbl hbA hS (zidx (k := 1) hi hL rfl (by decide)) dL_law_763 ?_
  refine lv_aload_n hx hb dL_law_764 rfl (lv_at hl 0 rfl) ?_
  refine lv_iload_n hx hb dL_law_765 rfl (lv_at hl 3 rfl) ?_
  refine lv_iconst (v := (2 : Int32)) hx hb dL_law_766 (by decide) ?_
  refine lv_iadd hx hb dL_law_767 ?_
  refine va_sld hx hb hX0 hbl hbA hS (zidx (k := 2) hi hL rfl (by decide)) dL_law_768 ?_
  refine lv_aload_n hx hb dL_law_769 rfl (lv_at hl 0 rfl) ?_
  refine lv_iload_n hx hb dL_law_770 rfl (lv_at hl 3 rfl) ?_
  refine lv_iconst (v := (3 : Int32)) hx hb dL_law_771 (by decide) ?_
  refine lv_iadd hx hb dL_law_772 ?_
  refine va_sld hx hb hX0 hbl hbA hS (zidx (k := 3) hi hL rfl (by decide)) dL_law_773 ?_
  refine lv_if_eq (tgt := 781) hx hb dL_law_774 (by decide) (fun hc0 => ?_) (fun hc0 => ?_)
  ·
    refine lv_iconst (v := (0 : Int32)) hx hb dL_law_781 (by decide) ?_
    have hB0 := tB_of hG.2.2.2.1
    have hI0 := tBI_of hG.2.2.1
    refine gx_masses [] hcs C0 hbx hbm hK hO hG hS hl.1 (Nat.le_of_ble_eq_true rfl) kmL_75 dL_law_782 (fun r1 mi' ko' T' I' H locs cells' slots' hx1 e1 e2 hG1 hS1 => ?_)
    obtain ⟨rfl, rfl, rfl⟩ := hx1
    have hG := hG1
    have hS := hS1
    refine lv_pop hx hb dL_law_785 rfl ?_
    refine lv_aload_n hx hb dL_law_786 rfl (lv_at hl 2 rfl) ?_
    refine lv_aload_n hx hb dL_law_787 rfl (lv_at hl 0 rfl) ?_
    refine lv_iload_n hx hb dL_law_788 rfl (lv_at hl 3 rfl) ?_
    refine lv_iconst (v := (1 : Int32)) hx hb dL_law_789 (by decide) ?_
    refine lv_iadd hx hb dL_law_790 ?_
    refine va_sld hx hb hX0 hbl hbA hS (zidx (k := 1) hi hL rfl (by decide)) dL_law_791 ?_
    refine lv_aload_n hx hb dL_law_792 rfl (lv_at hl 0 rfl) ?_
    refine lv_iload_n hx hb dL_law_793 rfl (lv_at hl 3 rfl) ?_
    refine lv_iconst (v := (2 : Int32)) hx hb dL_law_794 (by decide) ?_
    refine lv_iadd hx hb dL_law_795 ?_
    refine va_sld hx hb hX0 hbl hbA hS (zidx (k := 2) hi hL rfl (by decide)) dL_law_796 ?_
    refine lv_aload_n hx hb dL_law_797 rfl (lv_at hl 0 rfl) ?_
    refine lv_iload_n hx hb dL_law_798 rfl (lv_at hl 3 rfl) ?_
    refine lv_iconst (v := (3 : Int32)) hx hb dL_law_799 (by decide) ?_
    refine lv_iadd hx hb dL_law_800 ?_
    refine va_sld hx hb hX0 hbl hbA hS (zidx (k := 3) hi hL rfl (by decide)) dL_law_801 ?_
    refine lv_if_eq (tgt := 809) hx hb dL_law_802 (by decide) (fun hc11 => ?_) (fun hc11 => ?_)
    ·
      refine lv_iconst (v := (0 : Int32)) hx hb dL_law_809 (by decide) ?_
      refine gm_masses [] ⟨Nat.le_trans e1 hcs.1, Nat.le_trans e2 hcs.2⟩ C0 hbx hbm hK hO hG hS hl.1 (Nat.le_of_ble_eq_true rfl) kmL_79 dL_law_810 (fun r2 M' H locs hm1 hG2 hS2 => ?_)
      obtain rfl := hm1
      have hG := hG2
      have hS := hS2
      refine lv_pop hx hb dL_law_813 rfl ?_
      refine lv_goto (tgt := 1647) hx hb dL_law_814 (by decide) ?_
      exact kk _ _ _ _ _ _ _ _ _ e1 e2 hR hG hS
    ·
      refine lv_iconst (v := (1 : Int32)) hx hb dL_law_805 (by decide) ?_
      refine lv_goto (tgt := 810) hx hb dL_law_806 (by decide) ?_
      refine gm_masses [] ⟨Nat.le_trans e1 hcs.1, Nat.le_trans e2 hcs.2⟩ C0 hbx hbm hK hO hG hS hl.1 (Nat.le_of_ble_eq_true rfl) kmL_79 dL_law_810 (fun r2 M' H locs hm1 hG2 hS2 => ?_)
      obtain rfl := hm1
      have hG := hG2
      have hS := hS2
      refine lv_pop hx hb dL_law_813 rfl ?_
      refine lv_goto (tgt := 1647) hx hb dL_law_814 (by decide) ?_
      exact kk _ _ _ _ _ _ _ _ _ e1 e2 hR hG hS
  ·
    refine lv_iconst (v := (1 : Int32)) hx hb dL_law_777 (by decide) ?_
    refine lv_goto (tgt := 782) hx hb dL_law_778 (by decide) ?_
    have hB0 := tB_of hG.2.2.2.1
    have hI0 := tBI_of hG.2.2.1
    refine gx_masses [] hcs C0 hbx hbm hK hO hG hS hl.1 (Nat.le_of_ble_eq_true rfl) kmL_75 dL_law_782 (fun r1 mi' ko' T' I' H locs cells' slots' hx1 e1 e2 hG1 hS1 => ?_)
    obtain ⟨rfl, rfl, rfl⟩ := hx1
    have hG := hG1
    have hS := hS1
    refine lv_pop hx hb dL_law_785 rfl ?_
    refine lv_aload_n hx hb dL_law_786 rfl (lv_at hl 2 rfl) ?_
    refine lv_aload_n hx hb dL_law_787 rfl (lv_at hl 0 rfl) ?_
    refine lv_iload_n hx hb dL_law_788 rfl (lv_at hl 3 rfl) ?_
    refine lv_iconst (v := (1 : Int32)) hx hb dL_law_789 (by decide) ?_
    refine lv_iadd hx hb dL_law_790 ?_
    refine va_sld hx hb hX0 hbl hbA hS (zidx (k := 1) hi hL rfl (by decide)) dL_law_791 ?_
    refine lv_aload_n hx hb dL_law_792 rfl (lv_at hl 0 rfl) ?_
    refine lv_iload_n hx hb dL_law_793 rfl (lv_at hl 3 rfl) ?_
    refine lv_iconst (v := (2 : Int32)) hx hb dL_law_794 (by decide) ?_
    refine lv_iadd hx hb dL_law_795 ?_
    refine va_sld hx hb hX0 hbl hbA hS (zidx (k := 2) hi hL rfl (by decide)) dL_law_796 ?_
    refine lv_aload_n hx hb dL_law_797 rfl (lv_at hl 0 rfl) ?_
    refine lv_iload_n hx hb dL_law_798 rfl (lv_at hl 3 rfl) ?_
    refine lv_iconst (v := (3 : Int32)) hx hb dL_law_799 (by decide) ?_
    refine lv_iadd hx hb dL_law_800 ?_
    refine va_sld hx hb hX0 hbl hbA hS (zidx (k := 3) hi hL rfl (by decide)) dL_law_801 ?_
    refine lv_if_eq (tgt := 809) hx hb dL_law_802 (by decide) (fun hc11 => ?_) (fun hc11 => ?_)
    ·
      refine lv_iconst (v := (0 : Int32)) hx hb dL_law_809 (by decide) ?_
      refine gm_masses [] ⟨Nat.le_trans e1 hcs.1, Nat.le_trans e2 hcs.2⟩ C0 hbx hbm hK hO hG hS hl.1 (Nat.le_of_ble_eq_true rfl) kmL_79 dL_law_810 (fun r2 M' H locs hm1 hG2 hS2 => ?_)
      obtain rfl := hm1
      have hG := hG2
      have hS := hS2
      refine lv_pop hx hb dL_law_813 rfl ?_
      refine lv_goto (tgt := 1647) hx hb dL_law_814 (by decide) ?_
      exact kk _ _ _ _ _ _ _ _ _ e1 e2 hR hG hS
    ·
      refine lv_iconst (v := (1 : Int32)) hx hb dL_law_805 (by decide) ?_
      refine lv_goto (tgt := 810) hx hb dL_law_806 (by decide) ?_
      refine gm_masses [] ⟨Nat.le_trans e1 hcs.1, Nat.le_trans e2 hcs.2⟩ C0 hbx hbm hK hO hG hS hl.1 (Nat.le_of_ble_eq_true rfl) kmL_79 dL_law_810 (fun r2 M' H locs hm1 hG2 hS2 => ?_)
      obtain rfl := hm1
      have hG := hG2
      have hS := hS2
      refine lv_pop hx hb dL_law_813 rfl ?_
      refine lv_goto (tgt := 1647) hx hb dL_law_814 (by decide) ?_
      exact kk _ _ _ _ _ _ _ _ _ e1 e2 hR hG hS

set_option maxRecDepth 40000 in
set_option maxHeartbeats 4000000 in
theorem g_15 {p : Program} {l : Launch} {e : Env} {s : State} {m : MethodId} {below : List Frame} {meth : Method} {c : Code} {E : zE} {G : zG} {b L i bx bm cells slots : Nat} {xs : Nat → Int32} {mi : Nat → Option Nat} {ko : Option Nat} {T : TT} {M : Nat → Nat → Int32} {I : Nat → TT} {H : Heap} {locs : List Loc} {ls : Array Slot} (hi : i + 6 ≤ L) (hL : L ≤ 3072) (hR : RG T M I mi) (hcs : cells + 47 ≤ room_1.cells ∧ slots + 4608 ≤ room_1.slots) (C0 : lw_At p s m meth c b L xs) (hbx : s.heap.size ≤ bx) (hbm : bx + 93 ≤ bm) (hK : zK E s) (hO : zO s ∧ zZ G (fun q => s.heap.size ≤ q) s s.heap) (hG : GG E bx bm mi ko T M I H) (hS : va_S (fun q => s.heap.size ≤ q) s.heap H locs) (hl : lv_has ls 4 [(0, .ref b), (1, .ref bx), (2, .ref bm), (3, .int (nI i))])
    (kk : ∀ (mi : Nat → Option Nat) (ko : Option Nat) (T : TT) (M : Nat → Nat → Int32) (I : Nat → TT) (H : Heap) (locs : List Loc) (cells' slots' : Nat), cells' ≤ cells + 47 → slots' ≤ slots + 4608 → RG T M I mi → GG E bx bm mi ko T M I H → va_S (fun q => s.heap.size ≤ q) s.heap H locs → W p l e room_1 s m #[Value.ref b] below meth c H locs cells' slots' (lw_Z below #[Value.ref b] s) (F0 m 1647 ls [])) : W p l e room_1 s m #[Value.ref b] below meth c H locs cells slots (lw_Z below #[Value.ref b] s) (F0 m 817 ls []) := by
  obtain ⟨hx, hb, hr, hml, hown, hts, hX0, hbl, hlocks, hgv⟩ := id C0
  have zc : zC p s m #[Value.ref b] meth c cL_law 4 RL ret := ⟨hx, hb, hml, hown, fun w hw => hts w (zb_in hw), hr, hlocks⟩
  have hbA : ¬ (fun q : Nat => s.heap.size ≤ q) b := Nat.not_le.mpr hbl
  refine lv_aload_n hx hb dL_law_817 rfl (lv_at hl 1 rfl) ?_
  refine lv_aload_n hx hb dL_law_818 rfl (lv_at hl 0 rfl) ?_
  refine lv_iload_n hx hb dL_law_819 rfl (lv_at hl 3 rfl) ?_
  refine lv_iconst (v := (1 : Int32)) hx hb dL_law_820 (by decide) ?_
  refine lv_iadd hx hb dL_law_821 ?_
  refine va_sld hx hb hX0 hbl hbA hS (zidx (k := 1) hi hL rfl (by decide)) dL_law_822 ?_
  refine lv_aload_n hx hb dL_law_823 rfl (lv_at hl 0 rfl) ?_
  refine lv_iload_n hx hb dL_law_824 rfl (lv_at hl 3 rfl) ?_
  refine lv_iconst (v := (2 : Int32)) hx hb dL_law_825 (by decide) ?_
  refine lv_iadd hx hb dL_law_826 ?_
  refine va_sld hx hb hX0 hbl hbA hS (zidx (k := 2) hi hL rfl (by decide)) dL_law_827 ?_
  refine lv_aload_n hx hb dL_law_828 rfl (lv_at hl 0 rfl) ?_
  refine lv_iload_n hx hb dL_law_829 rfl (lv_at hl 3 rfl) ?_
  refine lv_iconst (v := (3 : Int32)) hx hb dL_law_830 (by decide) ?_
  refine lv_iadd hx hb dL_law_831 ?_
  refine va_sld hx hb hX0 hbl hbA hS (zidx (k := 3) hi hL rfl (by decide)) dL_law_832 ?_
  have hB0 := tB_of hG.2.2.2.1
  have hI0 := tBI_of hG.2.2.1
  refine gx_fact [] hcs C0 hbx hbm hK hO hG hS hl.1 (Nat.le_of_ble_eq_true rfl) kmL_80 dL_law_833 (fun r1 mi' ko' T' I' H locs cells' slots' hx1 e1 e2 hG1 hS1 => ?_)
  obtain ⟨rfl, rfl, rfl⟩ := hx1
  have hG := hG1
  have hS := hS1
  refine lv_pop hx hb dL_law_836 rfl ?_
  refine lv_aload_n hx hb dL_law_837 rfl (lv_at hl 2 rfl) ?_
  refine lv_aload_n hx hb dL_law_838 rfl (lv_at hl 0 rfl) ?_
  refine lv_iload_n hx hb dL_law_839 rfl (lv_at hl 3 rfl) ?_
  refine lv_iconst (v := (1 : Int32)) hx hb dL_law_840 (by decide) ?_
  refine lv_iadd hx hb dL_law_841 ?_
  refine va_sld hx hb hX0 hbl hbA hS (zidx (k := 1) hi hL rfl (by decide)) dL_law_842 ?_
  refine lv_aload_n hx hb dL_law_843 rfl (lv_at hl 0 rfl) ?_
  refine lv_iload_n hx hb dL_law_844 rfl (lv_at hl 3 rfl) ?_
  refine lv_iconst (v := (2 : Int32)) hx hb dL_law_845 (by decide) ?_
  refine lv_iadd hx hb dL_law_846 ?_
  refine va_sld hx hb hX0 hbl hbA hS (zidx (k := 2) hi hL rfl (by decide)) dL_law_847 ?_
  refine lv_aload_n hx hb dL_law_848 rfl (lv_at hl 0 rfl) ?_
  refine lv_iload_n hx hb dL_law_849 rfl (lv_at hl 3 rfl) ?_
  refine lv_iconst (v := (3 : Int32)) hx hb dL_law_850 (by decide) ?_
  refine lv_iadd hx hb dL_law_851 ?_
  refine va_sld hx hb hX0 hbl hbA hS (zidx (k := 3) hi hL rfl (by decide)) dL_law_852 ?_
  refine gm_fact [] ⟨Nat.le_trans e1 hcs.1, Nat.le_trans e2 hcs.2⟩ C0 hbx hbm hK hO hG hS hl.1 (Nat.le_of_ble_eq_true rfl) kmL_83 dL_law_853 (fun r2 M' H locs hm1 hG2 hS2 => ?_)
  obtain rfl := hm1
  have hG := hG2
  have hS := hS2
  refine lv_pop hx hb dL_law_856 rfl ?_
  refine lv_goto (tgt := 1647) hx hb dL_law_857 (by decide) ?_
  exact kk _ _ _ _ _ _ _ _ _ e1 e2 hR hG hS

set_option maxRecDepth 40000 in
set_option maxHeartbeats 4000000 in
theorem g_16 {p : Program} {l : Launch} {e : Env} {s : State} {m : MethodId} {below : List Frame} {meth : Method} {c : Code} {E : zE} {G : zG} {b L i bx bm cells slots : Nat} {xs : Nat → Int32} {mi : Nat → Option Nat} {ko : Option Nat} {T : TT} {M : Nat → Nat → Int32} {I : Nat → TT} {H : Heap} {locs : List Loc} {ls : Array Slot} (hi : i + 6 ≤ L) (hL : L ≤ 3072) (hR : RG T M I mi) (hcs : cells + 47 ≤ room_1.cells ∧ slots + 4608 ≤ room_1.slots) (C0 : lw_At p s m meth c b L xs) (hbx : s.heap.size ≤ bx) (hbm : bx + 93 ≤ bm) (hK : zK E s) (hO : zO s ∧ zZ G (fun q => s.heap.size ≤ q) s s.heap) (hG : GG E bx bm mi ko T M I H) (hS : va_S (fun q => s.heap.size ≤ q) s.heap H locs) (hl : lv_has ls 4 [(0, .ref b), (1, .ref bx), (2, .ref bm), (3, .int (nI i))])
    (kk : ∀ (mi : Nat → Option Nat) (ko : Option Nat) (T : TT) (M : Nat → Nat → Int32) (I : Nat → TT) (H : Heap) (locs : List Loc) (cells' slots' : Nat), cells' ≤ cells + 47 → slots' ≤ slots + 4608 → RG T M I mi → GG E bx bm mi ko T M I H → va_S (fun q => s.heap.size ≤ q) s.heap H locs → W p l e room_1 s m #[Value.ref b] below meth c H locs cells' slots' (lw_Z below #[Value.ref b] s) (F0 m 1647 ls [])) : W p l e room_1 s m #[Value.ref b] below meth c H locs cells slots (lw_Z below #[Value.ref b] s) (F0 m 860 ls []) := by
  obtain ⟨hx, hb, hr, hml, hown, hts, hX0, hbl, hlocks, hgv⟩ := id C0
  have zc : zC p s m #[Value.ref b] meth c cL_law 4 RL ret := ⟨hx, hb, hml, hown, fun w hw => hts w (zb_in hw), hr, hlocks⟩
  have hbA : ¬ (fun q : Nat => s.heap.size ≤ q) b := Nat.not_le.mpr hbl
  refine lv_aload_n hx hb dL_law_860 rfl (lv_at hl 1 rfl) ?_
  refine lv_aload_n hx hb dL_law_861 rfl (lv_at hl 0 rfl) ?_
  refine lv_iload_n hx hb dL_law_862 rfl (lv_at hl 3 rfl) ?_
  refine lv_iconst (v := (1 : Int32)) hx hb dL_law_863 (by decide) ?_
  refine lv_iadd hx hb dL_law_864 ?_
  refine va_sld hx hb hX0 hbl hbA hS (zidx (k := 1) hi hL rfl (by decide)) dL_law_865 ?_
  refine lv_aload_n hx hb dL_law_866 rfl (lv_at hl 0 rfl) ?_
  refine lv_iload_n hx hb dL_law_867 rfl (lv_at hl 3 rfl) ?_
  refine lv_iconst (v := (2 : Int32)) hx hb dL_law_868 (by decide) ?_
  refine lv_iadd hx hb dL_law_869 ?_
  refine va_sld hx hb hX0 hbl hbA hS (zidx (k := 2) hi hL rfl (by decide)) dL_law_870 ?_
  refine lv_aload_n hx hb dL_law_871 rfl (lv_at hl 0 rfl) ?_
  refine lv_iload_n hx hb dL_law_872 rfl (lv_at hl 3 rfl) ?_
  refine lv_iconst (v := (3 : Int32)) hx hb dL_law_873 (by decide) ?_
  refine lv_iadd hx hb dL_law_874 ?_
  refine va_sld hx hb hX0 hbl hbA hS (zidx (k := 3) hi hL rfl (by decide)) dL_law_875 ?_
  refine lv_if_eq (tgt := 883) hx hb dL_law_876 (by decide) (fun hc0 => ?_) (fun hc0 => ?_)
  ·
    refine lv_iconst (v := (0 : Int32)) hx hb dL_law_883 (by decide) ?_
    have hB0 := tB_of hG.2.2.2.1
    have hI0 := tBI_of hG.2.2.1
    refine gx_fits [] hcs C0 hbx hbm hK hO hG hS hl.1 (Nat.le_of_ble_eq_true rfl) kmL_84 dL_law_884 (fun r1 mi' ko' T' I' H locs cells' slots' hx1 e1 e2 hG1 hS1 => ?_)
    obtain ⟨rfl, rfl, rfl⟩ := hx1
    have hG := hG1
    have hS := hS1
    refine lv_pop hx hb dL_law_887 rfl ?_
    refine lv_aload_n hx hb dL_law_888 rfl (lv_at hl 2 rfl) ?_
    refine lv_aload_n hx hb dL_law_889 rfl (lv_at hl 0 rfl) ?_
    refine lv_iload_n hx hb dL_law_890 rfl (lv_at hl 3 rfl) ?_
    refine lv_iconst (v := (1 : Int32)) hx hb dL_law_891 (by decide) ?_
    refine lv_iadd hx hb dL_law_892 ?_
    refine va_sld hx hb hX0 hbl hbA hS (zidx (k := 1) hi hL rfl (by decide)) dL_law_893 ?_
    refine lv_aload_n hx hb dL_law_894 rfl (lv_at hl 0 rfl) ?_
    refine lv_iload_n hx hb dL_law_895 rfl (lv_at hl 3 rfl) ?_
    refine lv_iconst (v := (2 : Int32)) hx hb dL_law_896 (by decide) ?_
    refine lv_iadd hx hb dL_law_897 ?_
    refine va_sld hx hb hX0 hbl hbA hS (zidx (k := 2) hi hL rfl (by decide)) dL_law_898 ?_
    refine lv_aload_n hx hb dL_law_899 rfl (lv_at hl 0 rfl) ?_
    refine lv_iload_n hx hb dL_law_900 rfl (lv_at hl 3 rfl) ?_
    refine lv_iconst (v := (3 : Int32)) hx hb dL_law_901 (by decide) ?_
    refine lv_iadd hx hb dL_law_902 ?_
    refine va_sld hx hb hX0 hbl hbA hS (zidx (k := 3) hi hL rfl (by decide)) dL_law_903 ?_
    refine lv_if_eq (tgt := 911) hx hb dL_law_904 (by decide) (fun hc11 => ?_) (fun hc11 => ?_)
    ·
      refine lv_iconst (v := (0 : Int32)) hx hb dL_law_911 (by decide) ?_
      refine gm_fits [] ⟨Nat.le_trans e1 hcs.1, Nat.le_trans e2 hcs.2⟩ C0 hbx hbm hK hO hG hS hl.1 (Nat.le_of_ble_eq_true rfl) kmL_87 dL_law_912 (fun r2 M' H locs hm1 hG2 hS2 => ?_)
      obtain rfl := hm1
      have hG := hG2
      have hS := hS2
      refine lv_pop hx hb dL_law_915 rfl ?_
      refine lv_goto (tgt := 1647) hx hb dL_law_916 (by decide) ?_
      exact kk _ _ _ _ _ _ _ _ _ e1 e2 hR hG hS
    ·
      refine lv_iconst (v := (1 : Int32)) hx hb dL_law_907 (by decide) ?_
      refine lv_goto (tgt := 912) hx hb dL_law_908 (by decide) ?_
      refine gm_fits [] ⟨Nat.le_trans e1 hcs.1, Nat.le_trans e2 hcs.2⟩ C0 hbx hbm hK hO hG hS hl.1 (Nat.le_of_ble_eq_true rfl) kmL_87 dL_law_912 (fun r2 M' H locs hm1 hG2 hS2 => ?_)
      obtain rfl := hm1
      have hG := hG2
      have hS := hS2
      refine lv_pop hx hb dL_law_915 rfl ?_
      refine lv_goto (tgt := 1647) hx hb dL_law_916 (by decide) ?_
      exact kk _ _ _ _ _ _ _ _ _ e1 e2 hR hG hS
  ·
    refine lv_iconst (v := (1 : Int32)) hx hb dL_law_879 (by decide) ?_
    refine lv_goto (tgt := 884) hx hb dL_law_880 (by decide) ?_
    have hB0 := tB_of hG.2.2.2.1
    have hI0 := tBI_of hG.2.2.1
    refine gx_fits [] hcs C0 hbx hbm hK hO hG hS hl.1 (Nat.le_of_ble_eq_true rfl) kmL_84 dL_law_884 (fun r1 mi' ko' T' I' H locs cells' slots' hx1 e1 e2 hG1 hS1 => ?_)
    obtain ⟨rfl, rfl, rfl⟩ := hx1
    have hG := hG1
    have hS := hS1
    refine lv_pop hx hb dL_law_887 rfl ?_
    refine lv_aload_n hx hb dL_law_888 rfl (lv_at hl 2 rfl) ?_
    refine lv_aload_n hx hb dL_law_889 rfl (lv_at hl 0 rfl) ?_
    refine lv_iload_n hx hb dL_law_890 rfl (lv_at hl 3 rfl) ?_
    refine lv_iconst (v := (1 : Int32)) hx hb dL_law_891 (by decide) ?_
    refine lv_iadd hx hb dL_law_892 ?_
    refine va_sld hx hb hX0 hbl hbA hS (zidx (k := 1) hi hL rfl (by decide)) dL_law_893 ?_
    refine lv_aload_n hx hb dL_law_894 rfl (lv_at hl 0 rfl) ?_
    refine lv_iload_n hx hb dL_law_895 rfl (lv_at hl 3 rfl) ?_
    refine lv_iconst (v := (2 : Int32)) hx hb dL_law_896 (by decide) ?_
    refine lv_iadd hx hb dL_law_897 ?_
    refine va_sld hx hb hX0 hbl hbA hS (zidx (k := 2) hi hL rfl (by decide)) dL_law_898 ?_
    refine lv_aload_n hx hb dL_law_899 rfl (lv_at hl 0 rfl) ?_
    refine lv_iload_n hx hb dL_law_900 rfl (lv_at hl 3 rfl) ?_
    refine lv_iconst (v := (3 : Int32)) hx hb dL_law_901 (by decide) ?_
    refine lv_iadd hx hb dL_law_902 ?_
    refine va_sld hx hb hX0 hbl hbA hS (zidx (k := 3) hi hL rfl (by decide)) dL_law_903 ?_
    refine lv_if_eq (tgt := 911) hx hb dL_law_904 (by decide) (fun hc11 => ?_) (fun hc11 => ?_)
    ·
      refine lv_iconst (v := (0 : Int32)) hx hb dL_law_911 (by decide) ?_
      refine gm_fits [] ⟨Nat.le_trans e1 hcs.1, Nat.le_trans e2 hcs.2⟩ C0 hbx hbm hK hO hG hS hl.1 (Nat.le_of_ble_eq_true rfl) kmL_87 dL_law_912 (fun r2 M' H locs hm1 hG2 hS2 => ?_)
      obtain rfl := hm1
      have hG := hG2
      have hS := hS2
      refine lv_pop hx hb dL_law_915 rfl ?_
      refine lv_goto (tgt := 1647) hx hb dL_law_916 (by decide) ?_
      exact kk _ _ _ _ _ _ _ _ _ e1 e2 hR hG hS
    ·
      refine lv_iconst (v := (1 : Int32)) hx hb dL_law_907 (by decide) ?_
      refine lv_goto (tgt := 912) hx hb dL_law_908 (by decide) ?_
      refine gm_fits [] ⟨Nat.le_trans e1 hcs.1, Nat.le_trans e2 hcs.2⟩ C0 hbx hbm hK hO hG hS hl.1 (Nat.le_of_ble_eq_true rfl) kmL_87 dL_law_912 (fun r2 M' H locs hm1 hG2 hS2 => ?_)
      obtain rfl := hm1
      have hG := hG2
      have hS := hS2
      refine lv_pop hx hb dL_law_915 rfl ?_
      refine lv_goto (tgt := 1647) hx hb dL_law_916 (by decide) ?_
      exact kk _ _ _ _ _ _ _ _ _ e1 e2 hR hG hS

set_option maxRecDepth 40000 in
set_option maxHeartbeats 4000000 in
theorem g_17 {p : Program} {l : Launch} {e : Env} {s : State} {m : MethodId} {below : List Frame} {meth : Method} {c : Code} {E : zE} {G : zG} {b L i bx bm cells slots : Nat} {xs : Nat → Int32} {mi : Nat → Option Nat} {ko : Option Nat} {T : TT} {M : Nat → Nat → Int32} {I : Nat → TT} {H : Heap} {locs : List Loc} {ls : Array Slot} (hi : i + 6 ≤ L) (hL : L ≤ 3072) (hR : RG T M I mi) (hcs : cells + 47 ≤ room_1.cells ∧ slots + 4608 ≤ room_1.slots) (C0 : lw_At p s m meth c b L xs) (hbx : s.heap.size ≤ bx) (hbm : bx + 93 ≤ bm) (hK : zK E s) (hO : zO s ∧ zZ G (fun q => s.heap.size ≤ q) s s.heap) (hG : GG E bx bm mi ko T M I H) (hS : va_S (fun q => s.heap.size ≤ q) s.heap H locs) (hl : lv_has ls 4 [(0, .ref b), (1, .ref bx), (2, .ref bm), (3, .int (nI i))])
    (kk : ∀ (mi : Nat → Option Nat) (ko : Option Nat) (T : TT) (M : Nat → Nat → Int32) (I : Nat → TT) (H : Heap) (locs : List Loc) (cells' slots' : Nat), cells' ≤ cells + 47 → slots' ≤ slots + 4608 → RG T M I mi → GG E bx bm mi ko T M I H → va_S (fun q => s.heap.size ≤ q) s.heap H locs → W p l e room_1 s m #[Value.ref b] below meth c H locs cells' slots' (lw_Z below #[Value.ref b] s) (F0 m 1647 ls [])) : W p l e room_1 s m #[Value.ref b] below meth c H locs cells slots (lw_Z below #[Value.ref b] s) (F0 m 919 ls []) := by
  obtain ⟨hx, hb, hr, hml, hown, hts, hX0, hbl, hlocks, hgv⟩ := id C0
  have zc : zC p s m #[Value.ref b] meth c cL_law 4 RL ret := ⟨hx, hb, hml, hown, fun w hw => hts w (zb_in hw), hr, hlocks⟩
  have hbA : ¬ (fun q : Nat => s.heap.size ≤ q) b := Nat.not_le.mpr hbl
  refine lv_aload_n hx hb dL_law_919 rfl (lv_at hl 1 rfl) ?_
  refine lv_aload_n hx hb dL_law_920 rfl (lv_at hl 0 rfl) ?_
  refine lv_iload_n hx hb dL_law_921 rfl (lv_at hl 3 rfl) ?_
  refine lv_iconst (v := (1 : Int32)) hx hb dL_law_922 (by decide) ?_
  refine lv_iadd hx hb dL_law_923 ?_
  refine va_sld hx hb hX0 hbl hbA hS (zidx (k := 1) hi hL rfl (by decide)) dL_law_924 ?_
  refine lv_aload_n hx hb dL_law_925 rfl (lv_at hl 0 rfl) ?_
  refine lv_iload_n hx hb dL_law_926 rfl (lv_at hl 3 rfl) ?_
  refine lv_iconst (v := (2 : Int32)) hx hb dL_law_927 (by decide) ?_
  refine lv_iadd hx hb dL_law_928 ?_
  refine va_sld hx hb hX0 hbl hbA hS (zidx (k := 2) hi hL rfl (by decide)) dL_law_929 ?_
  have hB0 := tB_of hG.2.2.2.1
  have hI0 := tBI_of hG.2.2.1
  refine gx_choir [] hcs C0 hbx hbm hK hO hG hS hl.1 (Nat.le_of_ble_eq_true rfl) kmL_88 dL_law_930 (fun r1 mi' ko' T' I' H locs cells' slots' hx1 e1 e2 hG1 hS1 => ?_)
  obtain ⟨rfl, rfl, rfl⟩ := hx1
  have hG := hG1
  have hS := hS1
  refine lv_pop hx hb dL_law_933 rfl ?_
  refine lv_aload_n hx hb dL_law_934 rfl (lv_at hl 2 rfl) ?_
  refine lv_aload_n hx hb dL_law_935 rfl (lv_at hl 0 rfl) ?_
  refine lv_iload_n hx hb dL_law_936 rfl (lv_at hl 3 rfl) ?_
  refine lv_iconst (v := (1 : Int32)) hx hb dL_law_937 (by decide) ?_
  refine lv_iadd hx hb dL_law_938 ?_
  refine va_sld hx hb hX0 hbl hbA hS (zidx (k := 1) hi hL rfl (by decide)) dL_law_939 ?_
  refine lv_aload_n hx hb dL_law_940 rfl (lv_at hl 0 rfl) ?_
  refine lv_iload_n hx hb dL_law_941 rfl (lv_at hl 3 rfl) ?_
  refine lv_iconst (v := (2 : Int32)) hx hb dL_law_942 (by decide) ?_
  refine lv_iadd hx hb dL_law_943 ?_
  refine va_sld hx hb hX0 hbl hbA hS (zidx (k := 2) hi hL rfl (by decide)) dL_law_944 ?_
  refine gm_choir [] ⟨Nat.le_trans e1 hcs.1, Nat.le_trans e2 hcs.2⟩ C0 hbx hbm hK hO hG hS hl.1 (Nat.le_of_ble_eq_true rfl) kmL_91 dL_law_945 (fun r2 M' H locs hm1 hG2 hS2 => ?_)
  obtain rfl := hm1
  have hG := hG2
  have hS := hS2
  refine lv_pop hx hb dL_law_948 rfl ?_
  refine lv_goto (tgt := 1647) hx hb dL_law_949 (by decide) ?_
  exact kk _ _ _ _ _ _ _ _ _ e1 e2 hR hG hS

set_option maxRecDepth 40000 in
set_option maxHeartbeats 4000000 in
theorem g_18 {p : Program} {l : Launch} {e : Env} {s : State} {m : MethodId} {below : List Frame} {meth : Method} {c : Code} {E : zE} {G : zG} {b L i bx bm cells slots : Nat} {xs : Nat → Int32} {mi : Nat → Option Nat} {ko : Option Nat} {T : TT} {M : Nat → Nat → Int32} {I : Nat → TT} {H : Heap} {locs : List Loc} {ls : Array Slot} (hi : i + 6 ≤ L) (hL : L ≤ 3072) (hR : RG T M I mi) (hcs : cells + 47 ≤ room_1.cells ∧ slots + 4608 ≤ room_1.slots) (C0 : lw_At p s m meth c b L xs) (hbx : s.heap.size ≤ bx) (hbm : bx + 93 ≤ bm) (hK : zK E s) (hO : zO s ∧ zZ G (fun q => s.heap.size ≤ q) s s.heap) (hG : GG E bx bm mi ko T M I H) (hS : va_S (fun q => s.heap.size ≤ q) s.heap H locs) (hl : lv_has ls 4 [(0, .ref b), (1, .ref bx), (2, .ref bm), (3, .int (nI i))])
    (kk : ∀ (mi : Nat → Option Nat) (ko : Option Nat) (T : TT) (M : Nat → Nat → Int32) (I : Nat → TT) (H : Heap) (locs : List Loc) (cells' slots' : Nat), cells' ≤ cells + 47 → slots' ≤ slots + 4608 → RG T M I mi → GG E bx bm mi ko T M I H → va_S (fun q => s.heap.size ≤ q) s.heap H locs → W p l e room_1 s m #[Value.ref b] below meth c H locs cells' slots' (lw_Z below #[Value.ref b] s) (F0 m 1647 ls [])) : W p l e room_1 s m #[Value.ref b] below meth c H locs cells slots (lw_Z below #[Value.ref b] s) (F0 m 952 ls []) := by
  obtain ⟨hx, hb, hr, hml, hown, hts, hX0, hbl, hlocks, hgv⟩ := id C0
  have zc : zC p s m #[Value.ref b] meth c cL_law 4 RL ret := ⟨hx, hb, hml, hown, fun w hw => hts w (zb_in hw), hr, hlocks⟩
  have hbA : ¬ (fun q : Nat => s.heap.size ≤ q) b := Nat.not_le.mpr hbl
  refine lv_aload_n hx hb dL_law_952 rfl (lv_at hl 1 rfl) ?_
  refine lv_aload_n hx hb dL_law_953 rfl (lv_at hl 0 rfl) ?_
  refine lv_iload_n hx hb dL_law_954 rfl (lv_at hl 3 rfl) ?_
  refine lv_iconst (v := (1 : Int32)) hx hb dL_law_955 (by decide) ?_
  refine lv_iadd hx hb dL_law_956 ?_
  refine va_sld hx hb hX0 hbl hbA hS (zidx (k := 1) hi hL rfl (by decide)) dL_law_957 ?_
  have hB0 := tB_of hG.2.2.2.1
  have hI0 := tBI_of hG.2.2.1
  refine gx_orders [] hcs C0 hbx hbm hK hO hG hS hl.1 (Nat.le_of_ble_eq_true rfl) kmL_92 dL_law_958 (fun r1 mi' ko' T' I' H locs cells' slots' hx1 e1 e2 hG1 hS1 => ?_)
  obtain ⟨rfl, rfl, rfl⟩ := hx1
  have hG := hG1
  have hS := hS1
  refine lv_pop2_2 hx hb dL_law_961 rfl ?_
  refine lv_aload_n hx hb dL_law_962 rfl (lv_at hl 2 rfl) ?_
  refine lv_aload_n hx hb dL_law_963 rfl (lv_at hl 0 rfl) ?_
  refine lv_iload_n hx hb dL_law_964 rfl (lv_at hl 3 rfl) ?_
  refine lv_iconst (v := (1 : Int32)) hx hb dL_law_965 (by decide) ?_
  refine lv_iadd hx hb dL_law_966 ?_
  refine va_sld hx hb hX0 hbl hbA hS (zidx (k := 1) hi hL rfl (by decide)) dL_law_967 ?_
  refine gm_orders [] ⟨Nat.le_trans e1 hcs.1, Nat.le_trans e2 hcs.2⟩ C0 hbx hbm hK hO hG hS hl.1 (Nat.le_of_ble_eq_true rfl) kmL_96 dL_law_968 (fun r2 M' H locs hm1 hG2 hS2 => ?_)
  obtain rfl := hm1
  have hG := hG2
  have hS := hS2
  refine lv_pop2_2 hx hb dL_law_971 rfl ?_
  refine lv_goto (tgt := 1647) hx hb dL_law_972 (by decide) ?_
  exact kk _ _ _ _ _ _ _ _ _ e1 e2 hR hG hS

set_option maxRecDepth 40000 in
set_option maxHeartbeats 4000000 in
theorem g_19 {p : Program} {l : Launch} {e : Env} {s : State} {m : MethodId} {below : List Frame} {meth : Method} {c : Code} {E : zE} {G : zG} {b L i bx bm cells slots : Nat} {xs : Nat → Int32} {mi : Nat → Option Nat} {ko : Option Nat} {T : TT} {M : Nat → Nat → Int32} {I : Nat → TT} {H : Heap} {locs : List Loc} {ls : Array Slot} (hi : i + 6 ≤ L) (hL : L ≤ 3072) (hR : RG T M I mi) (hcs : cells + 47 ≤ room_1.cells ∧ slots + 4608 ≤ room_1.slots) (C0 : lw_At p s m meth c b L xs) (hbx : s.heap.size ≤ bx) (hbm : bx + 93 ≤ bm) (hK : zK E s) (hO : zO s ∧ zZ G (fun q => s.heap.size ≤ q) s s.heap) (hG : GG E bx bm mi ko T M I H) (hS : va_S (fun q => s.heap.size ≤ q) s.heap H locs) (hl : lv_has ls 4 [(0, .ref b), (1, .ref bx), (2, .ref bm), (3, .int (nI i))])
    (kk : ∀ (mi : Nat → Option Nat) (ko : Option Nat) (T : TT) (M : Nat → Nat → Int32) (I : Nat → TT) (H : Heap) (locs : List Loc) (cells' slots' : Nat), cells' ≤ cells + 47 → slots' ≤ slots + 4608 → RG T M I mi → GG E bx bm mi ko T M I H → va_S (fun q => s.heap.size ≤ q) s.heap H locs → W p l e room_1 s m #[Value.ref b] below meth c H locs cells' slots' (lw_Z below #[Value.ref b] s) (F0 m 1647 ls [])) : W p l e room_1 s m #[Value.ref b] below meth c H locs cells slots (lw_Z below #[Value.ref b] s) (F0 m 975 ls []) := by
  obtain ⟨hx, hb, hr, hml, hown, hts, hX0, hbl, hlocks, hgv⟩ := id C0
  have zc : zC p s m #[Value.ref b] meth c cL_law 4 RL ret := ⟨hx, hb, hml, hown, fun w hw => hts w (zb_in hw), hr, hlocks⟩
  have hbA : ¬ (fun q : Nat => s.heap.size ≤ q) b := Nat.not_le.mpr hbl
  refine lv_aload_n hx hb dL_law_975 rfl (lv_at hl 1 rfl) ?_
  refine lv_aload_n hx hb dL_law_976 rfl (lv_at hl 0 rfl) ?_
  refine lv_iload_n hx hb dL_law_977 rfl (lv_at hl 3 rfl) ?_
  refine lv_iconst (v := (1 : Int32)) hx hb dL_law_978 (by decide) ?_
  refine lv_iadd hx hb dL_law_979 ?_
  refine va_sld hx hb hX0 hbl hbA hS (zidx (k := 1) hi hL rfl (by decide)) dL_law_980 ?_
  refine lv_aload_n hx hb dL_law_981 rfl (lv_at hl 0 rfl) ?_
  refine lv_iload_n hx hb dL_law_982 rfl (lv_at hl 3 rfl) ?_
  refine lv_iconst (v := (2 : Int32)) hx hb dL_law_983 (by decide) ?_
  refine lv_iadd hx hb dL_law_984 ?_
  refine va_sld hx hb hX0 hbl hbA hS (zidx (k := 2) hi hL rfl (by decide)) dL_law_985 ?_
  have hB0 := tB_of hG.2.2.2.1
  have hI0 := tBI_of hG.2.2.1
  refine gx_order [] hcs C0 hbx hbm hK hO hG hS hl.1 (Nat.le_of_ble_eq_true rfl) kmL_97 dL_law_986 (fun r1 mi' ko' T' I' H locs cells' slots' hx1 e1 e2 hG1 hS1 => ?_)
  obtain ⟨rfl, rfl, rfl⟩ := hx1
  have hG := hG1
  have hS := hS1
  refine lv_pop hx hb dL_law_989 rfl ?_
  refine lv_aload_n hx hb dL_law_990 rfl (lv_at hl 2 rfl) ?_
  refine lv_aload_n hx hb dL_law_991 rfl (lv_at hl 0 rfl) ?_
  refine lv_iload_n hx hb dL_law_992 rfl (lv_at hl 3 rfl) ?_
  refine lv_iconst (v := (1 : Int32)) hx hb dL_law_993 (by decide) ?_
  refine lv_iadd hx hb dL_law_994 ?_
  refine va_sld hx hb hX0 hbl hbA hS (zidx (k := 1) hi hL rfl (by decide)) dL_law_995 ?_
  refine lv_aload_n hx hb dL_law_996 rfl (lv_at hl 0 rfl) ?_
  refine lv_iload_n hx hb dL_law_997 rfl (lv_at hl 3 rfl) ?_
  refine lv_iconst (v := (2 : Int32)) hx hb dL_law_998 (by decide) ?_
  refine lv_iadd hx hb dL_law_999 ?_
  refine va_sld hx hb hX0 hbl hbA hS (zidx (k := 2) hi hL rfl (by decide)) dL_law_1000 ?_
  refine gm_order [] ⟨Nat.le_trans e1 hcs.1, Nat.le_trans e2 hcs.2⟩ C0 hbx hbm hK hO hG hS hl.1 (Nat.le_of_ble_eq_true rfl) kmL_100 dL_law_1001 (fun r2 M' H locs hm1 hG2 hS2 => ?_)
  obtain rfl := hm1
  have hG := hG2
  have hS := hS2
  refine lv_pop hx hb dL_law_1004 rfl ?_
  refine lv_goto (tgt := 1647) hx hb dL_law_1005 (by decide) ?_
  exact kk _ _ _ _ _ _ _ _ _ e1 e2 hR hG hS

set_option maxRecDepth 40000 in
set_option maxHeartbeats 4000000 in
theorem g_20 {p : Program} {l : Launch} {e : Env} {s : State} {m : MethodId} {below : List Frame} {meth : Method} {c : Code} {E : zE} {G : zG} {b L i bx bm cells slots : Nat} {xs : Nat → Int32} {mi : Nat → Option Nat} {ko : Option Nat} {T : TT} {M : Nat → Nat → Int32} {I : Nat → TT} {H : Heap} {locs : List Loc} {ls : Array Slot} (hi : i + 6 ≤ L) (hL : L ≤ 3072) (hR : RG T M I mi) (hcs : cells + 47 ≤ room_1.cells ∧ slots + 4608 ≤ room_1.slots) (C0 : lw_At p s m meth c b L xs) (hbx : s.heap.size ≤ bx) (hbm : bx + 93 ≤ bm) (hK : zK E s) (hO : zO s ∧ zZ G (fun q => s.heap.size ≤ q) s s.heap) (hG : GG E bx bm mi ko T M I H) (hS : va_S (fun q => s.heap.size ≤ q) s.heap H locs) (hl : lv_has ls 4 [(0, .ref b), (1, .ref bx), (2, .ref bm), (3, .int (nI i))])
    (kk : ∀ (mi : Nat → Option Nat) (ko : Option Nat) (T : TT) (M : Nat → Nat → Int32) (I : Nat → TT) (H : Heap) (locs : List Loc) (cells' slots' : Nat), cells' ≤ cells + 47 → slots' ≤ slots + 4608 → RG T M I mi → GG E bx bm mi ko T M I H → va_S (fun q => s.heap.size ≤ q) s.heap H locs → W p l e room_1 s m #[Value.ref b] below meth c H locs cells' slots' (lw_Z below #[Value.ref b] s) (F0 m 1647 ls [])) : W p l e room_1 s m #[Value.ref b] below meth c H locs cells slots (lw_Z below #[Value.ref b] s) (F0 m 1008 ls []) := by
  obtain ⟨hx, hb, hr, hml, hown, hts, hX0, hbl, hlocks, hgv⟩ := id C0
  have zc : zC p s m #[Value.ref b] meth c cL_law 4 RL ret := ⟨hx, hb, hml, hown, fun w hw => hts w (zb_in hw), hr, hlocks⟩
  have hbA : ¬ (fun q : Nat => s.heap.size ≤ q) b := Nat.not_le.mpr hbl
  refine lv_aload_n hx hb dL_law_1008 rfl (lv_at hl 1 rfl) ?_
  refine lv_aload_n hx hb dL_law_1009 rfl (lv_at hl 0 rfl) ?_
  refine lv_iload_n hx hb dL_law_1010 rfl (lv_at hl 3 rfl) ?_
  refine lv_iconst (v := (1 : Int32)) hx hb dL_law_1011 (by decide) ?_
  refine lv_iadd hx hb dL_law_1012 ?_
  refine va_sld hx hb hX0 hbl hbA hS (zidx (k := 1) hi hL rfl (by decide)) dL_law_1013 ?_
  refine lv_aload_n hx hb dL_law_1014 rfl (lv_at hl 0 rfl) ?_
  refine lv_iload_n hx hb dL_law_1015 rfl (lv_at hl 3 rfl) ?_
  refine lv_iconst (v := (2 : Int32)) hx hb dL_law_1016 (by decide) ?_
  refine lv_iadd hx hb dL_law_1017 ?_
  refine va_sld hx hb hX0 hbl hbA hS (zidx (k := 2) hi hL rfl (by decide)) dL_law_1018 ?_
  refine lv_aload_n hx hb dL_law_1019 rfl (lv_at hl 0 rfl) ?_
  refine lv_iload_n hx hb dL_law_1020 rfl (lv_at hl 3 rfl) ?_
  refine lv_iconst (v := (3 : Int32)) hx hb dL_law_1021 (by decide) ?_
  refine lv_iadd hx hb dL_law_1022 ?_
  refine va_sld hx hb hX0 hbl hbA hS (zidx (k := 3) hi hL rfl (by decide)) dL_law_1023 ?_
  refine lv_aload_n hx hb dL_law_1024 rfl (lv_at hl 0 rfl) ?_
  refine lv_iload_n hx hb dL_law_1025 rfl (lv_at hl 3 rfl) ?_
  refine lv_iconst (v := (4 : Int32)) hx hb dL_law_1026 (by decide) ?_
  refine lv_iadd hx hb dL_law_1027 ?_
  refine va_sld hx hb hX0 hbl hbA hS (zidx (k := 4) hi hL rfl (by decide)) dL_law_1028 ?_
  refine lv_if_eq (tgt := 1036) hx hb dL_law_1029 (by decide) (fun hc0 => ?_) (fun hc0 => ?_)
  ·
    refine lv_iconst (v := (0 : Int32)) hx hb dL_law_1036 (by decide) ?_
    have hB0 := tB_of hG.2.2.2.1
    have hI0 := tBI_of hG.2.2.1
    refine gx_trade [] hcs C0 hbx hbm hK hO hG hS hl.1 (Nat.le_of_ble_eq_true rfl) kmL_101 dL_law_1037 (fun r1 mi' ko' T' I' H locs cells' slots' hx1 e1 e2 hG1 hS1 => ?_)
    obtain ⟨rfl, rfl, rfl⟩ := hx1
    have hG := hG1
    have hS := hS1
    refine lv_pop hx hb dL_law_1040 rfl ?_
    refine lv_aload_n hx hb dL_law_1041 rfl (lv_at hl 2 rfl) ?_
    refine lv_aload_n hx hb dL_law_1042 rfl (lv_at hl 0 rfl) ?_
    refine lv_iload_n hx hb dL_law_1043 rfl (lv_at hl 3 rfl) ?_
    refine lv_iconst (v := (1 : Int32)) hx hb dL_law_1044 (by decide) ?_
    refine lv_iadd hx hb dL_law_1045 ?_
    refine va_sld hx hb hX0 hbl hbA hS (zidx (k := 1) hi hL rfl (by decide)) dL_law_1046 ?_
    refine lv_aload_n hx hb dL_law_1047 rfl (lv_at hl 0 rfl) ?_
    refine lv_iload_n hx hb dL_law_1048 rfl (lv_at hl 3 rfl) ?_
    refine lv_iconst (v := (2 : Int32)) hx hb dL_law_1049 (by decide) ?_
    refine lv_iadd hx hb dL_law_1050 ?_
    refine va_sld hx hb hX0 hbl hbA hS (zidx (k := 2) hi hL rfl (by decide)) dL_law_1051 ?_
    refine lv_aload_n hx hb dL_law_1052 rfl (lv_at hl 0 rfl) ?_
    refine lv_iload_n hx hb dL_law_1053 rfl (lv_at hl 3 rfl) ?_
    refine lv_iconst (v := (3 : Int32)) hx hb dL_law_1054 (by decide) ?_
    refine lv_iadd hx hb dL_law_1055 ?_
    refine va_sld hx hb hX0 hbl hbA hS (zidx (k := 3) hi hL rfl (by decide)) dL_law_1056 ?_
    refine lv_aload_n hx hb dL_law_1057 rfl (lv_at hl 0 rfl) ?_
    refine lv_iload_n hx hb dL_law_1058 rfl (lv_at hl 3 rfl) ?_
    refine lv_iconst (v := (4 : Int32)) hx hb dL_law_1059 (by decide) ?_
    refine lv_iadd hx hb dL_law_1060 ?_
    refine va_sld hx hb hX0 hbl hbA hS (zidx (k := 4) hi hL rfl (by decide)) dL_law_1061 ?_
    refine lv_if_eq (tgt := 1069) hx hb dL_law_1062 (by decide) (fun hc11 => ?_) (fun hc11 => ?_)
    ·
      refine lv_iconst (v := (0 : Int32)) hx hb dL_law_1069 (by decide) ?_
      refine gm_trade [] ⟨Nat.le_trans e1 hcs.1, Nat.le_trans e2 hcs.2⟩ C0 hbx hbm hK hO hG hS hl.1 (Nat.le_of_ble_eq_true rfl) kmL_105 dL_law_1070 (fun r2 M' H locs hm1 hG2 hS2 => ?_)
      obtain rfl := hm1
      have hG := hG2
      have hS := hS2
      refine lv_pop hx hb dL_law_1073 rfl ?_
      refine lv_goto (tgt := 1647) hx hb dL_law_1074 (by decide) ?_
      exact kk _ _ _ _ _ _ _ _ _ e1 e2 hR hG hS
    ·
      refine lv_iconst (v := (1 : Int32)) hx hb dL_law_1065 (by decide) ?_
      refine lv_goto (tgt := 1070) hx hb dL_law_1066 (by decide) ?_
      refine gm_trade [] ⟨Nat.le_trans e1 hcs.1, Nat.le_trans e2 hcs.2⟩ C0 hbx hbm hK hO hG hS hl.1 (Nat.le_of_ble_eq_true rfl) kmL_105 dL_law_1070 (fun r2 M' H locs hm1 hG2 hS2 => ?_)
      obtain rfl := hm1
      have hG := hG2
      have hS := hS2
      refine lv_pop hx hb dL_law_1073 rfl ?_
      refine lv_goto (tgt := 1647) hx hb dL_law_1074 (by decide) ?_
      exact kk _ _ _ _ _ _ _ _ _ e1 e2 hR hG hS
  ·
    refine lv_iconst (v := (1 : Int32)) hx hb dL_law_1032 (by decide) ?_
    refine lv_goto (tgt := 1037) hx hb dL_law_1033 (by decide) ?_
    have hB0 := tB_of hG.2.2.2.1
    have hI0 := tBI_of hG.2.2.1
    refine gx_trade [] hcs C0 hbx hbm hK hO hG hS hl.1 (Nat.le_of_ble_eq_true rfl) kmL_101 dL_law_1037 (fun r1 mi' ko' T' I' H locs cells' slots' hx1 e1 e2 hG1 hS1 => ?_)
    obtain ⟨rfl, rfl, rfl⟩ := hx1
    have hG := hG1
    have hS := hS1
    refine lv_pop hx hb dL_law_1040 rfl ?_
    refine lv_aload_n hx hb dL_law_1041 rfl (lv_at hl 2 rfl) ?_
    refine lv_aload_n hx hb dL_law_1042 rfl (lv_at hl 0 rfl) ?_
    refine lv_iload_n hx hb dL_law_1043 rfl (lv_at hl 3 rfl) ?_
    refine lv_iconst (v := (1 : Int32)) hx hb dL_law_1044 (by decide) ?_
    refine lv_iadd hx hb dL_law_1045 ?_
    refine va_sld hx hb hX0 hbl hbA hS (zidx (k := 1) hi hL rfl (by decide)) dL_law_1046 ?_
    refine lv_aload_n hx hb dL_law_1047 rfl (lv_at hl 0 rfl) ?_
    refine lv_iload_n hx hb dL_law_1048 rfl (lv_at hl 3 rfl) ?_
    refine lv_iconst (v := (2 : Int32)) hx hb dL_law_1049 (by decide) ?_
    refine lv_iadd hx hb dL_law_1050 ?_
    refine va_sld hx hb hX0 hbl hbA hS (zidx (k := 2) hi hL rfl (by decide)) dL_law_1051 ?_
    refine lv_aload_n hx hb dL_law_1052 rfl (lv_at hl 0 rfl) ?_
    refine lv_iload_n hx hb dL_law_1053 rfl (lv_at hl 3 rfl) ?_
    refine lv_iconst (v := (3 : Int32)) hx hb dL_law_1054 (by decide) ?_
    refine lv_iadd hx hb dL_law_1055 ?_
    refine va_sld hx hb hX0 hbl hbA hS (zidx (k := 3) hi hL rfl (by decide)) dL_law_1056 ?_
    refine lv_aload_n hx hb dL_law_1057 rfl (lv_at hl 0 rfl) ?_
    refine lv_iload_n hx hb dL_law_1058 rfl (lv_at hl 3 rfl) ?_
    refine lv_iconst (v := (4 : Int32)) hx hb dL_law_1059 (by decide) ?_
    refine lv_iadd hx hb dL_law_1060 ?_
    refine va_sld hx hb hX0 hbl hbA hS (zidx (k := 4) hi hL rfl (by decide)) dL_law_1061 ?_
    refine lv_if_eq (tgt := 1069) hx hb dL_law_1062 (by decide) (fun hc11 => ?_) (fun hc11 => ?_)
    ·
      refine lv_iconst (v := (0 : Int32)) hx hb dL_law_1069 (by decide) ?_
      refine gm_trade [] ⟨Nat.le_trans e1 hcs.1, Nat.le_trans e2 hcs.2⟩ C0 hbx hbm hK hO hG hS hl.1 (Nat.le_of_ble_eq_true rfl) kmL_105 dL_law_1070 (fun r2 M' H locs hm1 hG2 hS2 => ?_)
      obtain rfl := hm1
      have hG := hG2
      have hS := hS2
      refine lv_pop hx hb dL_law_1073 rfl ?_
      refine lv_goto (tgt := 1647) hx hb dL_law_1074 (by decide) ?_
      exact kk _ _ _ _ _ _ _ _ _ e1 e2 hR hG hS
    ·
      refine lv_iconst (v := (1 : Int32)) hx hb dL_law_1065 (by decide) ?_
      refine lv_goto (tgt := 1070) hx hb dL_law_1066 (by decide) ?_
      refine gm_trade [] ⟨Nat.le_trans e1 hcs.1, Nat.le_trans e2 hcs.2⟩ C0 hbx hbm hK hO hG hS hl.1 (Nat.le_of_ble_eq_true rfl) kmL_105 dL_law_1070 (fun r2 M' H locs hm1 hG2 hS2 => ?_)
      obtain rfl := hm1
      have hG := hG2
      have hS := hS2
      refine lv_pop hx hb dL_law_1073 rfl ?_
      refine lv_goto (tgt := 1647) hx hb dL_law_1074 (by decide) ?_
      exact kk _ _ _ _ _ _ _ _ _ e1 e2 hR hG hS

set_option maxRecDepth 40000 in
set_option maxHeartbeats 4000000 in
theorem g_21 {p : Program} {l : Launch} {e : Env} {s : State} {m : MethodId} {below : List Frame} {meth : Method} {c : Code} {E : zE} {G : zG} {b L i bx bm cells slots : Nat} {xs : Nat → Int32} {mi : Nat → Option Nat} {ko : Option Nat} {T : TT} {M : Nat → Nat → Int32} {I : Nat → TT} {H : Heap} {locs : List Loc} {ls : Array Slot} (hi : i + 6 ≤ L) (hL : L ≤ 3072) (hR : RG T M I mi) (hcs : cells + 47 ≤ room_1.cells ∧ slots + 4608 ≤ room_1.slots) (C0 : lw_At p s m meth c b L xs) (hbx : s.heap.size ≤ bx) (hbm : bx + 93 ≤ bm) (hK : zK E s) (hO : zO s ∧ zZ G (fun q => s.heap.size ≤ q) s s.heap) (hG : GG E bx bm mi ko T M I H) (hS : va_S (fun q => s.heap.size ≤ q) s.heap H locs) (hl : lv_has ls 4 [(0, .ref b), (1, .ref bx), (2, .ref bm), (3, .int (nI i))])
    (kk : ∀ (mi : Nat → Option Nat) (ko : Option Nat) (T : TT) (M : Nat → Nat → Int32) (I : Nat → TT) (H : Heap) (locs : List Loc) (cells' slots' : Nat), cells' ≤ cells + 47 → slots' ≤ slots + 4608 → RG T M I mi → GG E bx bm mi ko T M I H → va_S (fun q => s.heap.size ≤ q) s.heap H locs → W p l e room_1 s m #[Value.ref b] below meth c H locs cells' slots' (lw_Z below #[Value.ref b] s) (F0 m 1647 ls [])) : W p l e room_1 s m #[Value.ref b] below meth c H locs cells slots (lw_Z below #[Value.ref b] s) (F0 m 1077 ls []) := by
  obtain ⟨hx, hb, hr, hml, hown, hts, hX0, hbl, hlocks, hgv⟩ := id C0
  have zc : zC p s m #[Value.ref b] meth c cL_law 4 RL ret := ⟨hx, hb, hml, hown, fun w hw => hts w (zb_in hw), hr, hlocks⟩
  have hbA : ¬ (fun q : Nat => s.heap.size ≤ q) b := Nat.not_le.mpr hbl
  refine lv_aload_n hx hb dL_law_1077 rfl (lv_at hl 1 rfl) ?_
  refine lv_aload_n hx hb dL_law_1078 rfl (lv_at hl 0 rfl) ?_
  refine lv_iload_n hx hb dL_law_1079 rfl (lv_at hl 3 rfl) ?_
  refine lv_iconst (v := (1 : Int32)) hx hb dL_law_1080 (by decide) ?_
  refine lv_iadd hx hb dL_law_1081 ?_
  refine va_sld hx hb hX0 hbl hbA hS (zidx (k := 1) hi hL rfl (by decide)) dL_law_1082 ?_
  refine lv_aload_n hx hb dL_law_1083 rfl (lv_at hl 0 rfl) ?_
  refine lv_iload_n hx hb dL_law_1084 rfl (lv_at hl 3 rfl) ?_
  refine lv_iconst (v := (2 : Int32)) hx hb dL_law_1085 (by decide) ?_
  refine lv_iadd hx hb dL_law_1086 ?_
  refine va_sld hx hb hX0 hbl hbA hS (zidx (k := 2) hi hL rfl (by decide)) dL_law_1087 ?_
  refine lv_aload_n hx hb dL_law_1088 rfl (lv_at hl 0 rfl) ?_
  refine lv_iload_n hx hb dL_law_1089 rfl (lv_at hl 3 rfl) ?_
  refine lv_iconst (v := (3 : Int32)) hx hb dL_law_1090 (by decide) ?_
  refine lv_iadd hx hb dL_law_1091 ?_
  refine va_sld hx hb hX0 hbl hbA hS (zidx (k := 3) hi hL rfl (by decide)) dL_law_1092 ?_
  have hB0 := tB_of hG.2.2.2.1
  have hI0 := tBI_of hG.2.2.1
  refine gx_odds [] hcs C0 hbx hbm hK hO hG hS hl.1 (Nat.le_of_ble_eq_true rfl) kmL_106 dL_law_1093 (fun r1 mi' ko' T' I' H locs cells' slots' hx1 e1 e2 hG1 hS1 => ?_)
  obtain ⟨rfl, rfl, rfl⟩ := hx1
  have hG := hG1
  have hS := hS1
  refine lv_pop2_2 hx hb dL_law_1096 rfl ?_
  refine lv_aload_n hx hb dL_law_1097 rfl (lv_at hl 2 rfl) ?_
  refine lv_aload_n hx hb dL_law_1098 rfl (lv_at hl 0 rfl) ?_
  refine lv_iload_n hx hb dL_law_1099 rfl (lv_at hl 3 rfl) ?_
  refine lv_iconst (v := (1 : Int32)) hx hb dL_law_1100 (by decide) ?_
  refine lv_iadd hx hb dL_law_1101 ?_
  refine va_sld hx hb hX0 hbl hbA hS (zidx (k := 1) hi hL rfl (by decide)) dL_law_1102 ?_
  refine lv_aload_n hx hb dL_law_1103 rfl (lv_at hl 0 rfl) ?_
  refine lv_iload_n hx hb dL_law_1104 rfl (lv_at hl 3 rfl) ?_
  refine lv_iconst (v := (2 : Int32)) hx hb dL_law_1105 (by decide) ?_
  refine lv_iadd hx hb dL_law_1106 ?_
  refine va_sld hx hb hX0 hbl hbA hS (zidx (k := 2) hi hL rfl (by decide)) dL_law_1107 ?_
  refine lv_aload_n hx hb dL_law_1108 rfl (lv_at hl 0 rfl) ?_
  refine lv_iload_n hx hb dL_law_1109 rfl (lv_at hl 3 rfl) ?_
  refine lv_iconst (v := (3 : Int32)) hx hb dL_law_1110 (by decide) ?_
  refine lv_iadd hx hb dL_law_1111 ?_
  refine va_sld hx hb hX0 hbl hbA hS (zidx (k := 3) hi hL rfl (by decide)) dL_law_1112 ?_
  refine gm_odds [] ⟨Nat.le_trans e1 hcs.1, Nat.le_trans e2 hcs.2⟩ C0 hbx hbm hK hO hG hS hl.1 (Nat.le_of_ble_eq_true rfl) kmL_110 dL_law_1113 (fun r2 M' H locs hm1 hG2 hS2 => ?_)
  obtain rfl := hm1
  have hG := hG2
  have hS := hS2
  refine lv_pop2_2 hx hb dL_law_1116 rfl ?_
  refine lv_goto (tgt := 1647) hx hb dL_law_1117 (by decide) ?_
  exact kk _ _ _ _ _ _ _ _ _ e1 e2 hR hG hS
end
section
set_option maxRecDepth 40000 in
set_option maxHeartbeats 4000000 in
theorem g_22 {p : Program} {l : Launch} {e : Env} {s : State} {m : MethodId} {below : List Frame} {meth : Method} {c : Code} {E : zE} {G : zG} {b L i bx bm cells slots : Nat} {xs : Nat → Int32} {mi : Nat → Option Nat} {ko : Option Nat} {T : TT} {M : Nat → Nat → Int32} {I : Nat → TT} {H : Heap} {locs : List Loc} {ls : Array Slot} (hi : i + 6 ≤ L) (hL : L ≤ 3072) (hR : RG T M I mi) (hcs : cells + 47 ≤ room_1.cells ∧ slots + 4608 ≤ room_1.slots) (C0 : lw_At p s m meth c b L xs) (hbx : s.heap.size ≤ bx) (hbm : bx + 93 ≤ bm) (hK : zK E s) (hO : zO s ∧ zZ G (fun q => s.heap.size ≤ q) s s.heap) (hG : GG E bx bm mi ko T M I H) (hS : va_S (fun q => s.heap.size ≤ q) s.heap H locs) (hl : lv_has ls 4 [(0, .ref b), (1, .ref bx), (2, .ref bm), (3, .int (nI i))])
    (kk : ∀ (mi : Nat → Option Nat) (ko : Option Nat) (T : TT) (M : Nat → Nat → Int32) (I : Nat → TT) (H : Heap) (locs : List Loc) (cells' slots' : Nat), cells' ≤ cells + 47 → slots' ≤ slots + 4608 → RG T M I mi → GG E bx bm mi ko T M I H → va_S (fun q => s.heap.size ≤ q) s.heap H locs → W p l e room_1 s m #[Value.ref b] below meth c H locs cells' slots' (lw_Z below #[Value.ref b] s) (F0 m 1647 ls [])) : W p l e room_1 s m #[Value.ref b] below meth c H locs cells slots (lw_Z below #[Value.ref b] s) (F0 m 1120 ls []) := by
  obtain ⟨hx, hb, hr, hml, hown, hts, hX0, hbl, hlocks, hgv⟩ := id C0
  have zc : zC p s m #[Value.ref b] meth c cL_law 4 RL ret := ⟨hx, hb, hml, hown, fun w hw => hts w (zb_in hw), hr, hlocks⟩
  have hbA : ¬ (fun q : Nat => s.heap.size ≤ q) b := Nat.not_le.mpr hbl
  refine lv_aload_n hx hb dL_law_1120 rfl (lv_at hl 1 rfl) ?_
  refine lv_aload_n hx hb dL_law_1121 rfl (lv_at hl 0 rfl) ?_
  refine lv_iload_n hx hb dL_law_1122 rfl (lv_at hl 3 rfl) ?_
  refine lv_iconst (v := (1 : Int32)) hx hb dL_law_1123 (by decide) ?_
  refine lv_iadd hx hb dL_law_1124 ?_
  refine va_sld hx hb hX0 hbl hbA hS (zidx (k := 1) hi hL rfl (by decide)) dL_law_1125 ?_
  refine lv_aload_n hx hb dL_law_1126 rfl (lv_at hl 0 rfl) ?_
  refine lv_iload_n hx hb dL_law_1127 rfl (lv_at hl 3 rfl) ?_
  refine lv_iconst (v := (2 : Int32)) hx hb dL_law_1128 (by decide) ?_
  refine lv_iadd hx hb dL_law_1129 ?_
  refine va_sld hx hb hX0 hbl hbA hS (zidx (k := 2) hi hL rfl (by decide)) dL_law_1130 ?_
  refine lv_aload_n hx hb dL_law_1131 rfl (lv_at hl 0 rfl) ?_
  refine lv_iload_n hx hb dL_law_1132 rfl (lv_at hl 3 rfl) ?_
  refine lv_iconst (v := (3 : Int32)) hx hb dL_law_1133 (by decide) ?_
  refine lv_iadd hx hb dL_law_1134 ?_
  refine va_sld hx hb hX0 hbl hbA hS (zidx (k := 3) hi hL rfl (by decide)) dL_law_1135 ?_
  refine lv_aload_n hx hb dL_law_1136 rfl (lv_at hl 0 rfl) ?_
  refine lv_iload_n hx hb dL_law_1137 rfl (lv_at hl 3 rfl) ?_
  refine lv_iconst (v := (4 : Int32)) hx hb dL_law_1138 (by decide) ?_
  refine lv_iadd hx hb dL_law_1139 ?_
  refine va_sld hx hb hX0 hbl hbA hS (zidx (k := 4) hi hL rfl (by decide)) dL_law_1140 ?_
  have hB0 := tB_of hG.2.2.2.1
  have hI0 := tBI_of hG.2.2.1
  refine gx_drawn [] hcs C0 hbx hbm hK hO hG hS hl.1 (Nat.le_of_ble_eq_true rfl) kmL_111 dL_law_1141 (fun r1 mi' ko' T' I' H locs cells' slots' hx1 e1 e2 hG1 hS1 => ?_)
  obtain ⟨rfl, rfl, rfl⟩ := hx1
  have hG := hG1
  have hS := hS1
  refine lv_pop hx hb dL_law_1144 rfl ?_
  refine lv_aload_n hx hb dL_law_1145 rfl (lv_at hl 2 rfl) ?_
  refine lv_aload_n hx hb dL_law_1146 rfl (lv_at hl 0 rfl) ?_
  refine lv_iload_n hx hb dL_law_1147 rfl (lv_at hl 3 rfl) ?_
  refine lv_iconst (v := (1 : Int32)) hx hb dL_law_1148 (by decide) ?_
  refine lv_iadd hx hb dL_law_1149 ?_
  refine va_sld hx hb hX0 hbl hbA hS (zidx (k := 1) hi hL rfl (by decide)) dL_law_1150 ?_
  refine lv_aload_n hx hb dL_law_1151 rfl (lv_at hl 0 rfl) ?_
  refine lv_iload_n hx hb dL_law_1152 rfl (lv_at hl 3 rfl) ?_
  refine lv_iconst (v := (2 : Int32)) hx hb dL_law_1153 (by decide) ?_
  refine lv_iadd hx hb dL_law_1154 ?_
  refine va_sld hx hb hX0 hbl hbA hS (zidx (k := 2) hi hL rfl (by decide)) dL_law_1155 ?_
  refine lv_aload_n hx hb dL_law_1156 rfl (lv_at hl 0 rfl) ?_
  refine lv_iload_n hx hb dL_law_1157 rfl (lv_at hl 3 rfl) ?_
  refine lv_iconst (v := (3 : Int32)) hx hb dL_law_1158 (by decide) ?_
  refine lv_iadd hx hb dL_law_1159 ?_
  refine va_sld hx hb hX0 hbl hbA hS (zidx (k := 3) hi hL rfl (by decide)) dL_law_1160 ?_
  refine lv_aload_n hx hb dL_law_1161 rfl (lv_at hl 0 rfl) ?_
  refine lv_iload_n hx hb dL_law_1162 rfl (lv_at hl 3 rfl) ?_
  refine lv_iconst (v := (4 : Int32)) hx hb dL_law_1163 (by decide) ?_
  refine lv_iadd hx hb dL_law_1164 ?_
  refine va_sld hx hb hX0 hbl hbA hS (zidx (k := 4) hi hL rfl (by decide)) dL_law_1165 ?_
  refine gm_drawn [] ⟨Nat.le_trans e1 hcs.1, Nat.le_trans e2 hcs.2⟩ C0 hbx hbm hK hO hG hS hl.1 (Nat.le_of_ble_eq_true rfl) kmL_114 dL_law_1166 (fun r2 M' H locs hm1 hG2 hS2 => ?_)
  obtain rfl := hm1
  have hG := hG2
  have hS := hS2
  refine lv_pop hx hb dL_law_1169 rfl ?_
  refine lv_goto (tgt := 1647) hx hb dL_law_1170 (by decide) ?_
  exact kk _ _ _ _ _ _ _ _ _ e1 e2 hR hG hS

set_option maxRecDepth 40000 in
set_option maxHeartbeats 4000000 in
theorem g_23 {p : Program} {l : Launch} {e : Env} {s : State} {m : MethodId} {below : List Frame} {meth : Method} {c : Code} {E : zE} {G : zG} {b L i bx bm cells slots : Nat} {xs : Nat → Int32} {mi : Nat → Option Nat} {ko : Option Nat} {T : TT} {M : Nat → Nat → Int32} {I : Nat → TT} {H : Heap} {locs : List Loc} {ls : Array Slot} (hi : i + 6 ≤ L) (hL : L ≤ 3072) (hR : RG T M I mi) (hcs : cells + 47 ≤ room_1.cells ∧ slots + 4608 ≤ room_1.slots) (C0 : lw_At p s m meth c b L xs) (hbx : s.heap.size ≤ bx) (hbm : bx + 93 ≤ bm) (hK : zK E s) (hO : zO s ∧ zZ G (fun q => s.heap.size ≤ q) s s.heap) (hG : GG E bx bm mi ko T M I H) (hS : va_S (fun q => s.heap.size ≤ q) s.heap H locs) (hl : lv_has ls 4 [(0, .ref b), (1, .ref bx), (2, .ref bm), (3, .int (nI i))])
    (kk : ∀ (mi : Nat → Option Nat) (ko : Option Nat) (T : TT) (M : Nat → Nat → Int32) (I : Nat → TT) (H : Heap) (locs : List Loc) (cells' slots' : Nat), cells' ≤ cells + 47 → slots' ≤ slots + 4608 → RG T M I mi → GG E bx bm mi ko T M I H → va_S (fun q => s.heap.size ≤ q) s.heap H locs → W p l e room_1 s m #[Value.ref b] below meth c H locs cells' slots' (lw_Z below #[Value.ref b] s) (F0 m 1647 ls [])) : W p l e room_1 s m #[Value.ref b] below meth c H locs cells slots (lw_Z below #[Value.ref b] s) (F0 m 1173 ls []) := by
  obtain ⟨hx, hb, hr, hml, hown, hts, hX0, hbl, hlocks, hgv⟩ := id C0
  have zc : zC p s m #[Value.ref b] meth c cL_law 4 RL ret := ⟨hx, hb, hml, hown, fun w hw => hts w (zb_in hw), hr, hlocks⟩
  have hbA : ¬ (fun q : Nat => s.heap.size ≤ q) b := Nat.not_le.mpr hbl
  refine lv_aload_n hx hb dL_law_1173 rfl (lv_at hl 1 rfl) ?_
  refine lv_aload_n hx hb dL_law_1174 rfl (lv_at hl 0 rfl) ?_
  refine lv_iload_n hx hb dL_law_1175 rfl (lv_at hl 3 rfl) ?_
  refine lv_iconst (v := (1 : Int32)) hx hb dL_law_1176 (by decide) ?_
  refine lv_iadd hx hb dL_law_1177 ?_
  refine va_sld hx hb hX0 hbl hbA hS (zidx (k := 1) hi hL rfl (by decide)) dL_law_1178 ?_
  refine lv_aload_n hx hb dL_law_1179 rfl (lv_at hl 0 rfl) ?_
  refine lv_iload_n hx hb dL_law_1180 rfl (lv_at hl 3 rfl) ?_
  refine lv_iconst (v := (2 : Int32)) hx hb dL_law_1181 (by decide) ?_
  refine lv_iadd hx hb dL_law_1182 ?_
  refine va_sld hx hb hX0 hbl hbA hS (zidx (k := 2) hi hL rfl (by decide)) dL_law_1183 ?_
  refine lv_aload_n hx hb dL_law_1184 rfl (lv_at hl 0 rfl) ?_
  refine lv_iload_n hx hb dL_law_1185 rfl (lv_at hl 3 rfl) ?_
  refine lv_iconst (v := (3 : Int32)) hx hb dL_law_1186 (by decide) ?_
  refine lv_iadd hx hb dL_law_1187 ?_
  refine va_sld hx hb hX0 hbl hbA hS (zidx (k := 3) hi hL rfl (by decide)) dL_law_1188 ?_
  refine lv_aload_n hx hb dL_law_1189 rfl (lv_at hl 0 rfl) ?_
  refine lv_iload_n hx hb dL_law_1190 rfl (lv_at hl 3 rfl) ?_
  refine lv_iconst (v := (4 : Int32)) hx hb dL_law_1191 (by decide) ?_
  refine lv_iadd hx hb dL_law_1192 ?_
  refine va_sld hx hb hX0 hbl hbA hS (zidx (k := 4) hi hL rfl (by decide)) dL_law_1193 ?_
  have hB0 := tB_of hG.2.2.2.1
  have hI0 := tBI_of hG.2.2.1
  refine gx_psalm [] hcs C0 hbx hbm hK hO hG hS hl.1 (Nat.le_of_ble_eq_true rfl) kmL_115 dL_law_1194 (fun r1 mi' ko' T' I' H locs cells' slots' hx1 e1 e2 hG1 hS1 => ?_)
  obtain ⟨rfl, rfl, rfl⟩ := hx1
  have hG := hG1
  have hS := hS1
  refine lv_pop hx hb dL_law_1197 rfl ?_
  refine lv_aload_n hx hb dL_law_1198 rfl (lv_at hl 2 rfl) ?_
  refine lv_aload_n hx hb dL_law_1199 rfl (lv_at hl 0 rfl) ?_
  refine lv_iload_n hx hb dL_law_1200 rfl (lv_at hl 3 rfl) ?_
  refine lv_iconst (v := (1 : Int32)) hx hb dL_law_1201 (by decide) ?_
  refine lv_iadd hx hb dL_law_1202 ?_
  refine va_sld hx hb hX0 hbl hbA hS (zidx (k := 1) hi hL rfl (by decide)) dL_law_1203 ?_
  refine lv_aload_n hx hb dL_law_1204 rfl (lv_at hl 0 rfl) ?_
  refine lv_iload_n hx hb dL_law_1205 rfl (lv_at hl 3 rfl) ?_
  refine lv_iconst (v := (2 : Int32)) hx hb dL_law_1206 (by decide) ?_
  refine lv_iadd hx hb dL_law_1207 ?_
  refine va_sld hx hb hX0 hbl hbA hS (zidx (k := 2) hi hL rfl (by decide)) dL_law_1208 ?_
  refine lv_aload_n hx hb dL_law_1209 rfl (lv_at hl 0 rfl) ?_
  refine lv_iload_n hx hb dL_law_1210 rfl (lv_at hl 3 rfl) ?_
  refine lv_iconst (v := (3 : Int32)) hx hb dL_law_1211 (by decide) ?_
  refine lv_iadd hx hb dL_law_1212 ?_
  refine va_sld hx hb hX0 hbl hbA hS (zidx (k := 3) hi hL rfl (by decide)) dL_law_1213 ?_
  refine lv_aload_n hx hb dL_law_1214 rfl (lv_at hl 0 rfl) ?_
  refine lv_iload_n hx hb dL_law_1215 rfl (lv_at hl 3 rfl) ?_
  refine lv_iconst (v := (4 : Int32)) hx hb dL_law_1216 (by decide) ?_
  refine lv_iadd hx hb dL_law_1217 ?_
  refine va_sld hx hb hX0 hbl hbA hS (zidx (k := 4) hi hL rfl (by decide)) dL_law_1218 ?_
  refine gm_psalm [] ⟨Nat.le_trans e1 hcs.1, Nat.le_trans e2 hcs.2⟩ C0 hbx hbm hK hO hG hS hl.1 (Nat.le_of_ble_eq_true rfl) kmL_118 dL_law_1219 (fun r2 M' H locs hm1 hG2 hS2 => ?_)
  obtain rfl := hm1
  have hG := hG2
  have hS := hS2
  refine lv_pop hx hb dL_law_1222 rfl ?_
  refine lv_goto (tgt := 1647) hx hb dL_law_1223 (by decide) ?_
  exact kk _ _ _ _ _ _ _ _ _ e1 e2 hR hG hS

set_option maxRecDepth 40000 in
set_option maxHeartbeats 4000000 in
theorem g_24 {p : Program} {l : Launch} {e : Env} {s : State} {m : MethodId} {below : List Frame} {meth : Method} {c : Code} {E : zE} {G : zG} {b L i bx bm cells slots : Nat} {xs : Nat → Int32} {mi : Nat → Option Nat} {ko : Option Nat} {T : TT} {M : Nat → Nat → Int32} {I : Nat → TT} {H : Heap} {locs : List Loc} {ls : Array Slot} (hi : i + 6 ≤ L) (hL : L ≤ 3072) (hR : RG T M I mi) (hcs : cells + 47 ≤ room_1.cells ∧ slots + 4608 ≤ room_1.slots) (C0 : lw_At p s m meth c b L xs) (hbx : s.heap.size ≤ bx) (hbm : bx + 93 ≤ bm) (hK : zK E s) (hO : zO s ∧ zZ G (fun q => s.heap.size ≤ q) s s.heap) (hG : GG E bx bm mi ko T M I H) (hS : va_S (fun q => s.heap.size ≤ q) s.heap H locs) (hl : lv_has ls 4 [(0, .ref b), (1, .ref bx), (2, .ref bm), (3, .int (nI i))])
    (kk : ∀ (mi : Nat → Option Nat) (ko : Option Nat) (T : TT) (M : Nat → Nat → Int32) (I : Nat → TT) (H : Heap) (locs : List Loc) (cells' slots' : Nat), cells' ≤ cells + 47 → slots' ≤ slots + 4608 → RG T M I mi → GG E bx bm mi ko T M I H → va_S (fun q => s.heap.size ≤ q) s.heap H locs → W p l e room_1 s m #[Value.ref b] below meth c H locs cells' slots' (lw_Z below #[Value.ref b] s) (F0 m 1647 ls [])) : W p l e room_1 s m #[Value.ref b] below meth c H locs cells slots (lw_Z below #[Value.ref b] s) (F0 m 1226 ls []) := by
  obtain ⟨hx, hb, hr, hml, hown, hts, hX0, hbl, hlocks, hgv⟩ := id C0
  have zc : zC p s m #[Value.ref b] meth c cL_law 4 RL ret := ⟨hx, hb, hml, hown, fun w hw => hts w (zb_in hw), hr, hlocks⟩
  have hbA : ¬ (fun q : Nat => s.heap.size ≤ q) b := Nat.not_le.mpr hbl
  refine lv_aload_n hx hb dL_law_1226 rfl (lv_at hl 1 rfl) ?_
  refine lv_aload_n hx hb dL_law_1227 rfl (lv_at hl 0 rfl) ?_
  refine lv_iload_n hx hb dL_law_1228 rfl (lv_at hl 3 rfl) ?_
  refine lv_iconst (v := (1 : Int32)) hx hb dL_law_1229 (by decide) ?_
  refine lv_iadd hx hb dL_law_1230 ?_
  refine va_sld hx hb hX0 hbl hbA hS (zidx (k := 1) hi hL rfl (by decide)) dL_law_1231 ?_
  refine lv_aload_n hx hb dL_law_1232 rfl (lv_at hl 0 rfl) ?_
  refine lv_iload_n hx hb dL_law_1233 rfl (lv_at hl 3 rfl) ?_
  refine lv_iconst (v := (2 : Int32)) hx hb dL_law_1234 (by decide) ?_
  refine lv_iadd hx hb dL_law_1235 ?_
  refine va_sld hx hb hX0 hbl hbA hS (zidx (k := 2) hi hL rfl (by decide)) dL_law_1236 ?_
  refine lv_aload_n hx hb dL_law_1237 rfl (lv_at hl 0 rfl) ?_
  refine lv_iload_n hx hb dL_law_1238 rfl (lv_at hl 3 rfl) ?_
  refine lv_iconst (v := (3 : Int32)) hx hb dL_law_1239 (by decide) ?_
  refine lv_iadd hx hb dL_law_1240 ?_
  refine va_sld hx hb hX0 hbl hbA hS (zidx (k := 3) hi hL rfl (by decide)) dL_law_1241 ?_
  refine lv_aload_n hx hb dL_law_1242 rfl (lv_at hl 0 rfl) ?_
  refine lv_iload_n hx hb dL_law_1243 rfl (lv_at hl 3 rfl) ?_
  refine lv_iconst (v := (4 : Int32)) hx hb dL_law_1244 (by decide) ?_
  refine lv_iadd hx hb dL_law_1245 ?_
  refine va_sld hx hb hX0 hbl hbA hS (zidx (k := 4) hi hL rfl (by decide)) dL_law_1246 ?_
  refine lv_if_eq (tgt := 1254) hx hb dL_law_1247 (by decide) (fun hc0 => ?_) (fun hc0 => ?_)
  ·
    refine lv_iconst (v := (0 : Int32)) hx hb dL_law_1254 (by decide) ?_
    have hB0 := tB_of hG.2.2.2.1
    have hI0 := tBI_of hG.2.2.1
    refine gx_meet [] hcs C0 hbx hbm hK hO hG hS hl.1 (Nat.le_of_ble_eq_true rfl) kmL_119 dL_law_1255 (fun r1 mi' ko' T' I' H locs cells' slots' hx1 e1 e2 hG1 hS1 => ?_)
    obtain ⟨rfl, rfl, rfl⟩ := hx1
    have hG := hG1
    have hS := hS1
    refine lv_pop hx hb dL_law_1258 rfl ?_
    refine lv_aload_n hx hb dL_law_1259 rfl (lv_at hl 2 rfl) ?_
    refine lv_aload_n hx hb dL_law_1260 rfl (lv_at hl 0 rfl) ?_
    refine lv_iload_n hx hb dL_law_1261 rfl (lv_at hl 3 rfl) ?_
    refine lv_iconst (v := (1 : Int32)) hx hb dL_law_1262 (by decide) ?_
    refine lv_iadd hx hb dL_law_1263 ?_
    refine va_sld hx hb hX0 hbl hbA hS (zidx (k := 1) hi hL rfl (by decide)) dL_law_1264 ?_
    refine lv_aload_n hx hb dL_law_1265 rfl (lv_at hl 0 rfl) ?_
    refine lv_iload_n hx hb dL_law_1266 rfl (lv_at hl 3 rfl) ?_
    refine lv_iconst (v := (2 : Int32)) hx hb dL_law_1267 (by decide) ?_
    refine lv_iadd hx hb dL_law_1268 ?_
    refine va_sld hx hb hX0 hbl hbA hS (zidx (k := 2) hi hL rfl (by decide)) dL_law_1269 ?_
    refine lv_aload_n hx hb dL_law_1270 rfl (lv_at hl 0 rfl) ?_
    refine lv_iload_n hx hb dL_law_1271 rfl (lv_at hl 3 rfl) ?_
    refine lv_iconst (v := (3 : Int32)) hx hb dL_law_1272 (by decide) ?_
    refine lv_iadd hx hb dL_law_1273 ?_
    refine va_sld hx hb hX0 hbl hbA hS (zidx (k := 3) hi hL rfl (by decide)) dL_law_1274 ?_
    refine lv_aload_n hx hb dL_law_1275 rfl (lv_at hl 0 rfl) ?_
    refine lv_iload_n hx hb dL_law_1276 rfl (lv_at hl 3 rfl) ?_
    refine lv_iconst (v := (4 : Int32)) hx hb dL_law_1277 (by decide) ?_
    refine lv_iadd hx hb dL_law_1278 ?_
    refine va_sld hx hb hX0 hbl hbA hS (zidx (k := 4) hi hL rfl (by decide)) dL_law_1279 ?_
    refine lv_if_eq (tgt := 1287) hx hb dL_law_1280 (by decide) (fun hc11 => ?_) (fun hc11 => ?_)
    ·
      refine lv_iconst (v := (0 : Int32)) hx hb dL_law_1287 (by decide) ?_
      refine gm_meet [] ⟨Nat.le_trans e1 hcs.1, Nat.le_trans e2 hcs.2⟩ C0 hbx hbm hK hO hG hS hl.1 (Nat.le_of_ble_eq_true rfl) kmL_122 dL_law_1288 (fun r2 M' H locs hm1 hG2 hS2 => ?_)
      obtain rfl := hm1
      have hG := hG2
      have hS := hS2
      refine lv_pop hx hb dL_law_1291 rfl ?_
      refine lv_goto (tgt := 1647) hx hb dL_law_1292 (by decide) ?_
      exact kk _ _ _ _ _ _ _ _ _ e1 e2 hR hG hS
    ·
      refine lv_iconst (v := (1 : Int32)) hx hb dL_law_1283 (by decide) ?_
      refine lv_goto (tgt := 1288) hx hb dL_law_1284 (by decide) ?_
      refine gm_meet [] ⟨Nat.le_trans e1 hcs.1, Nat.le_trans e2 hcs.2⟩ C0 hbx hbm hK hO hG hS hl.1 (Nat.le_of_ble_eq_true rfl) kmL_122 dL_law_1288 (fun r2 M' H locs hm1 hG2 hS2 => ?_)
      obtain rfl := hm1
      have hG := hG2
      have hS := hS2
      refine lv_pop hx hb dL_law_1291 rfl ?_
      refine lv_goto (tgt := 1647) hx hb dL_law_1292 (by decide) ?_
      exact kk _ _ _ _ _ _ _ _ _ e1 e2 hR hG hS
  ·
    refine lv_iconst (v := (1 : Int32)) hx hb dL_law_1250 (by decide) ?_
    refine lv_goto (tgt := 1255) hx hb dL_law_1251 (by decide) ?_
    have hB0 := tB_of hG.2.2.2.1
    have hI0 := tBI_of hG.2.2.1
    refine gx_meet [] hcs C0 hbx hbm hK hO hG hS hl.1 (Nat.le_of_ble_eq_true rfl) kmL_119 dL_law_1255 (fun r1 mi' ko' T' I' H locs cells' slots' hx1 e1 e2 hG1 hS1 => ?_)
    obtain ⟨rfl, rfl, rfl⟩ := hx1
    have hG := hG1
    have hS := hS1
    refine lv_pop hx hb dL_law_1258 rfl ?_
    refine lv_aload_n hx hb dL_law_1259 rfl (lv_at hl 2 rfl) ?_
    refine lv_aload_n hx hb dL_law_1260 rfl (lv_at hl 0 rfl) ?_
    refine lv_iload_n hx hb dL_law_1261 rfl (lv_at hl 3 rfl) ?_
    refine lv_iconst (v := (1 : Int32)) hx hb dL_law_1262 (by decide) ?_
    refine lv_iadd hx hb dL_law_1263 ?_
    refine va_sld hx hb hX0 hbl hbA hS (zidx (k := 1) hi hL rfl (by decide)) dL_law_1264 ?_
    refine lv_aload_n hx hb dL_law_1265 rfl (lv_at hl 0 rfl) ?_
    refine lv_iload_n hx hb dL_law_1266 rfl (lv_at hl 3 rfl) ?_
    refine lv_iconst (v := (2 : Int32)) hx hb dL_law_1267 (by decide) ?_
    refine lv_iadd hx hb dL_law_1268 ?_
    refine va_sld hx hb hX0 hbl hbA hS (zidx (k := 2) hi hL rfl (by decide)) dL_law_1269 ?_
    refine lv_aload_n hx hb dL_law_1270 rfl (lv_at hl 0 rfl) ?_
    refine lv_iload_n hx hb dL_law_1271 rfl (lv_at hl 3 rfl) ?_
    refine lv_iconst (v := (3 : Int32)) hx hb dL_law_1272 (by decide) ?_
    refine lv_iadd hx hb dL_law_1273 ?_
    refine va_sld hx hb hX0 hbl hbA hS (zidx (k := 3) hi hL rfl (by decide)) dL_law_1274 ?_
    refine lv_aload_n hx hb dL_law_1275 rfl (lv_at hl 0 rfl) ?_
    refine lv_iload_n hx hb dL_law_1276 rfl (lv_at hl 3 rfl) ?_
    refine lv_iconst (v := (4 : Int32)) hx hb dL_law_1277 (by decide) ?_
    refine lv_iadd hx hb dL_law_1278 ?_
    refine va_sld hx hb hX0 hbl hbA hS (zidx (k := 4) hi hL rfl (by decide)) dL_law_1279 ?_
    refine lv_if_eq (tgt := 1287) hx hb dL_law_1280 (by decide) (fun hc11 => ?_) (fun hc11 => ?_)
    ·
      refine lv_iconst (v := (0 : Int32)) hx hb dL_law_1287 (by decide) ?_
      refine gm_meet [] ⟨Nat.le_trans e1 hcs.1, Nat.le_trans e2 hcs.2⟩ C0 hbx hbm hK hO hG hS hl.1 (Nat.le_of_ble_eq_true rfl) kmL_122 dL_law_1288 (fun r2 M' H locs hm1 hG2 hS2 => ?_)
      obtain rfl := hm1
      have hG := hG2
      have hS := hS2
      refine lv_pop hx hb dL_law_1291 rfl ?_
      refine lv_goto (tgt := 1647) hx hb dL_law_1292 (by decide) ?_
      exact kk _ _ _ _ _ _ _ _ _ e1 e2 hR hG hS
    ·
      refine lv_iconst (v := (1 : Int32)) hx hb dL_law_1283 (by decide) ?_
      refine lv_goto (tgt := 1288) hx hb dL_law_1284 (by decide) ?_
      refine gm_meet [] ⟨Nat.le_trans e1 hcs.1, Nat.le_trans e2 hcs.2⟩ C0 hbx hbm hK hO hG hS hl.1 (Nat.le_of_ble_eq_true rfl) kmL_122 dL_law_1288 (fun r2 M' H locs hm1 hG2 hS2 => ?_)
      obtain rfl := hm1
      have hG := hG2
      have hS := hS2
      refine lv_pop hx hb dL_law_1291 rfl ?_
      refine lv_goto (tgt := 1647) hx hb dL_law_1292 (by decide) ?_
      exact kk _ _ _ _ _ _ _ _ _ e1 e2 hR hG hS

set_option maxRecDepth 40000 in
set_option maxHeartbeats 4000000 in
theorem g_25 {p : Program} {l : Launch} {e : Env} {s : State} {m : MethodId} {below : List Frame} {meth : Method} {c : Code} {E : zE} {G : zG} {b L i bx bm cells slots : Nat} {xs : Nat → Int32} {mi : Nat → Option Nat} {ko : Option Nat} {T : TT} {M : Nat → Nat → Int32} {I : Nat → TT} {H : Heap} {locs : List Loc} {ls : Array Slot} (hi : i + 6 ≤ L) (hL : L ≤ 3072) (hR : RG T M I mi) (hcs : cells + 47 ≤ room_1.cells ∧ slots + 4608 ≤ room_1.slots) (C0 : lw_At p s m meth c b L xs) (hbx : s.heap.size ≤ bx) (hbm : bx + 93 ≤ bm) (hK : zK E s) (hO : zO s ∧ zZ G (fun q => s.heap.size ≤ q) s s.heap) (hG : GG E bx bm mi ko T M I H) (hS : va_S (fun q => s.heap.size ≤ q) s.heap H locs) (hl : lv_has ls 4 [(0, .ref b), (1, .ref bx), (2, .ref bm), (3, .int (nI i))])
    (kk : ∀ (mi : Nat → Option Nat) (ko : Option Nat) (T : TT) (M : Nat → Nat → Int32) (I : Nat → TT) (H : Heap) (locs : List Loc) (cells' slots' : Nat), cells' ≤ cells + 47 → slots' ≤ slots + 4608 → RG T M I mi → GG E bx bm mi ko T M I H → va_S (fun q => s.heap.size ≤ q) s.heap H locs → W p l e room_1 s m #[Value.ref b] below meth c H locs cells' slots' (lw_Z below #[Value.ref b] s) (F0 m 1647 ls [])) : W p l e room_1 s m #[Value.ref b] below meth c H locs cells slots (lw_Z below #[Value.ref b] s) (F0 m 1295 ls []) := by
  obtain ⟨hx, hb, hr, hml, hown, hts, hX0, hbl, hlocks, hgv⟩ := id C0
  have zc : zC p s m #[Value.ref b] meth c cL_law 4 RL ret := ⟨hx, hb, hml, hown, fun w hw => hts w (zb_in hw), hr, hlocks⟩
  have hbA : ¬ (fun q : Nat => s.heap.size ≤ q) b := Nat.not_le.mpr hbl
  refine lv_aload_n hx hb dL_law_1295 rfl (lv_at hl 1 rfl) ?_
  refine lv_aload_n hx hb dL_law_1296 rfl (lv_at hl 0 rfl) ?_
  refine lv_iload_n hx hb dL_law_1297 rfl (lv_at hl 3 rfl) ?_
  refine lv_iconst (v := (1 : Int32)) hx hb dL_law_1298 (by decide) ?_
  refine lv_iadd hx hb dL_law_1299 ?_
  refine va_sld hx hb hX0 hbl hbA hS (zidx (k := 1) hi hL rfl (by decide)) dL_law_1300 ?_
  refine lv_aload_n hx hb dL_law_1301 rfl (lv_at hl 0 rfl) ?_
  refine lv_iload_n hx hb dL_law_1302 rfl (lv_at hl 3 rfl) ?_
  refine lv_iconst (v := (2 : Int32)) hx hb dL_law_1303 (by decide) ?_
  refine lv_iadd hx hb dL_law_1304 ?_
  refine va_sld hx hb hX0 hbl hbA hS (zidx (k := 2) hi hL rfl (by decide)) dL_law_1305 ?_
  refine lv_aload_n hx hb dL_law_1306 rfl (lv_at hl 0 rfl) ?_
  refine lv_iload_n hx hb dL_law_1307 rfl (lv_at hl 3 rfl) ?_
  refine lv_iconst (v := (3 : Int32)) hx hb dL_law_1308 (by decide) ?_
  refine lv_iadd hx hb dL_law_1309 ?_
  refine va_sld hx hb hX0 hbl hbA hS (zidx (k := 3) hi hL rfl (by decide)) dL_law_1310 ?_
  refine lv_if_eq (tgt := 1318) hx hb dL_law_1311 (by decide) (fun hc0 => ?_) (fun hc0 => ?_)
  ·
    refine lv_iconst (v := (0 : Int32)) hx hb dL_law_1318 (by decide) ?_
    have hB0 := tB_of hG.2.2.2.1
    have hI0 := tBI_of hG.2.2.1
    refine gx_carry [] hcs C0 hbx hbm hK hO hG hS hl.1 (Nat.le_of_ble_eq_true rfl) kmL_123 dL_law_1319 (fun r1 mi' ko' T' I' H locs cells' slots' hx1 e1 e2 hG1 hS1 => ?_)
    obtain ⟨rfl, rfl, rfl⟩ := hx1
    have hG := hG1
    have hS := hS1
    refine lv_pop hx hb dL_law_1322 rfl ?_
    refine lv_aload_n hx hb dL_law_1323 rfl (lv_at hl 2 rfl) ?_
    refine lv_aload_n hx hb dL_law_1324 rfl (lv_at hl 0 rfl) ?_
    refine lv_iload_n hx hb dL_law_1325 rfl (lv_at hl 3 rfl) ?_
    refine lv_iconst (v := (1 : Int32)) hx hb dL_law_1326 (by decide) ?_
    refine lv_iadd hx hb dL_law_1327 ?_
    refine va_sld hx hb hX0 hbl hbA hS (zidx (k := 1) hi hL rfl (by decide)) dL_law_1328 ?_
    refine lv_aload_n hx hb dL_law_1329 rfl (lv_at hl 0 rfl) ?_
    refine lv_iload_n hx hb dL_law_1330 rfl (lv_at hl 3 rfl) ?_
    refine lv_iconst (v := (2 : Int32)) hx hb dL_law_1331 (by decide) ?_
    refine lv_iadd hx hb dL_law_1332 ?_
    refine va_sld hx hb hX0 hbl hbA hS (zidx (k := 2) hi hL rfl (by decide)) dL_law_1333 ?_
    refine lv_aload_n hx hb dL_law_1334 rfl (lv_at hl 0 rfl) ?_
    refine lv_iload_n hx hb dL_law_1335 rfl (lv_at hl 3 rfl) ?_
    refine lv_iconst (v := (3 : Int32)) hx hb dL_law_1336 (by decide) ?_
    refine lv_iadd hx hb dL_law_1337 ?_
    refine va_sld hx hb hX0 hbl hbA hS (zidx (k := 3) hi hL rfl (by decide)) dL_law_1338 ?_
    refine lv_if_eq (tgt := 1346) hx hb dL_law_1339 (by decide) (fun hc11 => ?_) (fun hc11 => ?_)
    ·
      refine lv_iconst (v := (0 : Int32)) hx hb dL_law_1346 (by decide) ?_
      refine gm_carry [] ⟨Nat.le_trans e1 hcs.1, Nat.le_trans e2 hcs.2⟩ C0 hbx hbm hK hO hG hS hl.1 (Nat.le_of_ble_eq_true rfl) kmL_126 dL_law_1347 (fun r2 M' H locs hm1 hG2 hS2 => ?_)
      obtain rfl := hm1
      have hG := hG2
      have hS := hS2
      refine lv_pop hx hb dL_law_1350 rfl ?_
      refine lv_goto (tgt := 1647) hx hb dL_law_1351 (by decide) ?_
      exact kk _ _ _ _ _ _ _ _ _ e1 e2 hR hG hS
    ·
      refine lv_iconst (v := (1 : Int32)) hx hb dL_law_1342 (by decide) ?_
      refine lv_goto (tgt := 1347) hx hb dL_law_1343 (by decide) ?_
      refine gm_carry [] ⟨Nat.le_trans e1 hcs.1, Nat.le_trans e2 hcs.2⟩ C0 hbx hbm hK hO hG hS hl.1 (Nat.le_of_ble_eq_true rfl) kmL_126 dL_law_1347 (fun r2 M' H locs hm1 hG2 hS2 => ?_)
      obtain rfl := hm1
      have hG := hG2
      have hS := hS2
      refine lv_pop hx hb dL_law_1350 rfl ?_
      refine lv_goto (tgt := 1647) hx hb dL_law_1351 (by decide) ?_
      exact kk _ _ _ _ _ _ _ _ _ e1 e2 hR hG hS
  ·
    refine lv_iconst (v := (1 : Int32)) hx hb dL_law_1314 (by decide) ?_
    refine lv_goto (tgt := 1319) hx hb dL_law_1315 (by decide) ?_
    have hB0 := tB_of hG.2.2.2.1
    have hI0 := tBI_of hG.2.2.1
    refine gx_carry [] hcs C0 hbx hbm hK hO hG hS hl.1 (Nat.le_of_ble_eq_true rfl) kmL_123 dL_law_1319 (fun r1 mi' ko' T' I' H locs cells' slots' hx1 e1 e2 hG1 hS1 => ?_)
    obtain ⟨rfl, rfl, rfl⟩ := hx1
    have hG := hG1
    have hS := hS1
    refine lv_pop hx hb dL_law_1322 rfl ?_
    refine lv_aload_n hx hb dL_law_1323 rfl (lv_at hl 2 rfl) ?_
    refine lv_aload_n hx hb dL_law_1324 rfl (lv_at hl 0 rfl) ?_
    refine lv_iload_n hx hb dL_law_1325 rfl (lv_at hl 3 rfl) ?_
    refine lv_iconst (v := (1 : Int32)) hx hb dL_law_1326 (by decide) ?_
    refine lv_iadd hx hb dL_law_1327 ?_
    refine va_sld hx hb hX0 hbl hbA hS (zidx (k := 1) hi hL rfl (by decide)) dL_law_1328 ?_
    refine lv_aload_n hx hb dL_law_1329 rfl (lv_at hl 0 rfl) ?_
    refine lv_iload_n hx hb dL_law_1330 rfl (lv_at hl 3 rfl) ?_
    refine lv_iconst (v := (2 : Int32)) hx hb dL_law_1331 (by decide) ?_
    refine lv_iadd hx hb dL_law_1332 ?_
    refine va_sld hx hb hX0 hbl hbA hS (zidx (k := 2) hi hL rfl (by decide)) dL_law_1333 ?_
    refine lv_aload_n hx hb dL_law_1334 rfl (lv_at hl 0 rfl) ?_
    refine lv_iload_n hx hb dL_law_1335 rfl (lv_at hl 3 rfl) ?_
    refine lv_iconst (v := (3 : Int32)) hx hb dL_law_1336 (by decide) ?_
    refine lv_iadd hx hb dL_law_1337 ?_
    refine va_sld hx hb hX0 hbl hbA hS (zidx (k := 3) hi hL rfl (by decide)) dL_law_1338 ?_
    refine lv_if_eq (tgt := 1346) hx hb dL_law_1339 (by decide) (fun hc11 => ?_) (fun hc11 => ?_)
    ·
      refine lv_iconst (v := (0 : Int32)) hx hb dL_law_1346 (by decide) ?_
      refine gm_carry [] ⟨Nat.le_trans e1 hcs.1, Nat.le_trans e2 hcs.2⟩ C0 hbx hbm hK hO hG hS hl.1 (Nat.le_of_ble_eq_true rfl) kmL_126 dL_law_1347 (fun r2 M' H locs hm1 hG2 hS2 => ?_)
      obtain rfl := hm1
      have hG := hG2
      have hS := hS2
      refine lv_pop hx hb dL_law_1350 rfl ?_
      refine lv_goto (tgt := 1647) hx hb dL_law_1351 (by decide) ?_
      exact kk _ _ _ _ _ _ _ _ _ e1 e2 hR hG hS
    ·
      refine lv_iconst (v := (1 : Int32)) hx hb dL_law_1342 (by decide) ?_
      refine lv_goto (tgt := 1347) hx hb dL_law_1343 (by decide) ?_
      refine gm_carry [] ⟨Nat.le_trans e1 hcs.1, Nat.le_trans e2 hcs.2⟩ C0 hbx hbm hK hO hG hS hl.1 (Nat.le_of_ble_eq_true rfl) kmL_126 dL_law_1347 (fun r2 M' H locs hm1 hG2 hS2 => ?_)
      obtain rfl := hm1
      have hG := hG2
      have hS := hS2
      refine lv_pop hx hb dL_law_1350 rfl ?_
      refine lv_goto (tgt := 1647) hx hb dL_law_1351 (by decide) ?_
      exact kk _ _ _ _ _ _ _ _ _ e1 e2 hR hG hS

set_option maxRecDepth 40000 in
set_option maxHeartbeats 4000000 in
theorem g_26 {p : Program} {l : Launch} {e : Env} {s : State} {m : MethodId} {below : List Frame} {meth : Method} {c : Code} {E : zE} {G : zG} {b L i bx bm cells slots : Nat} {xs : Nat → Int32} {mi : Nat → Option Nat} {ko : Option Nat} {T : TT} {M : Nat → Nat → Int32} {I : Nat → TT} {H : Heap} {locs : List Loc} {ls : Array Slot} (hi : i + 6 ≤ L) (hL : L ≤ 3072) (hR : RG T M I mi) (hcs : cells + 47 ≤ room_1.cells ∧ slots + 4608 ≤ room_1.slots) (C0 : lw_At p s m meth c b L xs) (hbx : s.heap.size ≤ bx) (hbm : bx + 93 ≤ bm) (hK : zK E s) (hO : zO s ∧ zZ G (fun q => s.heap.size ≤ q) s s.heap) (hG : GG E bx bm mi ko T M I H) (hS : va_S (fun q => s.heap.size ≤ q) s.heap H locs) (hl : lv_has ls 4 [(0, .ref b), (1, .ref bx), (2, .ref bm), (3, .int (nI i))])
    (kk : ∀ (mi : Nat → Option Nat) (ko : Option Nat) (T : TT) (M : Nat → Nat → Int32) (I : Nat → TT) (H : Heap) (locs : List Loc) (cells' slots' : Nat), cells' ≤ cells + 47 → slots' ≤ slots + 4608 → RG T M I mi → GG E bx bm mi ko T M I H → va_S (fun q => s.heap.size ≤ q) s.heap H locs → W p l e room_1 s m #[Value.ref b] below meth c H locs cells' slots' (lw_Z below #[Value.ref b] s) (F0 m 1647 ls [])) : W p l e room_1 s m #[Value.ref b] below meth c H locs cells slots (lw_Z below #[Value.ref b] s) (F0 m 1354 ls []) := by
  obtain ⟨hx, hb, hr, hml, hown, hts, hX0, hbl, hlocks, hgv⟩ := id C0
  have zc : zC p s m #[Value.ref b] meth c cL_law 4 RL ret := ⟨hx, hb, hml, hown, fun w hw => hts w (zb_in hw), hr, hlocks⟩
  have hbA : ¬ (fun q : Nat => s.heap.size ≤ q) b := Nat.not_le.mpr hbl
  refine lv_aload_n hx hb dL_law_1354 rfl (lv_at hl 1 rfl) ?_
  refine lv_aload_n hx hb dL_law_1355 rfl (lv_at hl 0 rfl) ?_
  refine lv_iload_n hx hb dL_law_1356 rfl (lv_at hl 3 rfl) ?_
  refine lv_iconst (v := (1 : Int32)) hx hb dL_law_1357 (by decide) ?_
  refine lv_iadd hx hb dL_law_1358 ?_
  refine va_sld hx hb hX0 hbl hbA hS (zidx (k := 1) hi hL rfl (by decide)) dL_law_1359 ?_
  refine lv_aload_n hx hb dL_law_1360 rfl (lv_at hl 0 rfl) ?_
  refine lv_iload_n hx hb dL_law_1361 rfl (lv_at hl 3 rfl) ?_
  refine lv_iconst (v := (2 : Int32)) hx hb dL_law_1362 (by decide) ?_
  refine lv_iadd hx hb dL_law_1363 ?_
  refine va_sld hx hb hX0 hbl hbA hS (zidx (k := 2) hi hL rfl (by decide)) dL_law_1364 ?_
  refine lv_aload_n hx hb dL_law_1365 rfl (lv_at hl 0 rfl) ?_
  refine lv_iload_n hx hb dL_law_1366 rfl (lv_at hl 3 rfl) ?_
  refine lv_iconst (v := (3 : Int32)) hx hb dL_law_1367 (by decide) ?_
  refine lv_iadd hx hb dL_law_1368 ?_
  refine va_sld hx hb hX0 hbl hbA hS (zidx (k := 3) hi hL rfl (by decide)) dL_law_1369 ?_
  refine lv_aload_n hx hb dL_law_1370 rfl (lv_at hl 0 rfl) ?_
  refine lv_iload_n hx hb dL_law_1371 rfl (lv_at hl 3 rfl) ?_
  refine lv_iconst (v := (4 : Int32)) hx hb dL_law_1372 (by decide) ?_
  refine lv_iadd hx hb dL_law_1373 ?_
  refine va_sld hx hb hX0 hbl hbA hS (zidx (k := 4) hi hL rfl (by decide)) dL_law_1374 ?_
  refine lv_if_eq (tgt := 1382) hx hb dL_law_1375 (by decide) (fun hc0 => ?_) (fun hc0 => ?_)
  ·
    refine lv_iconst (v := (0 : Int32)) hx hb dL_law_1382 (by decide) ?_
    have hB0 := tB_of hG.2.2.2.1
    have hI0 := tBI_of hG.2.2.1
    refine gx_join [] hcs C0 hbx hbm hK hO hG hS hl.1 (Nat.le_of_ble_eq_true rfl) kmL_127 dL_law_1383 (fun r1 mi' ko' T' I' H locs cells' slots' hx1 e1 e2 hG1 hS1 => ?_)
    obtain ⟨rfl, rfl, rfl⟩ := hx1
    have hG := hG1
    have hS := hS1
    refine lv_pop hx hb dL_law_1386 rfl ?_
    refine lv_aload_n hx hb dL_law_1387 rfl (lv_at hl 2 rfl) ?_
    refine lv_aload_n hx hb dL_law_1388 rfl (lv_at hl 0 rfl) ?_
    refine lv_iload_n hx hb dL_law_1389 rfl (lv_at hl 3 rfl) ?_
    refine lv_iconst (v := (1 : Int32)) hx hb dL_law_1390 (by decide) ?_
    refine lv_iadd hx hb dL_law_1391 ?_
    refine va_sld hx hb hX0 hbl hbA hS (zidx (k := 1) hi hL rfl (by decide)) dL_law_1392 ?_
    refine lv_aload_n hx hb dL_law_1393 rfl (lv_at hl 0 rfl) ?_
    refine lv_iload_n hx hb dL_law_1394 rfl (lv_at hl 3 rfl) ?_
    refine lv_iconst (v := (2 : Int32)) hx hb dL_law_1395 (by decide) ?_
    refine lv_iadd hx hb dL_law_1396 ?_
    refine va_sld hx hb hX0 hbl hbA hS (zidx (k := 2) hi hL rfl (by decide)) dL_law_1397 ?_
    refine lv_aload_n hx hb dL_law_1398 rfl (lv_at hl 0 rfl) ?_
    refine lv_iload_n hx hb dL_law_1399 rfl (lv_at hl 3 rfl) ?_
    refine lv_iconst (v := (3 : Int32)) hx hb dL_law_1400 (by decide) ?_
    refine lv_iadd hx hb dL_law_1401 ?_
    refine va_sld hx hb hX0 hbl hbA hS (zidx (k := 3) hi hL rfl (by decide)) dL_law_1402 ?_
    refine lv_aload_n hx hb dL_law_1403 rfl (lv_at hl 0 rfl) ?_
    refine lv_iload_n hx hb dL_law_1404 rfl (lv_at hl 3 rfl) ?_
    refine lv_iconst (v := (4 : Int32)) hx hb dL_law_1405 (by decide) ?_
    refine lv_iadd hx hb dL_law_1406 ?_
    refine va_sld hx hb hX0 hbl hbA hS (zidx (k := 4) hi hL rfl (by decide)) dL_law_1407 ?_
    refine lv_if_eq (tgt := 1415) hx hb dL_law_1408 (by decide) (fun hc11 => ?_) (fun hc11 => ?_)
    ·
      refine lv_iconst (v := (0 : Int32)) hx hb dL_law_1415 (by decide) ?_
      refine gm_join [] ⟨Nat.le_trans e1 hcs.1, Nat.le_trans e2 hcs.2⟩ C0 hbx hbm hK hO hG hS hl.1 (Nat.le_of_ble_eq_true rfl) kmL_130 dL_law_1416 (fun r2 M' H locs hm1 hG2 hS2 => ?_)
      obtain rfl := hm1
      have hG := hG2
      have hS := hS2
      refine lv_pop hx hb dL_law_1419 rfl ?_
      refine lv_goto (tgt := 1647) hx hb dL_law_1420 (by decide) ?_
      exact kk _ _ _ _ _ _ _ _ _ e1 e2 hR hG hS
    ·
      refine lv_iconst (v := (1 : Int32)) hx hb dL_law_1411 (by decide) ?_
      refine lv_goto (tgt := 1416) hx hb dL_law_1412 (by decide) ?_
      refine gm_join [] ⟨Nat.le_trans e1 hcs.1, Nat.le_trans e2 hcs.2⟩ C0 hbx hbm hK hO hG hS hl.1 (Nat.le_of_ble_eq_true rfl) kmL_130 dL_law_1416 (fun r2 M' H locs hm1 hG2 hS2 => ?_)
      obtain rfl := hm1
      have hG := hG2
      have hS := hS2
      refine lv_pop hx hb dL_law_1419 rfl ?_
      refine lv_goto (tgt := 1647) hx hb dL_law_1420 (by decide) ?_
      exact kk _ _ _ _ _ _ _ _ _ e1 e2 hR hG hS
  ·
    refine lv_iconst (v := (1 : Int32)) hx hb dL_law_1378 (by decide) ?_
    refine lv_goto (tgt := 1383) hx hb dL_law_1379 (by decide) ?_
    have hB0 := tB_of hG.2.2.2.1
    have hI0 := tBI_of hG.2.2.1
    refine gx_join [] hcs C0 hbx hbm hK hO hG hS hl.1 (Nat.le_of_ble_eq_true rfl) kmL_127 dL_law_1383 (fun r1 mi' ko' T' I' H locs cells' slots' hx1 e1 e2 hG1 hS1 => ?_)
    obtain ⟨rfl, rfl, rfl⟩ := hx1
    have hG := hG1
    have hS := hS1
    refine lv_pop hx hb dL_law_1386 rfl ?_
    refine lv_aload_n hx hb dL_law_1387 rfl (lv_at hl 2 rfl) ?_
    refine lv_aload_n hx hb dL_law_1388 rfl (lv_at hl 0 rfl) ?_
    refine lv_iload_n hx hb dL_law_1389 rfl (lv_at hl 3 rfl) ?_
    refine lv_iconst (v := (1 : Int32)) hx hb dL_law_1390 (by decide) ?_
    refine lv_iadd hx hb dL_law_1391 ?_
    refine va_sld hx hb hX0 hbl hbA hS (zidx (k := 1) hi hL rfl (by decide)) dL_law_1392 ?_
    refine lv_aload_n hx hb dL_law_1393 rfl (lv_at hl 0 rfl) ?_
    refine lv_iload_n hx hb dL_law_1394 rfl (lv_at hl 3 rfl) ?_
    refine lv_iconst (v := (2 : Int32)) hx hb dL_law_1395 (by decide) ?_
    refine lv_iadd hx hb dL_law_1396 ?_
    refine va_sld hx hb hX0 hbl hbA hS (zidx (k := 2) hi hL rfl (by decide)) dL_law_1397 ?_
    refine lv_aload_n hx hb dL_law_1398 rfl (lv_at hl 0 rfl) ?_
    refine lv_iload_n hx hb dL_law_1399 rfl (lv_at hl 3 rfl) ?_
    refine lv_iconst (v := (3 : Int32)) hx hb dL_law_1400 (by decide) ?_
    refine lv_iadd hx hb dL_law_1401 ?_
    refine va_sld hx hb hX0 hbl hbA hS (zidx (k := 3) hi hL rfl (by decide)) dL_law_1402 ?_
    refine lv_aload_n hx hb dL_law_1403 rfl (lv_at hl 0 rfl) ?_
    refine lv_iload_n hx hb dL_law_1404 rfl (lv_at hl 3 rfl) ?_
    refine lv_iconst (v := (4 : Int32)) hx hb dL_law_1405 (by decide) ?_
    refine lv_iadd hx hb dL_law_1406 ?_
    refine va_sld hx hb hX0 hbl hbA hS (zidx (k := 4) hi hL rfl (by decide)) dL_law_1407 ?_
    refine lv_if_eq (tgt := 1415) hx hb dL_law_1408 (by decide) (fun hc11 => ?_) (fun hc11 => ?_)
    ·
      refine lv_iconst (v := (0 : Int32)) hx hb dL_law_1415 (by decide) ?_
      refine gm_join [] ⟨Nat.le_trans e1 hcs.1, Nat.le_trans e2 hcs.2⟩ C0 hbx hbm hK hO hG hS hl.1 (Nat.le_of_ble_eq_true rfl) kmL_130 dL_law_1416 (fun r2 M' H locs hm1 hG2 hS2 => ?_)
      obtain rfl := hm1
      have hG := hG2
      have hS := hS2
      refine lv_pop hx hb dL_law_1419 rfl ?_
      refine lv_goto (tgt := 1647) hx hb dL_law_1420 (by decide) ?_
      exact kk _ _ _ _ _ _ _ _ _ e1 e2 hR hG hS
    ·
      refine lv_iconst (v := (1 : Int32)) hx hb dL_law_1411 (by decide) ?_
      refine lv_goto (tgt := 1416) hx hb dL_law_1412 (by decide) ?_
      refine gm_join [] ⟨Nat.le_trans e1 hcs.1, Nat.le_trans e2 hcs.2⟩ C0 hbx hbm hK hO hG hS hl.1 (Nat.le_of_ble_eq_true rfl) kmL_130 dL_law_1416 (fun r2 M' H locs hm1 hG2 hS2 => ?_)
      obtain rfl := hm1
      have hG := hG2
      have hS := hS2
      refine lv_pop hx hb dL_law_1419 rfl ?_
      refine lv_goto (tgt := 1647) hx hb dL_law_1420 (by decide) ?_
      exact kk _ _ _ _ _ _ _ _ _ e1 e2 hR hG hS

set_option maxRecDepth 40000 in
set_option maxHeartbeats 4000000 in
theorem g_27 {p : Program} {l : Launch} {e : Env} {s : State} {m : MethodId} {below : List Frame} {meth : Method} {c : Code} {E : zE} {G : zG} {b L i bx bm cells slots : Nat} {xs : Nat → Int32} {mi : Nat → Option Nat} {ko : Option Nat} {T : TT} {M : Nat → Nat → Int32} {I : Nat → TT} {H : Heap} {locs : List Loc} {ls : Array Slot} (hi : i + 6 ≤ L) (hL : L ≤ 3072) (hR : RG T M I mi) (hcs : cells + 47 ≤ room_1.cells ∧ slots + 4608 ≤ room_1.slots) (C0 : lw_At p s m meth c b L xs) (hbx : s.heap.size ≤ bx) (hbm : bx + 93 ≤ bm) (hK : zK E s) (hO : zO s ∧ zZ G (fun q => s.heap.size ≤ q) s s.heap) (hG : GG E bx bm mi ko T M I H) (hS : va_S (fun q => s.heap.size ≤ q) s.heap H locs) (hl : lv_has ls 4 [(0, .ref b), (1, .ref bx), (2, .ref bm), (3, .int (nI i))])
    (kk : ∀ (mi : Nat → Option Nat) (ko : Option Nat) (T : TT) (M : Nat → Nat → Int32) (I : Nat → TT) (H : Heap) (locs : List Loc) (cells' slots' : Nat), cells' ≤ cells + 47 → slots' ≤ slots + 4608 → RG T M I mi → GG E bx bm mi ko T M I H → va_S (fun q => s.heap.size ≤ q) s.heap H locs → W p l e room_1 s m #[Value.ref b] below meth c H locs cells' slots' (lw_Z below #[Value.ref b] s) (F0 m 1647 ls [])) : W p l e room_1 s m #[Value.ref b] below meth c H locs cells slots (lw_Z below #[Value.ref b] s) (F0 m 1423 ls []) := by
  obtain ⟨hx, hb, hr, hml, hown, hts, hX0, hbl, hlocks, hgv⟩ := id C0
  have zc : zC p s m #[Value.ref b] meth c cL_law 4 RL ret := ⟨hx, hb, hml, hown, fun w hw => hts w (zb_in hw), hr, hlocks⟩
  have hbA : ¬ (fun q : Nat => s.heap.size ≤ q) b := Nat.not_le.mpr hbl
  refine lv_aload_n hx hb dL_law_1423 rfl (lv_at hl 1 rfl) ?_
  refine lv_aload_n hx hb dL_law_1424 rfl (lv_at hl 0 rfl) ?_
  refine lv_iload_n hx hb dL_law_1425 rfl (lv_at hl 3 rfl) ?_
  refine lv_iconst (v := (1 : Int32)) hx hb dL_law_1426 (by decide) ?_
  refine lv_iadd hx hb dL_law_1427 ?_
  refine va_sld hx hb hX0 hbl hbA hS (zidx (k := 1) hi hL rfl (by decide)) dL_law_1428 ?_
  refine lv_aload_n hx hb dL_law_1429 rfl (lv_at hl 0 rfl) ?_
  refine lv_iload_n hx hb dL_law_1430 rfl (lv_at hl 3 rfl) ?_
  refine lv_iconst (v := (2 : Int32)) hx hb dL_law_1431 (by decide) ?_
  refine lv_iadd hx hb dL_law_1432 ?_
  refine va_sld hx hb hX0 hbl hbA hS (zidx (k := 2) hi hL rfl (by decide)) dL_law_1433 ?_
  have hB0 := tB_of hG.2.2.2.1
  have hI0 := tBI_of hG.2.2.1
  refine gx_slopes [] hcs C0 hbx hbm hK hO hG hS hl.1 (Nat.le_of_ble_eq_true rfl) kmL_131 dL_law_1434 (fun r1 mi' ko' T' I' H locs cells' slots' hx1 e1 e2 hG1 hS1 => ?_)
  obtain ⟨rfl, rfl, rfl⟩ := hx1
  have hG := hG1
  have hS := hS1
  refine lv_pop hx hb dL_law_1437 rfl ?_
  refine lv_aload_n hx hb dL_law_1438 rfl (lv_at hl 2 rfl) ?_
  refine lv_aload_n hx hb dL_law_1439 rfl (lv_at hl 0 rfl) ?_
  refine lv_iload_n hx hb dL_law_1440 rfl (lv_at hl 3 rfl) ?_
  refine lv_iconst (v := (1 : Int32)) hx hb dL_law_1441 (by decide) ?_
  refine lv_iadd hx hb dL_law_1442 ?_
  refine va_sld hx hb hX0 hbl hbA hS (zidx (k := 1) hi hL rfl (by decide)) dL_law_1443 ?_
  refine lv_aload_n hx hb dL_law_1444 rfl (lv_at hl 0 rfl) ?_
  refine lv_iload_n hx hb dL_law_1445 rfl (lv_at hl 3 rfl) ?_
  refine lv_iconst (v := (2 : Int32)) hx hb dL_law_1446 (by decide) ?_
  refine lv_iadd hx hb dL_law_1447 ?_
  refine va_sld hx hb hX0 hbl hbA hS (zidx (k := 2) hi hL rfl (by decide)) dL_law_1448 ?_
  refine gm_slopes [] ⟨Nat.le_trans e1 hcs.1, Nat.le_trans e2 hcs.2⟩ C0 hbx hbm hK hO hG hS hl.1 (Nat.le_of_ble_eq_true rfl) kmL_134 dL_law_1449 (fun r2 M' H locs hm1 hG2 hS2 => ?_)
  obtain rfl := hm1
  have hG := hG2
  have hS := hS2
  refine lv_pop hx hb dL_law_1452 rfl ?_
  refine lv_goto (tgt := 1647) hx hb dL_law_1453 (by decide) ?_
  exact kk _ _ _ _ _ _ _ _ _ e1 e2 hR hG hS

set_option maxRecDepth 40000 in
set_option maxHeartbeats 4000000 in
theorem g_28 {p : Program} {l : Launch} {e : Env} {s : State} {m : MethodId} {below : List Frame} {meth : Method} {c : Code} {E : zE} {G : zG} {b L i bx bm cells slots : Nat} {xs : Nat → Int32} {mi : Nat → Option Nat} {ko : Option Nat} {T : TT} {M : Nat → Nat → Int32} {I : Nat → TT} {H : Heap} {locs : List Loc} {ls : Array Slot} (hi : i + 6 ≤ L) (hL : L ≤ 3072) (hR : RG T M I mi) (hcs : cells + 47 ≤ room_1.cells ∧ slots + 4608 ≤ room_1.slots) (C0 : lw_At p s m meth c b L xs) (hbx : s.heap.size ≤ bx) (hbm : bx + 93 ≤ bm) (hK : zK E s) (hO : zO s ∧ zZ G (fun q => s.heap.size ≤ q) s s.heap) (hG : GG E bx bm mi ko T M I H) (hS : va_S (fun q => s.heap.size ≤ q) s.heap H locs) (hl : lv_has ls 4 [(0, .ref b), (1, .ref bx), (2, .ref bm), (3, .int (nI i))])
    (kk : ∀ (mi : Nat → Option Nat) (ko : Option Nat) (T : TT) (M : Nat → Nat → Int32) (I : Nat → TT) (H : Heap) (locs : List Loc) (cells' slots' : Nat), cells' ≤ cells + 47 → slots' ≤ slots + 4608 → RG T M I mi → GG E bx bm mi ko T M I H → va_S (fun q => s.heap.size ≤ q) s.heap H locs → W p l e room_1 s m #[Value.ref b] below meth c H locs cells' slots' (lw_Z below #[Value.ref b] s) (F0 m 1647 ls [])) : W p l e room_1 s m #[Value.ref b] below meth c H locs cells slots (lw_Z below #[Value.ref b] s) (F0 m 1456 ls []) := by
  obtain ⟨hx, hb, hr, hml, hown, hts, hX0, hbl, hlocks, hgv⟩ := id C0
  have zc : zC p s m #[Value.ref b] meth c cL_law 4 RL ret := ⟨hx, hb, hml, hown, fun w hw => hts w (zb_in hw), hr, hlocks⟩
  have hbA : ¬ (fun q : Nat => s.heap.size ≤ q) b := Nat.not_le.mpr hbl
  refine lv_aload_n hx hb dL_law_1456 rfl (lv_at hl 1 rfl) ?_
  refine lv_aload_n hx hb dL_law_1457 rfl (lv_at hl 0 rfl) ?_
  refine lv_iload_n hx hb dL_law_1458 rfl (lv_at hl 3 rfl) ?_
  refine lv_iconst (v := (1 : Int32)) hx hb dL_law_1459 (by decide) ?_
  refine lv_iadd hx hb dL_law_1460 ?_
  refine va_sld hx hb hX0 hbl hbA hS (zidx (k := 1) hi hL rfl (by decide)) dL_law_1461 ?_
  refine lv_aload_n hx hb dL_law_1462 rfl (lv_at hl 0 rfl) ?_
  refine lv_iload_n hx hb dL_law_1463 rfl (lv_at hl 3 rfl) ?_
  refine lv_iconst (v := (2 : Int32)) hx hb dL_law_1464 (by decide) ?_
  refine lv_iadd hx hb dL_law_1465 ?_
  refine va_sld hx hb hX0 hbl hbA hS (zidx (k := 2) hi hL rfl (by decide)) dL_law_1466 ?_
  refine lv_aload_n hx hb dL_law_1467 rfl (lv_at hl 0 rfl) ?_
  refine lv_iload_n hx hb dL_law_1468 rfl (lv_at hl 3 rfl) ?_
  refine lv_iconst (v := (3 : Int32)) hx hb dL_law_1469 (by decide) ?_
  refine lv_iadd hx hb dL_law_1470 ?_
  refine va_sld hx hb hX0 hbl hbA hS (zidx (k := 3) hi hL rfl (by decide)) dL_law_1471 ?_
  refine lv_aload_n hx hb dL_law_1472 rfl (lv_at hl 0 rfl) ?_
  refine lv_iload_n hx hb dL_law_1473 rfl (lv_at hl 3 rfl) ?_
  refine lv_iconst (v := (4 : Int32)) hx hb dL_law_1474 (by decide) ?_
  refine lv_iadd hx hb dL_law_1475 ?_
  refine va_sld hx hb hX0 hbl hbA hS (zidx (k := 4) hi hL rfl (by decide)) dL_law_1476 ?_
  refine lv_if_eq (tgt := 1484) hx hb dL_law_1477 (by decide) (fun hc0 => ?_) (fun hc0 => ?_)
  ·
    refine lv_iconst (v := (0 : Int32)) hx hb dL_law_1484 (by decide) ?_
    have hB0 := tB_of hG.2.2.2.1
    have hI0 := tBI_of hG.2.2.1
    refine gx_flood [] hcs C0 hbx hbm hK hO hG hS hl.1 (Nat.le_of_ble_eq_true rfl) kmL_135 dL_law_1485 (fun r1 mi' ko' T' I' H locs cells' slots' hx1 e1 e2 hG1 hS1 => ?_)
    obtain ⟨rfl, rfl, rfl⟩ := hx1
    have hG := hG1
    have hS := hS1
    refine lv_pop hx hb dL_law_1488 rfl ?_
    refine lv_aload_n hx hb dL_law_1489 rfl (lv_at hl 2 rfl) ?_
    refine lv_aload_n hx hb dL_law_1490 rfl (lv_at hl 0 rfl) ?_
    refine lv_iload_n hx hb dL_law_1491 rfl (lv_at hl 3 rfl) ?_
    refine lv_iconst (v := (1 : Int32)) hx hb dL_law_1492 (by decide) ?_
    refine lv_iadd hx hb dL_law_1493 ?_
    refine va_sld hx hb hX0 hbl hbA hS (zidx (k := 1) hi hL rfl (by decide)) dL_law_1494 ?_
    refine lv_aload_n hx hb dL_law_1495 rfl (lv_at hl 0 rfl) ?_
    refine lv_iload_n hx hb dL_law_1496 rfl (lv_at hl 3 rfl) ?_
    refine lv_iconst (v := (2 : Int32)) hx hb dL_law_1497 (by decide) ?_
    refine lv_iadd hx hb dL_law_1498 ?_
    refine va_sld hx hb hX0 hbl hbA hS (zidx (k := 2) hi hL rfl (by decide)) dL_law_1499 ?_
    refine lv_aload_n hx hb dL_law_1500 rfl (lv_at hl 0 rfl) ?_
    refine lv_iload_n hx hb dL_law_1501 rfl (lv_at hl 3 rfl) ?_
    refine lv_iconst (v := (3 : Int32)) hx hb dL_law_1502 (by decide) ?_
    refine lv_iadd hx hb dL_law_1503 ?_
    refine va_sld hx hb hX0 hbl hbA hS (zidx (k := 3) hi hL rfl (by decide)) dL_law_1504 ?_
    refine lv_aload_n hx hb dL_law_1505 rfl (lv_at hl 0 rfl) ?_
    refine lv_iload_n hx hb dL_law_1506 rfl (lv_at hl 3 rfl) ?_
    refine lv_iconst (v := (4 : Int32)) hx hb dL_law_1507 (by decide) ?_
    refine lv_iadd hx hb dL_law_1508 ?_
    refine va_sld hx hb hX0 hbl hbA hS (zidx (k := 4) hi hL rfl (by decide)) dL_law_1509 ?_
    refine lv_if_eq (tgt := 1517) hx hb dL_law_1510 (by decide) (fun hc11 => ?_) (fun hc11 => ?_)
    ·
      refine lv_iconst (v := (0 : Int32)) hx hb dL_law_1517 (by decide) ?_
      refine gm_flood [] ⟨Nat.le_trans e1 hcs.1, Nat.le_trans e2 hcs.2⟩ C0 hbx hbm hK hO hG hS hl.1 (Nat.le_of_ble_eq_true rfl) kmL_138 dL_law_1518 (fun r2 M' H locs hm1 hG2 hS2 => ?_)
      obtain rfl := hm1
      have hG := hG2
      have hS := hS2
      refine lv_pop hx hb dL_law_1521 rfl ?_
      refine lv_goto (tgt := 1647) hx hb dL_law_1522 (by decide) ?_
      exact kk _ _ _ _ _ _ _ _ _ e1 e2 hR hG hS
    ·
      refine lv_iconst (v := (1 : Int32)) hx hb dL_law_1513 (by decide) ?_
      refine lv_goto (tgt := 1518) hx hb dL_law_1514 (by decide) ?_
      refine gm_flood [] ⟨Nat.le_trans e1 hcs.1, Nat.le_trans e2 hcs.2⟩ C0 hbx hbm hK hO hG hS hl.1 (Nat.le_of_ble_eq_true rfl) kmL_138 dL_law_1518 (fun r2 M' H locs hm1 hG2 hS2 => ?_)
      obtain rfl := hm1
      have hG := hG2
      have hS := hS2
      refine lv_pop hx hb dL_law_1521 rfl ?_
      refine lv_goto (tgt := 1647) hx hb dL_law_1522 (by decide) ?_
      exact kk _ _ _ _ _ _ _ _ _ e1 e2 hR hG hS
  ·
    refine lv_iconst (v := (1 : Int32)) hx hb dL_law_1480 (by decide) ?_
    refine lv_goto (tgt := 1485) hx hb dL_law_1481 (by decide) ?_
    have hB0 := tB_of hG.2.2.2.1
    have hI0 := tBI_of hG.2.2.1
    refine gx_flood [] hcs C0 hbx hbm hK hO hG hS hl.1 (Nat.le_of_ble_eq_true rfl) kmL_135 dL_law_1485 (fun r1 mi' ko' T' I' H locs cells' slots' hx1 e1 e2 hG1 hS1 => ?_)
    obtain ⟨rfl, rfl, rfl⟩ := hx1
    have hG := hG1
    have hS := hS1
    refine lv_pop hx hb dL_law_1488 rfl ?_
    refine lv_aload_n hx hb dL_law_1489 rfl (lv_at hl 2 rfl) ?_
    refine lv_aload_n hx hb dL_law_1490 rfl (lv_at hl 0 rfl) ?_
    refine lv_iload_n hx hb dL_law_1491 rfl (lv_at hl 3 rfl) ?_
    refine lv_iconst (v := (1 : Int32)) hx hb dL_law_1492 (by decide) ?_
    refine lv_iadd hx hb dL_law_1493 ?_
    refine va_sld hx hb hX0 hbl hbA hS (zidx (k := 1) hi hL rfl (by decide)) dL_law_1494 ?_
    refine lv_aload_n hx hb dL_law_1495 rfl (lv_at hl 0 rfl) ?_
    refine lv_iload_n hx hb dL_law_1496 rfl (lv_at hl 3 rfl) ?_
    refine lv_iconst (v := (2 : Int32)) hx hb dL_law_1497 (by decide) ?_
    refine lv_iadd hx hb dL_law_1498 ?_
    refine va_sld hx hb hX0 hbl hbA hS (zidx (k := 2) hi hL rfl (by decide)) dL_law_1499 ?_
    refine lv_aload_n hx hb dL_law_1500 rfl (lv_at hl 0 rfl) ?_
    refine lv_iload_n hx hb dL_law_1501 rfl (lv_at hl 3 rfl) ?_
    refine lv_iconst (v := (3 : Int32)) hx hb dL_law_1502 (by decide) ?_
    refine lv_iadd hx hb dL_law_1503 ?_
    refine va_sld hx hb hX0 hbl hbA hS (zidx (k := 3) hi hL rfl (by decide)) dL_law_1504 ?_
    refine lv_aload_n hx hb dL_law_1505 rfl (lv_at hl 0 rfl) ?_
    refine lv_iload_n hx hb dL_law_1506 rfl (lv_at hl 3 rfl) ?_
    refine lv_iconst (v := (4 : Int32)) hx hb dL_law_1507 (by decide) ?_
    refine lv_iadd hx hb dL_law_1508 ?_
    refine va_sld hx hb hX0 hbl hbA hS (zidx (k := 4) hi hL rfl (by decide)) dL_law_1509 ?_
    refine lv_if_eq (tgt := 1517) hx hb dL_law_1510 (by decide) (fun hc11 => ?_) (fun hc11 => ?_)
    ·
      refine lv_iconst (v := (0 : Int32)) hx hb dL_law_1517 (by decide) ?_
      refine gm_flood [] ⟨Nat.le_trans e1 hcs.1, Nat.le_trans e2 hcs.2⟩ C0 hbx hbm hK hO hG hS hl.1 (Nat.le_of_ble_eq_true rfl) kmL_138 dL_law_1518 (fun r2 M' H locs hm1 hG2 hS2 => ?_)
      obtain rfl := hm1
      have hG := hG2
      have hS := hS2
      refine lv_pop hx hb dL_law_1521 rfl ?_
      refine lv_goto (tgt := 1647) hx hb dL_law_1522 (by decide) ?_
      exact kk _ _ _ _ _ _ _ _ _ e1 e2 hR hG hS
    ·
      refine lv_iconst (v := (1 : Int32)) hx hb dL_law_1513 (by decide) ?_
      refine lv_goto (tgt := 1518) hx hb dL_law_1514 (by decide) ?_
      refine gm_flood [] ⟨Nat.le_trans e1 hcs.1, Nat.le_trans e2 hcs.2⟩ C0 hbx hbm hK hO hG hS hl.1 (Nat.le_of_ble_eq_true rfl) kmL_138 dL_law_1518 (fun r2 M' H locs hm1 hG2 hS2 => ?_)
      obtain rfl := hm1
      have hG := hG2
      have hS := hS2
      refine lv_pop hx hb dL_law_1521 rfl ?_
      refine lv_goto (tgt := 1647) hx hb dL_law_1522 (by decide) ?_
      exact kk _ _ _ _ _ _ _ _ _ e1 e2 hR hG hS

set_option maxRecDepth 40000 in
set_option maxHeartbeats 4000000 in
theorem g_29 {p : Program} {l : Launch} {e : Env} {s : State} {m : MethodId} {below : List Frame} {meth : Method} {c : Code} {E : zE} {G : zG} {b L i bx bm cells slots : Nat} {xs : Nat → Int32} {mi : Nat → Option Nat} {ko : Option Nat} {T : TT} {M : Nat → Nat → Int32} {I : Nat → TT} {H : Heap} {locs : List Loc} {ls : Array Slot} (hi : i + 6 ≤ L) (hL : L ≤ 3072) (hR : RG T M I mi) (hcs : cells + 47 ≤ room_1.cells ∧ slots + 4608 ≤ room_1.slots) (C0 : lw_At p s m meth c b L xs) (hbx : s.heap.size ≤ bx) (hbm : bx + 93 ≤ bm) (hK : zK E s) (hO : zO s ∧ zZ G (fun q => s.heap.size ≤ q) s s.heap) (hG : GG E bx bm mi ko T M I H) (hS : va_S (fun q => s.heap.size ≤ q) s.heap H locs) (hl : lv_has ls 4 [(0, .ref b), (1, .ref bx), (2, .ref bm), (3, .int (nI i))])
    (kk : ∀ (mi : Nat → Option Nat) (ko : Option Nat) (T : TT) (M : Nat → Nat → Int32) (I : Nat → TT) (H : Heap) (locs : List Loc) (cells' slots' : Nat), cells' ≤ cells + 47 → slots' ≤ slots + 4608 → RG T M I mi → GG E bx bm mi ko T M I H → va_S (fun q => s.heap.size ≤ q) s.heap H locs → W p l e room_1 s m #[Value.ref b] below meth c H locs cells' slots' (lw_Z below #[Value.ref b] s) (F0 m 1647 ls [])) : W p l e room_1 s m #[Value.ref b] below meth c H locs cells slots (lw_Z below #[Value.ref b] s) (F0 m 1525 ls []) := by
  obtain ⟨hx, hb, hr, hml, hown, hts, hX0, hbl, hlocks, hgv⟩ := id C0
  have zc : zC p s m #[Value.ref b] meth c cL_law 4 RL ret := ⟨hx, hb, hml, hown, fun w hw => hts w (zb_in hw), hr, hlocks⟩
  have hbA : ¬ (fun q : Nat => s.heap.size ≤ q) b := Nat.not_le.mpr hbl
  refine lv_aload_n hx hb dL_law_1525 rfl (lv_at hl 1 rfl) ?_
  refine lv_aload_n hx hb dL_law_1526 rfl (lv_at hl 0 rfl) ?_
  refine lv_iload_n hx hb dL_law_1527 rfl (lv_at hl 3 rfl) ?_
  refine lv_iconst (v := (1 : Int32)) hx hb dL_law_1528 (by decide) ?_
  refine lv_iadd hx hb dL_law_1529 ?_
  refine va_sld hx hb hX0 hbl hbA hS (zidx (k := 1) hi hL rfl (by decide)) dL_law_1530 ?_
  refine lv_aload_n hx hb dL_law_1531 rfl (lv_at hl 0 rfl) ?_
  refine lv_iload_n hx hb dL_law_1532 rfl (lv_at hl 3 rfl) ?_
  refine lv_iconst (v := (2 : Int32)) hx hb dL_law_1533 (by decide) ?_
  refine lv_iadd hx hb dL_law_1534 ?_
  refine va_sld hx hb hX0 hbl hbA hS (zidx (k := 2) hi hL rfl (by decide)) dL_law_1535 ?_
  refine lv_aload_n hx hb dL_law_1536 rfl (lv_at hl 0 rfl) ?_
  refine lv_iload_n hx hb dL_law_1537 rfl (lv_at hl 3 rfl) ?_
  refine lv_iconst (v := (3 : Int32)) hx hb dL_law_1538 (by decide) ?_
  refine lv_iadd hx hb dL_law_1539 ?_
  refine va_sld hx hb hX0 hbl hbA hS (zidx (k := 3) hi hL rfl (by decide)) dL_law_1540 ?_
  refine lv_aload_n hx hb dL_law_1541 rfl (lv_at hl 0 rfl) ?_
  refine lv_iload_n hx hb dL_law_1542 rfl (lv_at hl 3 rfl) ?_
  refine lv_iconst (v := (4 : Int32)) hx hb dL_law_1543 (by decide) ?_
  refine lv_iadd hx hb dL_law_1544 ?_
  refine va_sld hx hb hX0 hbl hbA hS (zidx (k := 4) hi hL rfl (by decide)) dL_law_1545 ?_
  have hB0 := tB_of hG.2.2.2.1
  have hI0 := tBI_of hG.2.2.1
  refine gx_teach [] hcs C0 hbx hbm hK hO hG hS hR hl.1 (Nat.le_of_ble_eq_true rfl) kmL_139 dL_law_1546 (fun r1 mi' ko' T' I' H locs cells' slots' hx1 e1 e2 hG1 hS1 => ?_)
  obtain ⟨⟨rfl, rfl, rfl⟩, hx2⟩ := hx1
  have hG := hG1
  have hS := hS1
  refine lv_aload_n hx hb dL_law_1549 rfl (lv_at hl 2 rfl) ?_
  refine lv_aload_n hx hb dL_law_1550 rfl (lv_at hl 0 rfl) ?_
  refine lv_iload_n hx hb dL_law_1551 rfl (lv_at hl 3 rfl) ?_
  refine lv_iconst (v := (1 : Int32)) hx hb dL_law_1552 (by decide) ?_
  refine lv_iadd hx hb dL_law_1553 ?_
  refine va_sld hx hb hX0 hbl hbA hS (zidx (k := 1) hi hL rfl (by decide)) dL_law_1554 ?_
  refine lv_aload_n hx hb dL_law_1555 rfl (lv_at hl 0 rfl) ?_
  refine lv_iload_n hx hb dL_law_1556 rfl (lv_at hl 3 rfl) ?_
  refine lv_iconst (v := (2 : Int32)) hx hb dL_law_1557 (by decide) ?_
  refine lv_iadd hx hb dL_law_1558 ?_
  refine va_sld hx hb hX0 hbl hbA hS (zidx (k := 2) hi hL rfl (by decide)) dL_law_1559 ?_
  refine lv_aload_n hx hb dL_law_1560 rfl (lv_at hl 0 rfl) ?_
  refine lv_iload_n hx hb dL_law_1561 rfl (lv_at hl 3 rfl) ?_
  refine lv_iconst (v := (3 : Int32)) hx hb dL_law_1562 (by decide) ?_
  refine lv_iadd hx hb dL_law_1563 ?_
  refine va_sld hx hb hX0 hbl hbA hS (zidx (k := 3) hi hL rfl (by decide)) dL_law_1564 ?_
  refine lv_aload_n hx hb dL_law_1565 rfl (lv_at hl 0 rfl) ?_
  refine lv_iload_n hx hb dL_law_1566 rfl (lv_at hl 3 rfl) ?_
  refine lv_iconst (v := (4 : Int32)) hx hb dL_law_1567 (by decide) ?_
  refine lv_iadd hx hb dL_law_1568 ?_
  refine va_sld hx hb hX0 hbl hbA hS (zidx (k := 4) hi hL rfl (by decide)) dL_law_1569 ?_
  refine gm_teach [.int r1] ⟨Nat.le_trans e1 hcs.1, Nat.le_trans e2 hcs.2⟩ C0 hbx hbm hK hO hG hS hR.2 hl.1 (Nat.le_of_ble_eq_true rfl) kmL_142 dL_law_1570 (fun r2 M' H locs hm1 hG2 hS2 => ?_)
  obtain ⟨rfl, hm2⟩ := hm1
  have hrr := hx2.trans hm2.symm
  have hG := hG2
  have hS := hS2
  refine lv_icmp_eq (tgt := 1647) hx hb dL_law_1573 (by decide) (fun hd => ?_) (fun hd => absurd hrr hd)
  exact kk _ _ _ _ _ _ _ _ _ e1 e2 hR hG hS

set_option maxRecDepth 40000 in
set_option maxHeartbeats 4000000 in
theorem g_30 {p : Program} {l : Launch} {e : Env} {s : State} {m : MethodId} {below : List Frame} {meth : Method} {c : Code} {E : zE} {G : zG} {b L i bx bm cells slots : Nat} {xs : Nat → Int32} {mi : Nat → Option Nat} {ko : Option Nat} {T : TT} {M : Nat → Nat → Int32} {I : Nat → TT} {H : Heap} {locs : List Loc} {ls : Array Slot} (hi : i + 6 ≤ L) (hL : L ≤ 3072) (hR : RG T M I mi) (hcs : cells + 47 ≤ room_1.cells ∧ slots + 4608 ≤ room_1.slots) (C0 : lw_At p s m meth c b L xs) (hbx : s.heap.size ≤ bx) (hbm : bx + 93 ≤ bm) (hK : zK E s) (hO : zO s ∧ zZ G (fun q => s.heap.size ≤ q) s s.heap) (hG : GG E bx bm mi ko T M I H) (hS : va_S (fun q => s.heap.size ≤ q) s.heap H locs) (hl : lv_has ls 4 [(0, .ref b), (1, .ref bx), (2, .ref bm), (3, .int (nI i))])
    (kk : ∀ (mi : Nat → Option Nat) (ko : Option Nat) (T : TT) (M : Nat → Nat → Int32) (I : Nat → TT) (H : Heap) (locs : List Loc) (cells' slots' : Nat), cells' ≤ cells + 47 → slots' ≤ slots + 4608 → RG T M I mi → GG E bx bm mi ko T M I H → va_S (fun q => s.heap.size ≤ q) s.heap H locs → W p l e room_1 s m #[Value.ref b] below meth c H locs cells' slots' (lw_Z below #[Value.ref b] s) (F0 m 1647 ls [])) : W p l e room_1 s m #[Value.ref b] below meth c H locs cells slots (lw_Z below #[Value.ref b] s) (F0 m 1578 ls []) := by
  obtain ⟨hx, hb, hr, hml, hown, hts, hX0, hbl, hlocks, hgv⟩ := id C0
  have zc : zC p s m #[Value.ref b] meth c cL_law 4 RL ret := ⟨hx, hb, hml, hown, fun w hw => hts w (zb_in hw), hr, hlocks⟩
  have hbA : ¬ (fun q : Nat => s.heap.size ≤ q) b := Nat.not_le.mpr hbl
  refine lv_aload_n hx hb dL_law_1578 rfl (lv_at hl 1 rfl) ?_
  refine lv_aload_n hx hb dL_law_1579 rfl (lv_at hl 0 rfl) ?_
  refine lv_iload_n hx hb dL_law_1580 rfl (lv_at hl 3 rfl) ?_
  refine lv_iconst (v := (1 : Int32)) hx hb dL_law_1581 (by decide) ?_
  refine lv_iadd hx hb dL_law_1582 ?_
  refine va_sld hx hb hX0 hbl hbA hS (zidx (k := 1) hi hL rfl (by decide)) dL_law_1583 ?_
  have hB0 := tB_of hG.2.2.2.1
  have hI0 := tBI_of hG.2.2.1
  refine gx_count [] hcs C0 hbx hbm hK hO hG hS hl.1 (Nat.le_of_ble_eq_true rfl) kmL_143 dL_law_1584 (fun r1 mi' ko' T' I' H locs cells' slots' hx1 e1 e2 hG1 hS1 => ?_)
  obtain ⟨rfl, rfl, rfl⟩ := hx1
  have hG := hG1
  have hS := hS1
  refine lv_pop hx hb dL_law_1587 rfl ?_
  refine lv_aload_n hx hb dL_law_1588 rfl (lv_at hl 2 rfl) ?_
  refine lv_aload_n hx hb dL_law_1589 rfl (lv_at hl 0 rfl) ?_
  refine lv_iload_n hx hb dL_law_1590 rfl (lv_at hl 3 rfl) ?_
  refine lv_iconst (v := (1 : Int32)) hx hb dL_law_1591 (by decide) ?_
  refine lv_iadd hx hb dL_law_1592 ?_
  refine va_sld hx hb hX0 hbl hbA hS (zidx (k := 1) hi hL rfl (by decide)) dL_law_1593 ?_
  refine gm_count [] ⟨Nat.le_trans e1 hcs.1, Nat.le_trans e2 hcs.2⟩ C0 hbx hbm hK hO hG hS hl.1 (Nat.le_of_ble_eq_true rfl) kmL_146 dL_law_1594 (fun r2 M' H locs hm1 hG2 hS2 => ?_)
  obtain rfl := hm1
  have hG := hG2
  have hS := hS2
  refine lv_pop hx hb dL_law_1597 rfl ?_
  refine lv_goto (tgt := 1647) hx hb dL_law_1598 (by decide) ?_
  exact kk _ _ _ _ _ _ _ _ _ e1 e2 hR hG hS

set_option maxRecDepth 40000 in
set_option maxHeartbeats 4000000 in
theorem g_31 {p : Program} {l : Launch} {e : Env} {s : State} {m : MethodId} {below : List Frame} {meth : Method} {c : Code} {E : zE} {G : zG} {b L i bx bm cells slots : Nat} {xs : Nat → Int32} {mi : Nat → Option Nat} {ko : Option Nat} {T : TT} {M : Nat → Nat → Int32} {I : Nat → TT} {H : Heap} {locs : List Loc} {ls : Array Slot} (hi : i + 6 ≤ L) (hL : L ≤ 3072) (hR : RG T M I mi) (hcs : cells + 47 ≤ room_1.cells ∧ slots + 4608 ≤ room_1.slots) (C0 : lw_At p s m meth c b L xs) (hbx : s.heap.size ≤ bx) (hbm : bx + 93 ≤ bm) (hK : zK E s) (hO : zO s ∧ zZ G (fun q => s.heap.size ≤ q) s s.heap) (hG : GG E bx bm mi ko T M I H) (hS : va_S (fun q => s.heap.size ≤ q) s.heap H locs) (hl : lv_has ls 4 [(0, .ref b), (1, .ref bx), (2, .ref bm), (3, .int (nI i))])
    (kk : ∀ (mi : Nat → Option Nat) (ko : Option Nat) (T : TT) (M : Nat → Nat → Int32) (I : Nat → TT) (H : Heap) (locs : List Loc) (cells' slots' : Nat), cells' ≤ cells + 47 → slots' ≤ slots + 4608 → RG T M I mi → GG E bx bm mi ko T M I H → va_S (fun q => s.heap.size ≤ q) s.heap H locs → W p l e room_1 s m #[Value.ref b] below meth c H locs cells' slots' (lw_Z below #[Value.ref b] s) (F0 m 1647 ls [])) : W p l e room_1 s m #[Value.ref b] below meth c H locs cells slots (lw_Z below #[Value.ref b] s) (F0 m 1601 ls []) := by
  obtain ⟨hx, hb, hr, hml, hown, hts, hX0, hbl, hlocks, hgv⟩ := id C0
  have zc : zC p s m #[Value.ref b] meth c cL_law 4 RL ret := ⟨hx, hb, hml, hown, fun w hw => hts w (zb_in hw), hr, hlocks⟩
  have hbA : ¬ (fun q : Nat => s.heap.size ≤ q) b := Nat.not_le.mpr hbl
  refine lv_aload_n hx hb dL_law_1601 rfl (lv_at hl 1 rfl) ?_
  refine lv_aload_n hx hb dL_law_1602 rfl (lv_at hl 0 rfl) ?_
  refine lv_iload_n hx hb dL_law_1603 rfl (lv_at hl 3 rfl) ?_
  refine lv_iconst (v := (1 : Int32)) hx hb dL_law_1604 (by decide) ?_
  refine lv_iadd hx hb dL_law_1605 ?_
  refine va_sld hx hb hX0 hbl hbA hS (zidx (k := 1) hi hL rfl (by decide)) dL_law_1606 ?_
  have hB0 := tB_of hG.2.2.2.1
  have hI0 := tBI_of hG.2.2.1
  refine gx_image [] hcs C0 hbx hbm hK hO hG hS hl.1 (Nat.le_of_ble_eq_true rfl) kmL_147 dL_law_1607 (fun r1 mi' ko' T' I' H locs cells' slots' hx1 e1 e2 hG1 hS1 => ?_)
  obtain ⟨rfl, hx2⟩ := hx1
  have hG := hG1
  have hS := hS1
  refine lv_pop hx hb dL_law_1610 rfl ?_
  refine lv_aload_n hx hb dL_law_1611 rfl (lv_at hl 2 rfl) ?_
  refine lv_aload_n hx hb dL_law_1612 rfl (lv_at hl 0 rfl) ?_
  refine lv_iload_n hx hb dL_law_1613 rfl (lv_at hl 3 rfl) ?_
  refine lv_iconst (v := (1 : Int32)) hx hb dL_law_1614 (by decide) ?_
  refine lv_iadd hx hb dL_law_1615 ?_
  refine va_sld hx hb hX0 hbl hbA hS (zidx (k := 1) hi hL rfl (by decide)) dL_law_1616 ?_
  refine gm_image [] ⟨Nat.le_trans e1 hcs.1, Nat.le_trans e2 hcs.2⟩ C0 hbx hbm hK hO hG hS hl.1 (Nat.le_of_ble_eq_true rfl) kmL_151 dL_law_1617 (fun r2 M' H locs hm1 hG2 hS2 => ?_)
  obtain ⟨hrr, hR⟩ := RG_im hR hB0 hI0 hx2 hm1
  have hG := hG2
  have hS := hS2
  refine lv_pop hx hb dL_law_1620 rfl ?_
  refine lv_goto (tgt := 1647) hx hb dL_law_1621 (by decide) ?_
  exact kk _ _ _ _ _ _ _ _ _ e1 e2 hR hG hS

set_option maxRecDepth 40000 in
set_option maxHeartbeats 4000000 in
theorem g_32 {p : Program} {l : Launch} {e : Env} {s : State} {m : MethodId} {below : List Frame} {meth : Method} {c : Code} {E : zE} {G : zG} {b L i bx bm cells slots : Nat} {xs : Nat → Int32} {mi : Nat → Option Nat} {ko : Option Nat} {T : TT} {M : Nat → Nat → Int32} {I : Nat → TT} {H : Heap} {locs : List Loc} {ls : Array Slot} (hi : i + 6 ≤ L) (hL : L ≤ 3072) (hR : RG T M I mi) (hcs : cells + 47 ≤ room_1.cells ∧ slots + 4608 ≤ room_1.slots) (C0 : lw_At p s m meth c b L xs) (hbx : s.heap.size ≤ bx) (hbm : bx + 93 ≤ bm) (hK : zK E s) (hO : zO s ∧ zZ G (fun q => s.heap.size ≤ q) s s.heap) (hG : GG E bx bm mi ko T M I H) (hS : va_S (fun q => s.heap.size ≤ q) s.heap H locs) (hl : lv_has ls 4 [(0, .ref b), (1, .ref bx), (2, .ref bm), (3, .int (nI i))])
    (kk : ∀ (mi : Nat → Option Nat) (ko : Option Nat) (T : TT) (M : Nat → Nat → Int32) (I : Nat → TT) (H : Heap) (locs : List Loc) (cells' slots' : Nat), cells' ≤ cells + 47 → slots' ≤ slots + 4608 → RG T M I mi → GG E bx bm mi ko T M I H → va_S (fun q => s.heap.size ≤ q) s.heap H locs → W p l e room_1 s m #[Value.ref b] below meth c H locs cells' slots' (lw_Z below #[Value.ref b] s) (F0 m 1647 ls [])) : W p l e room_1 s m #[Value.ref b] below meth c H locs cells slots (lw_Z below #[Value.ref b] s) (F0 m 1624 ls []) := by
  obtain ⟨hx, hb, hr, hml, hown, hts, hX0, hbl, hlocks, hgv⟩ := id C0
  have zc : zC p s m #[Value.ref b] meth c cL_law 4 RL ret := ⟨hx, hb, hml, hown, fun w hw => hts w (zb_in hw), hr, hlocks⟩
  have hbA : ¬ (fun q : Nat => s.heap.size ≤ q) b := Nat.not_le.mpr hbl
  refine lv_aload_n hx hb dL_law_1624 rfl (lv_at hl 1 rfl) ?_
  refine lv_aload_n hx hb dL_law_1625 rfl (lv_at hl 0 rfl) ?_
  refine lv_iload_n hx hb dL_law_1626 rfl (lv_at hl 3 rfl) ?_
  refine lv_iconst (v := (1 : Int32)) hx hb dL_law_1627 (by decide) ?_
  refine lv_iadd hx hb dL_law_1628 ?_
  refine va_sld hx hb hX0 hbl hbA hS (zidx (k := 1) hi hL rfl (by decide)) dL_law_1629 ?_
  have hB0 := tB_of hG.2.2.2.1
  have hI0 := tBI_of hG.2.2.1
  refine gx_again [] hcs C0 hbx hbm hK hO hG hS hl.1 (Nat.le_of_ble_eq_true rfl) kmL_152 dL_law_1630 (fun r1 mi' ko' T' I' H locs cells' slots' hx1 e1 e2 hG1 hS1 => ?_)
  obtain ⟨rfl, rfl, hx2⟩ := hx1
  have hG := hG1
  have hS := hS1
  refine lv_pop hx hb dL_law_1633 rfl ?_
  refine lv_aload_n hx hb dL_law_1634 rfl (lv_at hl 2 rfl) ?_
  refine lv_aload_n hx hb dL_law_1635 rfl (lv_at hl 0 rfl) ?_
  refine lv_iload_n hx hb dL_law_1636 rfl (lv_at hl 3 rfl) ?_
  refine lv_iconst (v := (1 : Int32)) hx hb dL_law_1637 (by decide) ?_
  refine lv_iadd hx hb dL_law_1638 ?_
  refine va_sld hx hb hX0 hbl hbA hS (zidx (k := 1) hi hL rfl (by decide)) dL_law_1639 ?_
  refine gm_again [] ⟨Nat.le_trans e1 hcs.1, Nat.le_trans e2 hcs.2⟩ C0 hbx hbm hK hO hG hS hl.1 (Nat.le_of_ble_eq_true rfl) kmL_155 dL_law_1640 (fun r2 M' H locs hm1 hG2 hS2 => ?_)
  obtain ⟨hrr, hR⟩ := RG_ag hR hB0 hI0 hx2 hm1
  have hG := hG2
  have hS := hS2
  refine lv_pop hx hb dL_law_1643 rfl ?_
  refine lv_goto (tgt := 1647) hx hb dL_law_1644 (by decide) ?_
  exact kk _ _ _ _ _ _ _ _ _ e1 e2 hR hG hS
end
section
theorem lp_end {p : Program} {l : Launch} {e : Env} {s : State} {m : MethodId} {below : List Frame} {meth : Method} {c : Code} {b L cells slots : Nat} {xs : Nat → Int32} {H : Heap} {locs : List Loc} {ls : Array Slot} (C0 : lw_At p s m meth c b L xs) (hcs : cells ≤ room_1.cells ∧ slots ≤ room_1.slots) (hS : va_S (fun q => s.heap.size ≤ q) s.heap H locs) : W p l e room_1 s m #[Value.ref b] below meth c H locs cells slots (lw_Z below #[Value.ref b] s) (F0 m 1653 ls []) := by
  obtain ⟨hx, hb, hr, hml, hown, hts, hX0, hbl, hlocks, hgv⟩ := id C0
  have zc : zC p s m #[Value.ref b] meth c cL_law 4 RL ret := ⟨hx, hb, hml, hown, fun w hw => hts w (zb_in hw), hr, hlocks⟩
  have hbA : ¬ (fun q : Nat => s.heap.size ≤ q) b := Nat.not_le.mpr hbl
  refine va_forget (fun q hq => hS.2.2 q hq) ?_
  refine W.widen (k := 600000) (n := 7302250) hcs.1 hcs.2 ?_
  refine lv_iconst (v := (1 : Int32)) hx hb dL_law_1653 (by decide) ?_
  exact lw_ret hx hb hr hlocks dL_law_1654
set_option maxRecDepth 40000 in
set_option maxHeartbeats 4000000 in
theorem lp_sw {p : Program} {l : Launch} {e : Env} {s : State} {m : MethodId} {below : List Frame} {meth : Method} {c : Code} {E : zE} {G : zG} {b L i bx bm cells slots : Nat} {xs : Nat → Int32} {mi : Nat → Option Nat} {ko : Option Nat} {T : TT} {M : Nat → Nat → Int32} {I : Nat → TT} {H : Heap} {locs : List Loc} {ls : Array Slot} (hi : i + 6 ≤ L) (hL : L ≤ 3072) (hR : RG T M I mi) (hcs : cells + 47 ≤ room_1.cells ∧ slots + 4608 ≤ room_1.slots) (C0 : lw_At p s m meth c b L xs) (hbx : s.heap.size ≤ bx) (hbm : bx + 93 ≤ bm) (hK : zK E s) (hO : zO s ∧ zZ G (fun q => s.heap.size ≤ q) s s.heap) (hG : GG E bx bm mi ko T M I H) (hS : va_S (fun q => s.heap.size ≤ q) s.heap H locs) (hl : lv_has ls 4 [(0, .ref b), (1, .ref bx), (2, .ref bm), (3, .int (nI i))])
    (kk : ∀ (mi : Nat → Option Nat) (ko : Option Nat) (T : TT) (M : Nat → Nat → Int32) (I : Nat → TT) (H : Heap) (locs : List Loc) (cells' slots' : Nat), cells' ≤ cells + 47 → slots' ≤ slots + 4608 → RG T M I mi → GG E bx bm mi ko T M I H → va_S (fun q => s.heap.size ≤ q) s.heap H locs → W p l e room_1 s m #[Value.ref b] below meth c H locs cells' slots' (lw_Z below #[Value.ref b] s) (F0 m 1647 ls [])) : W p l e room_1 s m #[Value.ref b] below meth c H locs cells slots (lw_Z below #[Value.ref b] s) (F0 m 27 ls []) := by
  obtain ⟨hx, hb, hr, hml, hown, hts, hX0, hbl, hlocks, hgv⟩ := id C0
  have zc : zC p s m #[Value.ref b] meth c cL_law 4 RL ret := ⟨hx, hb, hml, hown, fun w hw => hts w (zb_in hw), hr, hlocks⟩
  have hbA : ¬ (fun q : Nat => s.heap.size ≤ q) b := Nat.not_le.mpr hbl
  refine lv_aload_n hx hb dL_law_27 rfl (lv_at hl 0 rfl) ?_
  refine lv_iload_n hx hb dL_law_28 rfl (lv_at hl 3 rfl) ?_
  refine va_sld hx hb hX0 hbl hbA hS (vp_in_nI (by omega) (by omega)) dL_law_29 ?_
  refine lv_bipush (v := (63 : Int32)) hx hb dL_law_30 (by decide) ?_
  refine lv_iand hx hb dL_law_32 ?_
  by_cases hc : (xs (nI i).toNatClampNeg &&& (63 : Int32)).toInt < 0 ∨ 32 < (xs (nI i).toNatClampNeg &&& (63 : Int32)).toInt
  · refine lv_tableOut (tgt := 1647) hx hb dL_law_33 hc (by decide) ?_
    exact kk _ _ _ _ _ _ _ _ _ (Nat.le_add_right _ _) (Nat.le_add_right _ _) hR hG hS
  have hin := zsw hc
  by_cases hc0 : (xs (nI i).toNatClampNeg &&& (63 : Int32)) = (0 : Int32)
  · refine lv_tableIn (tgt := 180) hx hb dL_law_33 (by rw [hc0]; decide) (by rw [hc0]; decide) (by rw [hc0]; rfl) (by decide) ?_
    exact g_0 hi hL hR hcs C0 hbx hbm hK hO hG hS hl kk
  by_cases hc1 : (xs (nI i).toNatClampNeg &&& (63 : Int32)) = (1 : Int32)
  · refine lv_tableIn (tgt := 243) hx hb dL_law_33 (by rw [hc1]; decide) (by rw [hc1]; decide) (by rw [hc1]; rfl) (by decide) ?_
    exact g_1 hi hL hR hcs C0 hbx hbm hK hO hG hS hl kk
  by_cases hc2 : (xs (nI i).toNatClampNeg &&& (63 : Int32)) = (2 : Int32)
  · refine lv_tableIn (tgt := 266) hx hb dL_law_33 (by rw [hc2]; decide) (by rw [hc2]; decide) (by rw [hc2]; rfl) (by decide) ?_
    exact g_2 hi hL hR hcs C0 hbx hbm hK hO hG hS hl kk
  by_cases hc3 : (xs (nI i).toNatClampNeg &&& (63 : Int32)) = (3 : Int32)
  · refine lv_tableIn (tgt := 299) hx hb dL_law_33 (by rw [hc3]; decide) (by rw [hc3]; decide) (by rw [hc3]; rfl) (by decide) ?_
    exact g_3 hi hL hR hcs C0 hbx hbm hK hO hG hS hl kk
  by_cases hc4 : (xs (nI i).toNatClampNeg &&& (63 : Int32)) = (4 : Int32)
  · refine lv_tableIn (tgt := 322) hx hb dL_law_33 (by rw [hc4]; decide) (by rw [hc4]; decide) (by rw [hc4]; rfl) (by decide) ?_
    exact g_4 hi hL hR hcs C0 hbx hbm hK hO hG hS hl kk
  by_cases hc5 : (xs (nI i).toNatClampNeg &&& (63 : Int32)) = (5 : Int32)
  · refine lv_tableIn (tgt := 355) hx hb dL_law_33 (by rw [hc5]; decide) (by rw [hc5]; decide) (by rw [hc5]; rfl) (by decide) ?_
    exact g_5 hi hL hR hcs C0 hbx hbm hK hO hG hS hl kk
  by_cases hc6 : (xs (nI i).toNatClampNeg &&& (63 : Int32)) = (6 : Int32)
  · refine lv_tableIn (tgt := 398) hx hb dL_law_33 (by rw [hc6]; decide) (by rw [hc6]; decide) (by rw [hc6]; rfl) (by decide) ?_
    exact g_6 hi hL hR hcs C0 hbx hbm hK hO hG hS hl kk
  by_cases hc7 : (xs (nI i).toNatClampNeg &&& (63 : Int32)) = (7 : Int32)
  · refine lv_tableIn (tgt := 441) hx hb dL_law_33 (by rw [hc7]; decide) (by rw [hc7]; decide) (by rw [hc7]; rfl) (by decide) ?_
    exact g_7 hi hL hR hcs C0 hbx hbm hK hO hG hS hl kk
  by_cases hc8 : (xs (nI i).toNatClampNeg &&& (63 : Int32)) = (8 : Int32)
  · refine lv_tableIn (tgt := 474) hx hb dL_law_33 (by rw [hc8]; decide) (by rw [hc8]; decide) (by rw [hc8]; rfl) (by decide) ?_
    exact g_8 hi hL hR hcs C0 hbx hbm hK hO hG hS hl kk
  by_cases hc9 : (xs (nI i).toNatClampNeg &&& (63 : Int32)) = (9 : Int32)
  · refine lv_tableIn (tgt := 527) hx hb dL_law_33 (by rw [hc9]; decide) (by rw [hc9]; decide) (by rw [hc9]; rfl) (by decide) ?_
    exact g_9 hi hL hR hcs C0 hbx hbm hK hO hG hS hl kk
  by_cases hc10 : (xs (nI i).toNatClampNeg &&& (63 : Int32)) = (10 : Int32)
  · refine lv_tableIn (tgt := 570) hx hb dL_law_33 (by rw [hc10]; decide) (by rw [hc10]; decide) (by rw [hc10]; rfl) (by decide) ?_
    exact g_10 hi hL hR hcs C0 hbx hbm hK hO hG hS hl kk
  by_cases hc11 : (xs (nI i).toNatClampNeg &&& (63 : Int32)) = (11 : Int32)
  · refine lv_tableIn (tgt := 613) hx hb dL_law_33 (by rw [hc11]; decide) (by rw [hc11]; decide) (by rw [hc11]; rfl) (by decide) ?_
    exact g_11 hi hL hR hcs C0 hbx hbm hK hO hG hS hl kk
  by_cases hc12 : (xs (nI i).toNatClampNeg &&& (63 : Int32)) = (12 : Int32)
  · refine lv_tableIn (tgt := 662) hx hb dL_law_33 (by rw [hc12]; decide) (by rw [hc12]; decide) (by rw [hc12]; rfl) (by decide) ?_
    exact g_12 hi hL hR hcs C0 hbx hbm hK hO hG hS hl kk
  by_cases hc13 : (xs (nI i).toNatClampNeg &&& (63 : Int32)) = (13 : Int32)
  · refine lv_tableIn (tgt := 715) hx hb dL_law_33 (by rw [hc13]; decide) (by rw [hc13]; decide) (by rw [hc13]; rfl) (by decide) ?_
    exact g_13 hi hL hR hcs C0 hbx hbm hK hO hG hS hl kk
  by_cases hc14 : (xs (nI i).toNatClampNeg &&& (63 : Int32)) = (14 : Int32)
  · refine lv_tableIn (tgt := 758) hx hb dL_law_33 (by rw [hc14]; decide) (by rw [hc14]; decide) (by rw [hc14]; rfl) (by decide) ?_
    exact g_14 hi hL hR hcs C0 hbx hbm hK hO hG hS hl kk
  by_cases hc15 : (xs (nI i).toNatClampNeg &&& (63 : Int32)) = (15 : Int32)
  · refine lv_tableIn (tgt := 817) hx hb dL_law_33 (by rw [hc15]; decide) (by rw [hc15]; decide) (by rw [hc15]; rfl) (by decide) ?_
    exact g_15 hi hL hR hcs C0 hbx hbm hK hO hG hS hl kk
  by_cases hc16 : (xs (nI i).toNatClampNeg &&& (63 : Int32)) = (16 : Int32)
  · refine lv_tableIn (tgt := 860) hx hb dL_law_33 (by rw [hc16]; decide) (by rw [hc16]; decide) (by rw [hc16]; rfl) (by decide) ?_
    exact g_16 hi hL hR hcs C0 hbx hbm hK hO hG hS hl kk
  by_cases hc17 : (xs (nI i).toNatClampNeg &&& (63 : Int32)) = (17 : Int32)
  · refine lv_tableIn (tgt := 919) hx hb dL_law_33 (by rw [hc17]; decide) (by rw [hc17]; decide) (by rw [hc17]; rfl) (by decide) ?_
    exact g_17 hi hL hR hcs C0 hbx hbm hK hO hG hS hl kk
  by_cases hc18 : (xs (nI i).toNatClampNeg &&& (63 : Int32)) = (18 : Int32)
  · refine lv_tableIn (tgt := 952) hx hb dL_law_33 (by rw [hc18]; decide) (by rw [hc18]; decide) (by rw [hc18]; rfl) (by decide) ?_
    exact g_18 hi hL hR hcs C0 hbx hbm hK hO hG hS hl kk
  by_cases hc19 : (xs (nI i).toNatClampNeg &&& (63 : Int32)) = (19 : Int32)
  · refine lv_tableIn (tgt := 975) hx hb dL_law_33 (by rw [hc19]; decide) (by rw [hc19]; decide) (by rw [hc19]; rfl) (by decide) ?_
    exact g_19 hi hL hR hcs C0 hbx hbm hK hO hG hS hl kk
  by_cases hc20 : (xs (nI i).toNatClampNeg &&& (63 : Int32)) = (20 : Int32)
  · refine lv_tableIn (tgt := 1008) hx hb dL_law_33 (by rw [hc20]; decide) (by rw [hc20]; decide) (by rw [hc20]; rfl) (by decide) ?_
    exact g_20 hi hL hR hcs C0 hbx hbm hK hO hG hS hl kk
  by_cases hc21 : (xs (nI i).toNatClampNeg &&& (63 : Int32)) = (21 : Int32)
  · refine lv_tableIn (tgt := 1077) hx hb dL_law_33 (by rw [hc21]; decide) (by rw [hc21]; decide) (by rw [hc21]; rfl) (by decide) ?_
    exact g_21 hi hL hR hcs C0 hbx hbm hK hO hG hS hl kk
  by_cases hc22 : (xs (nI i).toNatClampNeg &&& (63 : Int32)) = (22 : Int32)
  · refine lv_tableIn (tgt := 1120) hx hb dL_law_33 (by rw [hc22]; decide) (by rw [hc22]; decide) (by rw [hc22]; rfl) (by decide) ?_
    exact g_22 hi hL hR hcs C0 hbx hbm hK hO hG hS hl kk
  by_cases hc23 : (xs (nI i).toNatClampNeg &&& (63 : Int32)) = (23 : Int32)
  · refine lv_tableIn (tgt := 1173) hx hb dL_law_33 (by rw [hc23]; decide) (by rw [hc23]; decide) (by rw [hc23]; rfl) (by decide) ?_
    exact g_23 hi hL hR hcs C0 hbx hbm hK hO hG hS hl kk
  by_cases hc24 : (xs (nI i).toNatClampNeg &&& (63 : Int32)) = (24 : Int32)
  · refine lv_tableIn (tgt := 1226) hx hb dL_law_33 (by rw [hc24]; decide) (by rw [hc24]; decide) (by rw [hc24]; rfl) (by decide) ?_
    exact g_24 hi hL hR hcs C0 hbx hbm hK hO hG hS hl kk
  by_cases hc25 : (xs (nI i).toNatClampNeg &&& (63 : Int32)) = (25 : Int32)
  · refine lv_tableIn (tgt := 1295) hx hb dL_law_33 (by rw [hc25]; decide) (by rw [hc25]; decide) (by rw [hc25]; rfl) (by decide) ?_
    exact g_25 hi hL hR hcs C0 hbx hbm hK hO hG hS hl kk
  by_cases hc26 : (xs (nI i).toNatClampNeg &&& (63 : Int32)) = (26 : Int32)
  · refine lv_tableIn (tgt := 1354) hx hb dL_law_33 (by rw [hc26]; decide) (by rw [hc26]; decide) (by rw [hc26]; rfl) (by decide) ?_
    exact g_26 hi hL hR hcs C0 hbx hbm hK hO hG hS hl kk
  by_cases hc27 : (xs (nI i).toNatClampNeg &&& (63 : Int32)) = (27 : Int32)
  · refine lv_tableIn (tgt := 1423) hx hb dL_law_33 (by rw [hc27]; decide) (by rw [hc27]; decide) (by rw [hc27]; rfl) (by decide) ?_
    exact g_27 hi hL hR hcs C0 hbx hbm hK hO hG hS hl kk
  by_cases hc28 : (xs (nI i).toNatClampNeg &&& (63 : Int32)) = (28 : Int32)
  · refine lv_tableIn (tgt := 1456) hx hb dL_law_33 (by rw [hc28]; decide) (by rw [hc28]; decide) (by rw [hc28]; rfl) (by decide) ?_
    exact g_28 hi hL hR hcs C0 hbx hbm hK hO hG hS hl kk
  by_cases hc29 : (xs (nI i).toNatClampNeg &&& (63 : Int32)) = (29 : Int32)
  · refine lv_tableIn (tgt := 1525) hx hb dL_law_33 (by rw [hc29]; decide) (by rw [hc29]; decide) (by rw [hc29]; rfl) (by decide) ?_
    exact g_29 hi hL hR hcs C0 hbx hbm hK hO hG hS hl kk
  by_cases hc30 : (xs (nI i).toNatClampNeg &&& (63 : Int32)) = (30 : Int32)
  · refine lv_tableIn (tgt := 1578) hx hb dL_law_33 (by rw [hc30]; decide) (by rw [hc30]; decide) (by rw [hc30]; rfl) (by decide) ?_
    exact g_30 hi hL hR hcs C0 hbx hbm hK hO hG hS hl kk
  by_cases hc31 : (xs (nI i).toNatClampNeg &&& (63 : Int32)) = (31 : Int32)
  · refine lv_tableIn (tgt := 1601) hx hb dL_law_33 (by rw [hc31]; decide) (by rw [hc31]; decide) (by rw [hc31]; rfl) (by decide) ?_
    exact g_31 hi hL hR hcs C0 hbx hbm hK hO hG hS hl kk
  by_cases hc32 : (xs (nI i).toNatClampNeg &&& (63 : Int32)) = (32 : Int32)
  · refine lv_tableIn (tgt := 1624) hx hb dL_law_33 (by rw [hc32]; decide) (by rw [hc32]; decide) (by rw [hc32]; rfl) (by decide) ?_
    exact g_32 hi hL hR hcs C0 hbx hbm hK hO hG hS hl kk
  exact absurd hin (by have h0 := zne hc0; have h1 := zne hc1; have h2 := zne hc2; have h3 := zne hc3; have h4 := zne hc4; have h5 := zne hc5; have h6 := zne hc6; have h7 := zne hc7; have h8 := zne hc8; have h9 := zne hc9; have h10 := zne hc10; have h11 := zne hc11; have h12 := zne hc12; have h13 := zne hc13; have h14 := zne hc14; have h15 := zne hc15; have h16 := zne hc16; have h17 := zne hc17; have h18 := zne hc18; have h19 := zne hc19; have h20 := zne hc20; have h21 := zne hc21; have h22 := zne hc22; have h23 := zne hc23; have h24 := zne hc24; have h25 := zne hc25; have h26 := zne hc26; have h27 := zne hc27; have h28 := zne hc28; have h29 := zne hc29; have h30 := zne hc30; have h31 := zne hc31; have h32 := zne hc32; simp at *; omega)
set_option maxRecDepth 40000 in
set_option maxHeartbeats 4000000 in
theorem lp_head {p : Program} {l : Launch} {e : Env} {s : State} {m : MethodId} {below : List Frame} {meth : Method} {c : Code} {E : zE} {G : zG} {b L bx bm : Nat} {xs : Nat → Int32} (C0 : lw_At p s m meth c b L xs) (hL : L ≤ 3072) (hbx : s.heap.size ≤ bx) (hbm : bx + 93 ≤ bm) (hK : zK E s) (hO : zO s ∧ zZ G (fun q => s.heap.size ≤ q) s s.heap) (n : Nat) : ∀ (i cells slots : Nat) (mi : Nat → Option Nat) (ko : Option Nat) (T : TT) (M : Nat → Nat → Int32) (I : Nat → TT) (H : Heap) (locs : List Loc) (ls : Array Slot), L < i + 6 + 6 * n → i ≤ 3072 → cells ≤ 200 + 8 * i → slots ≤ 20000 + 768 * i → RG T M I mi → GG E bx bm mi ko T M I H → va_S (fun q => s.heap.size ≤ q) s.heap H locs → lv_has ls 4 [(0, .ref b), (1, .ref bx), (2, .ref bm), (3, .int (nI i))] → W p l e room_1 s m #[Value.ref b] below meth c H locs cells slots (lw_Z below #[Value.ref b] s) (F0 m 18 ls []) := by
  obtain ⟨hx, hb, hr, hml, hown, hts, hX0, hbl, hlocks, hgv⟩ := id C0
  have zc : zC p s m #[Value.ref b] meth c cL_law 4 RL ret := ⟨hx, hb, hml, hown, fun w hw => hts w (zb_in hw), hr, hlocks⟩
  have hbA : ¬ (fun q : Nat => s.heap.size ≤ q) b := Nat.not_le.mpr hbl
  have hf : ∀ (i cells slots : Nat) (mi : Nat → Option Nat) (ko : Option Nat) (T : TT) (M : Nat → Nat → Int32) (I : Nat → TT) (H : Heap) (locs : List Loc) (ls : Array Slot), i ≤ 3072 → cells ≤ 200 + 8 * i → slots ≤ 20000 + 768 * i → RG T M I mi → GG E bx bm mi ko T M I H → va_S (fun q => s.heap.size ≤ q) s.heap H locs → lv_has ls 4 [(0, .ref b), (1, .ref bx), (2, .ref bm), (3, .int (nI i))] → (¬ L < i + 6 → W p l e room_1 s m #[Value.ref b] below meth c H locs cells slots (lw_Z below #[Value.ref b] s) (F0 m 27 ls [])) → W p l e room_1 s m #[Value.ref b] below meth c H locs cells slots (lw_Z below #[Value.ref b] s) (F0 m 18 ls []) := by
    intro i cells slots mi ko T M I H locs ls hi hc hs hR hG hS hl kk
    refine lv_iload_n hx hb dL_law_18 rfl (lv_at hl 3 rfl) ?_
    refine lv_aload_n hx hb dL_law_19 rfl (lv_at hl 0 rfl) ?_
    refine va_slen hx hb hX0 hbl hbA hS dL_law_20 ?_
    refine lv_bipush (v := (6 : Int32)) hx hb dL_law_21 (by decide) ?_
    refine lv_isub hx hb dL_law_23 ?_
    refine lv_icmp_gt (tgt := 1653) hx hb dL_law_24 (by decide) (fun hd => ?_) (fun hd => kk (fun h => hd ((hd_lt hL (by omega)).mpr h)))
    exact lp_end C0 ⟨by show cells ≤ 600000; omega, by show slots ≤ 7302250; omega⟩ hS
  induction n with
  | zero =>
    intro i cells slots mi ko T M I H locs ls h hi hc hs hR hG hS hl
    exact hf i cells slots mi ko T M I H locs ls hi hc hs hR hG hS hl (fun h2 => absurd (by omega) h2)
  | succ n ih =>
    intro i cells slots mi ko T M I H locs ls h hi hc hs hR hG hS hl
    refine hf i cells slots mi ko T M I H locs ls hi hc hs hR hG hS hl (fun h2 => ?_)
    have hi6 : i + 6 ≤ L := by omega
    refine lp_sw hi6 hL hR ⟨by show cells + 47 ≤ 600000; omega, by show slots + 4608 ≤ 7302250; omega⟩ C0 hbx hbm hK hO hG hS hl (fun mi ko T M I H locs cells' slots' e1 e2 hR hG hS => ?_)
    refine lv_iinc (v := nI (i + 6)) (k := 3) (lv' := [(3, .int (nI (i + 6))), (0, .ref b), (1, .ref bx), (2, .ref bm)]) hx hb dL_law_1647 hl rfl (by rw [← nI_add]; rfl) (by decide) rfl (fun ls hl => ?_)
    refine lv_goto (tgt := 18) hx hb dL_law_1650 (by decide) ?_
    exact ih (i + 6) cells' slots' mi ko T M I H locs ls (by omega) (by omega) (by omega) (by omega) hR hG hS (lv_sub hl [1, 2, 3, 0] rfl)
theorem iv_z {l h : Int} (h1 : l ≤ 0) (h2 : 0 ≤ h) : iv l h 0 := ⟨h1, h2⟩
theorem mRh0 : ∀ j, j < 132 → 0 ≤ mRh j := by decide +kernel
theorem mLand0 : mLand (fun _ => 0) := ⟨fun r j hr hj => iv_z (Int.le_refl 0) (mRh0 j hj), fun r hr h => absurd rfl h⟩
theorem mEve0 : mEve (fun _ => 0) := fun r hr => ⟨iv_z (by decide) (by decide), fun k hk => ⟨iv_z (by decide) (by decide), iv_z (by decide) (by decide), iv_z (by decide) (by decide)⟩⟩
theorem mSig0 : mSig (fun _ => 0) := fun r hr => ⟨iv_z (by decide) (by decide), fun k hk => ⟨iv_z (by decide) (by decide), iv_z (by decide) (by decide), iv_z (by decide) (by decide)⟩⟩
theorem mCho0 : mCho (fun _ => 0) := fun r hr => ⟨iv_z (by decide) (by decide), iv_z (by decide) (by decide), fun k hk => ⟨iv_z (by decide) (by decide), iv_z (by decide) (by decide)⟩⟩
theorem mT0 : mT (mmk (fun _ => 0) (fun _ => 0) (fun _ => 0) (upd (fun _ => 0) (Int32.toNatClampNeg 0) (-1)) (fun _ => 0) (fun _ => 0) (fun _ => 0) (fun _ => 0) (fun _ => 0) (fun _ => 0)) := ⟨fun _ => iv_lit (x := 0) (by decide), fun _ => iv_lit (x := 0) (by decide), fun _ => iv_lit (x := 0) (by decide), mLand0, mEve0, mSig0, mCho0, fun _ => iv_lit (x := 0) (by decide)⟩
set_option maxRecDepth 40000 in
theorem fx_start {E : zE} {a : Nat} {H : Heap} (h : va_P E.1 zcl (zb_X10_init E a) H) : wxW E a (fun _ => 0) 0 0 (-1) (fun _ => 0) 0 0 0 0 0 2 5 (fun _ => 0) (fun _ => 0) (fun _ => 0) (fun _ => 0) (fun _ => 0) (fun _ => 0) (fun _ => 0) (fun _ => 0) 0 0 0 0 0 2 5 (fun _ => 0) (fun _ => 0) (fun _ => 0) (fun _ => 0) (fun _ => 0) (fun _ => 0) (fun _ => 0) (fun _ => 0) 0 (fun _ => 0) (fun _ => 0) (fun _ => 0) 0 (fun _ => 0) (fun _ => 0) (fun _ => 0) 0 (fun _ => 0) (fun _ => 0) (fun _ => 0) 0 (fun _ => 0) (fun _ => 0) (fun _ => 0) 0 0 (fun _ => 0) (fun _ => 0) 0 0 (fun _ => 0) (fun _ => 0) (fun _ => none) 0 0 0 0 0 2 5 (fun _ => 0) (fun _ => 0) (fun _ => 0) (fun _ => 0) (fun _ => 0) (fun _ => 0) (fun _ => 0) (fun _ => 0) 0 (fun _ => 0) (fun _ => 0) (fun _ => 0) 0 (fun _ => 0) (fun _ => 0) (fun _ => 0) 0 0 (fun _ => 0) (fun _ => 0) 0 (-1) (fun _ => 0) (fun _ => 0) 0 0 0 0 0 0 0 0 0 0 0 0 (fun _ => 0) (fun _ => 0) (fun _ => 0) (fun _ => 0) (fun _ => 0) (fun _ => 0) (fun _ => 0) (fun _ => 0) (fun _ => 0) (fun _ => 0) (fun _ => 0) (fun _ => 0) (fun _ => 0) none (fun _ => 0) (fun _ => 0) (fun _ => 0) (fun _ => 0) H := h
set_option maxRecDepth 40000 in
theorem fm_start {E : zE} {a : Nat} {H : Heap} (h : va_P E.1 zcl (zb_X11_init E a) H) : mW E a 0 (fun _ => 0) (fun _ => 0) (fun _ => 0) (upd (fun _ => 0) (Int32.toNatClampNeg 0) (-1)) (fun _ => 0) (fun _ => 0) (fun _ => 0) (fun _ => 0) (fun _ => 0) 0 0 0 0 0 0 0 0 0 (fun _ => 0) (fun _ => 0) 0 0 0 0 0 0 0 (fun _ => 0) (fun _ => 0) (fun _ => 0) (fun _ => 0) (fun _ => 0) 0 0 0 (fun _ => 0) (fun _ => 0) (fun _ => 0) (fun _ => 0) (fun _ => 0) (fun _ => 0) (fun _ => 0) 0 (fun _ => 0) 0 0 (fun _ => 0) (fun _ => 0) 0 (fun _ => 0) (fun _ => 0) H := h
set_option maxRecDepth 40000 in
set_option maxHeartbeats 4000000 in
theorem GG0 {E : zE} {bx bm : Nat} {H : Heap} (hX : va_P E.1 zcl (zb_X10_init E bx) H) (hM : va_P E.1 zcl (zb_X11_init E bm) H) : GG E bx bm (fun _ => none) none (tmk (fun _ => 0) 0 0 (-1) (fun _ => 0) 0 0 0 0 0 2 5 (fun _ => 0) (fun _ => 0) (fun _ => 0) (fun _ => 0) (fun _ => 0) (fun _ => 0) (fun _ => 0) (fun _ => 0) 0 0 0 0 0 2 5 (fun _ => 0) (fun _ => 0) (fun _ => 0) (fun _ => 0) (fun _ => 0) (fun _ => 0) (fun _ => 0) (fun _ => 0) 0 (fun _ => 0) (fun _ => 0) (fun _ => 0) 0 (fun _ => 0) (fun _ => 0) (fun _ => 0) 0 (fun _ => 0) (fun _ => 0) (fun _ => 0) 0 (fun _ => 0) (fun _ => 0) (fun _ => 0) 0 0 (fun _ => 0) (fun _ => 0) 0 0 (fun _ => 0) (fun _ => 0)) (mmk (fun _ => 0) (fun _ => 0) (fun _ => 0) (upd (fun _ => 0) (Int32.toNatClampNeg 0) (-1)) (fun _ => 0) (fun _ => 0) (fun _ => 0) (fun _ => 0) (fun _ => 0) (fun _ => 0)) (fun _ => (tmk (fun _ => 0) 0 0 (-1) (fun _ => 0) 0 0 0 0 0 2 5 (fun _ => 0) (fun _ => 0) (fun _ => 0) (fun _ => 0) (fun _ => 0) (fun _ => 0) (fun _ => 0) (fun _ => 0) 0 0 0 0 0 2 5 (fun _ => 0) (fun _ => 0) (fun _ => 0) (fun _ => 0) (fun _ => 0) (fun _ => 0) (fun _ => 0) (fun _ => 0) 0 (fun _ => 0) (fun _ => 0) (fun _ => 0) 0 (fun _ => 0) (fun _ => 0) (fun _ => 0) 0 (fun _ => 0) (fun _ => 0) (fun _ => 0) 0 (fun _ => 0) (fun _ => 0) (fun _ => 0) 0 0 (fun _ => 0) (fun _ => 0) 0 0 (fun _ => 0) (fun _ => 0))) H :=
  ⟨XS_of2 (fx_start hX) ⟨by decide, by decide⟩ ⟨by decide, by decide⟩ ⟨by decide, by decide⟩ ⟨by decide, by decide⟩ ⟨by decide, by decide⟩ ⟨by decide, by decide⟩ ⟨by decide, by decide⟩ (fun _ => iv_lit (x := 0) (by decide)) (fun _ => iv_lit (x := 0) (by decide)) (fun _ => iv_lit (x := 0) (by decide)) (fun _ => iv_lit (x := 0) (by decide)) (fun _ => iv_lit (x := 0) (by decide)) (fun _ => iv_lit (x := 0) (by decide)) (fun _ => iv_lit (x := 0) (by decide)) (fun _ => iv_lit (x := 0) (by decide)) ⟨by decide, by decide⟩ (fun _ => iv_lit (x := 0) (by decide)) (fun _ => iv_lit (x := 0) (by decide)) (fun _ => iv_lit (x := 0) (by decide)) ⟨by decide, by decide⟩ (fun _ => iv_lit (x := 0) (by decide)) (fun _ => iv_lit (x := 0) (by decide)) (fun _ => iv_lit (x := 0) (by decide)) ⟨by decide, by decide⟩ ⟨by decide, by decide⟩ (fun _ => iv_lit (x := 0) (by decide)) (fun _ => iv_lit (x := 0) (by decide)) ⟨by decide, by decide⟩ ⟨by decide, by decide⟩ (fun _ => iv_lit (x := 0) (by decide)) ⟨by decide, by decide⟩ ⟨by decide, by decide⟩ ⟨by decide, by decide⟩ ⟨by decide, by decide⟩ ⟨by decide, by decide⟩ ⟨by decide, by decide⟩ (fun _ => iv_lit (x := 0) (by decide)) (fun _ => iv_lit (x := 0) (by decide)) (fun _ => iv_lit (x := 0) (by decide)) (fun _ => iv_lit (x := 0) (by decide)) (fun _ => iv_lit (x := 0) (by decide)) (fun _ => iv_lit (x := 0) (by decide)) (fun _ => iv_lit (x := 0) (by decide)) (fun _ => iv_lit (x := 0) (by decide)) (fun _ => iv_lit (x := 0) (by decide)) (fun _ => iv_lit (x := 0) (by decide)), MS_of (fm_start hM) ⟨by decide, by decide⟩ ⟨by decide, by decide⟩ ⟨by decide, by decide⟩ ⟨by decide, by decide⟩ (fun _ => iv_lit (x := 0) (by decide)) (fun _ => iv_lit (x := 0) (by decide)) (fun _ => iv_lit (x := 0) (by decide)) (fun _ => iv_lit (x := 0) (by decide)) ⟨by decide, by decide⟩ (fun _ => iv_lit (x := 0) (by decide)) (fun _ => iv_lit (x := 0) (by decide)) (fun _ => iv_lit (x := 0) (by decide)) (fun _ => iv_lit (x := 0) (by decide)) (fun _ => iv_lit (x := 0) (by decide)) ⟨by decide, by decide⟩ (fun _ => iv_lit (x := 0) (by decide)), ⟨fun j hj q e => absurd e (by simp), fun j k _ _ _ q r e _ => absurd e (by simp), fun t e => absurd e (by simp), fun j hj q t e _ => absurd e (by simp)⟩, tJ_of (fun _ => iv_lit (x := 0) (by decide)) ⟨by decide, by decide⟩ ⟨by decide, by decide⟩ ⟨by decide, by decide⟩ (fun _ => iv_lit (x := 0) (by decide)) ⟨by decide, by decide⟩ ⟨by decide, by decide⟩ ⟨by decide, by decide⟩ ⟨by decide, by decide⟩ ⟨by decide, by decide⟩ ⟨by decide, by decide⟩ ⟨by decide, by decide⟩ (fun _ => iv_lit (x := 0) (by decide)) (fun _ => iv_lit (x := 0) (by decide)) (fun _ => iv_lit (x := 0) (by decide)) (fun _ => iv_lit (x := 0) (by decide)) (fun _ => iv_lit (x := 0) (by decide)) (fun _ => iv_lit (x := 0) (by decide)) (fun _ => iv_lit (x := 0) (by decide)) (fun _ => iv_lit (x := 0) (by decide)) ⟨by decide, by decide⟩ ⟨by decide, by decide⟩ ⟨by decide, by decide⟩ ⟨by decide, by decide⟩ ⟨by decide, by decide⟩ ⟨by decide, by decide⟩ ⟨by decide, by decide⟩ (fun _ => iv_lit (x := 0) (by decide)) (fun _ => iv_lit (x := 0) (by decide)) (fun _ => iv_lit (x := 0) (by decide)) (fun _ => iv_lit (x := 0) (by decide)) (fun _ => iv_lit (x := 0) (by decide)) (fun _ => iv_lit (x := 0) (by decide)) (fun _ => iv_lit (x := 0) (by decide)) (fun _ => iv_lit (x := 0) (by decide)) ⟨by decide, by decide⟩ (fun _ => iv_lit (x := 0) (by decide)) (fun _ => iv_lit (x := 0) (by decide)) (fun _ => iv_lit (x := 0) (by decide)) ⟨by decide, by decide⟩ (fun _ => iv_lit (x := 0) (by decide)) (fun _ => iv_lit (x := 0) (by decide)) (fun _ => iv_lit (x := 0) (by decide)) ⟨by decide, by decide⟩ (fun _ => iv_lit (x := 0) (by decide)) (fun _ => iv_lit (x := 0) (by decide)) (fun _ => iv_lit (x := 0) (by decide)) ⟨by decide, by decide⟩ (fun _ => iv_lit (x := 0) (by decide)) (fun _ => iv_lit (x := 0) (by decide)) (fun _ => iv_lit (x := 0) (by decide)) ⟨by decide, by decide⟩ ⟨by decide, by decide⟩ (fun _ => iv_lit (x := 0) (by decide)) (fun _ => iv_lit (x := 0) (by decide)) ⟨by decide, by decide⟩ ⟨by decide, by decide⟩ (fun _ => iv_lit (x := 0) (by decide)) (fun _ => iv_lit (x := 0) (by decide)), mT0⟩
theorem RF0 : RF (tmk (fun _ => 0) 0 0 (-1) (fun _ => 0) 0 0 0 0 0 2 5 (fun _ => 0) (fun _ => 0) (fun _ => 0) (fun _ => 0) (fun _ => 0) (fun _ => 0) (fun _ => 0) (fun _ => 0) 0 0 0 0 0 2 5 (fun _ => 0) (fun _ => 0) (fun _ => 0) (fun _ => 0) (fun _ => 0) (fun _ => 0) (fun _ => 0) (fun _ => 0) 0 (fun _ => 0) (fun _ => 0) (fun _ => 0) 0 (fun _ => 0) (fun _ => 0) (fun _ => 0) 0 (fun _ => 0) (fun _ => 0) (fun _ => 0) 0 (fun _ => 0) (fun _ => 0) (fun _ => 0) 0 0 (fun _ => 0) (fun _ => 0) 0 0 (fun _ => 0) (fun _ => 0)) (mmk (fun _ => 0) (fun _ => 0) (fun _ => 0) (upd (fun _ => 0) (Int32.toNatClampNeg 0) (-1)) (fun _ => 0) (fun _ => 0) (fun _ => 0) (fun _ => 0) (fun _ => 0) (fun _ => 0)) (fun _ => (tmk (fun _ => 0) 0 0 (-1) (fun _ => 0) 0 0 0 0 0 2 5 (fun _ => 0) (fun _ => 0) (fun _ => 0) (fun _ => 0) (fun _ => 0) (fun _ => 0) (fun _ => 0) (fun _ => 0) 0 0 0 0 0 2 5 (fun _ => 0) (fun _ => 0) (fun _ => 0) (fun _ => 0) (fun _ => 0) (fun _ => 0) (fun _ => 0) (fun _ => 0) 0 (fun _ => 0) (fun _ => 0) (fun _ => 0) 0 (fun _ => 0) (fun _ => 0) (fun _ => 0) 0 (fun _ => 0) (fun _ => 0) (fun _ => 0) 0 (fun _ => 0) (fun _ => 0) (fun _ => 0) 0 0 (fun _ => 0) (fun _ => 0) 0 0 (fun _ => 0) (fun _ => 0))) (fun _ => none) := by
  refine ⟨⟨rfl, fun j hj => absurd hj (Nat.not_lt_zero j), rfl, rfl, fun o ho => ?_, fun o k ho hk h => ?_⟩, fun j hj => ⟨⟨fun _ => rfl, fun _ => rfl⟩, fun h => absurd rfl h⟩⟩
  · rfl
  · exact absurd h (nI_pos (by omega))
theorem RG0 : RG (tmk (fun _ => 0) 0 0 (-1) (fun _ => 0) 0 0 0 0 0 2 5 (fun _ => 0) (fun _ => 0) (fun _ => 0) (fun _ => 0) (fun _ => 0) (fun _ => 0) (fun _ => 0) (fun _ => 0) 0 0 0 0 0 2 5 (fun _ => 0) (fun _ => 0) (fun _ => 0) (fun _ => 0) (fun _ => 0) (fun _ => 0) (fun _ => 0) (fun _ => 0) 0 (fun _ => 0) (fun _ => 0) (fun _ => 0) 0 (fun _ => 0) (fun _ => 0) (fun _ => 0) 0 (fun _ => 0) (fun _ => 0) (fun _ => 0) 0 (fun _ => 0) (fun _ => 0) (fun _ => 0) 0 0 (fun _ => 0) (fun _ => 0) 0 0 (fun _ => 0) (fun _ => 0)) (mmk (fun _ => 0) (fun _ => 0) (fun _ => 0) (upd (fun _ => 0) (Int32.toNatClampNeg 0) (-1)) (fun _ => 0) (fun _ => 0) (fun _ => 0) (fun _ => 0) (fun _ => 0) (fun _ => 0)) (fun _ => (tmk (fun _ => 0) 0 0 (-1) (fun _ => 0) 0 0 0 0 0 2 5 (fun _ => 0) (fun _ => 0) (fun _ => 0) (fun _ => 0) (fun _ => 0) (fun _ => 0) (fun _ => 0) (fun _ => 0) 0 0 0 0 0 2 5 (fun _ => 0) (fun _ => 0) (fun _ => 0) (fun _ => 0) (fun _ => 0) (fun _ => 0) (fun _ => 0) (fun _ => 0) 0 (fun _ => 0) (fun _ => 0) (fun _ => 0) 0 (fun _ => 0) (fun _ => 0) (fun _ => 0) 0 (fun _ => 0) (fun _ => 0) (fun _ => 0) 0 (fun _ => 0) (fun _ => 0) (fun _ => 0) 0 0 (fun _ => 0) (fun _ => 0) 0 0 (fun _ => 0) (fun _ => 0))) (fun _ => none) := ⟨RF0, fun k hk hl => absurd hl (nI_pos (by omega)), fun j hj hn => absurd rfl hn⟩
end
