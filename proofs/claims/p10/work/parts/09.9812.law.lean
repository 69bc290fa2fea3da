theorem zidx {i L k : Nat} {v : Int32} (hi : i + 6 ≤ L) (hL : L ≤ 3072) (hv : nI k = v) (hk : k < 6) : vp_in (nI i + v) L := by
  rw [← hv, nI_add]
  exact vp_in_nI (by omega) (by omega)
theorem zcmp (x : Int64) : lg_cmp x x = 0 := by unfold lg_cmp; simp
theorem hd_lt {L i : Nat} (hL : L ≤ 3072) (hi : i ≤ 6000) : Int32.ofNat L - 6 < nI i ↔ L < i + 6 := by
  have e1 : iv L L (Int32.ofNat L) := iv_ofN (by omega) (by omega) (by omega)
  have e2 : iv (L - 6) (L - 6) (Int32.ofNat L - 6) := iv_sub e1 (iv_lit (x := 6) (l := 6) (h := 6) (by decide)) (by omega)
  have e3 : iv i i (nI i) := iv_ofN (by omega) (by omega) (by omega)
  rw [Int32.lt_iff_toInt_lt]
  unfold iv at e2 e3
  omega
