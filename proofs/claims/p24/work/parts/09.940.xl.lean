section
theorem inc_ltc {x v a c : Int32} (hx : x = a) (e : v = a + c) (hs : a.toInt < (a + c).toInt) : x.toInt < v.toInt := by rw [hx, e]; exact hs
theorem iv_is1 {x : Int32} (hx : iv 0 1 x) (hc : ¬ x = 0) : x = 1 := (iv_01 hx).elim (fun h => absurd h hc) id
theorem tb_all {t : List Int32} {l h : Int} (ht : t.all (fun x => decide (l ≤ x.toInt) && decide (x.toInt ≤ h)) = true) (h0 : l ≤ 0 ∧ 0 ≤ h) (j : Nat) : iv l h (t.getD j 0) := by
  rw [List.getD_eq_getElem?_getD]
  cases e : t[j]? with
  | none => exact h0
  | some x =>
    have := List.all_eq_true.mp ht x (List.mem_of_getElem? e)
    simp only [Bool.and_eq_true, decide_eq_true_eq] at this
    exact this
theorem tbi_0 (j : Nat) : iv 0 20 (tbf_0 j) := tb_all (by decide +kernel) (by decide) j
theorem tbi_1 (j : Nat) : iv 0 3 (tbf_1 j) := tb_all (by decide +kernel) (by decide) j
theorem tbi_2 (j : Nat) : iv 0 1 (tbf_2 j) := tb_all (by decide +kernel) (by decide) j
theorem tbi_3 (j : Nat) : iv 0 99 (tbf_3 j) := tb_all (by decide +kernel) (by decide) j
theorem tbe_0 {a l h : Int} {x : Int32} (hx : iv a a x) (hs : l ≤ (tbf_0 a.toNat).toInt ∧ (tbf_0 a.toNat).toInt ≤ h) : iv l h (tbf_0 x.toNatClampNeg) := by
  have e : x.toNatClampNeg = a.toNat := by
    have e2 : x.toNatClampNeg = x.toInt.toNat := rfl
    have := hx.1; have := hx.2
    rw [e2]; congr 1; omega
  rw [e]; exact hs
theorem tbe_1 {a l h : Int} {x : Int32} (hx : iv a a x) (hs : l ≤ (tbf_1 a.toNat).toInt ∧ (tbf_1 a.toNat).toInt ≤ h) : iv l h (tbf_1 x.toNatClampNeg) := by
  have e : x.toNatClampNeg = a.toNat := by
    have e2 : x.toNatClampNeg = x.toInt.toNat := rfl
    have := hx.1; have := hx.2
    rw [e2]; congr 1; omega
  rw [e]; exact hs
theorem tbe_2 {a l h : Int} {x : Int32} (hx : iv a a x) (hs : l ≤ (tbf_2 a.toNat).toInt ∧ (tbf_2 a.toNat).toInt ≤ h) : iv l h (tbf_2 x.toNatClampNeg) := by
  have e : x.toNatClampNeg = a.toNat := by
    have e2 : x.toNatClampNeg = x.toInt.toNat := rfl
    have := hx.1; have := hx.2
    rw [e2]; congr 1; omega
  rw [e]; exact hs
theorem tbe_3 {a l h : Int} {x : Int32} (hx : iv a a x) (hs : l ≤ (tbf_3 a.toNat).toInt ∧ (tbf_3 a.toNat).toInt ≤ h) : iv l h (tbf_3 x.toNatClampNeg) := by
  have e : x.toNatClampNeg = a.toNat := by
    have e2 : x.toNatClampNeg = x.toInt.toNat := rfl
    have := hx.1; have := hx.2
    rw [e2]; congr 1; omega
  rw [e]; exact hs
def rNF (x1 huts echoes singers deeds facts voices : Int32) : Prop := (x1.toInt = 0 → ¬ huts = 9) ∧ (x1.toInt = 6 → ¬ echoes = 4) ∧ (x1.toInt = 8 → ¬ singers = 6) ∧ (10 ≤ x1.toInt ∧ x1.toInt < 16 → ¬ deeds = 40) ∧ (x1.toInt = 16 ∨ x1.toInt = 17 → ¬ facts = 10) ∧ (x1.toInt = 18 → ¬ voices = 9)
def rNB (x1 : Int32) (nums : Nat → Int32) (n : Nat) : Prop := ∀ j, j < n → ¬ nums j < tbf_2 (x1.toNatClampNeg * 3 + j) ∧ nums j ≤ tbf_3 (x1.toNatClampNeg * 3 + j)
theorem rb_iv {n a b : Int32} {l h : Int} (hh : ¬ n < a ∧ n ≤ b) (hs : l ≤ a.toInt ∧ b.toInt ≤ h) : iv l h n := ⟨Int.le_trans hs.1 (r_nlt hh.1), Int.le_trans (r_le hh.2) hs.2⟩
theorem iv_cl {x : Int32} {l h : Int} {n : Nat} (hx : iv l h x) (hs : 0 ≤ l ∧ h < n) : x.toNatClampNeg < n := by
  have e2 : x.toNatClampNeg = x.toInt.toNat := rfl
  have := hx.1; have := hx.2; omega
end
section
-- z_J6_bitCount_0f7a4
set_option maxRecDepth 20000 in
theorem s_z_J6_bitCount_0f7a4_0 {x0 : Int32} {post : Int32 → Prop} (hx0 : iv (-1) 2147483647 x0) (hpost : ∀ (r : Int32), iv 0 63 r → post r) : q_z_J6_bitCount_0f7a4_0 x0 post := by
  intro w1 ew1
  have hw1 := iv_eq ew1 (iv_sub (l := (-1431655766)) (h := 2147483647) hx0 (iv_andr (l := 0) (h := 1431655765) (iv_lit (l := 1431655765) (h := 1431655765) (by decide)) (by decide)) (by decide))
  intro w2 ew2
  have hw2 := iv_eq ew2 (iv_add (l := 0) (h := 1717986918) (iv_andr (l := 0) (h := 858993459) (iv_lit (l := 858993459) (h := 858993459) (by decide)) (by decide)) (iv_andr (l := 0) (h := 858993459) (iv_lit (l := 858993459) (h := 858993459) (by decide)) (by decide)) (by decide))
  intro w3 ew3
  have hw3 := iv_eq ew3 (iv_andr (l := 0) (h := 252645135) (iv_lit (l := 252645135) (h := 252645135) (by decide)) (by decide))
  intro w4 ew4
  intro w5 ew5
  exact hpost _ (iv_andr (l := 0) (h := 63) (iv_lit (l := 63) (h := 63) (by decide)) (by decide))
-- z_X10_power
set_option maxRecDepth 20000 in
theorem s_z_X10_power_5 {x0 : Int32} {x1 : Int32} {x2 : Int64} {x4 : Int32} {post : Int64 → Prop} (hx0 : iv 0 10 x0) (hx1 : iv (-2147483648) 18 x1) (hx4 : iv 0 18 x4) (hpost : ∀ (r : Int64), post r) : q_z_X10_power_5 x0 x1 x2 x4 post := by
  intro P hP
  have loop : ∀ (n : Nat) (x2 : Int64) (x4 : Int32), (18 - x4.toInt < (n : Int)) → (iv 0 18 x4) → P x2 x4 := by
    intro n
    induction n with
    | zero => intro x2 x4 hm hx4; exact (ms0_up hm hx4).elim
    | succ n ih =>
      intro x2 x4 hm hx4
      apply hP
      refine ⟨fun c1 => ?_, fun c1 => ?_⟩
      · skip
        exact hpost _
      · skip
        intro w2 ew2
        intro w3 ew3
        have hw3 := iv_eq ew3 (iv_add (l := 1) (h := 18) (iv_lta (l := 0) (h := 17) (r_nle c1) hx4 hx1 (by decide)) (iv_lit (l := 1) (h := 1) (by decide)) (by decide))
        exact ih _ _ (ms_up hm (inc_lt ew3 (iv_lta (l := 0) (h := 17) (r_nle c1) hx4 hx1 (by decide)) (by decide))) (iv_w hw3 (by decide))
  exact loop _ _ _ (ms_init_up _ _) hx4
set_option maxRecDepth 20000 in
theorem s_z_X10_power_0 {x0 : Int32} {x1 : Int32} {post : Int64 → Prop} (hx0 : iv 0 10 x0) (hx1 : iv (-2147483648) 18 x1) (hpost : ∀ (r : Int64), post r) : q_z_X10_power_0 x0 x1 post := by
  exact s_z_X10_power_5 hx0 hx1 (iv_w (iv_lit (l := 0) (h := 0) (by decide)) (by decide)) hpost
-- wl_X2_earshot
set_option maxRecDepth 20000 in
theorem s_wl_X2_earshot_60 {P18 : Int32 → Int32 → Prop} {f_dams : Int32} {f_echoes : Int32} {a_echoFrom : Nat → Int32} {a_echoTo : Nat → Int32} {x1 : Int32} {x2 : Int32} {x3 : Int32} {post : Int32 → Prop} (k_f_dams : iv 0 511 f_dams) (k_f_echoes : iv 1 4 f_echoes) (k_a_echoFrom : ∀ j, iv 0 8 (a_echoFrom j)) (k_a_echoTo : ∀ j, iv 0 8 (a_echoTo j)) (hx1 : iv 0 8 x1) (hx2 : iv 0 511 x2) (hx3 : iv 0 3 x3) (m18 : Int) (hm18 : m18 ≤ x3.toInt) (hP18 : ∀ (x2 : Int32) (x3 : Int32), m18 < x3.toInt → iv 0 511 x2 → iv 0 4 x3 → P18 x2 x3) (hpost : ∀ (r : Int32), iv 0 511 r → post r) : q_wl_X2_earshot_60 P18 f_dams f_echoes a_echoFrom a_echoTo x1 x2 x3 post := by
  intro w1 ew1
  have hw1 := iv_eq ew1 (iv_add (l := 1) (h := 4) hx3 (iv_lit (l := 1) (h := 1) (by decide)) (by decide))
  exact hP18 _ _ (ml_up hm18 (inc_lt ew1 hx3 (by decide))) hx2 (iv_w hw1 (by decide))
set_option maxRecDepth 20000 in
theorem s_wl_X2_earshot_18 {f_dams : Int32} {f_echoes : Int32} {a_echoFrom : Nat → Int32} {a_echoTo : Nat → Int32} {x1 : Int32} {x2 : Int32} {x3 : Int32} {post : Int32 → Prop} (k_f_dams : iv 0 511 f_dams) (k_f_echoes : iv 0 4 f_echoes) (k_a_echoFrom : ∀ j, iv 0 8 (a_echoFrom j)) (k_a_echoTo : ∀ j, iv 0 8 (a_echoTo j)) (hx1 : iv 0 8 x1) (hx2 : iv 0 511 x2) (hx3 : iv 0 4 x3) (hpost : ∀ (r : Int32), iv 0 511 r → post r) : q_wl_X2_earshot_18 f_dams f_echoes a_echoFrom a_echoTo x1 x2 x3 post := by
  intro P hP
  have loop : ∀ (n : Nat) (x2 : Int32) (x3 : Int32), (4 - x3.toInt < (n : Int)) → (iv 0 511 x2) → (iv 0 4 x3) → P x2 x3 := by
    intro n
    induction n with
    | zero => intro x2 x3 hm hx2 hx3; exact (ms0_up hm hx3).elim
    | succ n ih =>
      intro x2 x3 hm hx2 hx3
      apply hP
      refine ⟨fun c1 => ?_, fun c1 => ?_⟩
      · skip
        exact hpost _ hx2
      · skip
        refine ⟨iv_in (iv_lta (l := 0) (h := 3) (r_nle c1) hx3 k_f_echoes (by decide)) (by decide), ?_⟩
        refine ⟨fun c2 => ?_, fun c2 => ?_⟩
        · skip
          exact s_wl_X2_earshot_60 k_f_dams (iv_ltb (l := 1) (h := 4) (r_nle c1) hx3 k_f_echoes (by decide)) k_a_echoFrom k_a_echoTo hx1 hx2 (iv_lta (l := 0) (h := 3) (r_nle c1) hx3 k_f_echoes (by decide)) x3.toInt (Int.le_refl _) (fun u0 u1 hq g0 g1 => ih u0 u1 (ms_up hm hq) g0 g1) hpost
        · skip
          refine ⟨iv_in (iv_lta (l := 0) (h := 3) (r_nle c1) hx3 k_f_echoes (by decide)) (by decide), ?_⟩
          refine ⟨fun c3 => ?_, fun c3 => ?_⟩
          · skip
            refine ⟨fun c4 => ?_, fun c4 => ?_⟩
            · skip
              exact (iv_emp (iv_ne (l := 1) (h := 0) c4 (iv_lit (l := 0) (h := 0) (by decide)) (iv_lit (l := 0) (h := 0) (by decide)) (by decide)) (by decide)).elim
            · skip
              refine ⟨iv_in (iv_lta (l := 0) (h := 3) (r_nle c1) hx3 k_f_echoes (by decide)) (by decide), ?_⟩
              intro w5 ew5
              have hw5 := iv_eq ew5 (iv_or 9 (l := 0) (h := 511) hx2 (iv_shl1 (l := 1) (h := 256) (iv_lit (l := 1) (h := 1) (by decide)) (k_a_echoTo _) (by decide)) (by decide))
              exact s_wl_X2_earshot_60 k_f_dams (iv_ltb (l := 1) (h := 4) (r_nle c1) hx3 k_f_echoes (by decide)) k_a_echoFrom k_a_echoTo hx1 hw5 (iv_lta (l := 0) (h := 3) (r_nle c1) hx3 k_f_echoes (by decide)) x3.toInt (Int.le_refl _) (fun u0 u1 hq g0 g1 => ih u0 u1 (ms_up hm hq) g0 g1) hpost
          · skip
            refine ⟨fun c6 => ?_, fun c6 => ?_⟩
            · skip
              exact s_wl_X2_earshot_60 k_f_dams (iv_ltb (l := 1) (h := 4) (r_nle c1) hx3 k_f_echoes (by decide)) k_a_echoFrom k_a_echoTo hx1 hx2 (iv_lta (l := 0) (h := 3) (r_nle c1) hx3 k_f_echoes (by decide)) x3.toInt (Int.le_refl _) (fun u0 u1 hq g0 g1 => ih u0 u1 (ms_up hm hq) g0 g1) hpost
            · skip
              exact (iv_emp (iv_eqa (l := 1) (h := 0) c6 (iv_lit (l := 1) (h := 1) (by decide)) (iv_lit (l := 0) (h := 0) (by decide)) (by decide)) (by decide)).elim
  exact loop _ _ _ (ms_init_up _ _) hx2 hx3
set_option maxRecDepth 20000 in
theorem s_wl_X2_earshot_15 {f_dams : Int32} {f_echoes : Int32} {a_echoFrom : Nat → Int32} {a_echoTo : Nat → Int32} {x1 : Int32} {y0 : Int32} {post : Int32 → Prop} (k_f_dams : iv 0 511 f_dams) (k_f_echoes : iv 0 4 f_echoes) (k_a_echoFrom : ∀ j, iv 0 8 (a_echoFrom j)) (k_a_echoTo : ∀ j, iv 0 8 (a_echoTo j)) (hx1 : iv 0 8 x1) (hy0 : iv 0 256 y0) (hpost : ∀ (r : Int32), iv 0 511 r → post r) : q_wl_X2_earshot_15 f_dams f_echoes a_echoFrom a_echoTo x1 y0 post := by
  exact s_wl_X2_earshot_18 k_f_dams k_f_echoes k_a_echoFrom k_a_echoTo hx1 (iv_w hy0 (by decide)) (iv_w (iv_lit (l := 0) (h := 0) (by decide)) (by decide)) hpost
set_option maxRecDepth 20000 in
theorem s_wl_X2_earshot_0 {f_dams : Int32} {f_echoes : Int32} {a_echoFrom : Nat → Int32} {a_echoTo : Nat → Int32} {x1 : Int32} {post : Int32 → Prop} (k_f_dams : iv 0 511 f_dams) (k_f_echoes : iv 0 4 f_echoes) (k_a_echoFrom : ∀ j, iv 0 8 (a_echoFrom j)) (k_a_echoTo : ∀ j, iv 0 8 (a_echoTo j)) (hx1 : iv 0 8 x1) (hpost : ∀ (r : Int32), iv 0 511 r → post r) : q_wl_X2_earshot_0 f_dams f_echoes a_echoFrom a_echoTo x1 post := by
  refine ⟨fun c1 => ?_, fun c1 => ?_⟩
  · skip
    refine ⟨fun c2 => ?_, fun c2 => ?_⟩
    · skip
      exact s_wl_X2_earshot_15 k_f_dams k_f_echoes k_a_echoFrom k_a_echoTo hx1 (iv_w (iv_shl1 (l := 1) (h := 256) (iv_lit (l := 1) (h := 1) (by decide)) hx1 (by decide)) (by decide)) hpost
    · skip
      exact (iv_emp (iv_ne (l := 1) (h := 0) c2 (iv_lit (l := 0) (h := 0) (by decide)) (iv_lit (l := 0) (h := 0) (by decide)) (by decide)) (by decide)).elim
  · skip
    refine ⟨fun c3 => ?_, fun c3 => ?_⟩
    · skip
      exact (iv_emp (iv_eqa (l := 1) (h := 0) c3 (iv_lit (l := 1) (h := 1) (by decide)) (iv_lit (l := 0) (h := 0) (by decide)) (by decide)) (by decide)).elim
    · skip
      exact s_wl_X2_earshot_15 k_f_dams k_f_echoes k_a_echoFrom k_a_echoTo hx1 (iv_w (iv_lit (l := 0) (h := 0) (by decide)) (by decide)) hpost
-- wl_X2_highest
set_option maxRecDepth 20000 in
theorem s_wl_X2_highest_42 {P4 : Int32 → Int32 → Prop} {f_huts : Int32} {a_heights : Nat → Int32} {x1 : Int32} {x2 : Int32} {x3 : Int32} {post : Int32 → Prop} (k_f_huts : iv 1 9 f_huts) (k_a_heights : ∀ j, iv 0 99 (a_heights j)) (hx1 : iv 1 511 x1) (hx2 : iv (-1) 8 x2) (hx3 : iv 0 8 x3) (m4 : Int) (hm4 : m4 ≤ x3.toInt) (hP4 : ∀ (x2 : Int32) (x3 : Int32), m4 < x3.toInt → iv (-1) 8 x2 → iv 0 9 x3 → P4 x2 x3) (hpost : ∀ (r : Int32), iv (-1) 8 r → post r) : q_wl_X2_highest_42 P4 f_huts a_heights x1 x2 x3 post := by
  intro w1 ew1
  have hw1 := iv_eq ew1 (iv_add (l := 1) (h := 9) hx3 (iv_lit (l := 1) (h := 1) (by decide)) (by decide))
  exact hP4 _ _ (ml_up hm4 (inc_lt ew1 hx3 (by decide))) hx2 (iv_w hw1 (by decide))
set_option maxRecDepth 20000 in
theorem s_wl_X2_highest_40 {P4 : Int32 → Int32 → Prop} {f_huts : Int32} {a_heights : Nat → Int32} {x1 : Int32} {x3 : Int32} {post : Int32 → Prop} (k_f_huts : iv 1 9 f_huts) (k_a_heights : ∀ j, iv 0 99 (a_heights j)) (hx1 : iv 1 511 x1) (hx3 : iv 0 8 x3) (m4 : Int) (hm4 : m4 ≤ x3.toInt) (hP4 : ∀ (x2 : Int32) (x3 : Int32), m4 < x3.toInt → iv (-1) 8 x2 → iv 0 9 x3 → P4 x2 x3) (hpost : ∀ (r : Int32), iv (-1) 8 r → post r) : q_wl_X2_highest_40 P4 f_huts a_heights x1 x3 post := by
  exact s_wl_X2_highest_42 k_f_huts k_a_heights hx1 (iv_w hx3 (by decide)) hx3 m4 hm4 hP4 hpost
set_option maxRecDepth 20000 in
theorem s_wl_X2_highest_4 {f_huts : Int32} {a_heights : Nat → Int32} {x1 : Int32} {x2 : Int32} {x3 : Int32} {post : Int32 → Prop} (k_f_huts : iv 1 9 f_huts) (k_a_heights : ∀ j, iv 0 99 (a_heights j)) (hx1 : iv 1 511 x1) (hx2 : iv (-1) 8 x2) (hx3 : iv 0 9 x3) (hpost : ∀ (r : Int32), iv (-1) 8 r → post r) : q_wl_X2_highest_4 f_huts a_heights x1 x2 x3 post := by
  intro P hP
  have loop : ∀ (n : Nat) (x2 : Int32) (x3 : Int32), (9 - x3.toInt < (n : Int)) → (iv (-1) 8 x2) → (iv 0 9 x3) → P x2 x3 := by
    intro n
    induction n with
    | zero => intro x2 x3 hm hx2 hx3; exact (ms0_up hm hx3).elim
    | succ n ih =>
      intro x2 x3 hm hx2 hx3
      apply hP
      refine ⟨fun c1 => ?_, fun c1 => ?_⟩
      · skip
        exact hpost _ hx2
      · skip
        refine ⟨fun c2 => ?_, fun c2 => ?_⟩
        · skip
          refine ⟨fun c3 => ?_, fun c3 => ?_⟩
          · skip
            exact s_wl_X2_highest_42 k_f_huts k_a_heights hx1 hx2 (iv_lta (l := 0) (h := 8) (r_nle c1) hx3 k_f_huts (by decide)) x3.toInt (Int.le_refl _) (fun u0 u1 hq g0 g1 => ih u0 u1 (ms_up hm hq) g0 g1) hpost
          · skip
            exact (iv_emp (iv_ne (l := 1) (h := 0) c3 (iv_lit (l := 0) (h := 0) (by decide)) (iv_lit (l := 0) (h := 0) (by decide)) (by decide)) (by decide)).elim
        · skip
          refine ⟨fun c4 => ?_, fun c4 => ?_⟩
          · skip
            exact (iv_emp (iv_eqa (l := 1) (h := 0) c4 (iv_lit (l := 1) (h := 1) (by decide)) (iv_lit (l := 0) (h := 0) (by decide)) (by decide)) (by decide)).elim
          · skip
            refine ⟨fun c5 => ?_, fun c5 => ?_⟩
            · skip
              exact s_wl_X2_highest_40 k_f_huts k_a_heights hx1 (iv_lta (l := 0) (h := 8) (r_nle c1) hx3 k_f_huts (by decide)) x3.toInt (Int.le_refl _) (fun u0 u1 hq g0 g1 => ih u0 u1 (ms_up hm hq) g0 g1) hpost
            · skip
              refine ⟨iv_in (iv_lta (l := 0) (h := 8) (r_nle c1) hx3 k_f_huts (by decide)) (by decide), ?_⟩
              refine ⟨iv_in (iv_ne (l := 0) (h := 8) c5 hx2 (iv_lit (l := (-1)) (h := (-1)) (by decide)) (by decide)) (by decide), ?_⟩
              refine ⟨fun c6 => ?_, fun c6 => ?_⟩
              · skip
                exact s_wl_X2_highest_42 k_f_huts k_a_heights hx1 (iv_w (iv_ne (l := 0) (h := 8) c5 hx2 (iv_lit (l := (-1)) (h := (-1)) (by decide)) (by decide)) (by decide)) (iv_lta (l := 0) (h := 8) (r_nle c1) hx3 k_f_huts (by decide)) x3.toInt (Int.le_refl _) (fun u0 u1 hq g0 g1 => ih u0 u1 (ms_up hm hq) g0 g1) hpost
              · skip
                exact s_wl_X2_highest_40 k_f_huts k_a_heights hx1 (iv_lta (l := 0) (h := 8) (r_nle c1) hx3 k_f_huts (by decide)) x3.toInt (Int.le_refl _) (fun u0 u1 hq g0 g1 => ih u0 u1 (ms_up hm hq) g0 g1) hpost
  exact loop _ _ _ (ms_init_up _ _) hx2 hx3
set_option maxRecDepth 20000 in
theorem s_wl_X2_highest_0 {f_huts : Int32} {a_heights : Nat → Int32} {x1 : Int32} {post : Int32 → Prop} (k_f_huts : iv 1 9 f_huts) (k_a_heights : ∀ j, iv 0 99 (a_heights j)) (hx1 : iv 1 511 x1) (hpost : ∀ (r : Int32), iv (-1) 8 r → post r) : q_wl_X2_highest_0 f_huts a_heights x1 post := by
  exact s_wl_X2_highest_4 k_f_huts k_a_heights hx1 (iv_w (iv_lit (l := (-1)) (h := (-1)) (by decide)) (by decide)) (iv_w (iv_lit (l := 0) (h := 0) (by decide)) (by decide)) hpost
-- wl_X2_look
set_option maxRecDepth 20000 in
theorem s_wl_X2_look_0 {f_huts : Int32} {f_singers : Int32} {f_villages : Int32} {f_dams : Int32} {f_echoes : Int32} {f_deep : Int32} {f_slide : Int32} {a_heights : Nat → Int32} {a_ladders : Nat → Int32} {a_minutes : Nat → Int32} {a_homes : Nat → Int32} {a_talls : Nat → Int32} {a_known : Nat → Int32} {x1 : Int32} {post : Int32 → Prop} (k_f_huts : iv 0 9 f_huts) (k_f_singers : iv 0 6 f_singers) (k_f_villages : iv 0 511 f_villages) (k_f_dams : iv 0 511 f_dams) (k_f_echoes : iv 0 4 f_echoes) (k_f_deep : iv 1 9 f_deep) (k_f_slide : iv 0 10 f_slide) (k_a_heights : ∀ j, iv 0 99 (a_heights j)) (k_a_ladders : ∀ j, iv 0 9 (a_ladders j)) (k_a_minutes : ∀ j, iv 0 9 (a_minutes j)) (k_a_homes : ∀ j, iv 0 8 (a_homes j)) (k_a_talls : ∀ j, iv 0 9 (a_talls j)) (k_a_known : ∀ j, iv 0 31 (a_known j)) (hpost : ∀ (r : Int32), iv (-1) 511 r → post r) : q_wl_X2_look_0 f_huts f_singers f_villages f_dams f_echoes f_deep f_slide a_heights a_ladders a_minutes a_homes a_talls a_known x1 post := by
  refine ⟨fun c1 => ?_, fun c1 => ?_⟩
  · skip
    exact hpost _ (iv_w (iv_lit (l := (-1)) (h := (-1)) (by decide)) (by decide))
  · skip
    refine ⟨fun c2 => ?_, fun c2 => ?_⟩
    · skip
      refine ⟨fun c3 => ?_, fun c3 => ?_⟩
      · skip
        refine ⟨fun c4 => ?_, fun c4 => ?_⟩
        · skip
          intro w5 ew5
          have hw5 := iv_eq ew5 (iv_rem (l := 0) (h := 9) (iv_leb (l := 10) (h := 59) (r_le c4) (iv_lit (l := 10) (h := 10) (by decide)) (iv_lta (l := 0) (h := 59) (r_lt c3) (iv_lta (l := 0) (h := 140) (r_lt c2) (iv_leb (l := 0) (h := 2147483647) (r_nlt c1) (iv_lit (l := 0) (h := 0) (by decide)) (iv_top x1) (by decide)) (iv_lit (l := 141) (h := 141) (by decide)) (by decide)) (iv_lit (l := 60) (h := 60) (by decide)) (by decide)) (by decide)) (iv_lit (l := 10) (h := 10) (by decide)) (by decide))
          refine ⟨fun c6 => ?_, fun c6 => ?_⟩
          · skip
            refine ⟨fun c7 => ?_, fun c7 => ?_⟩
            · skip
              exact (iv_emp (iv_lta (l := 0) (h := (-1)) (r_lt c7) hw5 (iv_lit (l := 0) (h := 0) (by decide)) (by decide)) (by decide)).elim
            · skip
              refine ⟨fun c8 => ?_, fun c8 => ?_⟩
              · skip
                refine ⟨fun c9 => ?_, fun c9 => ?_⟩
                · skip
                  exact (iv_emp (iv_ne (l := 1) (h := 0) c9 (iv_lit (l := 0) (h := 0) (by decide)) (iv_lit (l := 0) (h := 0) (by decide)) (by decide)) (by decide)).elim
                · skip
                  exact hpost _ (iv_w (iv_lit (l := (-1)) (h := (-1)) (by decide)) (by decide))
              · skip
                refine ⟨fun c10 => ?_, fun c10 => ?_⟩
                · skip
                  refine ⟨fun c11 => ?_, fun c11 => ?_⟩
                  · skip
                    refine ⟨fun c12 => ?_, fun c12 => ?_⟩
                    · skip
                      refine ⟨iv_in (iv_lta (l := 0) (h := 5) (r_nle c8) hw5 k_f_singers (by decide)) (by decide), ?_⟩
                      exact hpost _ (iv_w (k_a_known _) (by decide))
                    · skip
                      refine ⟨iv_in (iv_lta (l := 0) (h := 5) (r_nle c8) hw5 k_f_singers (by decide)) (by decide), ?_⟩
                      exact hpost _ (iv_w (k_a_talls _) (by decide))
                  · skip
                    refine ⟨iv_in (iv_lta (l := 0) (h := 5) (r_nle c8) hw5 k_f_singers (by decide)) (by decide), ?_⟩
                    exact hpost _ (iv_w (k_a_homes _) (by decide))
                · skip
                  exact (iv_emp (iv_eqa (l := 1) (h := 0) c10 (iv_lit (l := 1) (h := 1) (by decide)) (iv_lit (l := 0) (h := 0) (by decide)) (by decide)) (by decide)).elim
          · skip
            refine ⟨fun c13 => ?_, fun c13 => ?_⟩
            · skip
              exact (iv_emp (iv_lta (l := 0) (h := (-1)) (r_lt c13) hw5 (iv_lit (l := 0) (h := 0) (by decide)) (by decide)) (by decide)).elim
            · skip
              refine ⟨fun c14 => ?_, fun c14 => ?_⟩
              · skip
                refine ⟨fun c15 => ?_, fun c15 => ?_⟩
                · skip
                  exact (iv_emp (iv_ne (l := 1) (h := 0) c15 (iv_lit (l := 0) (h := 0) (by decide)) (iv_lit (l := 0) (h := 0) (by decide)) (by decide)) (by decide)).elim
                · skip
                  exact hpost _ (iv_w (iv_lit (l := (-1)) (h := (-1)) (by decide)) (by decide))
              · skip
                refine ⟨fun c16 => ?_, fun c16 => ?_⟩
                · skip
                  refine ⟨fun c17 => ?_, fun c17 => ?_⟩
                  · skip
                    refine ⟨iv_in (iv_lta (l := 0) (h := 8) (r_nle c14) hw5 k_f_huts (by decide)) (by decide), ?_⟩
                    exact hpost _ (iv_w (k_a_ladders _) (by decide))
                  · skip
                    refine ⟨iv_in (iv_lta (l := 0) (h := 8) (r_nle c14) hw5 k_f_huts (by decide)) (by decide), ?_⟩
                    exact hpost _ (iv_w (k_a_heights _) (by decide))
                · skip
                  exact (iv_emp (iv_eqa (l := 1) (h := 0) c16 (iv_lit (l := 1) (h := 1) (by decide)) (iv_lit (l := 0) (h := 0) (by decide)) (by decide)) (by decide)).elim
        · skip
          refine ⟨fun c18 => ?_, fun c18 => ?_, fun c18 => ?_, fun c18 => ?_, fun c18 => ?_, fun c18 => ?_, fun c18 => ?_, fun c18 => ?_⟩
          · skip
            exact hpost _ (iv_w (iv_lit (l := (-1)) (h := (-1)) (by decide)) (by decide))
          · skip
            exact hpost _ (iv_w k_f_huts (by decide))
          · skip
            exact hpost _ (iv_w k_f_singers (by decide))
          · skip
            exact hpost _ (iv_w k_f_villages (by decide))
          · skip
            exact hpost _ (iv_w k_f_dams (by decide))
          · skip
            exact hpost _ (iv_w k_f_echoes (by decide))
          · skip
            exact hpost _ (iv_w k_f_deep (by decide))
          · skip
            exact hpost _ (iv_w k_f_slide (by decide))
      · skip
        intro w19 ew19
        have hw19 := iv_eq ew19 (iv_div (l := 0) (h := 8) (iv_sub (l := 0) (h := 80) (iv_leb (l := 60) (h := 140) (r_nlt c3) (iv_lit (l := 60) (h := 60) (by decide)) (iv_lta (l := 0) (h := 140) (r_lt c2) (iv_leb (l := 0) (h := 2147483647) (r_nlt c1) (iv_lit (l := 0) (h := 0) (by decide)) (iv_top x1) (by decide)) (iv_lit (l := 141) (h := 141) (by decide)) (by decide)) (by decide)) (iv_lit (l := 60) (h := 60) (by decide)) (by decide)) (iv_lit (l := 9) (h := 9) (by decide)) (by decide))
        intro w20 ew20
        have hw20 := iv_eq ew20 (iv_rem (l := 0) (h := 8) (iv_sub (l := 0) (h := 80) (iv_leb (l := 60) (h := 140) (r_nlt c3) (iv_lit (l := 60) (h := 60) (by decide)) (iv_lta (l := 0) (h := 140) (r_lt c2) (iv_leb (l := 0) (h := 2147483647) (r_nlt c1) (iv_lit (l := 0) (h := 0) (by decide)) (iv_top x1) (by decide)) (iv_lit (l := 141) (h := 141) (by decide)) (by decide)) (by decide)) (iv_lit (l := 60) (h := 60) (by decide)) (by decide)) (iv_lit (l := 9) (h := 9) (by decide)) (by decide))
        refine ⟨fun c21 => ?_, fun c21 => ?_⟩
        · skip
          exact (iv_emp (iv_lta (l := 0) (h := (-1)) (r_lt c21) hw19 (iv_lit (l := 0) (h := 0) (by decide)) (by decide)) (by decide)).elim
        · skip
          refine ⟨fun c22 => ?_, fun c22 => ?_⟩
          · skip
            refine ⟨fun c23 => ?_, fun c23 => ?_⟩
            · skip
              exact hpost _ (iv_w (iv_lit (l := (-1)) (h := (-1)) (by decide)) (by decide))
            · skip
              exact (iv_emp (iv_ne (l := 1) (h := 0) c23 (iv_lit (l := 0) (h := 0) (by decide)) (iv_lit (l := 0) (h := 0) (by decide)) (by decide)) (by decide)).elim
          · skip
            refine ⟨fun c24 => ?_, fun c24 => ?_⟩
            · skip
              exact (iv_emp (iv_eqa (l := 1) (h := 0) c24 (iv_lit (l := 1) (h := 1) (by decide)) (iv_lit (l := 0) (h := 0) (by decide)) (by decide)) (by decide)).elim
            · skip
              refine ⟨fun c25 => ?_, fun c25 => ?_⟩
              · skip
                exact (iv_emp (iv_lta (l := 0) (h := (-1)) (r_lt c25) hw20 (iv_lit (l := 0) (h := 0) (by decide)) (by decide)) (by decide)).elim
              · skip
                refine ⟨fun c26 => ?_, fun c26 => ?_⟩
                · skip
                  refine ⟨fun c27 => ?_, fun c27 => ?_⟩
                  · skip
                    exact hpost _ (iv_w (iv_lit (l := (-1)) (h := (-1)) (by decide)) (by decide))
                  · skip
                    exact (iv_emp (iv_ne (l := 1) (h := 0) c27 (iv_lit (l := 0) (h := 0) (by decide)) (iv_lit (l := 0) (h := 0) (by decide)) (by decide)) (by decide)).elim
                · skip
                  refine ⟨fun c28 => ?_, fun c28 => ?_⟩
                  · skip
                    exact (iv_emp (iv_eqa (l := 1) (h := 0) c28 (iv_lit (l := 1) (h := 1) (by decide)) (iv_lit (l := 0) (h := 0) (by decide)) (by decide)) (by decide)).elim
                  · skip
                    refine ⟨iv_in (iv_add (l := 0) (h := 80) (iv_mul (l := 0) (h := 72) hw19 (iv_lit (l := 9) (h := 9) (by decide)) (by decide)) hw20 (by decide)) (by decide), ?_⟩
                    exact hpost _ (iv_w (k_a_minutes _) (by decide))
    · skip
      exact hpost _ (iv_w (iv_lit (l := (-1)) (h := (-1)) (by decide)) (by decide))
-- ws_X6_staysWithin
set_option maxRecDepth 20000 in
theorem s_ws_X6_staysWithin_2 {f_facts : Int32} {a_huts : Nat → Int32} {x1 : Int32} {x2 : Int32} {post : Int32 → Prop} (k_f_facts : iv 0 10 f_facts) (k_a_huts : ∀ j, iv 0 8 (a_huts j)) (hx1 : iv 0 9 x1) (hx2 : iv 0 10 x2) (hpost : ∀ (r : Int32), iv 0 1 r → post r) : q_ws_X6_staysWithin_2 f_facts a_huts x1 x2 post := by
  intro P hP
  have loop : ∀ (n : Nat) (x2 : Int32), (10 - x2.toInt < (n : Int)) → (iv 0 10 x2) → P x2 := by
    intro n
    induction n with
    | zero => intro x2 hm hx2; exact (ms0_up hm hx2).elim
    | succ n ih =>
      intro x2 hm hx2
      apply hP
      refine ⟨fun c1 => ?_, fun c1 => ?_⟩
      · skip
        exact hpost _ (iv_w (iv_lit (l := 1) (h := 1) (by decide)) (by decide))
      · skip
        refine ⟨iv_in (iv_lta (l := 0) (h := 9) (r_nle c1) hx2 k_f_facts (by decide)) (by decide), ?_⟩
        refine ⟨fun c2 => ?_, fun c2 => ?_⟩
        · skip
          intro w3 ew3
          have hw3 := iv_eq ew3 (iv_add (l := 1) (h := 10) (iv_lta (l := 0) (h := 9) (r_nle c1) hx2 k_f_facts (by decide)) (iv_lit (l := 1) (h := 1) (by decide)) (by decide))
          exact ih _ (ms_up hm (inc_lt ew3 (iv_lta (l := 0) (h := 9) (r_nle c1) hx2 k_f_facts (by decide)) (by decide))) (iv_w hw3 (by decide))
        · skip
          exact hpost _ (iv_w (iv_lit (l := 0) (h := 0) (by decide)) (by decide))
  exact loop _ _ (ms_init_up _ _) hx2
set_option maxRecDepth 20000 in
theorem s_ws_X6_staysWithin_0 {f_facts : Int32} {a_huts : Nat → Int32} {x1 : Int32} {post : Int32 → Prop} (k_f_facts : iv 0 10 f_facts) (k_a_huts : ∀ j, iv 0 8 (a_huts j)) (hx1 : iv 0 9 x1) (hpost : ∀ (r : Int32), iv 0 1 r → post r) : q_ws_X6_staysWithin_0 f_facts a_huts x1 post := by
  exact s_ws_X6_staysWithin_2 k_f_facts k_a_huts hx1 (iv_w (iv_lit (l := 0) (h := 0) (by decide)) (by decide)) hpost
-- wc_X0_longestFall
set_option maxRecDepth 20000 in
theorem s_wc_X0_longestFall_42 {P6 : Int32 → Int32 → Int32 → Prop} {f_voices : Int32} {a_heights : Nat → Int32} {x1 : Int32} {x3 : Int32} {y0 : Int32} {post : Int32 → Prop} (k_f_voices : iv 1 9 f_voices) (k_a_heights : ∀ j, iv 0 9 (a_heights j)) (hx1 : iv 0 2147483647 x1) (hx3 : iv 0 8 x3) (m6 : Int) (hm6 : m6 ≤ x3.toInt) (hP6 : ∀ (x1 : Int32) (x2 : Int32) (x3 : Int32), m6 < x3.toInt → iv 0 2147483647 x1 → iv 0 9 x3 → P6 x1 x2 x3) (hpost : ∀ (r : Int32), iv 0 2147483647 r → post r) : q_wc_X0_longestFall_42 P6 f_voices a_heights x1 x3 y0 post := by
  intro w1 ew1
  have hw1 := iv_eq ew1 (iv_max (l := 0) (h := 2147483647) hx1 (iv_top y0) (by decide))
  intro w2 ew2
  have hw2 := iv_eq ew2 (iv_add (l := 1) (h := 9) hx3 (iv_lit (l := 1) (h := 1) (by decide)) (by decide))
  exact hP6 _ _ _ (ml_up hm6 (inc_lt ew2 hx3 (by decide))) hw1 (iv_w hw2 (by decide))
set_option maxRecDepth 20000 in
theorem s_wc_X0_longestFall_41 {P6 : Int32 → Int32 → Int32 → Prop} {f_voices : Int32} {a_heights : Nat → Int32} {x1 : Int32} {x3 : Int32} {post : Int32 → Prop} (k_f_voices : iv 1 9 f_voices) (k_a_heights : ∀ j, iv 0 9 (a_heights j)) (hx1 : iv 0 2147483647 x1) (hx3 : iv 0 8 x3) (m6 : Int) (hm6 : m6 ≤ x3.toInt) (hP6 : ∀ (x1 : Int32) (x2 : Int32) (x3 : Int32), m6 < x3.toInt → iv 0 2147483647 x1 → iv 0 9 x3 → P6 x1 x2 x3) (hpost : ∀ (r : Int32), iv 0 2147483647 r → post r) : q_wc_X0_longestFall_41 P6 f_voices a_heights x1 x3 post := by
  exact s_wc_X0_longestFall_42 k_f_voices k_a_heights hx1 hx3 m6 hm6 hP6 hpost
set_option maxRecDepth 20000 in
theorem s_wc_X0_longestFall_6 {f_voices : Int32} {a_heights : Nat → Int32} {x1 : Int32} {x2 : Int32} {x3 : Int32} {post : Int32 → Prop} (k_f_voices : iv 0 9 f_voices) (k_a_heights : ∀ j, iv 0 9 (a_heights j)) (hx1 : iv 0 2147483647 x1) (hx3 : iv 0 9 x3) (hpost : ∀ (r : Int32), iv 0 2147483647 r → post r) : q_wc_X0_longestFall_6 f_voices a_heights x1 x2 x3 post := by
  intro P hP
  have loop : ∀ (n : Nat) (x1 : Int32) (x2 : Int32) (x3 : Int32), (9 - x3.toInt < (n : Int)) → (iv 0 2147483647 x1) → (iv 0 9 x3) → P x1 x2 x3 := by
    intro n
    induction n with
    | zero => intro x1 x2 x3 hm hx1 hx3; exact (ms0_up hm hx3).elim
    | succ n ih =>
      intro x1 x2 x3 hm hx1 hx3
      apply hP
      refine ⟨fun c1 => ?_, fun c1 => ?_⟩
      · skip
        exact hpost _ hx1
      · skip
        refine ⟨fun c2 => ?_, fun c2 => ?_⟩
        · skip
          exact s_wc_X0_longestFall_41 (iv_ltb (l := 1) (h := 9) (r_nle c1) hx3 k_f_voices (by decide)) k_a_heights hx1 (iv_w (iv_lea (l := 0) (h := 0) (r_le c2) (iv_lta (l := 0) (h := 8) (r_nle c1) hx3 k_f_voices (by decide)) (iv_lit (l := 0) (h := 0) (by decide)) (by decide)) (by decide)) x3.toInt (Int.le_refl _) (fun u0 u1 u2 hq g0 g1 => ih u0 u1 u2 (ms_up hm hq) g0 g1) hpost
        · skip
          refine ⟨iv_in (iv_ltb (l := 1) (h := 8) (r_nle c2) (iv_lit (l := 0) (h := 0) (by decide)) (iv_lta (l := 0) (h := 8) (r_nle c1) hx3 k_f_voices (by decide)) (by decide)) (by decide), ?_⟩
          refine ⟨iv_in (iv_sub (l := 0) (h := 7) (iv_ltb (l := 1) (h := 8) (r_nle c2) (iv_lit (l := 0) (h := 0) (by decide)) (iv_lta (l := 0) (h := 8) (r_nle c1) hx3 k_f_voices (by decide)) (by decide)) (iv_lit (l := 1) (h := 1) (by decide)) (by decide)) (by decide), ?_⟩
          refine ⟨fun c3 => ?_, fun c3 => ?_⟩
          · skip
            exact s_wc_X0_longestFall_41 (iv_ltb (l := 1) (h := 9) (r_nle c1) hx3 k_f_voices (by decide)) k_a_heights hx1 (iv_w (iv_ltb (l := 1) (h := 8) (r_nle c2) (iv_lit (l := 0) (h := 0) (by decide)) (iv_lta (l := 0) (h := 8) (r_nle c1) hx3 k_f_voices (by decide)) (by decide)) (by decide)) x3.toInt (Int.le_refl _) (fun u0 u1 u2 hq g0 g1 => ih u0 u1 u2 (ms_up hm hq) g0 g1) hpost
          · skip
            exact s_wc_X0_longestFall_42 (iv_ltb (l := 1) (h := 9) (r_nle c1) hx3 k_f_voices (by decide)) k_a_heights hx1 (iv_w (iv_ltb (l := 1) (h := 8) (r_nle c2) (iv_lit (l := 0) (h := 0) (by decide)) (iv_lta (l := 0) (h := 8) (r_nle c1) hx3 k_f_voices (by decide)) (by decide)) (by decide)) x3.toInt (Int.le_refl _) (fun u0 u1 u2 hq g0 g1 => ih u0 u1 u2 (ms_up hm hq) g0 g1) hpost
  exact loop _ _ _ _ (ms_init_up _ _) hx1 hx3
set_option maxRecDepth 20000 in
theorem s_wc_X0_longestFall_0 {f_voices : Int32} {a_heights : Nat → Int32} {post : Int32 → Prop} (k_f_voices : iv 0 9 f_voices) (k_a_heights : ∀ j, iv 0 9 (a_heights j)) (hpost : ∀ (r : Int32), iv 0 2147483647 r → post r) : q_wc_X0_longestFall_0 f_voices a_heights post := by
  exact s_wc_X0_longestFall_6 k_f_voices k_a_heights (iv_w (iv_lit (l := 0) (h := 0) (by decide)) (by decide)) (iv_w (iv_lit (l := 0) (h := 0) (by decide)) (by decide)) hpost
-- wc_X0_look
set_option maxRecDepth 20000 in
theorem s_wc_X0_look_56 {f_voices : Int32} {f_step : Int32} {a_parts : Nat → Int32} {a_heights : Nat → Int32} {x1 : Int32} {post : Int32 → Prop} (k_f_voices : iv 0 9 f_voices) (k_f_step : iv 0 9 f_step) (k_a_parts : ∀ j, iv 0 3 (a_parts j)) (k_a_heights : ∀ j, iv 0 9 (a_heights j)) (hpost : ∀ (r : Int32), iv (-1) 2147483647 r → post r) : q_wc_X0_look_56 f_voices f_step a_parts a_heights x1 post := by
  refine ⟨fun c1 => ?_, fun c1 => ?_⟩
  · skip
    exact hpost _ (iv_w (iv_lit (l := (-1)) (h := (-1)) (by decide)) (by decide))
  · skip
    refine ⟨fun c2 => ?_, fun c2 => ?_⟩
    · skip
      exact hpost _ (iv_w (iv_lit (l := (-1)) (h := (-1)) (by decide)) (by decide))
    · skip
      refine ⟨iv_in (iv_sub (l := 0) (h := 8) (iv_lta (l := 20) (h := 28) (r_nle c2) (iv_leb (l := 20) (h := 2147483647) (r_nlt c1) (iv_lit (l := 20) (h := 20) (by decide)) (iv_top x1) (by decide)) (iv_add (l := 20) (h := 29) (iv_lit (l := 20) (h := 20) (by decide)) k_f_voices (by decide)) (by decide)) (iv_lit (l := 20) (h := 20) (by decide)) (by decide)) (by decide), ?_⟩
      exact hpost _ (iv_w (k_a_heights _) (by decide))
set_option maxRecDepth 20000 in
theorem s_wc_X0_look_0 {f_voices : Int32} {f_step : Int32} {a_parts : Nat → Int32} {a_heights : Nat → Int32} {x1 : Int32} {post : Int32 → Prop} (k_f_voices : iv 0 9 f_voices) (k_f_step : iv 0 9 f_step) (k_a_parts : ∀ j, iv 0 3 (a_parts j)) (k_a_heights : ∀ j, iv 0 9 (a_heights j)) (hpost : ∀ (r : Int32), iv (-1) 2147483647 r → post r) : q_wc_X0_look_0 f_voices f_step a_parts a_heights x1 post := by
  refine ⟨fun c1 => ?_, fun c1 => ?_⟩
  · skip
    refine ⟨fun c2 => ?_, fun c2 => ?_⟩
    · skip
      refine ⟨fun c3 => ?_, fun c3 => ?_⟩
      · skip
        refine ⟨fun c4 => ?_, fun c4 => ?_⟩
        · skip
          exact s_wc_X0_look_56 k_f_voices k_f_step k_a_parts k_a_heights hpost
        · skip
          refine ⟨fun c5 => ?_, fun c5 => ?_⟩
          · skip
            exact s_wc_X0_look_56 k_f_voices k_f_step k_a_parts k_a_heights hpost
          · skip
            refine ⟨iv_in (iv_sub (l := 0) (h := 8) (iv_lta (l := 10) (h := 18) (r_nle c5) (iv_leb (l := 10) (h := 2147483647) (r_nlt c4) (iv_lit (l := 10) (h := 10) (by decide)) (iv_top x1) (by decide)) (iv_add (l := 10) (h := 19) (iv_lit (l := 10) (h := 10) (by decide)) k_f_voices (by decide)) (by decide)) (iv_lit (l := 10) (h := 10) (by decide)) (by decide)) (by decide), ?_⟩
            exact hpost _ (iv_w (k_a_parts _) (by decide))
      · skip
        refine s_wc_X0_longestFall_0 k_f_voices k_a_heights (fun r6 hr6 => ?_)
        exact hpost _ (iv_w hr6 (by decide))
    · skip
      exact hpost _ (iv_w k_f_step (by decide))
  · skip
    exact hpost _ (iv_w k_f_voices (by decide))
-- wll_X2_copyFrom_9
set_option maxRecDepth 20000 in
theorem s_wll_X2_copyFrom_9_0 {f_huts : Int32} {f_singers : Int32} {f_villages : Int32} {f_dams : Int32} {f_echoes : Int32} {f_deep : Int32} {f_slide : Int32} {a_heights : Nat → Int32} {a_ladders : Nat → Int32} {a_minutes : Nat → Int32} {a_echoFrom : Nat → Int32} {a_echoTo : Nat → Int32} {a_homes : Nat → Int32} {a_talls : Nat → Int32} {a_known : Nat → Int32} {of_huts : Int32} {of_singers : Int32} {of_villages : Int32} {of_dams : Int32} {of_echoes : Int32} {of_deep : Int32} {of_slide : Int32} {oa_heights : Nat → Int32} {oa_ladders : Nat → Int32} {oa_minutes : Nat → Int32} {oa_echoFrom : Nat → Int32} {oa_echoTo : Nat → Int32} {oa_homes : Nat → Int32} {oa_talls : Nat → Int32} {oa_known : Nat → Int32} {post : (Int32) → (Int32) → (Int32) → (Int32) → (Int32) → (Int32) → (Int32) → (Nat → Int32) → (Nat → Int32) → (Nat → Int32) → (Nat → Int32) → (Nat → Int32) → (Nat → Int32) → (Nat → Int32) → (Nat → Int32) → Prop} (k_f_huts : iv 0 9 f_huts) (k_f_singers : iv 0 6 f_singers) (k_f_villages : iv 0 511 f_villages) (k_f_dams : iv 0 511 f_dams) (k_f_echoes : iv 0 4 f_echoes) (k_f_deep : iv 1 9 f_deep) (k_f_slide : iv 0 10 f_slide) (k_a_heights : ∀ j, iv 0 99 (a_heights j)) (k_a_ladders : ∀ j, iv 0 9 (a_ladders j)) (k_a_minutes : ∀ j, iv 0 9 (a_minutes j)) (k_a_echoFrom : ∀ j, iv 0 8 (a_echoFrom j)) (k_a_echoTo : ∀ j, iv 0 8 (a_echoTo j)) (k_a_homes : ∀ j, iv 0 8 (a_homes j)) (k_a_talls : ∀ j, iv 0 9 (a_talls j)) (k_a_known : ∀ j, iv 0 31 (a_known j)) (k_of_huts : iv 0 9 of_huts) (k_of_singers : iv 0 6 of_singers) (k_of_villages : iv 0 511 of_villages) (k_of_dams : iv 0 511 of_dams) (k_of_echoes : iv 0 4 of_echoes) (k_of_deep : iv 1 9 of_deep) (k_of_slide : iv 0 10 of_slide) (k_oa_heights : ∀ j, iv 0 99 (oa_heights j)) (k_oa_ladders : ∀ j, iv 0 9 (oa_ladders j)) (k_oa_minutes : ∀ j, iv 0 9 (oa_minutes j)) (k_oa_echoFrom : ∀ j, iv 0 8 (oa_echoFrom j)) (k_oa_echoTo : ∀ j, iv 0 8 (oa_echoTo j)) (k_oa_homes : ∀ j, iv 0 8 (oa_homes j)) (k_oa_talls : ∀ j, iv 0 9 (oa_talls j)) (k_oa_known : ∀ j, iv 0 31 (oa_known j)) (hpost : ∀ (f_huts : Int32) (f_singers : Int32) (f_villages : Int32) (f_dams : Int32) (f_echoes : Int32) (f_deep : Int32) (f_slide : Int32) (a_heights : Nat → Int32) (a_ladders : Nat → Int32) (a_minutes : Nat → Int32) (a_echoFrom : Nat → Int32) (a_echoTo : Nat → Int32) (a_homes : Nat → Int32) (a_talls : Nat → Int32) (a_known : Nat → Int32), (iv 0 9 f_huts) → (iv 0 6 f_singers) → (iv 0 511 f_villages) → (iv 0 511 f_dams) → (iv 0 4 f_echoes) → (iv 1 9 f_deep) → (iv 0 10 f_slide) → (∀ j, iv 0 99 (a_heights j)) → (∀ j, iv 0 9 (a_ladders j)) → (∀ j, iv 0 9 (a_minutes j)) → (∀ j, iv 0 8 (a_echoFrom j)) → (∀ j, iv 0 8 (a_echoTo j)) → (∀ j, iv 0 8 (a_homes j)) → (∀ j, iv 0 9 (a_talls j)) → (∀ j, iv 0 31 (a_known j)) → post f_huts f_singers f_villages f_dams f_echoes f_deep f_slide a_heights a_ladders a_minutes a_echoFrom a_echoTo a_homes a_talls a_known) : q_wll_X2_copyFrom_9_0 f_huts f_singers f_villages f_dams f_echoes f_deep f_slide a_heights a_ladders a_minutes a_echoFrom a_echoTo a_homes a_talls a_known of_huts of_singers of_villages of_dams of_echoes of_deep of_slide oa_heights oa_ladders oa_minutes oa_echoFrom oa_echoTo oa_homes oa_talls oa_known post := by
  intro a1 ea1
  have k_a1 := iv_cpy ea1 k_oa_heights k_a_heights
  intro a2 ea2
  have k_a2 := iv_cpy ea2 k_oa_ladders k_a_ladders
  intro a3 ea3
  have k_a3 := iv_cpy ea3 k_oa_minutes k_a_minutes
  intro a4 ea4
  have k_a4 := iv_cpy ea4 k_oa_echoFrom k_a_echoFrom
  intro a5 ea5
  have k_a5 := iv_cpy ea5 k_oa_echoTo k_a_echoTo
  intro a6 ea6
  have k_a6 := iv_cpy ea6 k_oa_homes k_a_homes
  intro a7 ea7
  have k_a7 := iv_cpy ea7 k_oa_talls k_a_talls
  intro a8 ea8
  have k_a8 := iv_cpy ea8 k_oa_known k_a_known
  exact hpost _ _ _ _ _ _ _ _ _ _ _ _ _ _ _ k_of_huts k_of_singers k_of_villages k_of_dams k_of_echoes k_of_deep k_of_slide k_a1 k_a2 k_a3 k_a4 k_a5 k_a6 k_a7 k_a8
-- wvv_X1_copyFrom_4
set_option maxRecDepth 20000 in
theorem s_wvv_X1_copyFrom_4_0 {f_deeds : Int32} {a_kinds : Nat → Int32} {a_firsts : Nat → Int32} {a_seconds : Nat → Int32} {of_deeds : Int32} {oa_kinds : Nat → Int32} {oa_firsts : Nat → Int32} {oa_seconds : Nat → Int32} {post : (Int32) → (Nat → Int32) → (Nat → Int32) → (Nat → Int32) → Prop} (k_f_deeds : iv 0 40 f_deeds) (k_a_kinds : ∀ j, iv 0 5 (a_kinds j)) (k_a_firsts : ∀ j, iv 0 5 (a_firsts j)) (k_a_seconds : ∀ j, iv (-1) 8 (a_seconds j)) (k_of_deeds : iv 0 40 of_deeds) (k_oa_kinds : ∀ j, iv 0 5 (oa_kinds j)) (k_oa_firsts : ∀ j, iv 0 5 (oa_firsts j)) (k_oa_seconds : ∀ j, iv (-1) 8 (oa_seconds j)) (hpost : ∀ (f_deeds : Int32) (a_kinds : Nat → Int32) (a_firsts : Nat → Int32) (a_seconds : Nat → Int32), (iv 0 40 f_deeds) → (∀ j, iv 0 5 (a_kinds j)) → (∀ j, iv 0 5 (a_firsts j)) → (∀ j, iv (-1) 8 (a_seconds j)) → post f_deeds a_kinds a_firsts a_seconds) : q_wvv_X1_copyFrom_4_0 f_deeds a_kinds a_firsts a_seconds of_deeds oa_kinds oa_firsts oa_seconds post := by
  refine ⟨iv_nn k_of_deeds (by decide), ?_⟩
  refine ⟨iv_len (iv_lit (l := 0) (h := 0) (by decide)) k_of_deeds (by decide), ?_⟩
  refine ⟨iv_len (iv_lit (l := 0) (h := 0) (by decide)) k_of_deeds (by decide), ?_⟩
  intro a1 ea1
  have k_a1 := iv_cpy ea1 k_oa_kinds k_a_kinds
  refine ⟨iv_nn k_of_deeds (by decide), ?_⟩
  refine ⟨iv_len (iv_lit (l := 0) (h := 0) (by decide)) k_of_deeds (by decide), ?_⟩
  refine ⟨iv_len (iv_lit (l := 0) (h := 0) (by decide)) k_of_deeds (by decide), ?_⟩
  intro a2 ea2
  have k_a2 := iv_cpy ea2 k_oa_firsts k_a_firsts
  refine ⟨iv_nn k_of_deeds (by decide), ?_⟩
  refine ⟨iv_len (iv_lit (l := 0) (h := 0) (by decide)) k_of_deeds (by decide), ?_⟩
  refine ⟨iv_len (iv_lit (l := 0) (h := 0) (by decide)) k_of_deeds (by decide), ?_⟩
  intro a3 ea3
  have k_a3 := iv_cpy ea3 k_oa_seconds k_a_seconds
  exact hpost _ _ _ _ k_of_deeds k_a1 k_a2 k_a3
end
section
-- wss_X6_copyFrom_4
set_option maxRecDepth 20000 in
theorem s_wss_X6_copyFrom_4_0 {f_facts : Int32} {a_heard : Nat → Int32} {a_huts : Nat → Int32} {a_minutes : Nat → Int32} {of_facts : Int32} {oa_heard : Nat → Int32} {oa_huts : Nat → Int32} {oa_minutes : Nat → Int32} {post : (Int32) → (Nat → Int32) → (Nat → Int32) → (Nat → Int32) → Prop} (k_f_facts : iv 0 10 f_facts) (k_a_heard : ∀ j, iv 0 1 (a_heard j)) (k_a_huts : ∀ j, iv 0 8 (a_huts j)) (k_a_minutes : ∀ j, iv 0 60 (a_minutes j)) (k_of_facts : iv 0 10 of_facts) (k_oa_heard : ∀ j, iv 0 1 (oa_heard j)) (k_oa_huts : ∀ j, iv 0 8 (oa_huts j)) (k_oa_minutes : ∀ j, iv 0 60 (oa_minutes j)) (hpost : ∀ (f_facts : Int32) (a_heard : Nat → Int32) (a_huts : Nat → Int32) (a_minutes : Nat → Int32), (iv 0 10 f_facts) → (∀ j, iv 0 1 (a_heard j)) → (∀ j, iv 0 8 (a_huts j)) → (∀ j, iv 0 60 (a_minutes j)) → post f_facts a_heard a_huts a_minutes) : q_wss_X6_copyFrom_4_0 f_facts a_heard a_huts a_minutes of_facts oa_heard oa_huts oa_minutes post := by
  refine ⟨iv_nn k_of_facts (by decide), ?_⟩
  refine ⟨iv_len (iv_lit (l := 0) (h := 0) (by decide)) k_of_facts (by decide), ?_⟩
  refine ⟨iv_len (iv_lit (l := 0) (h := 0) (by decide)) k_of_facts (by decide), ?_⟩
  intro a1 ea1
  have k_a1 := iv_cpy ea1 k_oa_heard k_a_heard
  refine ⟨iv_nn k_of_facts (by decide), ?_⟩
  refine ⟨iv_len (iv_lit (l := 0) (h := 0) (by decide)) k_of_facts (by decide), ?_⟩
  refine ⟨iv_len (iv_lit (l := 0) (h := 0) (by decide)) k_of_facts (by decide), ?_⟩
  intro a2 ea2
  have k_a2 := iv_cpy ea2 k_oa_huts k_a_huts
  refine ⟨iv_nn k_of_facts (by decide), ?_⟩
  refine ⟨iv_len (iv_lit (l := 0) (h := 0) (by decide)) k_of_facts (by decide), ?_⟩
  refine ⟨iv_len (iv_lit (l := 0) (h := 0) (by decide)) k_of_facts (by decide), ?_⟩
  intro a3 ea3
  have k_a3 := iv_cpy ea3 k_oa_minutes k_a_minutes
  exact hpost _ _ _ _ k_of_facts k_a1 k_a2 k_a3
-- wn_J7_fill_53178_3
set_option maxRecDepth 20000 in
theorem s_wn_J7_fill_53178_3_5 {a_levels : Nat → Int32} {x1 : Int32} {x2 : Int32} {x3 : Int32} {post : (Nat → Int32) → Prop} (k_a_levels : ∀ j, iv (-9) 122 (a_levels j)) (hx1 : iv (-1) (-1) x1) (hx2 : iv 0 5 x2) (hx3 : iv 5 5 x3) (hpost : ∀ (a_levels : Nat → Int32), (∀ j, iv (-9) 122 (a_levels j)) → post a_levels) : q_wn_J7_fill_53178_3_5 a_levels x1 x2 x3 post := by
  intro P hP
  have loop : ∀ (n : Nat) (x2 : Int32) (a_levels : Nat → Int32), (5 - x2.toInt < (n : Int)) → (iv 0 5 x2) → (∀ j, iv (-9) 122 (a_levels j)) → P x2 a_levels := by
    intro n
    induction n with
    | zero => intro x2 a_levels hm hx2 k_a_levels; exact (ms0_up hm hx2).elim
    | succ n ih =>
      intro x2 a_levels hm hx2 k_a_levels
      apply hP
      refine ⟨fun c1 => ?_, fun c1 => ?_⟩
      · skip
        exact hpost _ k_a_levels
      · skip
        refine ⟨iv_in (iv_lta (l := 0) (h := 4) (r_nle c1) hx2 hx3 (by decide)) (by decide), ?_⟩
        intro a2 ea2
        have k_a2 := iv_upd ea2 k_a_levels (iv_w hx1 (by decide))
        intro w3 ew3
        have hw3 := iv_eq ew3 (iv_add (l := 1) (h := 5) (iv_lta (l := 0) (h := 4) (r_nle c1) hx2 hx3 (by decide)) (iv_lit (l := 1) (h := 1) (by decide)) (by decide))
        exact ih _ _ (ms_up hm (inc_lt ew3 (iv_lta (l := 0) (h := 4) (r_nle c1) hx2 hx3 (by decide)) (by decide))) (iv_w hw3 (by decide)) k_a2
  exact loop _ _ _ (ms_init_up _ _) hx2 k_a_levels
set_option maxRecDepth 20000 in
theorem s_wn_J7_fill_53178_3_0 {a_levels : Nat → Int32} {x1 : Int32} {post : (Nat → Int32) → Prop} (k_a_levels : ∀ j, iv (-9) 122 (a_levels j)) (hx1 : iv (-1) (-1) x1) (hpost : ∀ (a_levels : Nat → Int32), (∀ j, iv (-9) 122 (a_levels j)) → post a_levels) : q_wn_J7_fill_53178_3_0 a_levels x1 post := by
  exact s_wn_J7_fill_53178_3_5 k_a_levels hx1 (iv_w (iv_lit (l := 0) (h := 0) (by decide)) (by decide)) (iv_lit (l := 5) (h := 5) (by decide)) hpost
-- wn_J7_fill_53178_4
set_option maxRecDepth 20000 in
theorem s_wn_J7_fill_53178_4_5 {a_snow : Nat → Int32} {x1 : Int32} {x2 : Int32} {x3 : Int32} {post : (Nat → Int32) → Prop} (hx1 : iv 0 0 x1) (hx2 : iv 0 9 x2) (hx3 : iv 9 9 x3) (hpost : ∀ (a_snow : Nat → Int32), post a_snow) : q_wn_J7_fill_53178_4_5 a_snow x1 x2 x3 post := by
  intro P hP
  have loop : ∀ (n : Nat) (x2 : Int32) (a_snow : Nat → Int32), (9 - x2.toInt < (n : Int)) → (iv 0 9 x2) → P x2 a_snow := by
    intro n
    induction n with
    | zero => intro x2 a_snow hm hx2; exact (ms0_up hm hx2).elim
    | succ n ih =>
      intro x2 a_snow hm hx2
      apply hP
      refine ⟨fun c1 => ?_, fun c1 => ?_⟩
      · skip
        exact hpost _
      · skip
        refine ⟨iv_in (iv_lta (l := 0) (h := 8) (r_nle c1) hx2 hx3 (by decide)) (by decide), ?_⟩
        intro a2 ea2
        intro w3 ew3
        have hw3 := iv_eq ew3 (iv_add (l := 1) (h := 9) (iv_lta (l := 0) (h := 8) (r_nle c1) hx2 hx3 (by decide)) (iv_lit (l := 1) (h := 1) (by decide)) (by decide))
        exact ih _ _ (ms_up hm (inc_lt ew3 (iv_lta (l := 0) (h := 8) (r_nle c1) hx2 hx3 (by decide)) (by decide))) (iv_w hw3 (by decide))
  exact loop _ _ _ (ms_init_up _ _) hx2
set_option maxRecDepth 20000 in
theorem s_wn_J7_fill_53178_4_0 {a_snow : Nat → Int32} {x1 : Int32} {post : (Nat → Int32) → Prop} (hx1 : iv 0 0 x1) (hpost : ∀ (a_snow : Nat → Int32), post a_snow) : q_wn_J7_fill_53178_4_0 a_snow x1 post := by
  exact s_wn_J7_fill_53178_4_5 hx1 (iv_w (iv_lit (l := 0) (h := 0) (by decide)) (by decide)) (iv_lit (l := 9) (h := 9) (by decide)) hpost
-- wn_X3_start_6
set_option maxRecDepth 20000 in
theorem s_wn_X3_start_6_0 {f_minute : Int32} {f_avalanches : Int32} {f_begun : Int32} {f_climbed : Int32} {a_huts : Nat → Int32} {a_known : Nat → Int32} {a_levels : Nat → Int32} {a_snow : Nat → Int32} {la_homes : Nat → Int32} {la_known : Nat → Int32} {post : (Int32) → (Int32) → (Int32) → (Int32) → (Nat → Int32) → (Nat → Int32) → (Nat → Int32) → (Nat → Int32) → Prop} (k_f_begun : iv 0 31 f_begun) (k_f_climbed : iv 0 63 f_climbed) (k_a_huts : ∀ j, iv 0 8 (a_huts j)) (k_a_known : ∀ j, iv 0 31 (a_known j)) (k_a_levels : ∀ j, iv (-9) 122 (a_levels j)) (k_la_homes : ∀ j, iv 0 8 (la_homes j)) (k_la_known : ∀ j, iv 0 31 (la_known j)) (hpost : ∀ (f_minute : Int32) (f_avalanches : Int32) (f_begun : Int32) (f_climbed : Int32) (a_huts : Nat → Int32) (a_known : Nat → Int32) (a_levels : Nat → Int32) (a_snow : Nat → Int32), (iv 0 0 f_minute) → (iv 0 0 f_avalanches) → (iv 0 0 f_begun) → (iv 0 0 f_climbed) → (∀ j, iv 0 8 (a_huts j)) → (∀ j, iv 0 31 (a_known j)) → (∀ j, iv (-9) 122 (a_levels j)) → post f_minute f_avalanches f_begun f_climbed a_huts a_known a_levels a_snow) : q_wn_X3_start_6_0 f_minute f_avalanches f_begun f_climbed a_huts a_known a_levels a_snow la_homes la_known post := by
  intro a1 ea1
  have k_a1 := iv_cpy ea1 k_la_homes k_a_huts
  intro a2 ea2
  have k_a2 := iv_cpy ea2 k_la_known k_a_known
  refine s_wn_J7_fill_53178_3_0 k_a_levels (iv_lit (l := (-1)) (h := (-1)) (by decide)) (fun o3 k_o3 => ?_)
  refine s_wn_J7_fill_53178_4_0 (iv_lit (l := 0) (h := 0) (by decide)) (fun o4 => ?_)
  exact hpost _ _ _ _ _ _ _ _ (iv_lit (l := 0) (h := 0) (by decide)) (iv_lit (l := 0) (h := 0) (by decide)) (iv_lit (l := 0) (h := 0) (by decide)) (iv_lit (l := 0) (h := 0) (by decide)) k_a1 k_a2 k_o3
-- wn_X3_singersIn_6
set_option maxRecDepth 20000 in
theorem s_wn_X3_singersIn_6_35 {P5 : Int32 → Int32 → Prop} {a_huts : Nat → Int32} {lf_singers : Int32} {x2 : Int32} {x3 : Int32} {x4 : Int32} {post : Int32 → Prop} (k_a_huts : ∀ j, iv 0 8 (a_huts j)) (k_lf_singers : iv 1 6 lf_singers) (hx2 : iv 0 511 x2) (hx3 : iv 0 63 x3) (hx4 : iv 0 5 x4) (m5 : Int) (hm5 : m5 ≤ x4.toInt) (hP5 : ∀ (x3 : Int32) (x4 : Int32), m5 < x4.toInt → iv 0 63 x3 → iv 0 6 x4 → P5 x3 x4) (hpost : ∀ (r : Int32), iv 0 63 r → post r) : q_wn_X3_singersIn_6_35 P5 a_huts lf_singers x2 x3 x4 post := by
  intro w1 ew1
  have hw1 := iv_eq ew1 (iv_add (l := 1) (h := 6) hx4 (iv_lit (l := 1) (h := 1) (by decide)) (by decide))
  exact hP5 _ _ (ml_up hm5 (inc_lt ew1 hx4 (by decide))) hx3 (iv_w hw1 (by decide))
set_option maxRecDepth 20000 in
theorem s_wn_X3_singersIn_6_5 {a_huts : Nat → Int32} {lf_singers : Int32} {x2 : Int32} {x3 : Int32} {x4 : Int32} {post : Int32 → Prop} (k_a_huts : ∀ j, iv 0 8 (a_huts j)) (k_lf_singers : iv 0 6 lf_singers) (hx2 : iv 0 511 x2) (hx3 : iv 0 63 x3) (hx4 : iv 0 6 x4) (hpost : ∀ (r : Int32), iv 0 63 r → post r) : q_wn_X3_singersIn_6_5 a_huts lf_singers x2 x3 x4 post := by
  intro P hP
  have loop : ∀ (n : Nat) (x3 : Int32) (x4 : Int32), (6 - x4.toInt < (n : Int)) → (iv 0 63 x3) → (iv 0 6 x4) → P x3 x4 := by
    intro n
    induction n with
    | zero => intro x3 x4 hm hx3 hx4; exact (ms0_up hm hx4).elim
    | succ n ih =>
      intro x3 x4 hm hx3 hx4
      apply hP
      refine ⟨fun c1 => ?_, fun c1 => ?_⟩
      · skip
        exact hpost _ hx3
      · skip
        refine ⟨iv_in (iv_lta (l := 0) (h := 5) (r_nle c1) hx4 k_lf_singers (by decide)) (by decide), ?_⟩
        refine ⟨fun c2 => ?_, fun c2 => ?_⟩
        · skip
          refine ⟨fun c3 => ?_, fun c3 => ?_⟩
          · skip
            exact s_wn_X3_singersIn_6_35 k_a_huts (iv_ltb (l := 1) (h := 6) (r_nle c1) hx4 k_lf_singers (by decide)) hx2 hx3 (iv_lta (l := 0) (h := 5) (r_nle c1) hx4 k_lf_singers (by decide)) x4.toInt (Int.le_refl _) (fun u0 u1 hq g0 g1 => ih u0 u1 (ms_up hm hq) g0 g1) hpost
          · skip
            exact (iv_emp (iv_ne (l := 1) (h := 0) c3 (iv_lit (l := 0) (h := 0) (by decide)) (iv_lit (l := 0) (h := 0) (by decide)) (by decide)) (by decide)).elim
        · skip
          refine ⟨fun c4 => ?_, fun c4 => ?_⟩
          · skip
            exact (iv_emp (iv_eqa (l := 1) (h := 0) c4 (iv_lit (l := 1) (h := 1) (by decide)) (iv_lit (l := 0) (h := 0) (by decide)) (by decide)) (by decide)).elim
          · skip
            intro w5 ew5
            have hw5 := iv_eq ew5 (iv_or 6 (l := 0) (h := 63) hx3 (iv_shl1 (l := 1) (h := 32) (iv_lit (l := 1) (h := 1) (by decide)) (iv_lta (l := 0) (h := 5) (r_nle c1) hx4 k_lf_singers (by decide)) (by decide)) (by decide))
            exact s_wn_X3_singersIn_6_35 k_a_huts (iv_ltb (l := 1) (h := 6) (r_nle c1) hx4 k_lf_singers (by decide)) hx2 hw5 (iv_lta (l := 0) (h := 5) (r_nle c1) hx4 k_lf_singers (by decide)) x4.toInt (Int.le_refl _) (fun u0 u1 hq g0 g1 => ih u0 u1 (ms_up hm hq) g0 g1) hpost
  exact loop _ _ _ (ms_init_up _ _) hx3 hx4
set_option maxRecDepth 20000 in
theorem s_wn_X3_singersIn_6_0 {a_huts : Nat → Int32} {lf_singers : Int32} {x2 : Int32} {post : Int32 → Prop} (k_a_huts : ∀ j, iv 0 8 (a_huts j)) (k_lf_singers : iv 0 6 lf_singers) (hx2 : iv 0 511 x2) (hpost : ∀ (r : Int32), iv 0 63 r → post r) : q_wn_X3_singersIn_6_0 a_huts lf_singers x2 post := by
  exact s_wn_X3_singersIn_6_5 k_a_huts k_lf_singers hx2 (iv_w (iv_lit (l := 0) (h := 0) (by decide)) (by decide)) (iv_w (iv_lit (l := 0) (h := 0) (by decide)) (by decide)) hpost
-- wn_X3_raise_6
set_option maxRecDepth 20000 in
theorem s_wn_X3_raise_6_183 {P150 : Int32 → (Nat → Int32) → Prop} {f_avalanches : Int32} {f_begun : Int32} {f_climbed : Int32} {a_huts : Nat → Int32} {a_known : Nat → Int32} {a_levels : Nat → Int32} {a_snow : Nat → Int32} {lf_singers : Int32} {lf_dams : Int32} {lf_echoes : Int32} {la_heights : Nat → Int32} {la_ladders : Nat → Int32} {la_echoFrom : Nat → Int32} {la_echoTo : Nat → Int32} {la_talls : Nat → Int32} {x4 : Int32} {x7 : Int32} {x8 : Int32} {post : Int32 → (Int32) → (Int32) → (Nat → Int32) → (Nat → Int32) → (Nat → Int32) → Prop} (k_f_begun : iv 0 31 f_begun) (k_f_climbed : iv 0 63 f_climbed) (k_a_huts : ∀ j, iv 0 8 (a_huts j)) (k_a_known : ∀ j, iv 0 31 (a_known j)) (k_a_levels : ∀ j, iv (-9) 122 (a_levels j)) (k_lf_singers : iv 1 6 lf_singers) (k_lf_dams : iv 0 511 lf_dams) (k_lf_echoes : iv 0 4 lf_echoes) (k_la_heights : ∀ j, iv 0 99 (la_heights j)) (k_la_ladders : ∀ j, iv 0 9 (la_ladders j)) (k_la_echoFrom : ∀ j, iv 0 8 (la_echoFrom j)) (k_la_echoTo : ∀ j, iv 0 8 (la_echoTo j)) (k_la_talls : ∀ j, iv 0 9 (la_talls j)) (hx4 : iv 0 4 x4) (hx7 : iv 0 63 x7) (hx8 : iv 0 5 x8) (m150 : Int) (hm150 : m150 ≤ x8.toInt) (hP150 : ∀ (x8 : Int32) (a_known : Nat → Int32), m150 < x8.toInt → iv 0 6 x8 → (∀ j, iv 0 31 (a_known j)) → P150 x8 a_known) (hpost : ∀ (r : Int32) (f_avalanches : Int32) (f_begun : Int32) (a_known : Nat → Int32) (a_levels : Nat → Int32) (a_snow : Nat → Int32), iv 0 1 r → (iv 0 31 f_begun) → (∀ j, iv 0 31 (a_known j)) → (∀ j, iv (-9) 122 (a_levels j)) → post r f_avalanches f_begun a_known a_levels a_snow) : q_wn_X3_raise_6_183 P150 f_avalanches f_begun f_climbed a_huts a_known a_levels a_snow lf_singers lf_dams lf_echoes la_heights la_ladders la_echoFrom la_echoTo la_talls x4 x7 x8 post := by
  intro w1 ew1
  have hw1 := iv_eq ew1 (iv_add (l := 1) (h := 6) hx8 (iv_lit (l := 1) (h := 1) (by decide)) (by decide))
  exact hP150 _ _ (ml_up hm150 (inc_lt ew1 hx8 (by decide))) (iv_w hw1 (by decide)) k_a_known
set_option maxRecDepth 20000 in
theorem s_wn_X3_raise_6_150 {f_avalanches : Int32} {f_begun : Int32} {f_climbed : Int32} {a_huts : Nat → Int32} {a_known : Nat → Int32} {a_levels : Nat → Int32} {a_snow : Nat → Int32} {lf_singers : Int32} {lf_dams : Int32} {lf_echoes : Int32} {la_heights : Nat → Int32} {la_ladders : Nat → Int32} {la_echoFrom : Nat → Int32} {la_echoTo : Nat → Int32} {la_talls : Nat → Int32} {x4 : Int32} {x7 : Int32} {x8 : Int32} {post : Int32 → (Int32) → (Int32) → (Nat → Int32) → (Nat → Int32) → (Nat → Int32) → Prop} (k_f_begun : iv 0 31 f_begun) (k_f_climbed : iv 0 63 f_climbed) (k_a_huts : ∀ j, iv 0 8 (a_huts j)) (k_a_known : ∀ j, iv 0 31 (a_known j)) (k_a_levels : ∀ j, iv (-9) 122 (a_levels j)) (k_lf_singers : iv 1 6 lf_singers) (k_lf_dams : iv 0 511 lf_dams) (k_lf_echoes : iv 0 4 lf_echoes) (k_la_heights : ∀ j, iv 0 99 (la_heights j)) (k_la_ladders : ∀ j, iv 0 9 (la_ladders j)) (k_la_echoFrom : ∀ j, iv 0 8 (la_echoFrom j)) (k_la_echoTo : ∀ j, iv 0 8 (la_echoTo j)) (k_la_talls : ∀ j, iv 0 9 (la_talls j)) (hx4 : iv 0 4 x4) (hx7 : iv 0 63 x7) (hx8 : iv 0 6 x8) (hpost : ∀ (r : Int32) (f_avalanches : Int32) (f_begun : Int32) (a_known : Nat → Int32) (a_levels : Nat → Int32) (a_snow : Nat → Int32), iv 0 1 r → (iv 0 31 f_begun) → (∀ j, iv 0 31 (a_known j)) → (∀ j, iv (-9) 122 (a_levels j)) → post r f_avalanches f_begun a_known a_levels a_snow) : q_wn_X3_raise_6_150 f_avalanches f_begun f_climbed a_huts a_known a_levels a_snow lf_singers lf_dams lf_echoes la_heights la_ladders la_echoFrom la_echoTo la_talls x4 x7 x8 post := by
  intro P hP
  have loop : ∀ (n : Nat) (x8 : Int32) (a_known : Nat → Int32), (6 - x8.toInt < (n : Int)) → (iv 0 6 x8) → (∀ j, iv 0 31 (a_known j)) → P x8 a_known := by
    intro n
    induction n with
    | zero => intro x8 a_known hm hx8 k_a_known; exact (ms0_up hm hx8).elim
    | succ n ih =>
      intro x8 a_known hm hx8 k_a_known
      apply hP
      refine ⟨fun c1 => ?_, fun c1 => ?_⟩
      · skip
        exact hpost _ _ _ _ _ _ (iv_w (iv_lit (l := 1) (h := 1) (by decide)) (by decide)) k_f_begun k_a_known k_a_levels
      · skip
        refine ⟨fun c2 => ?_, fun c2 => ?_⟩
        · skip
          refine ⟨fun c3 => ?_, fun c3 => ?_⟩
          · skip
            exact s_wn_X3_raise_6_183 k_f_begun k_f_climbed k_a_huts k_a_known k_a_levels k_lf_singers k_lf_dams k_lf_echoes k_la_heights k_la_ladders k_la_echoFrom k_la_echoTo k_la_talls hx4 hx7 (iv_lta (l := 0) (h := 5) (r_nle c1) hx8 k_lf_singers (by decide)) x8.toInt (Int.le_refl _) (fun u0 u1 hq g0 g1 => ih u0 u1 (ms_up hm hq) g0 g1) hpost
          · skip
            exact (iv_emp (iv_ne (l := 1) (h := 0) c3 (iv_lit (l := 0) (h := 0) (by decide)) (iv_lit (l := 0) (h := 0) (by decide)) (by decide)) (by decide)).elim
        · skip
          refine ⟨fun c4 => ?_, fun c4 => ?_⟩
          · skip
            exact (iv_emp (iv_eqa (l := 1) (h := 0) c4 (iv_lit (l := 1) (h := 1) (by decide)) (iv_lit (l := 0) (h := 0) (by decide)) (by decide)) (by decide)).elim
          · skip
            refine ⟨iv_in (iv_lta (l := 0) (h := 5) (r_nle c1) hx8 k_lf_singers (by decide)) (by decide), ?_⟩
            intro w5 ew5
            have hw5 := iv_eq ew5 (iv_or 5 (l := 0) (h := 31) (k_a_known _) (iv_shl1 (l := 1) (h := 16) (iv_lit (l := 1) (h := 1) (by decide)) hx4 (by decide)) (by decide))
            refine ⟨iv_in (iv_lta (l := 0) (h := 5) (r_nle c1) hx8 k_lf_singers (by decide)) (by decide), ?_⟩
            intro a6 ea6
            have k_a6 := iv_upd ea6 k_a_known hw5
            exact s_wn_X3_raise_6_183 k_f_begun k_f_climbed k_a_huts k_a6 k_a_levels k_lf_singers k_lf_dams k_lf_echoes k_la_heights k_la_ladders k_la_echoFrom k_la_echoTo k_la_talls hx4 hx7 (iv_lta (l := 0) (h := 5) (r_nle c1) hx8 k_lf_singers (by decide)) x8.toInt (Int.le_refl _) (fun u0 u1 hq g0 g1 => ih u0 u1 (ms_up hm hq) g0 g1) hpost
  exact loop _ _ _ (ms_init_up _ _) hx8 k_a_known
set_option maxRecDepth 20000 in
theorem s_wn_X3_raise_6_112 {f_avalanches : Int32} {f_begun : Int32} {f_climbed : Int32} {a_huts : Nat → Int32} {a_known : Nat → Int32} {a_levels : Nat → Int32} {a_snow : Nat → Int32} {lf_singers : Int32} {lf_dams : Int32} {lf_echoes : Int32} {la_heights : Nat → Int32} {la_ladders : Nat → Int32} {la_echoFrom : Nat → Int32} {la_echoTo : Nat → Int32} {la_talls : Nat → Int32} {x4 : Int32} {x5 : Int32} {x6 : Int32} {post : Int32 → (Int32) → (Int32) → (Nat → Int32) → (Nat → Int32) → (Nat → Int32) → Prop} (k_f_begun : iv 0 31 f_begun) (k_f_climbed : iv 0 63 f_climbed) (k_a_huts : ∀ j, iv 0 8 (a_huts j)) (k_a_known : ∀ j, iv 0 31 (a_known j)) (k_a_levels : ∀ j, iv (-9) 122 (a_levels j)) (k_lf_singers : iv 1 6 lf_singers) (k_lf_dams : iv 0 511 lf_dams) (k_lf_echoes : iv 0 4 lf_echoes) (k_la_heights : ∀ j, iv 0 99 (la_heights j)) (k_la_ladders : ∀ j, iv 0 9 (la_ladders j)) (k_la_echoFrom : ∀ j, iv 0 8 (la_echoFrom j)) (k_la_echoTo : ∀ j, iv 0 8 (la_echoTo j)) (k_la_talls : ∀ j, iv 0 9 (la_talls j)) (hx4 : iv 0 4 x4) (hx5 : iv 0 8 x5) (hx6 : iv (-9) 108 x6) (hpost : ∀ (r : Int32) (f_avalanches : Int32) (f_begun : Int32) (a_known : Nat → Int32) (a_levels : Nat → Int32) (a_snow : Nat → Int32), iv 0 1 r → (iv 0 31 f_begun) → (∀ j, iv 0 31 (a_known j)) → (∀ j, iv (-9) 122 (a_levels j)) → post r f_avalanches f_begun a_known a_levels a_snow) : q_wn_X3_raise_6_112 f_avalanches f_begun f_climbed a_huts a_known a_levels a_snow lf_singers lf_dams lf_echoes la_heights la_ladders la_echoFrom la_echoTo la_talls x4 x5 x6 post := by
  intro w1 ew1
  have hw1 := iv_eq ew1 (iv_or 5 (l := 0) (h := 31) k_f_begun (iv_shl1 (l := 1) (h := 16) (iv_lit (l := 1) (h := 1) (by decide)) hx4 (by decide)) (by decide))
  refine ⟨iv_in hx4 (by decide), ?_⟩
  intro a2 ea2
  have k_a2 := iv_upd ea2 k_a_levels (iv_w hx6 (by decide))
  refine s_wl_X2_earshot_0 k_lf_dams k_lf_echoes k_la_echoFrom k_la_echoTo hx5 (fun r3 hr3 => ?_)
  refine s_wn_X3_singersIn_6_0 k_a_huts (iv_w k_lf_singers (by decide)) hr3 (fun r4 hr4 => ?_)
  exact s_wn_X3_raise_6_150 hw1 k_f_climbed k_a_huts k_a_known k_a2 k_lf_singers k_lf_dams k_lf_echoes k_la_heights k_la_ladders k_la_echoFrom k_la_echoTo k_la_talls hx4 hr4 (iv_w (iv_lit (l := 0) (h := 0) (by decide)) (by decide)) hpost
set_option maxRecDepth 20000 in
theorem s_wn_X3_raise_6_62 {f_avalanches : Int32} {f_begun : Int32} {f_climbed : Int32} {a_huts : Nat → Int32} {a_known : Nat → Int32} {a_levels : Nat → Int32} {a_snow : Nat → Int32} {lf_singers : Int32} {lf_dams : Int32} {lf_echoes : Int32} {la_heights : Nat → Int32} {la_ladders : Nat → Int32} {la_echoFrom : Nat → Int32} {la_echoTo : Nat → Int32} {la_talls : Nat → Int32} {x2 : Int32} {x3 : Int32} {x4 : Int32} {x5 : Int32} {y0 : Int32} {y1 : Int32} {post : Int32 → (Int32) → (Int32) → (Nat → Int32) → (Nat → Int32) → (Nat → Int32) → Prop} (k_f_begun : iv 0 31 f_begun) (k_f_climbed : iv 0 63 f_climbed) (k_a_huts : ∀ j, iv 0 8 (a_huts j)) (k_a_known : ∀ j, iv 0 31 (a_known j)) (k_a_levels : ∀ j, iv (-9) 122 (a_levels j)) (k_lf_singers : iv 1 6 lf_singers) (k_lf_dams : iv 0 511 lf_dams) (k_lf_echoes : iv 0 4 lf_echoes) (k_la_heights : ∀ j, iv 0 99 (la_heights j)) (k_la_ladders : ∀ j, iv 0 9 (la_ladders j)) (k_la_echoFrom : ∀ j, iv 0 8 (la_echoFrom j)) (k_la_echoTo : ∀ j, iv 0 8 (la_echoTo j)) (k_la_talls : ∀ j, iv 0 9 (la_talls j)) (hx2 : iv 0 5 x2) (hx3 : iv 0 5 x3) (hx4 : iv 0 4 x4) (hx5 : iv 0 8 x5) (hy0 : iv 0 1 y0) (hy1 : iv 0 1 y1) (hpost : ∀ (r : Int32) (f_avalanches : Int32) (f_begun : Int32) (a_known : Nat → Int32) (a_levels : Nat → Int32) (a_snow : Nat → Int32), iv 0 1 r → (iv 0 31 f_begun) → (∀ j, iv 0 31 (a_known j)) → (∀ j, iv (-9) 122 (a_levels j)) → post r f_avalanches f_begun a_known a_levels a_snow) : q_wn_X3_raise_6_62 f_avalanches f_begun f_climbed a_huts a_known a_levels a_snow lf_singers lf_dams lf_echoes la_heights la_ladders la_echoFrom la_echoTo la_talls x2 x3 x4 x5 y0 y1 post := by
  refine ⟨fun c1 => ?_, fun c1 => ?_⟩
  · skip
    refine ⟨iv_in hx3 (by decide), ?_⟩
    intro w2 ew2
    have hw2 := iv_eq ew2 (k_a_huts _)
    refine ⟨iv_in hw2 (by decide), ?_⟩
    refine ⟨iv_in hx3 (by decide), ?_⟩
    intro w3 ew3
    have hw3 := iv_eq ew3 (iv_sub (l := (-9)) (h := 99) (k_la_heights _) (k_la_talls _) (by decide))
    refine ⟨fun c4 => ?_, fun c4 => ?_⟩
    · skip
      refine ⟨fun c5 => ?_, fun c5 => ?_⟩
      · skip
        refine ⟨iv_in hx4 (by decide), ?_⟩
        refine ⟨fun c6 => ?_, fun c6 => ?_⟩
        · skip
          refine ⟨fun c7 => ?_, fun c7 => ?_⟩
          · skip
            refine ⟨fun c8 => ?_, fun c8 => ?_⟩
            · skip
              exact s_wn_X3_raise_6_112 k_f_begun k_f_climbed k_a_huts k_a_known k_a_levels k_lf_singers k_lf_dams k_lf_echoes k_la_heights k_la_ladders k_la_echoFrom k_la_echoTo k_la_talls hx4 hx5 (iv_w hw3 (by decide)) hpost
            · skip
              exact (iv_emp (iv_ne (l := 1) (h := 0) c8 (iv_lit (l := 0) (h := 0) (by decide)) (iv_lit (l := 0) (h := 0) (by decide)) (by decide)) (by decide)).elim
          · skip
            refine ⟨fun c9 => ?_, fun c9 => ?_⟩
            · skip
              refine ⟨fun c10 => ?_, fun c10 => ?_⟩
              · skip
                exact s_wn_X3_raise_6_112 k_f_begun k_f_climbed k_a_huts k_a_known k_a_levels k_lf_singers k_lf_dams k_lf_echoes k_la_heights k_la_ladders k_la_echoFrom k_la_echoTo k_la_talls hx4 hx5 (iv_w hw3 (by decide)) hpost
              · skip
                exact (iv_emp (iv_ne (l := 1) (h := 0) c10 (iv_lit (l := 0) (h := 0) (by decide)) (iv_lit (l := 0) (h := 0) (by decide)) (by decide)) (by decide)).elim
            · skip
              refine ⟨fun c11 => ?_, fun c11 => ?_⟩
              · skip
                exact (iv_emp (iv_eqa (l := 1) (h := 0) c11 (iv_lit (l := 1) (h := 1) (by decide)) (iv_lit (l := 0) (h := 0) (by decide)) (by decide)) (by decide)).elim
              · skip
                intro w12 ew12
                refine ⟨iv_in hx5 (by decide), ?_⟩
                intro w13 ew13
                refine ⟨iv_in hx5 (by decide), ?_⟩
                intro a14 ea14
                exact s_wn_X3_raise_6_112 k_f_begun k_f_climbed k_a_huts k_a_known k_a_levels k_lf_singers k_lf_dams k_lf_echoes k_la_heights k_la_ladders k_la_echoFrom k_la_echoTo k_la_talls hx4 hx5 (iv_w (iv_ltb (l := (-8)) (h := 99) (r_nle c9) (k_a_levels _) hw3 (by decide)) (by decide)) hpost
        · skip
          refine ⟨fun c15 => ?_, fun c15 => ?_⟩
          · skip
            refine ⟨fun c16 => ?_, fun c16 => ?_⟩
            · skip
              exact s_wn_X3_raise_6_112 k_f_begun k_f_climbed k_a_huts k_a_known k_a_levels k_lf_singers k_lf_dams k_lf_echoes k_la_heights k_la_ladders k_la_echoFrom k_la_echoTo k_la_talls hx4 hx5 (iv_w hw3 (by decide)) hpost
            · skip
              exact (iv_emp (iv_ne (l := 1) (h := 0) c16 (iv_lit (l := 0) (h := 0) (by decide)) (iv_lit (l := 0) (h := 0) (by decide)) (by decide)) (by decide)).elim
          · skip
            refine ⟨fun c17 => ?_, fun c17 => ?_⟩
            · skip
              exact (iv_emp (iv_eqa (l := 1) (h := 0) c17 (iv_lit (l := 1) (h := 1) (by decide)) (iv_lit (l := 0) (h := 0) (by decide)) (by decide)) (by decide)).elim
            · skip
              intro w18 ew18
              refine ⟨iv_in hx5 (by decide), ?_⟩
              intro w19 ew19
              refine ⟨iv_in hx5 (by decide), ?_⟩
              intro a20 ea20
              exact s_wn_X3_raise_6_112 k_f_begun k_f_climbed k_a_huts k_a_known k_a_levels k_lf_singers k_lf_dams k_lf_echoes k_la_heights k_la_ladders k_la_echoFrom k_la_echoTo k_la_talls hx4 hx5 (iv_w hw3 (by decide)) hpost
      · skip
        exact (iv_emp (iv_ne (l := 1) (h := 0) c5 (iv_lit (l := 0) (h := 0) (by decide)) (iv_lit (l := 0) (h := 0) (by decide)) (by decide)) (by decide)).elim
    · skip
      refine ⟨fun c21 => ?_, fun c21 => ?_⟩
      · skip
        exact (iv_emp (iv_eqa (l := 1) (h := 0) c21 (iv_lit (l := 1) (h := 1) (by decide)) (iv_lit (l := 0) (h := 0) (by decide)) (by decide)) (by decide)).elim
      · skip
        refine ⟨iv_in hw2 (by decide), ?_⟩
        refine ⟨iv_in hx4 (by decide), ?_⟩
        refine ⟨fun c22 => ?_, fun c22 => ?_⟩
        · skip
          refine ⟨fun c23 => ?_, fun c23 => ?_⟩
          · skip
            refine ⟨fun c24 => ?_, fun c24 => ?_⟩
            · skip
              exact s_wn_X3_raise_6_112 k_f_begun k_f_climbed k_a_huts k_a_known k_a_levels k_lf_singers k_lf_dams k_lf_echoes k_la_heights k_la_ladders k_la_echoFrom k_la_echoTo k_la_talls hx4 hx5 (iv_add (l := (-9)) (h := 108) hw3 (k_la_ladders _) (by decide)) hpost
            · skip
              exact (iv_emp (iv_ne (l := 1) (h := 0) c24 (iv_lit (l := 0) (h := 0) (by decide)) (iv_lit (l := 0) (h := 0) (by decide)) (by decide)) (by decide)).elim
          · skip
            refine ⟨fun c25 => ?_, fun c25 => ?_⟩
            · skip
              refine ⟨fun c26 => ?_, fun c26 => ?_⟩
              · skip
                exact s_wn_X3_raise_6_112 k_f_begun k_f_climbed k_a_huts k_a_known k_a_levels k_lf_singers k_lf_dams k_lf_echoes k_la_heights k_la_ladders k_la_echoFrom k_la_echoTo k_la_talls hx4 hx5 (iv_add (l := (-9)) (h := 108) hw3 (k_la_ladders _) (by decide)) hpost
              · skip
                exact (iv_emp (iv_ne (l := 1) (h := 0) c26 (iv_lit (l := 0) (h := 0) (by decide)) (iv_lit (l := 0) (h := 0) (by decide)) (by decide)) (by decide)).elim
            · skip
              refine ⟨fun c27 => ?_, fun c27 => ?_⟩
              · skip
                exact (iv_emp (iv_eqa (l := 1) (h := 0) c27 (iv_lit (l := 1) (h := 1) (by decide)) (iv_lit (l := 0) (h := 0) (by decide)) (by decide)) (by decide)).elim
              · skip
                intro w28 ew28
                refine ⟨iv_in hx5 (by decide), ?_⟩
                intro w29 ew29
                refine ⟨iv_in hx5 (by decide), ?_⟩
                intro a30 ea30
                exact s_wn_X3_raise_6_112 k_f_begun k_f_climbed k_a_huts k_a_known k_a_levels k_lf_singers k_lf_dams k_lf_echoes k_la_heights k_la_ladders k_la_echoFrom k_la_echoTo k_la_talls hx4 hx5 (iv_w (iv_ltb (l := (-8)) (h := 108) (r_nle c25) (k_a_levels _) (iv_add (l := (-9)) (h := 108) hw3 (k_la_ladders _) (by decide)) (by decide)) (by decide)) hpost
        · skip
          refine ⟨fun c31 => ?_, fun c31 => ?_⟩
          · skip
            refine ⟨fun c32 => ?_, fun c32 => ?_⟩
            · skip
              exact s_wn_X3_raise_6_112 k_f_begun k_f_climbed k_a_huts k_a_known k_a_levels k_lf_singers k_lf_dams k_lf_echoes k_la_heights k_la_ladders k_la_echoFrom k_la_echoTo k_la_talls hx4 hx5 (iv_add (l := (-9)) (h := 108) hw3 (k_la_ladders _) (by decide)) hpost
            · skip
              exact (iv_emp (iv_ne (l := 1) (h := 0) c32 (iv_lit (l := 0) (h := 0) (by decide)) (iv_lit (l := 0) (h := 0) (by decide)) (by decide)) (by decide)).elim
          · skip
            refine ⟨fun c33 => ?_, fun c33 => ?_⟩
            · skip
              exact (iv_emp (iv_eqa (l := 1) (h := 0) c33 (iv_lit (l := 1) (h := 1) (by decide)) (iv_lit (l := 0) (h := 0) (by decide)) (by decide)) (by decide)).elim
            · skip
              intro w34 ew34
              refine ⟨iv_in hx5 (by decide), ?_⟩
              intro w35 ew35
              refine ⟨iv_in hx5 (by decide), ?_⟩
              intro a36 ea36
              exact s_wn_X3_raise_6_112 k_f_begun k_f_climbed k_a_huts k_a_known k_a_levels k_lf_singers k_lf_dams k_lf_echoes k_la_heights k_la_ladders k_la_echoFrom k_la_echoTo k_la_talls hx4 hx5 (iv_add (l := (-9)) (h := 108) hw3 (k_la_ladders _) (by decide)) hpost
  · skip
    exact hpost _ _ _ _ _ _ (iv_w (iv_lit (l := 0) (h := 0) (by decide)) (by decide)) k_f_begun k_a_known k_a_levels
set_option maxRecDepth 20000 in
theorem s_wn_X3_raise_6_0 {f_avalanches : Int32} {f_begun : Int32} {f_climbed : Int32} {a_huts : Nat → Int32} {a_known : Nat → Int32} {a_levels : Nat → Int32} {a_snow : Nat → Int32} {lf_singers : Int32} {lf_dams : Int32} {lf_echoes : Int32} {la_heights : Nat → Int32} {la_ladders : Nat → Int32} {la_echoFrom : Nat → Int32} {la_echoTo : Nat → Int32} {la_talls : Nat → Int32} {x2 : Int32} {x3 : Int32} {x4 : Int32} {post : Int32 → (Int32) → (Int32) → (Nat → Int32) → (Nat → Int32) → (Nat → Int32) → Prop} (k_f_begun : iv 0 31 f_begun) (k_f_climbed : iv 0 63 f_climbed) (k_a_huts : ∀ j, iv 0 8 (a_huts j)) (k_a_known : ∀ j, iv 0 31 (a_known j)) (k_a_levels : ∀ j, iv (-9) 122 (a_levels j)) (k_lf_singers : iv 1 6 lf_singers) (k_lf_dams : iv 0 511 lf_dams) (k_lf_echoes : iv 0 4 lf_echoes) (k_la_heights : ∀ j, iv 0 99 (la_heights j)) (k_la_ladders : ∀ j, iv 0 9 (la_ladders j)) (k_la_echoFrom : ∀ j, iv 0 8 (la_echoFrom j)) (k_la_echoTo : ∀ j, iv 0 8 (la_echoTo j)) (k_la_talls : ∀ j, iv 0 9 (la_talls j)) (hx2 : iv 0 5 x2) (hx3 : iv 0 5 x3) (hx4 : iv (-1) 8 x4) (hpost : ∀ (r : Int32) (f_avalanches : Int32) (f_begun : Int32) (a_known : Nat → Int32) (a_levels : Nat → Int32) (a_snow : Nat → Int32), iv 0 1 r → (iv 0 31 f_begun) → (∀ j, iv 0 31 (a_known j)) → (∀ j, iv (-9) 122 (a_levels j)) → post r f_avalanches f_begun a_known a_levels a_snow) : q_wn_X3_raise_6_0 f_avalanches f_begun f_climbed a_huts a_known a_levels a_snow lf_singers lf_dams lf_echoes la_heights la_ladders la_echoFrom la_echoTo la_talls x2 x3 x4 post := by
  refine ⟨iv_in hx3 (by decide), ?_⟩
  intro w1 ew1
  have hw1 := iv_eq ew1 (k_a_huts _)
  refine ⟨fun c2 => ?_, fun c2 => ?_⟩
  · skip
    exact hpost _ _ _ _ _ _ (iv_w (iv_lit (l := 0) (h := 0) (by decide)) (by decide)) k_f_begun k_a_known k_a_levels
  · skip
    refine ⟨fun c3 => ?_, fun c3 => ?_⟩
    · skip
      exact hpost _ _ _ _ _ _ (iv_w (iv_lit (l := 0) (h := 0) (by decide)) (by decide)) k_f_begun k_a_known k_a_levels
    · skip
      refine ⟨iv_in hx3 (by decide), ?_⟩
      refine ⟨fun c4 => ?_, fun c4 => ?_⟩
      · skip
        refine ⟨fun c5 => ?_, fun c5 => ?_⟩
        · skip
          exact hpost _ _ _ _ _ _ (iv_w (iv_lit (l := 0) (h := 0) (by decide)) (by decide)) k_f_begun k_a_known k_a_levels
        · skip
          exact (iv_emp (iv_ne (l := 1) (h := 0) c5 (iv_lit (l := 0) (h := 0) (by decide)) (iv_lit (l := 0) (h := 0) (by decide)) (by decide)) (by decide)).elim
      · skip
        refine ⟨fun c6 => ?_, fun c6 => ?_⟩
        · skip
          exact (iv_emp (iv_eqa (l := 1) (h := 0) c6 (iv_lit (l := 1) (h := 1) (by decide)) (iv_lit (l := 0) (h := 0) (by decide)) (by decide)) (by decide)).elim
        · skip
          refine ⟨fun c7 => ?_, fun c7 => ?_⟩
          · skip
            refine ⟨fun c8 => ?_, fun c8 => ?_⟩
            · skip
              refine ⟨fun c9 => ?_, fun c9 => ?_⟩
              · skip
                refine ⟨fun c10 => ?_, fun c10 => ?_⟩
                · skip
                  exact s_wn_X3_raise_6_62 k_f_begun k_f_climbed k_a_huts k_a_known k_a_levels k_lf_singers k_lf_dams k_lf_echoes k_la_heights k_la_ladders k_la_echoFrom k_la_echoTo k_la_talls (iv_w (iv_ne (l := 1) (h := 5) c10 hx2 (iv_lit (l := 0) (h := 0) (by decide)) (by decide)) (by decide)) hx3 (iv_lta (l := 0) (h := 4) (r_nle c3) (iv_leb (l := 0) (h := 8) (r_nlt c2) (iv_lit (l := 0) (h := 0) (by decide)) hx4 (by decide)) (iv_lit (l := 5) (h := 5) (by decide)) (by decide)) hw1 (iv_w (iv_lit (l := 0) (h := 0) (by decide)) (by decide)) (iv_w (iv_lit (l := 0) (h := 0) (by decide)) (by decide)) hpost
                · skip
                  exact s_wn_X3_raise_6_62 k_f_begun k_f_climbed k_a_huts k_a_known k_a_levels k_lf_singers k_lf_dams k_lf_echoes k_la_heights k_la_ladders k_la_echoFrom k_la_echoTo k_la_talls (iv_w (iv_eqa (l := 0) (h := 0) c10 hx2 (iv_lit (l := 0) (h := 0) (by decide)) (by decide)) (by decide)) hx3 (iv_lta (l := 0) (h := 4) (r_nle c3) (iv_leb (l := 0) (h := 8) (r_nlt c2) (iv_lit (l := 0) (h := 0) (by decide)) hx4 (by decide)) (iv_lit (l := 5) (h := 5) (by decide)) (by decide)) hw1 (iv_w (iv_lit (l := 0) (h := 0) (by decide)) (by decide)) (iv_w (iv_lit (l := 1) (h := 1) (by decide)) (by decide)) hpost
              · skip
                refine ⟨fun c11 => ?_, fun c11 => ?_⟩
                · skip
                  exact s_wn_X3_raise_6_62 k_f_begun k_f_climbed k_a_huts k_a_known k_a_levels k_lf_singers k_lf_dams k_lf_echoes k_la_heights k_la_ladders k_la_echoFrom k_la_echoTo k_la_talls (iv_w (iv_ne (l := 1) (h := 5) c11 hx2 (iv_lit (l := 0) (h := 0) (by decide)) (by decide)) (by decide)) hx3 (iv_lta (l := 0) (h := 4) (r_nle c3) (iv_leb (l := 0) (h := 8) (r_nlt c2) (iv_lit (l := 0) (h := 0) (by decide)) hx4 (by decide)) (iv_lit (l := 5) (h := 5) (by decide)) (by decide)) hw1 (iv_w (iv_lit (l := 1) (h := 1) (by decide)) (by decide)) (iv_w (iv_lit (l := 0) (h := 0) (by decide)) (by decide)) hpost
                · skip
                  exact s_wn_X3_raise_6_62 k_f_begun k_f_climbed k_a_huts k_a_known k_a_levels k_lf_singers k_lf_dams k_lf_echoes k_la_heights k_la_ladders k_la_echoFrom k_la_echoTo k_la_talls (iv_w (iv_eqa (l := 0) (h := 0) c11 hx2 (iv_lit (l := 0) (h := 0) (by decide)) (by decide)) (by decide)) hx3 (iv_lta (l := 0) (h := 4) (r_nle c3) (iv_leb (l := 0) (h := 8) (r_nlt c2) (iv_lit (l := 0) (h := 0) (by decide)) hx4 (by decide)) (iv_lit (l := 5) (h := 5) (by decide)) (by decide)) hw1 (iv_w (iv_lit (l := 1) (h := 1) (by decide)) (by decide)) (iv_w (iv_lit (l := 1) (h := 1) (by decide)) (by decide)) hpost
            · skip
              exact (iv_emp (iv_ne (l := 1) (h := 0) c8 (iv_lit (l := 0) (h := 0) (by decide)) (iv_lit (l := 0) (h := 0) (by decide)) (by decide)) (by decide)).elim
          · skip
            refine ⟨fun c12 => ?_, fun c12 => ?_⟩
            · skip
              exact (iv_emp (iv_eqa (l := 1) (h := 0) c12 (iv_lit (l := 1) (h := 1) (by decide)) (iv_lit (l := 0) (h := 0) (by decide)) (by decide)) (by decide)).elim
            · skip
              exact hpost _ _ _ _ _ _ (iv_w (iv_lit (l := 0) (h := 0) (by decide)) (by decide)) k_f_begun k_a_known k_a_levels
-- wn_X3_walk_6
set_option maxRecDepth 20000 in
theorem s_wn_X3_walk_6_0 {f_minute : Int32} {f_climbed : Int32} {a_huts : Nat → Int32} {a_snow : Nat → Int32} {lf_huts : Int32} {lf_deep : Int32} {la_minutes : Nat → Int32} {x2 : Int32} {x3 : Int32} {post : Int32 → (Int32) → (Nat → Int32) → Prop} (k_f_climbed : iv 0 63 f_climbed) (k_a_huts : ∀ j, iv 0 8 (a_huts j)) (k_lf_huts : iv 0 9 lf_huts) (k_lf_deep : iv 1 9 lf_deep) (k_la_minutes : ∀ j, iv 0 9 (la_minutes j)) (hx2 : iv 0 5 x2) (hx3 : iv (-1) 8 x3) (hpost : ∀ (r : Int32) (f_minute : Int32) (a_huts : Nat → Int32), iv 0 1 r → (∀ j, iv 0 8 (a_huts j)) → post r f_minute a_huts) : q_wn_X3_walk_6_0 f_minute f_climbed a_huts a_snow lf_huts lf_deep la_minutes x2 x3 post := by
  refine ⟨iv_in hx2 (by decide), ?_⟩
  intro w1 ew1
  have hw1 := iv_eq ew1 (k_a_huts _)
  refine ⟨fun c2 => ?_, fun c2 => ?_⟩
  · skip
    refine ⟨fun c3 => ?_, fun c3 => ?_⟩
    · skip
      exact hpost _ _ _ (iv_w (iv_lit (l := 0) (h := 0) (by decide)) (by decide)) k_a_huts
    · skip
      exact (iv_emp (iv_ne (l := 1) (h := 0) c3 (iv_lit (l := 0) (h := 0) (by decide)) (iv_lit (l := 0) (h := 0) (by decide)) (by decide)) (by decide)).elim
  · skip
    refine ⟨fun c4 => ?_, fun c4 => ?_⟩
    · skip
      refine ⟨fun c5 => ?_, fun c5 => ?_⟩
      · skip
        exact hpost _ _ _ (iv_w (iv_lit (l := 0) (h := 0) (by decide)) (by decide)) k_a_huts
      · skip
        exact (iv_emp (iv_ne (l := 1) (h := 0) c5 (iv_lit (l := 0) (h := 0) (by decide)) (iv_lit (l := 0) (h := 0) (by decide)) (by decide)) (by decide)).elim
    · skip
      refine ⟨fun c6 => ?_, fun c6 => ?_⟩
      · skip
        exact (iv_emp (iv_eqa (l := 1) (h := 0) c6 (iv_lit (l := 1) (h := 1) (by decide)) (iv_lit (l := 0) (h := 0) (by decide)) (by decide)) (by decide)).elim
      · skip
        refine ⟨fun c7 => ?_, fun c7 => ?_⟩
        · skip
          refine ⟨fun c8 => ?_, fun c8 => ?_⟩
          · skip
            exact (iv_emp (iv_ne (l := 1) (h := 0) c8 (iv_lit (l := 0) (h := 0) (by decide)) (iv_lit (l := 0) (h := 0) (by decide)) (by decide)) (by decide)).elim
          · skip
            refine ⟨iv_in hw1 (by decide), ?_⟩
            refine ⟨fun c9 => ?_, fun c9 => ?_⟩
            · skip
              refine ⟨fun c10 => ?_, fun c10 => ?_⟩
              · skip
                exact (iv_emp (iv_ne (l := 1) (h := 0) c10 (iv_lit (l := 0) (h := 0) (by decide)) (iv_lit (l := 0) (h := 0) (by decide)) (by decide)) (by decide)).elim
              · skip
                refine ⟨iv_in (iv_leb (l := 0) (h := 8) (r_nlt c2) (iv_lit (l := 0) (h := 0) (by decide)) hx3 (by decide)) (by decide), ?_⟩
                refine ⟨fun c11 => ?_, fun c11 => ?_⟩
                · skip
                  refine ⟨fun c12 => ?_, fun c12 => ?_⟩
                  · skip
                    refine ⟨iv_in (iv_add (l := 0) (h := 80) (iv_mul (l := 0) (h := 72) hw1 (iv_lit (l := 9) (h := 9) (by decide)) (by decide)) (iv_leb (l := 0) (h := 8) (r_nlt c2) (iv_lit (l := 0) (h := 0) (by decide)) hx3 (by decide)) (by decide)) (by decide), ?_⟩
                    intro w13 ew13
                    have hw13 := iv_eq ew13 (k_la_minutes _)
                    refine ⟨fun c14 => ?_, fun c14 => ?_⟩
                    · skip
                      intro w15 ew15
                      refine ⟨iv_in hx2 (by decide), ?_⟩
                      intro a16 ea16
                      have k_a16 := iv_upd ea16 k_a_huts (iv_leb (l := 0) (h := 8) (r_nlt c2) (iv_lit (l := 0) (h := 0) (by decide)) hx3 (by decide))
                      exact hpost _ _ _ (iv_w (iv_lit (l := 1) (h := 1) (by decide)) (by decide)) k_a16
                    · skip
                      exact hpost _ _ _ (iv_w (iv_lit (l := 0) (h := 0) (by decide)) (by decide)) k_a_huts
                  · skip
                    exact (iv_emp (iv_ne (l := 1) (h := 0) c12 (iv_lit (l := 0) (h := 0) (by decide)) (iv_lit (l := 0) (h := 0) (by decide)) (by decide)) (by decide)).elim
                · skip
                  refine ⟨fun c17 => ?_, fun c17 => ?_⟩
                  · skip
                    exact (iv_emp (iv_eqa (l := 1) (h := 0) c17 (iv_lit (l := 1) (h := 1) (by decide)) (iv_lit (l := 0) (h := 0) (by decide)) (by decide)) (by decide)).elim
                  · skip
                    exact hpost _ _ _ (iv_w (iv_lit (l := 0) (h := 0) (by decide)) (by decide)) k_a_huts
            · skip
              refine ⟨fun c18 => ?_, fun c18 => ?_⟩
              · skip
                exact hpost _ _ _ (iv_w (iv_lit (l := 0) (h := 0) (by decide)) (by decide)) k_a_huts
              · skip
                exact (iv_emp (iv_eqa (l := 1) (h := 0) c18 (iv_lit (l := 1) (h := 1) (by decide)) (iv_lit (l := 0) (h := 0) (by decide)) (by decide)) (by decide)).elim
        · skip
          refine ⟨fun c19 => ?_, fun c19 => ?_⟩
          · skip
            exact hpost _ _ _ (iv_w (iv_lit (l := 0) (h := 0) (by decide)) (by decide)) k_a_huts
          · skip
            exact (iv_emp (iv_eqa (l := 1) (h := 0) c19 (iv_lit (l := 1) (h := 1) (by decide)) (iv_lit (l := 0) (h := 0) (by decide)) (by decide)) (by decide)).elim
-- wn_X3_play_6_15
set_option maxRecDepth 20000 in
theorem s_wn_X3_play_6_15_8 {f_minute : Int32} {f_avalanches : Int32} {f_begun : Int32} {f_climbed : Int32} {a_huts : Nat → Int32} {a_known : Nat → Int32} {a_levels : Nat → Int32} {a_snow : Nat → Int32} {lf_huts : Int32} {lf_singers : Int32} {lf_dams : Int32} {lf_echoes : Int32} {lf_deep : Int32} {la_heights : Nat → Int32} {la_ladders : Nat → Int32} {la_minutes : Nat → Int32} {la_echoFrom : Nat → Int32} {la_echoTo : Nat → Int32} {la_homes : Nat → Int32} {la_talls : Nat → Int32} {la_known : Nat → Int32} {vf_deeds : Int32} {va_kinds : Nat → Int32} {va_firsts : Nat → Int32} {va_seconds : Nat → Int32} {x3 : Int32} {x4 : Int32} {post : Int32 → (Int32) → (Int32) → (Int32) → (Int32) → (Nat → Int32) → (Nat → Int32) → (Nat → Int32) → (Nat → Int32) → Prop} (k_f_begun : iv 0 31 f_begun) (k_f_climbed : iv 0 63 f_climbed) (k_a_huts : ∀ j, iv 0 8 (a_huts j)) (k_a_known : ∀ j, iv 0 31 (a_known j)) (k_a_levels : ∀ j, iv (-9) 122 (a_levels j)) (k_lf_huts : iv 0 9 lf_huts) (k_lf_singers : iv 0 6 lf_singers) (k_lf_dams : iv 0 511 lf_dams) (k_lf_echoes : iv 0 4 lf_echoes) (k_lf_deep : iv 1 9 lf_deep) (k_la_heights : ∀ j, iv 0 99 (la_heights j)) (k_la_ladders : ∀ j, iv 0 9 (la_ladders j)) (k_la_minutes : ∀ j, iv 0 9 (la_minutes j)) (k_la_echoFrom : ∀ j, iv 0 8 (la_echoFrom j)) (k_la_echoTo : ∀ j, iv 0 8 (la_echoTo j)) (k_la_homes : ∀ j, iv 0 8 (la_homes j)) (k_la_talls : ∀ j, iv 0 9 (la_talls j)) (k_la_known : ∀ j, iv 0 31 (la_known j)) (k_vf_deeds : iv 0 40 vf_deeds) (k_va_kinds : ∀ j, iv 0 5 (va_kinds j)) (k_va_firsts : ∀ j, iv 0 5 (va_firsts j)) (k_va_seconds : ∀ j, iv (-1) 8 (va_seconds j)) (hx3 : iv 0 40 x3) (hx4 : iv 0 40 x4) (hpost : ∀ (r : Int32) (f_minute : Int32) (f_avalanches : Int32) (f_begun : Int32) (f_climbed : Int32) (a_huts : Nat → Int32) (a_known : Nat → Int32) (a_levels : Nat → Int32) (a_snow : Nat → Int32), iv 0 40 r → (iv 0 31 f_begun) → (iv 0 63 f_climbed) → (∀ j, iv 0 8 (a_huts j)) → (∀ j, iv 0 31 (a_known j)) → (∀ j, iv (-9) 122 (a_levels j)) → post r f_minute f_avalanches f_begun f_climbed a_huts a_known a_levels a_snow) : q_wn_X3_play_6_15_8 f_minute f_avalanches f_begun f_climbed a_huts a_known a_levels a_snow lf_huts lf_singers lf_dams lf_echoes lf_deep la_heights la_ladders la_minutes la_echoFrom la_echoTo la_homes la_talls la_known vf_deeds va_kinds va_firsts va_seconds x3 x4 post := by
  intro P hP
  have loop : ∀ (n : Nat) (x4 : Int32) (f_minute : Int32) (f_avalanches : Int32) (f_begun : Int32) (f_climbed : Int32) (a_huts : Nat → Int32) (a_known : Nat → Int32) (a_levels : Nat → Int32) (a_snow : Nat → Int32), (40 - x4.toInt < (n : Int)) → (iv 0 40 x4) → (iv 0 31 f_begun) → (iv 0 63 f_climbed) → (∀ j, iv 0 8 (a_huts j)) → (∀ j, iv 0 31 (a_known j)) → (∀ j, iv (-9) 122 (a_levels j)) → P x4 f_minute f_avalanches f_begun f_climbed a_huts a_known a_levels a_snow := by
    intro n
    induction n with
    | zero => intro x4 f_minute f_avalanches f_begun f_climbed a_huts a_known a_levels a_snow hm hx4 k_f_begun k_f_climbed k_a_huts k_a_known k_a_levels; exact (ms0_up hm hx4).elim
    | succ n ih =>
      intro x4 f_minute f_avalanches f_begun f_climbed a_huts a_known a_levels a_snow hm hx4 k_f_begun k_f_climbed k_a_huts k_a_known k_a_levels
      apply hP
      refine ⟨fun c1 => ?_, fun c1 => ?_⟩
      · skip
        exact hpost _ _ _ _ _ _ _ _ _ hx3 k_f_begun k_f_climbed k_a_huts k_a_known k_a_levels
      · skip
        refine ⟨fun c2 => ?_, fun c2 => ?_⟩
        · skip
          exact hpost _ _ _ _ _ _ _ _ _ (iv_w (iv_ltb (l := 1) (h := 40) (r_nle c1) hx4 hx3 (by decide)) (by decide)) k_f_begun k_f_climbed k_a_huts k_a_known k_a_levels
        · skip
          refine ⟨iv_in (iv_lta (l := 0) (h := 39) (r_nle c1) hx4 hx3 (by decide)) (by decide), ?_⟩
          refine ⟨iv_in (iv_lta (l := 0) (h := 39) (r_nle c1) hx4 hx3 (by decide)) (by decide), ?_⟩
          refine ⟨iv_in (iv_lta (l := 0) (h := 39) (r_nle c1) hx4 hx3 (by decide)) (by decide), ?_⟩
          refine ⟨fun c3 => ?_, fun c3 => ?_⟩
          · skip
            exact (iv_emp (iv_lta (l := 0) (h := (-1)) (r_lt c3) (k_va_firsts _) (iv_lit (l := 0) (h := 0) (by decide)) (by decide)) (by decide)).elim
          · skip
            refine ⟨fun c4 => ?_, fun c4 => ?_⟩
            · skip
              refine ⟨fun c5 => ?_, fun c5 => ?_⟩
              · skip
                exact (iv_emp (iv_ne (l := 1) (h := 0) c5 (iv_lit (l := 0) (h := 0) (by decide)) (iv_lit (l := 0) (h := 0) (by decide)) (by decide)) (by decide)).elim
              · skip
                refine ⟨fun c6 => ?_, fun c6 => ?_⟩
                · skip
                  exact (iv_emp (iv_ne (l := 1) (h := 0) c6 (iv_lit (l := 0) (h := 0) (by decide)) (iv_lit (l := 0) (h := 0) (by decide)) (by decide)) (by decide)).elim
                · skip
                  exact hpost _ _ _ _ _ _ _ _ _ (iv_w (iv_lta (l := 0) (h := 39) (r_nle c1) hx4 hx3 (by decide)) (by decide)) k_f_begun k_f_climbed k_a_huts k_a_known k_a_levels
            · skip
              refine ⟨fun c7 => ?_, fun c7 => ?_⟩
              · skip
                refine ⟨fun c8 => ?_, fun c8 => ?_, fun c8 => ?_, fun c8 => ?_⟩
                · skip
                  refine s_wn_X3_raise_6_0 k_f_begun k_f_climbed k_a_huts k_a_known k_a_levels (iv_ltb (l := 1) (h := 6) (r_nle c4) (k_va_firsts _) k_lf_singers (by decide)) k_lf_dams k_lf_echoes k_la_heights k_la_ladders k_la_echoFrom k_la_echoTo k_la_talls (k_va_kinds _) (k_va_firsts _) (k_va_seconds _) (fun r9 o10 o11 o12 o13 o14 hr9 k_o11 k_o12 k_o13 => ?_)
                  refine ⟨iv_nb hr9 (by decide), ?_⟩
                  refine ⟨fun c15 => ?_, fun c15 => ?_⟩
                  · skip
                    intro w16 ew16
                    have hw16 := iv_eq ew16 (iv_add (l := 1) (h := 40) (iv_lta (l := 0) (h := 39) (r_nle c1) hx4 hx3 (by decide)) (iv_lit (l := 1) (h := 1) (by decide)) (by decide))
                    exact ih _ _ _ _ _ _ _ _ _ (ms_up hm (inc_lt ew16 (iv_lta (l := 0) (h := 39) (r_nle c1) hx4 hx3 (by decide)) (by decide))) (iv_w hw16 (by decide)) k_o11 k_f_climbed k_a_huts k_o12 k_o13
                  · skip
                    exact hpost _ _ _ _ _ _ _ _ _ (iv_w (iv_lta (l := 0) (h := 39) (r_nle c1) hx4 hx3 (by decide)) (by decide)) k_o11 k_f_climbed k_a_huts k_o12 k_o13
                · skip
                  refine s_wn_X3_walk_6_0 k_f_climbed k_a_huts k_lf_huts k_lf_deep k_la_minutes (k_va_firsts _) (k_va_seconds _) (fun r17 o18 o19 hr17 k_o19 => ?_)
                  refine ⟨iv_nb hr17 (by decide), ?_⟩
                  refine ⟨fun c20 => ?_, fun c20 => ?_⟩
                  · skip
                    intro w21 ew21
                    have hw21 := iv_eq ew21 (iv_add (l := 1) (h := 40) (iv_lta (l := 0) (h := 39) (r_nle c1) hx4 hx3 (by decide)) (iv_lit (l := 1) (h := 1) (by decide)) (by decide))
                    exact ih _ _ _ _ _ _ _ _ _ (ms_up hm (inc_lt ew21 (iv_lta (l := 0) (h := 39) (r_nle c1) hx4 hx3 (by decide)) (by decide))) (iv_w hw21 (by decide)) k_f_begun k_f_climbed k_o19 k_a_known k_a_levels
                  · skip
                    exact hpost _ _ _ _ _ _ _ _ _ (iv_w (iv_lta (l := 0) (h := 39) (r_nle c1) hx4 hx3 (by decide)) (by decide)) k_f_begun k_f_climbed k_o19 k_a_known k_a_levels
                · skip
                  refine ⟨fun c22 => ?_, fun c22 => ?_⟩
                  · skip
                    refine ⟨fun c23 => ?_, fun c23 => ?_⟩
                    · skip
                      exact (iv_emp (iv_ne (l := 1) (h := 0) c23 (iv_lit (l := 0) (h := 0) (by decide)) (iv_lit (l := 0) (h := 0) (by decide)) (by decide)) (by decide)).elim
                    · skip
                      refine ⟨iv_in (k_va_firsts _) (by decide), ?_⟩
                      refine ⟨iv_in (k_a_huts _) (by decide), ?_⟩
                      refine ⟨fun c24 => ?_, fun c24 => ?_⟩
                      · skip
                        intro w25 ew25
                        have hw25 := iv_eq ew25 (iv_or 6 (l := 0) (h := 63) k_f_climbed (iv_shl1 (l := 1) (h := 32) (iv_lit (l := 1) (h := 1) (by decide)) (k_va_firsts _) (by decide)) (by decide))
                        refine ⟨iv_nb (iv_lit (l := 1) (h := 1) (by decide)) (by decide), ?_⟩
                        refine ⟨fun c26 => ?_, fun c26 => ?_⟩
                        · skip
                          intro w27 ew27
                          have hw27 := iv_eq ew27 (iv_add (l := 1) (h := 40) (iv_lta (l := 0) (h := 39) (r_nle c1) hx4 hx3 (by decide)) (iv_lit (l := 1) (h := 1) (by decide)) (by decide))
                          exact ih _ _ _ _ _ _ _ _ _ (ms_up hm (inc_lt ew27 (iv_lta (l := 0) (h := 39) (r_nle c1) hx4 hx3 (by decide)) (by decide))) (iv_w hw27 (by decide)) k_f_begun hw25 k_a_huts k_a_known k_a_levels
                        · skip
                          exact (iv_emp (iv_eqa (l := 1) (h := 0) c26 (iv_lit (l := 1) (h := 1) (by decide)) (iv_lit (l := 0) (h := 0) (by decide)) (by decide)) (by decide)).elim
                      · skip
                        refine ⟨iv_nb (iv_lit (l := 0) (h := 0) (by decide)) (by decide), ?_⟩
                        refine ⟨fun c28 => ?_, fun c28 => ?_⟩
                        · skip
                          exact (iv_emp (iv_ne (l := 1) (h := 0) c28 (iv_lit (l := 0) (h := 0) (by decide)) (iv_lit (l := 0) (h := 0) (by decide)) (by decide)) (by decide)).elim
                        · skip
                          exact hpost _ _ _ _ _ _ _ _ _ (iv_w (iv_lta (l := 0) (h := 39) (r_nle c1) hx4 hx3 (by decide)) (by decide)) k_f_begun k_f_climbed k_a_huts k_a_known k_a_levels
                  · skip
                    refine ⟨fun c29 => ?_, fun c29 => ?_⟩
                    · skip
                      refine ⟨iv_nb (iv_lit (l := 0) (h := 0) (by decide)) (by decide), ?_⟩
                      refine ⟨fun c30 => ?_, fun c30 => ?_⟩
                      · skip
                        exact (iv_emp (iv_ne (l := 1) (h := 0) c30 (iv_lit (l := 0) (h := 0) (by decide)) (iv_lit (l := 0) (h := 0) (by decide)) (by decide)) (by decide)).elim
                      · skip
                        exact hpost _ _ _ _ _ _ _ _ _ (iv_w (iv_lta (l := 0) (h := 39) (r_nle c1) hx4 hx3 (by decide)) (by decide)) k_f_begun k_f_climbed k_a_huts k_a_known k_a_levels
                    · skip
                      exact (iv_emp (iv_eqa (l := 1) (h := 0) c29 (iv_lit (l := 1) (h := 1) (by decide)) (iv_lit (l := 0) (h := 0) (by decide)) (by decide)) (by decide)).elim
                · skip
                  refine ⟨fun c31 => ?_, fun c31 => ?_⟩
                  · skip
                    refine ⟨fun c32 => ?_, fun c32 => ?_⟩
                    · skip
                      exact (iv_emp (iv_ne (l := 1) (h := 0) c32 (iv_lit (l := 0) (h := 0) (by decide)) (iv_lit (l := 0) (h := 0) (by decide)) (by decide)) (by decide)).elim
                    · skip
                      refine ⟨iv_nb (iv_lit (l := 0) (h := 0) (by decide)) (by decide), ?_⟩
                      refine ⟨fun c33 => ?_, fun c33 => ?_⟩
                      · skip
                        exact (iv_emp (iv_ne (l := 1) (h := 0) c33 (iv_lit (l := 0) (h := 0) (by decide)) (iv_lit (l := 0) (h := 0) (by decide)) (by decide)) (by decide)).elim
                      · skip
                        exact hpost _ _ _ _ _ _ _ _ _ (iv_w (iv_lta (l := 0) (h := 39) (r_nle c1) hx4 hx3 (by decide)) (by decide)) k_f_begun k_f_climbed k_a_huts k_a_known k_a_levels
                  · skip
                    refine ⟨fun c34 => ?_, fun c34 => ?_⟩
                    · skip
                      intro w35 ew35
                      have hw35 := iv_eq ew35 (iv_andl (l := 0) (h := 63) k_f_climbed (by decide))
                      refine ⟨iv_nb (iv_lit (l := 1) (h := 1) (by decide)) (by decide), ?_⟩
                      refine ⟨fun c36 => ?_, fun c36 => ?_⟩
                      · skip
                        intro w37 ew37
                        have hw37 := iv_eq ew37 (iv_add (l := 1) (h := 40) (iv_lta (l := 0) (h := 39) (r_nle c1) hx4 hx3 (by decide)) (iv_lit (l := 1) (h := 1) (by decide)) (by decide))
                        exact ih _ _ _ _ _ _ _ _ _ (ms_up hm (inc_lt ew37 (iv_lta (l := 0) (h := 39) (r_nle c1) hx4 hx3 (by decide)) (by decide))) (iv_w hw37 (by decide)) k_f_begun hw35 k_a_huts k_a_known k_a_levels
                      · skip
                        exact (iv_emp (iv_eqa (l := 1) (h := 0) c36 (iv_lit (l := 1) (h := 1) (by decide)) (iv_lit (l := 0) (h := 0) (by decide)) (by decide)) (by decide)).elim
                    · skip
                      exact (iv_emp (iv_eqa (l := 1) (h := 0) c34 (iv_lit (l := 1) (h := 1) (by decide)) (iv_lit (l := 0) (h := 0) (by decide)) (by decide)) (by decide)).elim
              · skip
                exact (iv_emp (iv_eqa (l := 1) (h := 0) c7 (iv_lit (l := 1) (h := 1) (by decide)) (iv_lit (l := 0) (h := 0) (by decide)) (by decide)) (by decide)).elim
  exact loop _ _ _ _ _ _ _ _ _ _ (ms_init_up _ _) hx4 k_f_begun k_f_climbed k_a_huts k_a_known k_a_levels
set_option maxRecDepth 20000 in
theorem s_wn_X3_play_6_15_0 {f_minute : Int32} {f_avalanches : Int32} {f_begun : Int32} {f_climbed : Int32} {a_huts : Nat → Int32} {a_known : Nat → Int32} {a_levels : Nat → Int32} {a_snow : Nat → Int32} {lf_huts : Int32} {lf_singers : Int32} {lf_dams : Int32} {lf_echoes : Int32} {lf_deep : Int32} {la_heights : Nat → Int32} {la_ladders : Nat → Int32} {la_minutes : Nat → Int32} {la_echoFrom : Nat → Int32} {la_echoTo : Nat → Int32} {la_homes : Nat → Int32} {la_talls : Nat → Int32} {la_known : Nat → Int32} {vf_deeds : Int32} {va_kinds : Nat → Int32} {va_firsts : Nat → Int32} {va_seconds : Nat → Int32} {x3 : Int32} {post : Int32 → (Int32) → (Int32) → (Int32) → (Int32) → (Nat → Int32) → (Nat → Int32) → (Nat → Int32) → (Nat → Int32) → Prop} (k_f_begun : iv 0 31 f_begun) (k_f_climbed : iv 0 63 f_climbed) (k_a_huts : ∀ j, iv 0 8 (a_huts j)) (k_a_known : ∀ j, iv 0 31 (a_known j)) (k_a_levels : ∀ j, iv (-9) 122 (a_levels j)) (k_lf_huts : iv 0 9 lf_huts) (k_lf_singers : iv 0 6 lf_singers) (k_lf_dams : iv 0 511 lf_dams) (k_lf_echoes : iv 0 4 lf_echoes) (k_lf_deep : iv 1 9 lf_deep) (k_la_heights : ∀ j, iv 0 99 (la_heights j)) (k_la_ladders : ∀ j, iv 0 9 (la_ladders j)) (k_la_minutes : ∀ j, iv 0 9 (la_minutes j)) (k_la_echoFrom : ∀ j, iv 0 8 (la_echoFrom j)) (k_la_echoTo : ∀ j, iv 0 8 (la_echoTo j)) (k_la_homes : ∀ j, iv 0 8 (la_homes j)) (k_la_talls : ∀ j, iv 0 9 (la_talls j)) (k_la_known : ∀ j, iv 0 31 (la_known j)) (k_vf_deeds : iv 0 40 vf_deeds) (k_va_kinds : ∀ j, iv 0 5 (va_kinds j)) (k_va_firsts : ∀ j, iv 0 5 (va_firsts j)) (k_va_seconds : ∀ j, iv (-1) 8 (va_seconds j)) (hx3 : iv 0 40 x3) (hpost : ∀ (r : Int32) (f_minute : Int32) (f_avalanches : Int32) (f_begun : Int32) (f_climbed : Int32) (a_huts : Nat → Int32) (a_known : Nat → Int32) (a_levels : Nat → Int32) (a_snow : Nat → Int32), iv 0 40 r → (iv 0 31 f_begun) → (iv 0 63 f_climbed) → (∀ j, iv 0 8 (a_huts j)) → (∀ j, iv 0 31 (a_known j)) → (∀ j, iv (-9) 122 (a_levels j)) → post r f_minute f_avalanches f_begun f_climbed a_huts a_known a_levels a_snow) : q_wn_X3_play_6_15_0 f_minute f_avalanches f_begun f_climbed a_huts a_known a_levels a_snow lf_huts lf_singers lf_dams lf_echoes lf_deep la_heights la_ladders la_minutes la_echoFrom la_echoTo la_homes la_talls la_known vf_deeds va_kinds va_firsts va_seconds x3 post := by
  refine s_wn_X3_start_6_0 k_f_begun k_f_climbed k_a_huts k_a_known k_a_levels k_la_homes k_la_known (fun o1 o2 o3 o4 o5 o6 o7 o8 k_o1 k_o2 k_o3 k_o4 k_o5 k_o6 k_o7 => ?_)
  exact s_wn_X3_play_6_15_8 (iv_w k_o3 (by decide)) (iv_w k_o4 (by decide)) k_o5 k_o6 k_o7 k_lf_huts k_lf_singers k_lf_dams k_lf_echoes k_lf_deep k_la_heights k_la_ladders k_la_minutes k_la_echoFrom k_la_echoTo k_la_homes k_la_talls k_la_known k_vf_deeds k_va_kinds k_va_firsts k_va_seconds hx3 (iv_w (iv_lit (l := 0) (h := 0) (by decide)) (by decide)) hpost
-- wn_X3_draw_6
set_option maxRecDepth 20000 in
theorem s_wn_X3_draw_6_93 {P13 : Int32 → (Int32) → (Int32) → (Int32) → (Int32) → (Int32) → (Nat → Int32) → (Nat → Int32) → (Nat → Int32) → (Nat → Int32) → Prop} {f_minute : Int32} {f_avalanches : Int32} {f_begun : Int32} {f_climbed : Int32} {f_seed : Int32} {a_huts : Nat → Int32} {a_known : Nat → Int32} {a_levels : Nat → Int32} {a_snow : Nat → Int32} {lf_huts : Int32} {lf_singers : Int32} {lf_dams : Int32} {lf_echoes : Int32} {lf_deep : Int32} {la_heights : Nat → Int32} {la_ladders : Nat → Int32} {la_minutes : Nat → Int32} {la_echoFrom : Nat → Int32} {la_echoTo : Nat → Int32} {la_homes : Nat → Int32} {la_talls : Nat → Int32} {la_known : Nat → Int32} {x3 : Int32} {x4 : Int32} {post : (Int32) → (Int32) → (Int32) → (Int32) → (Int32) → (Nat → Int32) → (Nat → Int32) → (Nat → Int32) → (Nat → Int32) → Prop} (k_f_begun : iv 0 31 f_begun) (k_f_climbed : iv 0 0 f_climbed) (k_a_huts : ∀ j, iv 0 8 (a_huts j)) (k_a_known : ∀ j, iv 0 31 (a_known j)) (k_a_levels : ∀ j, iv (-9) 122 (a_levels j)) (k_lf_huts : iv 0 9 lf_huts) (k_lf_singers : iv 1 6 lf_singers) (k_lf_dams : iv 0 511 lf_dams) (k_lf_echoes : iv 0 4 lf_echoes) (k_lf_deep : iv 1 9 lf_deep) (k_la_heights : ∀ j, iv 0 99 (la_heights j)) (k_la_ladders : ∀ j, iv 0 9 (la_ladders j)) (k_la_minutes : ∀ j, iv 0 9 (la_minutes j)) (k_la_echoFrom : ∀ j, iv 0 8 (la_echoFrom j)) (k_la_echoTo : ∀ j, iv 0 8 (la_echoTo j)) (k_la_homes : ∀ j, iv 0 8 (la_homes j)) (k_la_talls : ∀ j, iv 0 9 (la_talls j)) (k_la_known : ∀ j, iv 0 31 (la_known j)) (hx3 : iv 1 60 x3) (hx4 : iv 0 59 x4) (m13 : Int) (hm13 : m13 ≤ x4.toInt) (hP13 : ∀ (x4 : Int32) (f_minute : Int32) (f_avalanches : Int32) (f_begun : Int32) (f_climbed : Int32) (f_seed : Int32) (a_huts : Nat → Int32) (a_known : Nat → Int32) (a_levels : Nat → Int32) (a_snow : Nat → Int32), m13 < x4.toInt → iv 0 60 x4 → (iv 0 31 f_begun) → (iv 0 0 f_climbed) → (∀ j, iv 0 8 (a_huts j)) → (∀ j, iv 0 31 (a_known j)) → (∀ j, iv (-9) 122 (a_levels j)) → P13 x4 f_minute f_avalanches f_begun f_climbed f_seed a_huts a_known a_levels a_snow) (hpost : ∀ (f_minute : Int32) (f_avalanches : Int32) (f_begun : Int32) (f_climbed : Int32) (f_seed : Int32) (a_huts : Nat → Int32) (a_known : Nat → Int32) (a_levels : Nat → Int32) (a_snow : Nat → Int32), (iv 0 31 f_begun) → (iv 0 0 f_climbed) → (∀ j, iv 0 8 (a_huts j)) → (∀ j, iv 0 31 (a_known j)) → (∀ j, iv (-9) 122 (a_levels j)) → post f_minute f_avalanches f_begun f_climbed f_seed a_huts a_known a_levels a_snow) : q_wn_X3_draw_6_93 P13 f_minute f_avalanches f_begun f_climbed f_seed a_huts a_known a_levels a_snow lf_huts lf_singers lf_dams lf_echoes lf_deep la_heights la_ladders la_minutes la_echoFrom la_echoTo la_homes la_talls la_known x3 x4 post := by
  intro w1 ew1
  have hw1 := iv_eq ew1 (iv_add (l := 1) (h := 60) hx4 (iv_lit (l := 1) (h := 1) (by decide)) (by decide))
  exact hP13 _ _ _ _ _ _ _ _ _ _ (ml_up hm13 (inc_lt ew1 hx4 (by decide))) (iv_w hw1 (by decide)) k_f_begun k_f_climbed k_a_huts k_a_known k_a_levels
set_option maxRecDepth 20000 in
theorem s_wn_X3_draw_6_85 {P13 : Int32 → (Int32) → (Int32) → (Int32) → (Int32) → (Int32) → (Nat → Int32) → (Nat → Int32) → (Nat → Int32) → (Nat → Int32) → Prop} {f_minute : Int32} {f_avalanches : Int32} {f_begun : Int32} {f_climbed : Int32} {f_seed : Int32} {a_huts : Nat → Int32} {a_known : Nat → Int32} {a_levels : Nat → Int32} {a_snow : Nat → Int32} {lf_huts : Int32} {lf_singers : Int32} {lf_dams : Int32} {lf_echoes : Int32} {lf_deep : Int32} {la_heights : Nat → Int32} {la_ladders : Nat → Int32} {la_minutes : Nat → Int32} {la_echoFrom : Nat → Int32} {la_echoTo : Nat → Int32} {la_homes : Nat → Int32} {la_talls : Nat → Int32} {la_known : Nat → Int32} {x3 : Int32} {x4 : Int32} {x5 : Int32} {x6 : Int32} {y0 : Int32} {post : (Int32) → (Int32) → (Int32) → (Int32) → (Int32) → (Nat → Int32) → (Nat → Int32) → (Nat → Int32) → (Nat → Int32) → Prop} (k_f_begun : iv 0 31 f_begun) (k_f_climbed : iv 0 0 f_climbed) (k_a_huts : ∀ j, iv 0 8 (a_huts j)) (k_a_known : ∀ j, iv 0 31 (a_known j)) (k_a_levels : ∀ j, iv (-9) 122 (a_levels j)) (k_lf_huts : iv 0 9 lf_huts) (k_lf_singers : iv 1 6 lf_singers) (k_lf_dams : iv 0 511 lf_dams) (k_lf_echoes : iv 0 4 lf_echoes) (k_lf_deep : iv 1 9 lf_deep) (k_la_heights : ∀ j, iv 0 99 (la_heights j)) (k_la_ladders : ∀ j, iv 0 9 (la_ladders j)) (k_la_minutes : ∀ j, iv 0 9 (la_minutes j)) (k_la_echoFrom : ∀ j, iv 0 8 (la_echoFrom j)) (k_la_echoTo : ∀ j, iv 0 8 (la_echoTo j)) (k_la_homes : ∀ j, iv 0 8 (la_homes j)) (k_la_talls : ∀ j, iv 0 9 (la_talls j)) (k_la_known : ∀ j, iv 0 31 (la_known j)) (hx3 : iv 1 60 x3) (hx4 : iv 0 59 x4) (hx5 : iv 0 5 x5) (hx6 : iv 0 4 x6) (hy0 : iv 0 1 y0) (m13 : Int) (hm13 : m13 ≤ x4.toInt) (hP13 : ∀ (x4 : Int32) (f_minute : Int32) (f_avalanches : Int32) (f_begun : Int32) (f_climbed : Int32) (f_seed : Int32) (a_huts : Nat → Int32) (a_known : Nat → Int32) (a_levels : Nat → Int32) (a_snow : Nat → Int32), m13 < x4.toInt → iv 0 60 x4 → (iv 0 31 f_begun) → (iv 0 0 f_climbed) → (∀ j, iv 0 8 (a_huts j)) → (∀ j, iv 0 31 (a_known j)) → (∀ j, iv (-9) 122 (a_levels j)) → P13 x4 f_minute f_avalanches f_begun f_climbed f_seed a_huts a_known a_levels a_snow) (hpost : ∀ (f_minute : Int32) (f_avalanches : Int32) (f_begun : Int32) (f_climbed : Int32) (f_seed : Int32) (a_huts : Nat → Int32) (a_known : Nat → Int32) (a_levels : Nat → Int32) (a_snow : Nat → Int32), (iv 0 31 f_begun) → (iv 0 0 f_climbed) → (∀ j, iv 0 8 (a_huts j)) → (∀ j, iv 0 31 (a_known j)) → (∀ j, iv (-9) 122 (a_levels j)) → post f_minute f_avalanches f_begun f_climbed f_seed a_huts a_known a_levels a_snow) : q_wn_X3_draw_6_85 P13 f_minute f_avalanches f_begun f_climbed f_seed a_huts a_known a_levels a_snow lf_huts lf_singers lf_dams lf_echoes lf_deep la_heights la_ladders la_minutes la_echoFrom la_echoTo la_homes la_talls la_known x3 x4 x5 x6 y0 post := by
  refine ⟨fun c1 => ?_, fun c1 => ?_⟩
  · skip
    exact (iv_emp (iv_lta (l := 0) (h := (-1)) (r_lt c1) hx5 (iv_lit (l := 0) (h := 0) (by decide)) (by decide)) (by decide)).elim
  · skip
    refine ⟨fun c2 => ?_, fun c2 => ?_⟩
    · skip
      refine ⟨fun c3 => ?_, fun c3 => ?_⟩
      · skip
        exact (iv_emp (iv_ne (l := 1) (h := 0) c3 (iv_lit (l := 0) (h := 0) (by decide)) (iv_lit (l := 0) (h := 0) (by decide)) (by decide)) (by decide)).elim
      · skip
        exact s_wn_X3_draw_6_93 k_f_begun k_f_climbed k_a_huts k_a_known k_a_levels k_lf_huts (iv_w (iv_lea (l := 1) (h := 5) (r_le c2) k_lf_singers hx5 (by decide)) (by decide)) k_lf_dams k_lf_echoes k_lf_deep k_la_heights k_la_ladders k_la_minutes k_la_echoFrom k_la_echoTo k_la_homes k_la_talls k_la_known hx3 hx4 m13 hm13 hP13 hpost
    · skip
      refine ⟨fun c4 => ?_, fun c4 => ?_⟩
      · skip
        refine ⟨fun c5 => ?_, fun c5 => ?_, fun c5 => ?_, fun c5 => ?_⟩
        · skip
          refine s_wn_X3_raise_6_0 k_f_begun (iv_w k_f_climbed (by decide)) k_a_huts k_a_known k_a_levels k_lf_singers k_lf_dams k_lf_echoes k_la_heights k_la_ladders k_la_echoFrom k_la_echoTo k_la_talls (iv_w hy0 (by decide)) hx5 (iv_w hx6 (by decide)) (fun r6 o7 o8 o9 o10 o11 hr6 k_o8 k_o9 k_o10 => ?_)
          refine ⟨iv_nb hr6 (by decide), ?_⟩
          exact s_wn_X3_draw_6_93 k_o8 k_f_climbed k_a_huts k_o9 k_o10 k_lf_huts k_lf_singers k_lf_dams k_lf_echoes k_lf_deep k_la_heights k_la_ladders k_la_minutes k_la_echoFrom k_la_echoTo k_la_homes k_la_talls k_la_known hx3 hx4 m13 hm13 hP13 hpost
        · skip
          exact (iv_emp (iv_eqa (l := 3) (h := 1) c5 hy0 (iv_lit (l := 3) (h := 3) (by decide)) (by decide)) (by decide)).elim
        · skip
          exact (iv_emp (iv_eqa (l := 4) (h := 1) c5 hy0 (iv_lit (l := 4) (h := 4) (by decide)) (by decide)) (by decide)).elim
        · skip
          exact (iv_emp (iv_eqa (l := 5) (h := 1) c5 hy0 (iv_lit (l := 5) (h := 5) (by decide)) (by decide)) (by decide)).elim
      · skip
        exact (iv_emp (iv_eqa (l := 1) (h := 0) c4 (iv_lit (l := 1) (h := 1) (by decide)) (iv_lit (l := 0) (h := 0) (by decide)) (by decide)) (by decide)).elim
set_option maxRecDepth 20000 in
theorem s_wn_X3_draw_6_13 {f_minute : Int32} {f_avalanches : Int32} {f_begun : Int32} {f_climbed : Int32} {f_seed : Int32} {a_huts : Nat → Int32} {a_known : Nat → Int32} {a_levels : Nat → Int32} {a_snow : Nat → Int32} {lf_huts : Int32} {lf_singers : Int32} {lf_dams : Int32} {lf_echoes : Int32} {lf_deep : Int32} {la_heights : Nat → Int32} {la_ladders : Nat → Int32} {la_minutes : Nat → Int32} {la_echoFrom : Nat → Int32} {la_echoTo : Nat → Int32} {la_homes : Nat → Int32} {la_talls : Nat → Int32} {la_known : Nat → Int32} {x3 : Int32} {x4 : Int32} {post : (Int32) → (Int32) → (Int32) → (Int32) → (Int32) → (Nat → Int32) → (Nat → Int32) → (Nat → Int32) → (Nat → Int32) → Prop} (k_f_begun : iv 0 31 f_begun) (k_f_climbed : iv 0 0 f_climbed) (k_a_huts : ∀ j, iv 0 8 (a_huts j)) (k_a_known : ∀ j, iv 0 31 (a_known j)) (k_a_levels : ∀ j, iv (-9) 122 (a_levels j)) (k_lf_huts : iv 0 9 lf_huts) (k_lf_singers : iv 1 6 lf_singers) (k_lf_dams : iv 0 511 lf_dams) (k_lf_echoes : iv 0 4 lf_echoes) (k_lf_deep : iv 1 9 lf_deep) (k_la_heights : ∀ j, iv 0 99 (la_heights j)) (k_la_ladders : ∀ j, iv 0 9 (la_ladders j)) (k_la_minutes : ∀ j, iv 0 9 (la_minutes j)) (k_la_echoFrom : ∀ j, iv 0 8 (la_echoFrom j)) (k_la_echoTo : ∀ j, iv 0 8 (la_echoTo j)) (k_la_homes : ∀ j, iv 0 8 (la_homes j)) (k_la_talls : ∀ j, iv 0 9 (la_talls j)) (k_la_known : ∀ j, iv 0 31 (la_known j)) (hx3 : iv 0 60 x3) (hx4 : iv 0 60 x4) (hpost : ∀ (f_minute : Int32) (f_avalanches : Int32) (f_begun : Int32) (f_climbed : Int32) (f_seed : Int32) (a_huts : Nat → Int32) (a_known : Nat → Int32) (a_levels : Nat → Int32) (a_snow : Nat → Int32), (iv 0 31 f_begun) → (iv 0 0 f_climbed) → (∀ j, iv 0 8 (a_huts j)) → (∀ j, iv 0 31 (a_known j)) → (∀ j, iv (-9) 122 (a_levels j)) → post f_minute f_avalanches f_begun f_climbed f_seed a_huts a_known a_levels a_snow) : q_wn_X3_draw_6_13 f_minute f_avalanches f_begun f_climbed f_seed a_huts a_known a_levels a_snow lf_huts lf_singers lf_dams lf_echoes lf_deep la_heights la_ladders la_minutes la_echoFrom la_echoTo la_homes la_talls la_known x3 x4 post := by
  intro P hP
  have loop : ∀ (n : Nat) (x4 : Int32) (f_minute : Int32) (f_avalanches : Int32) (f_begun : Int32) (f_climbed : Int32) (f_seed : Int32) (a_huts : Nat → Int32) (a_known : Nat → Int32) (a_levels : Nat → Int32) (a_snow : Nat → Int32), (60 - x4.toInt < (n : Int)) → (iv 0 60 x4) → (iv 0 31 f_begun) → (iv 0 0 f_climbed) → (∀ j, iv 0 8 (a_huts j)) → (∀ j, iv 0 31 (a_known j)) → (∀ j, iv (-9) 122 (a_levels j)) → P x4 f_minute f_avalanches f_begun f_climbed f_seed a_huts a_known a_levels a_snow := by
    intro n
    induction n with
    | zero => intro x4 f_minute f_avalanches f_begun f_climbed f_seed a_huts a_known a_levels a_snow hm hx4 k_f_begun k_f_climbed k_a_huts k_a_known k_a_levels; exact (ms0_up hm hx4).elim
    | succ n ih =>
      intro x4 f_minute f_avalanches f_begun f_climbed f_seed a_huts a_known a_levels a_snow hm hx4 k_f_begun k_f_climbed k_a_huts k_a_known k_a_levels
      apply hP
      refine ⟨fun c1 => ?_, fun c1 => ?_⟩
      · skip
        exact hpost _ _ _ _ _ _ _ _ _ k_f_begun k_f_climbed k_a_huts k_a_known k_a_levels
      · skip
        intro w2 ew2
        refine ⟨fun c3 => ?_, fun c3 => ?_⟩
        · skip
          exact (iv_emp (iv_lea (l := 1) (h := 0) (r_le c3) k_lf_singers (iv_lit (l := 0) (h := 0) (by decide)) (by decide)) (by decide)).elim
        · skip
          refine ⟨iv_ne0 k_lf_singers (by decide), ?_⟩
          intro w4 ew4
          refine ⟨fun c5 => ?_, fun c5 => ?_⟩
          · skip
            exact (iv_emp (iv_lea (l := 8) (h := 0) (r_le c5) (iv_lit (l := 8) (h := 8) (by decide)) (iv_lit (l := 0) (h := 0) (by decide)) (by decide)) (by decide)).elim
          · skip
            refine ⟨iv_ne0 (iv_lit (l := 8) (h := 8) (by decide)) (by decide), ?_⟩
            refine ⟨fun c6 => ?_, fun c6 => ?_⟩
            · skip
              intro w7 ew7
              refine ⟨fun c8 => ?_, fun c8 => ?_⟩
              · skip
                exact (iv_emp (iv_lea (l := 5) (h := 0) (r_le c8) (iv_lit (l := 5) (h := 5) (by decide)) (iv_lit (l := 0) (h := 0) (by decide)) (by decide)) (by decide)).elim
              · skip
                refine ⟨iv_ne0 (iv_lit (l := 5) (h := 5) (by decide)) (by decide), ?_⟩
                refine ⟨fun c9 => ?_, fun c9 => ?_⟩
                · skip
                  refine ⟨fun c10 => ?_, fun c10 => ?_⟩
                  · skip
                    exact s_wn_X3_draw_6_85 k_f_begun k_f_climbed k_a_huts k_a_known k_a_levels k_lf_huts k_lf_singers k_lf_dams k_lf_echoes k_lf_deep k_la_heights k_la_ladders k_la_minutes k_la_echoFrom k_la_echoTo k_la_homes k_la_talls k_la_known (iv_ltb (l := 1) (h := 60) (r_nle c1) hx4 hx3 (by decide)) (iv_lta (l := 0) (h := 59) (r_nle c1) hx4 hx3 (by decide)) (iv_rem (l := 0) (h := 5) (iv_ushr16 _) k_lf_singers (by decide)) (iv_rem (l := 0) (h := 4) (iv_ushr16 _) (iv_lit (l := 5) (h := 5) (by decide)) (by decide)) (iv_w (iv_lit (l := 0) (h := 0) (by decide)) (by decide)) x4.toInt (Int.le_refl _) (fun u0 u1 u2 u3 u4 u5 u6 u7 u8 u9 hq g0 g1 g2 g3 g4 g5 => ih u0 u1 u2 u3 u4 u5 u6 u7 u8 u9 (ms_up hm hq) g0 g1 g2 g3 g4 g5) hpost
                  · skip
                    exact (iv_emp (iv_ne (l := 1) (h := 0) c10 (iv_lit (l := 0) (h := 0) (by decide)) (iv_lit (l := 0) (h := 0) (by decide)) (by decide)) (by decide)).elim
                · skip
                  refine ⟨fun c11 => ?_, fun c11 => ?_⟩
                  · skip
                    exact (iv_emp (iv_eqa (l := 1) (h := 0) c11 (iv_lit (l := 1) (h := 1) (by decide)) (iv_lit (l := 0) (h := 0) (by decide)) (by decide)) (by decide)).elim
                  · skip
                    exact s_wn_X3_draw_6_85 k_f_begun k_f_climbed k_a_huts k_a_known k_a_levels k_lf_huts k_lf_singers k_lf_dams k_lf_echoes k_lf_deep k_la_heights k_la_ladders k_la_minutes k_la_echoFrom k_la_echoTo k_la_homes k_la_talls k_la_known (iv_ltb (l := 1) (h := 60) (r_nle c1) hx4 hx3 (by decide)) (iv_lta (l := 0) (h := 59) (r_nle c1) hx4 hx3 (by decide)) (iv_rem (l := 0) (h := 5) (iv_ushr16 _) k_lf_singers (by decide)) (iv_rem (l := 0) (h := 4) (iv_ushr16 _) (iv_lit (l := 5) (h := 5) (by decide)) (by decide)) (iv_w (iv_lit (l := 1) (h := 1) (by decide)) (by decide)) x4.toInt (Int.le_refl _) (fun u0 u1 u2 u3 u4 u5 u6 u7 u8 u9 hq g0 g1 g2 g3 g4 g5 => ih u0 u1 u2 u3 u4 u5 u6 u7 u8 u9 (ms_up hm hq) g0 g1 g2 g3 g4 g5) hpost
            · skip
              intro w12 ew12
              refine ⟨fun c13 => ?_, fun c13 => ?_⟩
              · skip
                refine ⟨fun c14 => ?_, fun c14 => ?_⟩
                · skip
                  exact (iv_emp (iv_lta (l := 0) (h := (-1)) (r_lt c14) (iv_rem (l := 0) (h := 5) (iv_ushr16 _) k_lf_singers (by decide)) (iv_lit (l := 0) (h := 0) (by decide)) (by decide)) (by decide)).elim
                · skip
                  refine ⟨fun c15 => ?_, fun c15 => ?_⟩
                  · skip
                    refine ⟨fun c16 => ?_, fun c16 => ?_⟩
                    · skip
                      exact (iv_emp (iv_ne (l := 1) (h := 0) c16 (iv_lit (l := 0) (h := 0) (by decide)) (iv_lit (l := 0) (h := 0) (by decide)) (by decide)) (by decide)).elim
                    · skip
                      exact s_wn_X3_draw_6_93 k_f_begun k_f_climbed k_a_huts k_a_known k_a_levels (iv_w (iv_lea (l := 0) (h := 0) (r_le c13) k_lf_huts (iv_lit (l := 0) (h := 0) (by decide)) (by decide)) (by decide)) (iv_w (iv_lea (l := 1) (h := 5) (r_le c15) k_lf_singers (iv_rem (l := 0) (h := 5) (iv_ushr16 _) k_lf_singers (by decide)) (by decide)) (by decide)) k_lf_dams k_lf_echoes k_lf_deep k_la_heights k_la_ladders k_la_minutes k_la_echoFrom k_la_echoTo k_la_homes k_la_talls k_la_known (iv_ltb (l := 1) (h := 60) (r_nle c1) hx4 hx3 (by decide)) (iv_lta (l := 0) (h := 59) (r_nle c1) hx4 hx3 (by decide)) x4.toInt (Int.le_refl _) (fun u0 u1 u2 u3 u4 u5 u6 u7 u8 u9 hq g0 g1 g2 g3 g4 g5 => ih u0 u1 u2 u3 u4 u5 u6 u7 u8 u9 (ms_up hm hq) g0 g1 g2 g3 g4 g5) hpost
                  · skip
                    refine ⟨fun c17 => ?_, fun c17 => ?_⟩
                    · skip
                      refine ⟨fun c18 => ?_, fun c18 => ?_, fun c18 => ?_, fun c18 => ?_⟩
                      · skip
                        exact (iv_sw c18 (iv_lit (l := 3) (h := 3) (by decide)) (by decide)).elim
                      · skip
                        refine s_wn_X3_walk_6_0 (iv_w k_f_climbed (by decide)) k_a_huts (iv_w (iv_lea (l := 0) (h := 0) (r_le c13) k_lf_huts (iv_lit (l := 0) (h := 0) (by decide)) (by decide)) (by decide)) k_lf_deep k_la_minutes (iv_rem (l := 0) (h := 5) (iv_ushr16 _) k_lf_singers (by decide)) (iv_w (iv_lit (l := 0) (h := 0) (by decide)) (by decide)) (fun r19 o20 o21 hr19 k_o21 => ?_)
                        refine ⟨iv_nb hr19 (by decide), ?_⟩
                        exact s_wn_X3_draw_6_93 k_f_begun k_f_climbed k_o21 k_a_known k_a_levels (iv_w (iv_lea (l := 0) (h := 0) (r_le c13) k_lf_huts (iv_lit (l := 0) (h := 0) (by decide)) (by decide)) (by decide)) k_lf_singers k_lf_dams k_lf_echoes k_lf_deep k_la_heights k_la_ladders k_la_minutes k_la_echoFrom k_la_echoTo k_la_homes k_la_talls k_la_known (iv_ltb (l := 1) (h := 60) (r_nle c1) hx4 hx3 (by decide)) (iv_lta (l := 0) (h := 59) (r_nle c1) hx4 hx3 (by decide)) x4.toInt (Int.le_refl _) (fun u0 u1 u2 u3 u4 u5 u6 u7 u8 u9 hq g0 g1 g2 g3 g4 g5 => ih u0 u1 u2 u3 u4 u5 u6 u7 u8 u9 (ms_up hm hq) g0 g1 g2 g3 g4 g5) hpost
                      · skip
                        exact (iv_emp (iv_eqa (l := 4) (h := 3) c18 (iv_lit (l := 3) (h := 3) (by decide)) (iv_lit (l := 4) (h := 4) (by decide)) (by decide)) (by decide)).elim
                      · skip
                        exact (iv_emp (iv_eqa (l := 5) (h := 3) c18 (iv_lit (l := 3) (h := 3) (by decide)) (iv_lit (l := 5) (h := 5) (by decide)) (by decide)) (by decide)).elim
                    · skip
                      exact (iv_emp (iv_eqa (l := 1) (h := 0) c17 (iv_lit (l := 1) (h := 1) (by decide)) (iv_lit (l := 0) (h := 0) (by decide)) (by decide)) (by decide)).elim
              · skip
                refine ⟨iv_ne0 (iv_ltb (l := 1) (h := 9) (r_nle c13) (iv_lit (l := 0) (h := 0) (by decide)) k_lf_huts (by decide)) (by decide), ?_⟩
                refine ⟨fun c22 => ?_, fun c22 => ?_⟩
                · skip
                  exact (iv_emp (iv_lta (l := 0) (h := (-1)) (r_lt c22) (iv_rem (l := 0) (h := 5) (iv_ushr16 _) k_lf_singers (by decide)) (iv_lit (l := 0) (h := 0) (by decide)) (by decide)) (by decide)).elim
                · skip
                  refine ⟨fun c23 => ?_, fun c23 => ?_⟩
                  · skip
                    refine ⟨fun c24 => ?_, fun c24 => ?_⟩
                    · skip
                      exact (iv_emp (iv_ne (l := 1) (h := 0) c24 (iv_lit (l := 0) (h := 0) (by decide)) (iv_lit (l := 0) (h := 0) (by decide)) (by decide)) (by decide)).elim
                    · skip
                      exact s_wn_X3_draw_6_93 k_f_begun k_f_climbed k_a_huts k_a_known k_a_levels (iv_w (iv_ltb (l := 1) (h := 9) (r_nle c13) (iv_lit (l := 0) (h := 0) (by decide)) k_lf_huts (by decide)) (by decide)) (iv_w (iv_lea (l := 1) (h := 5) (r_le c23) k_lf_singers (iv_rem (l := 0) (h := 5) (iv_ushr16 _) k_lf_singers (by decide)) (by decide)) (by decide)) k_lf_dams k_lf_echoes k_lf_deep k_la_heights k_la_ladders k_la_minutes k_la_echoFrom k_la_echoTo k_la_homes k_la_talls k_la_known (iv_ltb (l := 1) (h := 60) (r_nle c1) hx4 hx3 (by decide)) (iv_lta (l := 0) (h := 59) (r_nle c1) hx4 hx3 (by decide)) x4.toInt (Int.le_refl _) (fun u0 u1 u2 u3 u4 u5 u6 u7 u8 u9 hq g0 g1 g2 g3 g4 g5 => ih u0 u1 u2 u3 u4 u5 u6 u7 u8 u9 (ms_up hm hq) g0 g1 g2 g3 g4 g5) hpost
                  · skip
                    refine ⟨fun c25 => ?_, fun c25 => ?_⟩
                    · skip
                      refine ⟨fun c26 => ?_, fun c26 => ?_, fun c26 => ?_, fun c26 => ?_⟩
                      · skip
                        exact (iv_sw c26 (iv_lit (l := 3) (h := 3) (by decide)) (by decide)).elim
                      · skip
                        refine s_wn_X3_walk_6_0 (iv_w k_f_climbed (by decide)) k_a_huts (iv_w (iv_ltb (l := 1) (h := 9) (r_nle c13) (iv_lit (l := 0) (h := 0) (by decide)) k_lf_huts (by decide)) (by decide)) k_lf_deep k_la_minutes (iv_rem (l := 0) (h := 5) (iv_ushr16 _) k_lf_singers (by decide)) (iv_w (iv_rem (l := 0) (h := 8) (iv_ushr16 _) (iv_ltb (l := 1) (h := 9) (r_nle c13) (iv_lit (l := 0) (h := 0) (by decide)) k_lf_huts (by decide)) (by decide)) (by decide)) (fun r27 o28 o29 hr27 k_o29 => ?_)
                        refine ⟨iv_nb hr27 (by decide), ?_⟩
                        exact s_wn_X3_draw_6_93 k_f_begun k_f_climbed k_o29 k_a_known k_a_levels (iv_w (iv_ltb (l := 1) (h := 9) (r_nle c13) (iv_lit (l := 0) (h := 0) (by decide)) k_lf_huts (by decide)) (by decide)) k_lf_singers k_lf_dams k_lf_echoes k_lf_deep k_la_heights k_la_ladders k_la_minutes k_la_echoFrom k_la_echoTo k_la_homes k_la_talls k_la_known (iv_ltb (l := 1) (h := 60) (r_nle c1) hx4 hx3 (by decide)) (iv_lta (l := 0) (h := 59) (r_nle c1) hx4 hx3 (by decide)) x4.toInt (Int.le_refl _) (fun u0 u1 u2 u3 u4 u5 u6 u7 u8 u9 hq g0 g1 g2 g3 g4 g5 => ih u0 u1 u2 u3 u4 u5 u6 u7 u8 u9 (ms_up hm hq) g0 g1 g2 g3 g4 g5) hpost
                      · skip
                        exact (iv_emp (iv_eqa (l := 4) (h := 3) c26 (iv_lit (l := 3) (h := 3) (by decide)) (iv_lit (l := 4) (h := 4) (by decide)) (by decide)) (by decide)).elim
                      · skip
                        exact (iv_emp (iv_eqa (l := 5) (h := 3) c26 (iv_lit (l := 3) (h := 3) (by decide)) (iv_lit (l := 5) (h := 5) (by decide)) (by decide)) (by decide)).elim
                    · skip
                      exact (iv_emp (iv_eqa (l := 1) (h := 0) c25 (iv_lit (l := 1) (h := 1) (by decide)) (iv_lit (l := 0) (h := 0) (by decide)) (by decide)) (by decide)).elim
  exact loop _ _ _ _ _ _ _ _ _ _ _ (ms_init_up _ _) hx4 k_f_begun k_f_climbed k_a_huts k_a_known k_a_levels
set_option maxRecDepth 20000 in
theorem s_wn_X3_draw_6_0 {f_minute : Int32} {f_avalanches : Int32} {f_begun : Int32} {f_climbed : Int32} {f_seed : Int32} {a_huts : Nat → Int32} {a_known : Nat → Int32} {a_levels : Nat → Int32} {a_snow : Nat → Int32} {lf_huts : Int32} {lf_singers : Int32} {lf_dams : Int32} {lf_echoes : Int32} {lf_deep : Int32} {la_heights : Nat → Int32} {la_ladders : Nat → Int32} {la_minutes : Nat → Int32} {la_echoFrom : Nat → Int32} {la_echoTo : Nat → Int32} {la_homes : Nat → Int32} {la_talls : Nat → Int32} {la_known : Nat → Int32} {x2 : Int32} {x3 : Int32} {post : (Int32) → (Int32) → (Int32) → (Int32) → (Int32) → (Nat → Int32) → (Nat → Int32) → (Nat → Int32) → (Nat → Int32) → Prop} (k_f_begun : iv 0 31 f_begun) (k_f_climbed : iv 0 63 f_climbed) (k_a_huts : ∀ j, iv 0 8 (a_huts j)) (k_a_known : ∀ j, iv 0 31 (a_known j)) (k_a_levels : ∀ j, iv (-9) 122 (a_levels j)) (k_lf_huts : iv 0 9 lf_huts) (k_lf_singers : iv 1 6 lf_singers) (k_lf_dams : iv 0 511 lf_dams) (k_lf_echoes : iv 0 4 lf_echoes) (k_lf_deep : iv 1 9 lf_deep) (k_la_heights : ∀ j, iv 0 99 (la_heights j)) (k_la_ladders : ∀ j, iv 0 9 (la_ladders j)) (k_la_minutes : ∀ j, iv 0 9 (la_minutes j)) (k_la_echoFrom : ∀ j, iv 0 8 (la_echoFrom j)) (k_la_echoTo : ∀ j, iv 0 8 (la_echoTo j)) (k_la_homes : ∀ j, iv 0 8 (la_homes j)) (k_la_talls : ∀ j, iv 0 9 (la_talls j)) (k_la_known : ∀ j, iv 0 31 (la_known j)) (hx3 : iv 0 60 x3) (hpost : ∀ (f_minute : Int32) (f_avalanches : Int32) (f_begun : Int32) (f_climbed : Int32) (f_seed : Int32) (a_huts : Nat → Int32) (a_known : Nat → Int32) (a_levels : Nat → Int32) (a_snow : Nat → Int32), (iv 0 31 f_begun) → (iv 0 0 f_climbed) → (∀ j, iv 0 8 (a_huts j)) → (∀ j, iv 0 31 (a_known j)) → (∀ j, iv (-9) 122 (a_levels j)) → post f_minute f_avalanches f_begun f_climbed f_seed a_huts a_known a_levels a_snow) : q_wn_X3_draw_6_0 f_minute f_avalanches f_begun f_climbed f_seed a_huts a_known a_levels a_snow lf_huts lf_singers lf_dams lf_echoes lf_deep la_heights la_ladders la_minutes la_echoFrom la_echoTo la_homes la_talls la_known x2 x3 post := by
  refine s_wn_X3_start_6_0 k_f_begun k_f_climbed k_a_huts k_a_known k_a_levels k_la_homes k_la_known (fun o1 o2 o3 o4 o5 o6 o7 o8 k_o1 k_o2 k_o3 k_o4 k_o5 k_o6 k_o7 => ?_)
  exact s_wn_X3_draw_6_13 (iv_w k_o3 (by decide)) k_o4 k_o5 k_o6 k_o7 k_lf_huts k_lf_singers k_lf_dams k_lf_echoes k_lf_deep k_la_heights k_la_ladders k_la_minutes k_la_echoFrom k_la_echoTo k_la_homes k_la_talls k_la_known hx3 (iv_w (iv_lit (l := 0) (h := 0) (by decide)) (by decide)) hpost
-- wn_X3_knowers_6
set_option maxRecDepth 20000 in
theorem s_wn_X3_knowers_6_35 {P5 : Int32 → Int32 → Prop} {a_known : Nat → Int32} {lf_singers : Int32} {x2 : Int32} {x3 : Int32} {x4 : Int32} {post : Int32 → Prop} (k_a_known : ∀ j, iv 0 31 (a_known j)) (k_lf_singers : iv 1 6 lf_singers) (hx2 : iv 0 4 x2) (hx3 : iv 0 63 x3) (hx4 : iv 0 5 x4) (m5 : Int) (hm5 : m5 ≤ x4.toInt) (hP5 : ∀ (x3 : Int32) (x4 : Int32), m5 < x4.toInt → iv 0 63 x3 → iv 0 6 x4 → P5 x3 x4) (hpost : ∀ (r : Int32), iv 0 63 r → post r) : q_wn_X3_knowers_6_35 P5 a_known lf_singers x2 x3 x4 post := by
  intro w1 ew1
  have hw1 := iv_eq ew1 (iv_add (l := 1) (h := 6) hx4 (iv_lit (l := 1) (h := 1) (by decide)) (by decide))
  exact hP5 _ _ (ml_up hm5 (inc_lt ew1 hx4 (by decide))) hx3 (iv_w hw1 (by decide))
set_option maxRecDepth 20000 in
theorem s_wn_X3_knowers_6_5 {a_known : Nat → Int32} {lf_singers : Int32} {x2 : Int32} {x3 : Int32} {x4 : Int32} {post : Int32 → Prop} (k_a_known : ∀ j, iv 0 31 (a_known j)) (k_lf_singers : iv 0 6 lf_singers) (hx2 : iv 0 4 x2) (hx3 : iv 0 63 x3) (hx4 : iv 0 6 x4) (hpost : ∀ (r : Int32), iv 0 63 r → post r) : q_wn_X3_knowers_6_5 a_known lf_singers x2 x3 x4 post := by
  intro P hP
  have loop : ∀ (n : Nat) (x3 : Int32) (x4 : Int32), (6 - x4.toInt < (n : Int)) → (iv 0 63 x3) → (iv 0 6 x4) → P x3 x4 := by
    intro n
    induction n with
    | zero => intro x3 x4 hm hx3 hx4; exact (ms0_up hm hx4).elim
    | succ n ih =>
      intro x3 x4 hm hx3 hx4
      apply hP
      refine ⟨fun c1 => ?_, fun c1 => ?_⟩
      · skip
        exact hpost _ hx3
      · skip
        refine ⟨iv_in (iv_lta (l := 0) (h := 5) (r_nle c1) hx4 k_lf_singers (by decide)) (by decide), ?_⟩
        refine ⟨fun c2 => ?_, fun c2 => ?_⟩
        · skip
          refine ⟨fun c3 => ?_, fun c3 => ?_⟩
          · skip
            exact s_wn_X3_knowers_6_35 k_a_known (iv_ltb (l := 1) (h := 6) (r_nle c1) hx4 k_lf_singers (by decide)) hx2 hx3 (iv_lta (l := 0) (h := 5) (r_nle c1) hx4 k_lf_singers (by decide)) x4.toInt (Int.le_refl _) (fun u0 u1 hq g0 g1 => ih u0 u1 (ms_up hm hq) g0 g1) hpost
          · skip
            exact (iv_emp (iv_ne (l := 1) (h := 0) c3 (iv_lit (l := 0) (h := 0) (by decide)) (iv_lit (l := 0) (h := 0) (by decide)) (by decide)) (by decide)).elim
        · skip
          refine ⟨fun c4 => ?_, fun c4 => ?_⟩
          · skip
            exact (iv_emp (iv_eqa (l := 1) (h := 0) c4 (iv_lit (l := 1) (h := 1) (by decide)) (iv_lit (l := 0) (h := 0) (by decide)) (by decide)) (by decide)).elim
          · skip
            intro w5 ew5
            have hw5 := iv_eq ew5 (iv_or 6 (l := 0) (h := 63) hx3 (iv_shl1 (l := 1) (h := 32) (iv_lit (l := 1) (h := 1) (by decide)) (iv_lta (l := 0) (h := 5) (r_nle c1) hx4 k_lf_singers (by decide)) (by decide)) (by decide))
            exact s_wn_X3_knowers_6_35 k_a_known (iv_ltb (l := 1) (h := 6) (r_nle c1) hx4 k_lf_singers (by decide)) hx2 hw5 (iv_lta (l := 0) (h := 5) (r_nle c1) hx4 k_lf_singers (by decide)) x4.toInt (Int.le_refl _) (fun u0 u1 hq g0 g1 => ih u0 u1 (ms_up hm hq) g0 g1) hpost
  exact loop _ _ _ (ms_init_up _ _) hx3 hx4
set_option maxRecDepth 20000 in
theorem s_wn_X3_knowers_6_0 {a_known : Nat → Int32} {lf_singers : Int32} {x2 : Int32} {post : Int32 → Prop} (k_a_known : ∀ j, iv 0 31 (a_known j)) (k_lf_singers : iv 0 6 lf_singers) (hx2 : iv 0 4 x2) (hpost : ∀ (r : Int32), iv 0 63 r → post r) : q_wn_X3_knowers_6_0 a_known lf_singers x2 post := by
  exact s_wn_X3_knowers_6_5 k_a_known k_lf_singers hx2 (iv_w (iv_lit (l := 0) (h := 0) (by decide)) (by decide)) (iv_w (iv_lit (l := 0) (h := 0) (by decide)) (by decide)) hpost
-- wn_X3_openWays_6
set_option maxRecDepth 20000 in
theorem s_wn_X3_openWays_6_71 {P2 : Int32 → (Nat → Int32) → Prop} {P19 : Int32 → (Nat → Int32) → Prop} {a_snow : Nat → Int32} {a_open : Nat → Int32} {lf_huts : Int32} {lf_deep : Int32} {la_minutes : Nat → Int32} {x2 : Int32} {x3 : Int32} {post : (Nat → Int32) → Prop} (k_a_open : ∀ j, iv 0 511 (a_open j)) (k_lf_huts : iv 1 9 lf_huts) (k_lf_deep : iv 1 9 lf_deep) (k_la_minutes : ∀ j, iv 0 9 (la_minutes j)) (hx2 : iv 0 8 x2) (hx3 : iv 0 8 x3) (m2 : Int) (hm2 : m2 ≤ x2.toInt) (hP2 : ∀ (x2 : Int32) (a_open : Nat → Int32), m2 < x2.toInt → iv 0 9 x2 → (∀ j, iv 0 511 (a_open j)) → P2 x2 a_open) (m19 : Int) (hm19 : m19 ≤ x3.toInt) (hP19 : ∀ (x3 : Int32) (a_open : Nat → Int32), m19 < x3.toInt → iv 0 9 x3 → (∀ j, iv 0 511 (a_open j)) → P19 x3 a_open) (hpost : ∀ (a_open : Nat → Int32), (∀ j, iv 0 511 (a_open j)) → post a_open) : q_wn_X3_openWays_6_71 P2 P19 a_snow a_open lf_huts lf_deep la_minutes x2 x3 post := by
  intro w1 ew1
  have hw1 := iv_eq ew1 (iv_add (l := 1) (h := 9) hx3 (iv_lit (l := 1) (h := 1) (by decide)) (by decide))
  exact hP19 _ _ (ml_up hm19 (inc_lt ew1 hx3 (by decide))) (iv_w hw1 (by decide)) k_a_open
set_option maxRecDepth 20000 in
theorem s_wn_X3_openWays_6_19 {P2 : Int32 → (Nat → Int32) → Prop} {a_snow : Nat → Int32} {a_open : Nat → Int32} {lf_huts : Int32} {lf_deep : Int32} {la_minutes : Nat → Int32} {x2 : Int32} {x3 : Int32} {post : (Nat → Int32) → Prop} (k_a_open : ∀ j, iv 0 511 (a_open j)) (k_lf_huts : iv 1 9 lf_huts) (k_lf_deep : iv 1 9 lf_deep) (k_la_minutes : ∀ j, iv 0 9 (la_minutes j)) (hx2 : iv 0 8 x2) (hx3 : iv 0 9 x3) (m2 : Int) (hm2 : m2 ≤ x2.toInt) (hP2 : ∀ (x2 : Int32) (a_open : Nat → Int32), m2 < x2.toInt → iv 0 9 x2 → (∀ j, iv 0 511 (a_open j)) → P2 x2 a_open) (hpost : ∀ (a_open : Nat → Int32), (∀ j, iv 0 511 (a_open j)) → post a_open) : q_wn_X3_openWays_6_19 P2 a_snow a_open lf_huts lf_deep la_minutes x2 x3 post := by
  intro P hP
  have loop : ∀ (n : Nat) (x3 : Int32) (a_open : Nat → Int32), (9 - x3.toInt < (n : Int)) → (iv 0 9 x3) → (∀ j, iv 0 511 (a_open j)) → P x3 a_open := by
    intro n
    induction n with
    | zero => intro x3 a_open hm hx3 k_a_open; exact (ms0_up hm hx3).elim
    | succ n ih =>
      intro x3 a_open hm hx3 k_a_open
      apply hP
      refine ⟨fun c1 => ?_, fun c1 => ?_⟩
      · skip
        intro w2 ew2
        have hw2 := iv_eq ew2 (iv_add (l := 1) (h := 9) hx2 (iv_lit (l := 1) (h := 1) (by decide)) (by decide))
        exact hP2 _ _ (ml_up hm2 (inc_lt ew2 hx2 (by decide))) (iv_w hw2 (by decide)) k_a_open
      · skip
        refine ⟨iv_in (iv_add (l := 0) (h := 80) (iv_mul (l := 0) (h := 72) hx2 (iv_lit (l := 9) (h := 9) (by decide)) (by decide)) (iv_lta (l := 0) (h := 8) (r_nle c1) hx3 k_lf_huts (by decide)) (by decide)) (by decide), ?_⟩
        refine ⟨fun c3 => ?_, fun c3 => ?_⟩
        · skip
          exact s_wn_X3_openWays_6_71 k_a_open k_lf_huts k_lf_deep k_la_minutes hx2 (iv_lta (l := 0) (h := 8) (r_nle c1) hx3 k_lf_huts (by decide)) m2 hm2 hP2 x3.toInt (Int.le_refl _) (fun u0 u1 hq g0 g1 => ih u0 u1 (ms_up hm hq) g0 g1) hpost
        · skip
          refine ⟨iv_in hx2 (by decide), ?_⟩
          refine ⟨fun c4 => ?_, fun c4 => ?_⟩
          · skip
            refine ⟨fun c5 => ?_, fun c5 => ?_⟩
            · skip
              exact (iv_emp (iv_ne (l := 1) (h := 0) c5 (iv_lit (l := 0) (h := 0) (by decide)) (iv_lit (l := 0) (h := 0) (by decide)) (by decide)) (by decide)).elim
            · skip
              refine ⟨iv_in (iv_lta (l := 0) (h := 8) (r_nle c1) hx3 k_lf_huts (by decide)) (by decide), ?_⟩
              refine ⟨fun c6 => ?_, fun c6 => ?_⟩
              · skip
                refine ⟨fun c7 => ?_, fun c7 => ?_⟩
                · skip
                  exact (iv_emp (iv_ne (l := 1) (h := 0) c7 (iv_lit (l := 0) (h := 0) (by decide)) (iv_lit (l := 0) (h := 0) (by decide)) (by decide)) (by decide)).elim
                · skip
                  refine ⟨iv_in hx2 (by decide), ?_⟩
                  intro w8 ew8
                  have hw8 := iv_eq ew8 (iv_or 9 (l := 0) (h := 511) (k_a_open _) (iv_shl1 (l := 1) (h := 256) (iv_lit (l := 1) (h := 1) (by decide)) (iv_lta (l := 0) (h := 8) (r_nle c1) hx3 k_lf_huts (by decide)) (by decide)) (by decide))
                  refine ⟨iv_in hx2 (by decide), ?_⟩
                  intro a9 ea9
                  have k_a9 := iv_upd ea9 k_a_open hw8
                  exact s_wn_X3_openWays_6_71 k_a9 k_lf_huts k_lf_deep k_la_minutes hx2 (iv_lta (l := 0) (h := 8) (r_nle c1) hx3 k_lf_huts (by decide)) m2 hm2 hP2 x3.toInt (Int.le_refl _) (fun u0 u1 hq g0 g1 => ih u0 u1 (ms_up hm hq) g0 g1) hpost
              · skip
                refine ⟨fun c10 => ?_, fun c10 => ?_⟩
                · skip
                  exact s_wn_X3_openWays_6_71 k_a_open k_lf_huts k_lf_deep k_la_minutes hx2 (iv_lta (l := 0) (h := 8) (r_nle c1) hx3 k_lf_huts (by decide)) m2 hm2 hP2 x3.toInt (Int.le_refl _) (fun u0 u1 hq g0 g1 => ih u0 u1 (ms_up hm hq) g0 g1) hpost
                · skip
                  exact (iv_emp (iv_eqa (l := 1) (h := 0) c10 (iv_lit (l := 1) (h := 1) (by decide)) (iv_lit (l := 0) (h := 0) (by decide)) (by decide)) (by decide)).elim
          · skip
            refine ⟨fun c11 => ?_, fun c11 => ?_⟩
            · skip
              exact s_wn_X3_openWays_6_71 k_a_open k_lf_huts k_lf_deep k_la_minutes hx2 (iv_lta (l := 0) (h := 8) (r_nle c1) hx3 k_lf_huts (by decide)) m2 hm2 hP2 x3.toInt (Int.le_refl _) (fun u0 u1 hq g0 g1 => ih u0 u1 (ms_up hm hq) g0 g1) hpost
            · skip
              exact (iv_emp (iv_eqa (l := 1) (h := 0) c11 (iv_lit (l := 1) (h := 1) (by decide)) (iv_lit (l := 0) (h := 0) (by decide)) (by decide)) (by decide)).elim
  exact loop _ _ _ (ms_init_up _ _) hx3 k_a_open
set_option maxRecDepth 20000 in
theorem s_wn_X3_openWays_6_2 {a_snow : Nat → Int32} {a_open : Nat → Int32} {lf_huts : Int32} {lf_deep : Int32} {la_minutes : Nat → Int32} {x2 : Int32} {post : (Nat → Int32) → Prop} (k_a_open : ∀ j, iv 0 511 (a_open j)) (k_lf_huts : iv 0 9 lf_huts) (k_lf_deep : iv 1 9 lf_deep) (k_la_minutes : ∀ j, iv 0 9 (la_minutes j)) (hx2 : iv 0 9 x2) (hpost : ∀ (a_open : Nat → Int32), (∀ j, iv 0 511 (a_open j)) → post a_open) : q_wn_X3_openWays_6_2 a_snow a_open lf_huts lf_deep la_minutes x2 post := by
  intro P hP
  have loop : ∀ (n : Nat) (x2 : Int32) (a_open : Nat → Int32), (9 - x2.toInt < (n : Int)) → (iv 0 9 x2) → (∀ j, iv 0 511 (a_open j)) → P x2 a_open := by
    intro n
    induction n with
    | zero => intro x2 a_open hm hx2 k_a_open; exact (ms0_up hm hx2).elim
    | succ n ih =>
      intro x2 a_open hm hx2 k_a_open
      apply hP
      refine ⟨fun c1 => ?_, fun c1 => ?_⟩
      · skip
        exact hpost _ k_a_open
      · skip
        refine ⟨iv_in (iv_lta (l := 0) (h := 8) (r_nle c1) hx2 k_lf_huts (by decide)) (by decide), ?_⟩
        intro a2 ea2
        have k_a2 := iv_upd ea2 k_a_open (iv_w (iv_lit (l := 0) (h := 0) (by decide)) (by decide))
        exact s_wn_X3_openWays_6_19 k_a2 (iv_ltb (l := 1) (h := 9) (r_nle c1) hx2 k_lf_huts (by decide)) k_lf_deep k_la_minutes (iv_lta (l := 0) (h := 8) (r_nle c1) hx2 k_lf_huts (by decide)) (iv_w (iv_lit (l := 0) (h := 0) (by decide)) (by decide)) x2.toInt (Int.le_refl _) (fun u0 u1 hq g0 g1 => ih u0 u1 (ms_up hm hq) g0 g1) hpost
  exact loop _ _ _ (ms_init_up _ _) hx2 k_a_open
set_option maxRecDepth 20000 in
theorem s_wn_X3_openWays_6_0 {a_snow : Nat → Int32} {a_open : Nat → Int32} {lf_huts : Int32} {lf_deep : Int32} {la_minutes : Nat → Int32} {post : (Nat → Int32) → Prop} (k_a_open : ∀ j, iv 0 511 (a_open j)) (k_lf_huts : iv 0 9 lf_huts) (k_lf_deep : iv 1 9 lf_deep) (k_la_minutes : ∀ j, iv 0 9 (la_minutes j)) (hpost : ∀ (a_open : Nat → Int32), (∀ j, iv 0 511 (a_open j)) → post a_open) : q_wn_X3_openWays_6_0 a_snow a_open lf_huts lf_deep la_minutes post := by
  exact s_wn_X3_openWays_6_2 k_a_open k_lf_huts k_lf_deep k_la_minutes (iv_w (iv_lit (l := 0) (h := 0) (by decide)) (by decide)) hpost
end
section
-- wn_X7_reach_5
set_option maxRecDepth 20000 in
theorem s_wn_X7_reach_5_49 {P7 : Int32 → Int32 → Prop} {P20 : Int32 → Int32 → Prop} {a_open : Nat → Int32} {x2 : Int32} {x3 : Int32} {x4 : Int32} {x5 : Int32} {x6 : Int32} {post : Int32 → Prop} (k_a_open : ∀ j, iv 0 511 (a_open j)) (hx2 : iv 0 0 x2) (hx3 : iv 0 511 x3) (hx4 : iv 0 8 x4) (hx5 : iv 0 511 x5) (hx6 : iv 0 8 x6) (m7 : Int) (hm7 : m7 ≤ x4.toInt) (hP7 : ∀ (x3 : Int32) (x4 : Int32), m7 < x4.toInt → iv 0 511 x3 → iv 0 9 x4 → P7 x3 x4) (m20 : Int) (hm20 : m20 ≤ x6.toInt) (hP20 : ∀ (x5 : Int32) (x6 : Int32), m20 < x6.toInt → iv 0 511 x5 → iv 0 9 x6 → P20 x5 x6) (hpost : ∀ (r : Int32), iv 0 511 r → post r) : q_wn_X7_reach_5_49 P7 P20 a_open x2 x3 x4 x5 x6 post := by
  intro w1 ew1
  have hw1 := iv_eq ew1 (iv_add (l := 1) (h := 9) hx6 (iv_lit (l := 1) (h := 1) (by decide)) (by decide))
  exact hP20 _ _ (ml_up hm20 (inc_lt ew1 hx6 (by decide))) hx5 (iv_w hw1 (by decide))
set_option maxRecDepth 20000 in
theorem s_wn_X7_reach_5_20 {P7 : Int32 → Int32 → Prop} {a_open : Nat → Int32} {x2 : Int32} {x3 : Int32} {x4 : Int32} {x5 : Int32} {x6 : Int32} {post : Int32 → Prop} (k_a_open : ∀ j, iv 0 511 (a_open j)) (hx2 : iv 0 0 x2) (hx3 : iv 0 511 x3) (hx4 : iv 0 8 x4) (hx5 : iv 0 511 x5) (hx6 : iv 0 9 x6) (m7 : Int) (hm7 : m7 ≤ x4.toInt) (hP7 : ∀ (x3 : Int32) (x4 : Int32), m7 < x4.toInt → iv 0 511 x3 → iv 0 9 x4 → P7 x3 x4) (hpost : ∀ (r : Int32), iv 0 511 r → post r) : q_wn_X7_reach_5_20 P7 a_open x2 x3 x4 x5 x6 post := by
  intro P hP
  have loop : ∀ (n : Nat) (x5 : Int32) (x6 : Int32), (9 - x6.toInt < (n : Int)) → (iv 0 511 x5) → (iv 0 9 x6) → P x5 x6 := by
    intro n
    induction n with
    | zero => intro x5 x6 hm hx5 hx6; exact (ms0_up hm hx6).elim
    | succ n ih =>
      intro x5 x6 hm hx5 hx6
      apply hP
      refine ⟨fun c1 => ?_, fun c1 => ?_⟩
      · skip
        refine ⟨fun c2 => ?_, fun c2 => ?_⟩
        · skip
          intro w3 ew3
          have hw3 := iv_eq ew3 (iv_add (l := 1) (h := 9) hx4 (iv_lit (l := 1) (h := 1) (by decide)) (by decide))
          exact hP7 _ _ (ml_up hm7 (inc_lt ew3 hx4 (by decide))) hx5 (iv_w hw3 (by decide))
        · skip
          exact hpost _ hx3
      · skip
        refine ⟨fun c4 => ?_, fun c4 => ?_⟩
        · skip
          refine ⟨fun c5 => ?_, fun c5 => ?_⟩
          · skip
            exact s_wn_X7_reach_5_49 k_a_open hx2 hx3 hx4 hx5 (iv_lta (l := 0) (h := 8) (r_nle c1) hx6 (iv_lit (l := 9) (h := 9) (by decide)) (by decide)) m7 hm7 hP7 x6.toInt (Int.le_refl _) (fun u0 u1 hq g0 g1 => ih u0 u1 (ms_up hm hq) g0 g1) hpost
          · skip
            exact (iv_emp (iv_ne (l := 1) (h := 0) c5 (iv_lit (l := 0) (h := 0) (by decide)) (iv_lit (l := 0) (h := 0) (by decide)) (by decide)) (by decide)).elim
        · skip
          refine ⟨fun c6 => ?_, fun c6 => ?_⟩
          · skip
            exact (iv_emp (iv_eqa (l := 1) (h := 0) c6 (iv_lit (l := 1) (h := 1) (by decide)) (iv_lit (l := 0) (h := 0) (by decide)) (by decide)) (by decide)).elim
          · skip
            refine ⟨iv_in (iv_lta (l := 0) (h := 8) (r_nle c1) hx6 (iv_lit (l := 9) (h := 9) (by decide)) (by decide)) (by decide), ?_⟩
            intro w7 ew7
            have hw7 := iv_eq ew7 (iv_or 9 (l := 0) (h := 511) hx5 (iv_andl (l := 0) (h := 511) (k_a_open _) (by decide)) (by decide))
            exact s_wn_X7_reach_5_49 k_a_open hx2 hx3 hx4 hw7 (iv_lta (l := 0) (h := 8) (r_nle c1) hx6 (iv_lit (l := 9) (h := 9) (by decide)) (by decide)) m7 hm7 hP7 x6.toInt (Int.le_refl _) (fun u0 u1 hq g0 g1 => ih u0 u1 (ms_up hm hq) g0 g1) hpost
  exact loop _ _ _ (ms_init_up _ _) hx5 hx6
set_option maxRecDepth 20000 in
theorem s_wn_X7_reach_5_7 {a_open : Nat → Int32} {x2 : Int32} {x3 : Int32} {x4 : Int32} {post : Int32 → Prop} (k_a_open : ∀ j, iv 0 511 (a_open j)) (hx2 : iv 0 0 x2) (hx3 : iv 0 511 x3) (hx4 : iv 0 9 x4) (hpost : ∀ (r : Int32), iv 0 511 r → post r) : q_wn_X7_reach_5_7 a_open x2 x3 x4 post := by
  intro P hP
  have loop : ∀ (n : Nat) (x3 : Int32) (x4 : Int32), (9 - x4.toInt < (n : Int)) → (iv 0 511 x3) → (iv 0 9 x4) → P x3 x4 := by
    intro n
    induction n with
    | zero => intro x3 x4 hm hx3 hx4; exact (ms0_up hm hx4).elim
    | succ n ih =>
      intro x3 x4 hm hx3 hx4
      apply hP
      refine ⟨fun c1 => ?_, fun c1 => ?_⟩
      · skip
        exact hpost _ hx3
      · skip
        exact s_wn_X7_reach_5_20 k_a_open hx2 hx3 (iv_lta (l := 0) (h := 8) (r_nle c1) hx4 (iv_lit (l := 9) (h := 9) (by decide)) (by decide)) hx3 (iv_w (iv_lit (l := 0) (h := 0) (by decide)) (by decide)) x4.toInt (Int.le_refl _) (fun u0 u1 hq g0 g1 => ih u0 u1 (ms_up hm hq) g0 g1) hpost
  exact loop _ _ _ (ms_init_up _ _) hx3 hx4
set_option maxRecDepth 20000 in
theorem s_wn_X7_reach_5_0 {a_open : Nat → Int32} {x0 : Int32} {x2 : Int32} {post : Int32 → Prop} (k_a_open : ∀ j, iv 0 511 (a_open j)) (hx0 : iv 0 8 x0) (hx2 : iv 0 0 x2) (hpost : ∀ (r : Int32), iv 0 511 r → post r) : q_wn_X7_reach_5_0 a_open x0 x2 post := by
  intro w1 ew1
  have hw1 := iv_eq ew1 (iv_shl1 (l := 1) (h := 256) (iv_lit (l := 1) (h := 1) (by decide)) hx0 (by decide))
  exact s_wn_X7_reach_5_7 k_a_open hx2 (iv_w hw1 (by decide)) (iv_w (iv_lit (l := 0) (h := 0) (by decide)) (by decide)) hpost
-- wn_X3_lowest_6
set_option maxRecDepth 20000 in
theorem s_wn_X3_lowest_6_71 {P23 : Int32 → Int32 → Prop} {a_huts : Nat → Int32} {a_open : Nat → Int32} {lf_huts : Int32} {lf_dams : Int32} {la_heights : Nat → Int32} {la_talls : Nat → Int32} {x2 : Int32} {x3 : Int32} {x4 : Int32} {x5 : Int32} {post : Int32 → Prop} (k_a_huts : ∀ j, iv 0 8 (a_huts j)) (k_a_open : ∀ j, iv 0 511 (a_open j)) (k_lf_huts : iv 1 9 lf_huts) (k_lf_dams : iv 0 511 lf_dams) (k_la_heights : ∀ j, iv 0 99 (la_heights j)) (k_la_talls : ∀ j, iv 0 9 (la_talls j)) (hx2 : iv 0 5 x2) (hx3 : iv 0 511 x3) (hx4 : iv (-9) 1000 x4) (hx5 : iv 0 8 x5) (m23 : Int) (hm23 : m23 ≤ x5.toInt) (hP23 : ∀ (x4 : Int32) (x5 : Int32), m23 < x5.toInt → iv (-9) 1000 x4 → iv 0 9 x5 → P23 x4 x5) (hpost : ∀ (r : Int32), iv (-9) 1000 r → post r) : q_wn_X3_lowest_6_71 P23 a_huts a_open lf_huts lf_dams la_heights la_talls x2 x3 x4 x5 post := by
  intro w1 ew1
  have hw1 := iv_eq ew1 (iv_add (l := 1) (h := 9) hx5 (iv_lit (l := 1) (h := 1) (by decide)) (by decide))
  exact hP23 _ _ (ml_up hm23 (inc_lt ew1 hx5 (by decide))) hx4 (iv_w hw1 (by decide))
set_option maxRecDepth 20000 in
theorem s_wn_X3_lowest_6_23 {a_huts : Nat → Int32} {a_open : Nat → Int32} {lf_huts : Int32} {lf_dams : Int32} {la_heights : Nat → Int32} {la_talls : Nat → Int32} {x2 : Int32} {x3 : Int32} {x4 : Int32} {x5 : Int32} {post : Int32 → Prop} (k_a_huts : ∀ j, iv 0 8 (a_huts j)) (k_a_open : ∀ j, iv 0 511 (a_open j)) (k_lf_huts : iv 0 9 lf_huts) (k_lf_dams : iv 0 511 lf_dams) (k_la_heights : ∀ j, iv 0 99 (la_heights j)) (k_la_talls : ∀ j, iv 0 9 (la_talls j)) (hx2 : iv 0 5 x2) (hx3 : iv 0 511 x3) (hx4 : iv (-9) 1000 x4) (hx5 : iv 0 9 x5) (hpost : ∀ (r : Int32), iv (-9) 1000 r → post r) : q_wn_X3_lowest_6_23 a_huts a_open lf_huts lf_dams la_heights la_talls x2 x3 x4 x5 post := by
  intro P hP
  have loop : ∀ (n : Nat) (x4 : Int32) (x5 : Int32), (9 - x5.toInt < (n : Int)) → (iv (-9) 1000 x4) → (iv 0 9 x5) → P x4 x5 := by
    intro n
    induction n with
    | zero => intro x4 x5 hm hx4 hx5; exact (ms0_up hm hx5).elim
    | succ n ih =>
      intro x4 x5 hm hx4 hx5
      apply hP
      refine ⟨fun c1 => ?_, fun c1 => ?_⟩
      · skip
        exact hpost _ hx4
      · skip
        refine ⟨fun c2 => ?_, fun c2 => ?_⟩
        · skip
          refine ⟨fun c3 => ?_, fun c3 => ?_⟩
          · skip
            exact s_wn_X3_lowest_6_71 k_a_huts k_a_open (iv_ltb (l := 1) (h := 9) (r_nle c1) hx5 k_lf_huts (by decide)) k_lf_dams k_la_heights k_la_talls hx2 hx3 hx4 (iv_lta (l := 0) (h := 8) (r_nle c1) hx5 k_lf_huts (by decide)) x5.toInt (Int.le_refl _) (fun u0 u1 hq g0 g1 => ih u0 u1 (ms_up hm hq) g0 g1) hpost
          · skip
            exact (iv_emp (iv_ne (l := 1) (h := 0) c3 (iv_lit (l := 0) (h := 0) (by decide)) (iv_lit (l := 0) (h := 0) (by decide)) (by decide)) (by decide)).elim
        · skip
          refine ⟨fun c4 => ?_, fun c4 => ?_⟩
          · skip
            exact (iv_emp (iv_eqa (l := 1) (h := 0) c4 (iv_lit (l := 1) (h := 1) (by decide)) (iv_lit (l := 0) (h := 0) (by decide)) (by decide)) (by decide)).elim
          · skip
            refine ⟨fun c5 => ?_, fun c5 => ?_⟩
            · skip
              refine ⟨fun c6 => ?_, fun c6 => ?_⟩
              · skip
                exact (iv_emp (iv_ne (l := 1) (h := 0) c6 (iv_lit (l := 0) (h := 0) (by decide)) (iv_lit (l := 0) (h := 0) (by decide)) (by decide)) (by decide)).elim
              · skip
                refine ⟨iv_in (iv_lta (l := 0) (h := 8) (r_nle c1) hx5 k_lf_huts (by decide)) (by decide), ?_⟩
                refine ⟨iv_in hx2 (by decide), ?_⟩
                intro w7 ew7
                have hw7 := iv_eq ew7 (iv_min (l := (-9)) (h := 99) hx4 (iv_sub (l := (-9)) (h := 99) (k_la_heights _) (k_la_talls _) (by decide)) (by decide))
                exact s_wn_X3_lowest_6_71 k_a_huts k_a_open (iv_ltb (l := 1) (h := 9) (r_nle c1) hx5 k_lf_huts (by decide)) k_lf_dams k_la_heights k_la_talls hx2 hx3 (iv_w hw7 (by decide)) (iv_lta (l := 0) (h := 8) (r_nle c1) hx5 k_lf_huts (by decide)) x5.toInt (Int.le_refl _) (fun u0 u1 hq g0 g1 => ih u0 u1 (ms_up hm hq) g0 g1) hpost
            · skip
              refine ⟨fun c8 => ?_, fun c8 => ?_⟩
              · skip
                exact s_wn_X3_lowest_6_71 k_a_huts k_a_open (iv_ltb (l := 1) (h := 9) (r_nle c1) hx5 k_lf_huts (by decide)) k_lf_dams k_la_heights k_la_talls hx2 hx3 hx4 (iv_lta (l := 0) (h := 8) (r_nle c1) hx5 k_lf_huts (by decide)) x5.toInt (Int.le_refl _) (fun u0 u1 hq g0 g1 => ih u0 u1 (ms_up hm hq) g0 g1) hpost
              · skip
                exact (iv_emp (iv_eqa (l := 1) (h := 0) c8 (iv_lit (l := 1) (h := 1) (by decide)) (iv_lit (l := 0) (h := 0) (by decide)) (by decide)) (by decide)).elim
  exact loop _ _ _ (ms_init_up _ _) hx4 hx5
set_option maxRecDepth 20000 in
theorem s_wn_X3_lowest_6_0 {a_huts : Nat → Int32} {a_open : Nat → Int32} {lf_huts : Int32} {lf_dams : Int32} {la_heights : Nat → Int32} {la_talls : Nat → Int32} {x2 : Int32} {post : Int32 → Prop} (k_a_huts : ∀ j, iv 0 8 (a_huts j)) (k_a_open : ∀ j, iv 0 511 (a_open j)) (k_lf_huts : iv 0 9 lf_huts) (k_lf_dams : iv 0 511 lf_dams) (k_la_heights : ∀ j, iv 0 99 (la_heights j)) (k_la_talls : ∀ j, iv 0 9 (la_talls j)) (hx2 : iv 0 5 x2) (hpost : ∀ (r : Int32), iv (-9) 1000 r → post r) : q_wn_X3_lowest_6_0 a_huts a_open lf_huts lf_dams la_heights la_talls x2 post := by
  refine ⟨iv_in hx2 (by decide), ?_⟩
  refine s_wn_X7_reach_5_0 k_a_open (k_a_huts _) (iv_lit (l := 0) (h := 0) (by decide)) (fun r1 hr1 => ?_)
  exact s_wn_X3_lowest_6_23 k_a_huts k_a_open k_lf_huts k_lf_dams k_la_heights k_la_talls hx2 hr1 (iv_w (iv_lit (l := 1000) (h := 1000) (by decide)) (by decide)) (iv_w (iv_lit (l := 0) (h := 0) (by decide)) (by decide)) hpost
-- wn_X3_doneFor_6
set_option maxRecDepth 20000 in
theorem s_wn_X3_doneFor_6_72 {P12 : Int32 → Int32 → Prop} {P31 : Int32 → Int32 → Prop} {f_begun : Int32} {a_huts : Nat → Int32} {a_known : Nat → Int32} {a_levels : Nat → Int32} {a_snow : Nat → Int32} {a_open : Nat → Int32} {lf_huts : Int32} {lf_singers : Int32} {lf_dams : Int32} {lf_deep : Int32} {la_heights : Nat → Int32} {la_minutes : Nat → Int32} {la_talls : Nat → Int32} {x2 : Int32} {x3 : Int32} {x4 : Int32} {x5 : Int32} {post : Int32 → (Nat → Int32) → Prop} (k_f_begun : iv 0 31 f_begun) (k_a_huts : ∀ j, iv 0 8 (a_huts j)) (k_a_known : ∀ j, iv 0 31 (a_known j)) (k_a_levels : ∀ j, iv (-9) 122 (a_levels j)) (k_a_open : ∀ j, iv 0 511 (a_open j)) (k_lf_huts : iv 0 9 lf_huts) (k_lf_singers : iv 1 6 lf_singers) (k_lf_dams : iv 0 511 lf_dams) (k_lf_deep : iv 1 9 lf_deep) (k_la_heights : ∀ j, iv 0 99 (la_heights j)) (k_la_minutes : ∀ j, iv 0 9 (la_minutes j)) (k_la_talls : ∀ j, iv 0 9 (la_talls j)) (hx2 : iv 0 31 x2) (hx3 : iv 0 5 x3) (hx4 : iv (-9) 1000 x4) (hx5 : iv 0 4 x5) (m12 : Int) (hm12 : m12 ≤ x3.toInt) (hP12 : ∀ (x2 : Int32) (x3 : Int32), m12 < x3.toInt → iv 0 31 x2 → iv 0 6 x3 → P12 x2 x3) (m31 : Int) (hm31 : m31 ≤ x5.toInt) (hP31 : ∀ (x2 : Int32) (x5 : Int32), m31 < x5.toInt → iv 0 31 x2 → iv 0 5 x5 → P31 x2 x5) (hpost : ∀ (r : Int32) (a_open : Nat → Int32), iv 0 31 r → (∀ j, iv 0 511 (a_open j)) → post r a_open) : q_wn_X3_doneFor_6_72 P12 P31 f_begun a_huts a_known a_levels a_snow a_open lf_huts lf_singers lf_dams lf_deep la_heights la_minutes la_talls x2 x3 x4 x5 post := by
  intro w1 ew1
  have hw1 := iv_eq ew1 (iv_add (l := 1) (h := 5) hx5 (iv_lit (l := 1) (h := 1) (by decide)) (by decide))
  exact hP31 _ _ (ml_up hm31 (inc_lt ew1 hx5 (by decide))) hx2 (iv_w hw1 (by decide))
set_option maxRecDepth 20000 in
theorem s_wn_X3_doneFor_6_31 {P12 : Int32 → Int32 → Prop} {f_begun : Int32} {a_huts : Nat → Int32} {a_known : Nat → Int32} {a_levels : Nat → Int32} {a_snow : Nat → Int32} {a_open : Nat → Int32} {lf_huts : Int32} {lf_singers : Int32} {lf_dams : Int32} {lf_deep : Int32} {la_heights : Nat → Int32} {la_minutes : Nat → Int32} {la_talls : Nat → Int32} {x2 : Int32} {x3 : Int32} {x4 : Int32} {x5 : Int32} {post : Int32 → (Nat → Int32) → Prop} (k_f_begun : iv 0 31 f_begun) (k_a_huts : ∀ j, iv 0 8 (a_huts j)) (k_a_known : ∀ j, iv 0 31 (a_known j)) (k_a_levels : ∀ j, iv (-9) 122 (a_levels j)) (k_a_open : ∀ j, iv 0 511 (a_open j)) (k_lf_huts : iv 0 9 lf_huts) (k_lf_singers : iv 1 6 lf_singers) (k_lf_dams : iv 0 511 lf_dams) (k_lf_deep : iv 1 9 lf_deep) (k_la_heights : ∀ j, iv 0 99 (la_heights j)) (k_la_minutes : ∀ j, iv 0 9 (la_minutes j)) (k_la_talls : ∀ j, iv 0 9 (la_talls j)) (hx2 : iv 0 31 x2) (hx3 : iv 0 5 x3) (hx4 : iv (-9) 1000 x4) (hx5 : iv 0 5 x5) (m12 : Int) (hm12 : m12 ≤ x3.toInt) (hP12 : ∀ (x2 : Int32) (x3 : Int32), m12 < x3.toInt → iv 0 31 x2 → iv 0 6 x3 → P12 x2 x3) (hpost : ∀ (r : Int32) (a_open : Nat → Int32), iv 0 31 r → (∀ j, iv 0 511 (a_open j)) → post r a_open) : q_wn_X3_doneFor_6_31 P12 f_begun a_huts a_known a_levels a_snow a_open lf_huts lf_singers lf_dams lf_deep la_heights la_minutes la_talls x2 x3 x4 x5 post := by
  intro P hP
  have loop : ∀ (n : Nat) (x2 : Int32) (x5 : Int32), (5 - x5.toInt < (n : Int)) → (iv 0 31 x2) → (iv 0 5 x5) → P x2 x5 := by
    intro n
    induction n with
    | zero => intro x2 x5 hm hx2 hx5; exact (ms0_up hm hx5).elim
    | succ n ih =>
      intro x2 x5 hm hx2 hx5
      apply hP
      refine ⟨fun c1 => ?_, fun c1 => ?_⟩
      · skip
        intro w2 ew2
        have hw2 := iv_eq ew2 (iv_add (l := 1) (h := 6) hx3 (iv_lit (l := 1) (h := 1) (by decide)) (by decide))
        exact hP12 _ _ (ml_up hm12 (inc_lt ew2 hx3 (by decide))) hx2 (iv_w hw2 (by decide))
      · skip
        refine ⟨iv_in hx3 (by decide), ?_⟩
        refine ⟨fun c3 => ?_, fun c3 => ?_⟩
        · skip
          refine ⟨fun c4 => ?_, fun c4 => ?_⟩
          · skip
            exact s_wn_X3_doneFor_6_72 k_f_begun k_a_huts k_a_known k_a_levels k_a_open k_lf_huts k_lf_singers k_lf_dams k_lf_deep k_la_heights k_la_minutes k_la_talls hx2 hx3 hx4 (iv_lta (l := 0) (h := 4) (r_nle c1) hx5 (iv_lit (l := 5) (h := 5) (by decide)) (by decide)) m12 hm12 hP12 x5.toInt (Int.le_refl _) (fun u0 u1 hq g0 g1 => ih u0 u1 (ms_up hm hq) g0 g1) hpost
          · skip
            exact (iv_emp (iv_ne (l := 1) (h := 0) c4 (iv_lit (l := 0) (h := 0) (by decide)) (iv_lit (l := 0) (h := 0) (by decide)) (by decide)) (by decide)).elim
        · skip
          refine ⟨fun c5 => ?_, fun c5 => ?_⟩
          · skip
            exact (iv_emp (iv_eqa (l := 1) (h := 0) c5 (iv_lit (l := 1) (h := 1) (by decide)) (iv_lit (l := 0) (h := 0) (by decide)) (by decide)) (by decide)).elim
          · skip
            refine ⟨iv_in (iv_lta (l := 0) (h := 4) (r_nle c1) hx5 (iv_lit (l := 5) (h := 5) (by decide)) (by decide)) (by decide), ?_⟩
            refine ⟨fun c6 => ?_, fun c6 => ?_⟩
            · skip
              exact s_wn_X3_doneFor_6_72 k_f_begun k_a_huts k_a_known k_a_levels k_a_open k_lf_huts k_lf_singers k_lf_dams k_lf_deep k_la_heights k_la_minutes k_la_talls hx2 hx3 hx4 (iv_lta (l := 0) (h := 4) (r_nle c1) hx5 (iv_lit (l := 5) (h := 5) (by decide)) (by decide)) m12 hm12 hP12 x5.toInt (Int.le_refl _) (fun u0 u1 hq g0 g1 => ih u0 u1 (ms_up hm hq) g0 g1) hpost
            · skip
              intro w7 ew7
              have hw7 := iv_eq ew7 (iv_andl (l := 0) (h := 31) hx2 (by decide))
              exact s_wn_X3_doneFor_6_72 k_f_begun k_a_huts k_a_known k_a_levels k_a_open k_lf_huts k_lf_singers k_lf_dams k_lf_deep k_la_heights k_la_minutes k_la_talls hw7 hx3 (iv_w (iv_lta (l := (-9)) (h := 121) (r_nle c6) hx4 (k_a_levels _) (by decide)) (by decide)) (iv_lta (l := 0) (h := 4) (r_nle c1) hx5 (iv_lit (l := 5) (h := 5) (by decide)) (by decide)) m12 hm12 hP12 x5.toInt (Int.le_refl _) (fun u0 u1 hq g0 g1 => ih u0 u1 (ms_up hm hq) g0 g1) hpost
  exact loop _ _ _ (ms_init_up _ _) hx2 hx5
set_option maxRecDepth 20000 in
theorem s_wn_X3_doneFor_6_12 {f_begun : Int32} {a_huts : Nat → Int32} {a_known : Nat → Int32} {a_levels : Nat → Int32} {a_snow : Nat → Int32} {a_open : Nat → Int32} {lf_huts : Int32} {lf_singers : Int32} {lf_dams : Int32} {lf_deep : Int32} {la_heights : Nat → Int32} {la_minutes : Nat → Int32} {la_talls : Nat → Int32} {x2 : Int32} {x3 : Int32} {post : Int32 → (Nat → Int32) → Prop} (k_f_begun : iv 0 31 f_begun) (k_a_huts : ∀ j, iv 0 8 (a_huts j)) (k_a_known : ∀ j, iv 0 31 (a_known j)) (k_a_levels : ∀ j, iv (-9) 122 (a_levels j)) (k_a_open : ∀ j, iv 0 511 (a_open j)) (k_lf_huts : iv 0 9 lf_huts) (k_lf_singers : iv 0 6 lf_singers) (k_lf_dams : iv 0 511 lf_dams) (k_lf_deep : iv 1 9 lf_deep) (k_la_heights : ∀ j, iv 0 99 (la_heights j)) (k_la_minutes : ∀ j, iv 0 9 (la_minutes j)) (k_la_talls : ∀ j, iv 0 9 (la_talls j)) (hx2 : iv 0 31 x2) (hx3 : iv 0 6 x3) (hpost : ∀ (r : Int32) (a_open : Nat → Int32), iv 0 31 r → (∀ j, iv 0 511 (a_open j)) → post r a_open) : q_wn_X3_doneFor_6_12 f_begun a_huts a_known a_levels a_snow a_open lf_huts lf_singers lf_dams lf_deep la_heights la_minutes la_talls x2 x3 post := by
  intro P hP
  have loop : ∀ (n : Nat) (x2 : Int32) (x3 : Int32), (6 - x3.toInt < (n : Int)) → (iv 0 31 x2) → (iv 0 6 x3) → P x2 x3 := by
    intro n
    induction n with
    | zero => intro x2 x3 hm hx2 hx3; exact (ms0_up hm hx3).elim
    | succ n ih =>
      intro x2 x3 hm hx2 hx3
      apply hP
      refine ⟨fun c1 => ?_, fun c1 => ?_⟩
      · skip
        exact hpost _ _ hx2 k_a_open
      · skip
        refine s_wn_X3_lowest_6_0 k_a_huts k_a_open k_lf_huts k_lf_dams k_la_heights k_la_talls (iv_lta (l := 0) (h := 5) (r_nle c1) hx3 k_lf_singers (by decide)) (fun r2 hr2 => ?_)
        exact s_wn_X3_doneFor_6_31 k_f_begun k_a_huts k_a_known k_a_levels k_a_open k_lf_huts (iv_ltb (l := 1) (h := 6) (r_nle c1) hx3 k_lf_singers (by decide)) k_lf_dams k_lf_deep k_la_heights k_la_minutes k_la_talls hx2 (iv_lta (l := 0) (h := 5) (r_nle c1) hx3 k_lf_singers (by decide)) hr2 (iv_w (iv_lit (l := 0) (h := 0) (by decide)) (by decide)) x3.toInt (Int.le_refl _) (fun u0 u1 hq g0 g1 => ih u0 u1 (ms_up hm hq) g0 g1) hpost
  exact loop _ _ _ (ms_init_up _ _) hx2 hx3
set_option maxRecDepth 20000 in
theorem s_wn_X3_doneFor_6_0 {f_begun : Int32} {a_huts : Nat → Int32} {a_known : Nat → Int32} {a_levels : Nat → Int32} {a_snow : Nat → Int32} {a_open : Nat → Int32} {lf_huts : Int32} {lf_singers : Int32} {lf_dams : Int32} {lf_deep : Int32} {la_heights : Nat → Int32} {la_minutes : Nat → Int32} {la_talls : Nat → Int32} {post : Int32 → (Nat → Int32) → Prop} (k_f_begun : iv 0 31 f_begun) (k_a_huts : ∀ j, iv 0 8 (a_huts j)) (k_a_known : ∀ j, iv 0 31 (a_known j)) (k_a_levels : ∀ j, iv (-9) 122 (a_levels j)) (k_a_open : ∀ j, iv 0 511 (a_open j)) (k_lf_huts : iv 0 9 lf_huts) (k_lf_singers : iv 0 6 lf_singers) (k_lf_dams : iv 0 511 lf_dams) (k_lf_deep : iv 1 9 lf_deep) (k_la_heights : ∀ j, iv 0 99 (la_heights j)) (k_la_minutes : ∀ j, iv 0 9 (la_minutes j)) (k_la_talls : ∀ j, iv 0 9 (la_talls j)) (hpost : ∀ (r : Int32) (a_open : Nat → Int32), iv 0 31 r → (∀ j, iv 0 511 (a_open j)) → post r a_open) : q_wn_X3_doneFor_6_0 f_begun a_huts a_known a_levels a_snow a_open lf_huts lf_singers lf_dams lf_deep la_heights la_minutes la_talls post := by
  refine s_wn_X3_openWays_6_0 k_a_open k_lf_huts k_lf_deep k_la_minutes (fun o1 k_o1 => ?_)
  exact s_wn_X3_doneFor_6_12 k_f_begun k_a_huts k_a_known k_a_levels k_o1 k_lf_huts k_lf_singers k_lf_dams k_lf_deep k_la_heights k_la_minutes k_la_talls k_f_begun (iv_w (iv_lit (l := 0) (h := 0) (by decide)) (by decide)) hpost
-- wn_X3_seers_6
set_option maxRecDepth 20000 in
theorem s_wn_X3_seers_6_34 {P4 : Int32 → Int32 → Prop} {f_begun : Int32} {a_known : Nat → Int32} {lf_singers : Int32} {x2 : Int32} {x3 : Int32} {post : Int32 → Prop} (k_f_begun : iv 0 31 f_begun) (k_a_known : ∀ j, iv 0 31 (a_known j)) (k_lf_singers : iv 1 6 lf_singers) (hx2 : iv 0 63 x2) (hx3 : iv 0 5 x3) (m4 : Int) (hm4 : m4 ≤ x3.toInt) (hP4 : ∀ (x2 : Int32) (x3 : Int32), m4 < x3.toInt → iv 0 63 x2 → iv 0 6 x3 → P4 x2 x3) (hpost : ∀ (r : Int32), iv 0 63 r → post r) : q_wn_X3_seers_6_34 P4 f_begun a_known lf_singers x2 x3 post := by
  intro w1 ew1
  have hw1 := iv_eq ew1 (iv_add (l := 1) (h := 6) hx3 (iv_lit (l := 1) (h := 1) (by decide)) (by decide))
  exact hP4 _ _ (ml_up hm4 (inc_lt ew1 hx3 (by decide))) hx2 (iv_w hw1 (by decide))
set_option maxRecDepth 20000 in
theorem s_wn_X3_seers_6_4 {f_begun : Int32} {a_known : Nat → Int32} {lf_singers : Int32} {x2 : Int32} {x3 : Int32} {post : Int32 → Prop} (k_f_begun : iv 0 31 f_begun) (k_a_known : ∀ j, iv 0 31 (a_known j)) (k_lf_singers : iv 0 6 lf_singers) (hx2 : iv 0 63 x2) (hx3 : iv 0 6 x3) (hpost : ∀ (r : Int32), iv 0 63 r → post r) : q_wn_X3_seers_6_4 f_begun a_known lf_singers x2 x3 post := by
  intro P hP
  have loop : ∀ (n : Nat) (x2 : Int32) (x3 : Int32), (6 - x3.toInt < (n : Int)) → (iv 0 63 x2) → (iv 0 6 x3) → P x2 x3 := by
    intro n
    induction n with
    | zero => intro x2 x3 hm hx2 hx3; exact (ms0_up hm hx3).elim
    | succ n ih =>
      intro x2 x3 hm hx2 hx3
      apply hP
      refine ⟨fun c1 => ?_, fun c1 => ?_⟩
      · skip
        exact hpost _ hx2
      · skip
        refine ⟨iv_in (iv_lta (l := 0) (h := 5) (r_nle c1) hx3 k_lf_singers (by decide)) (by decide), ?_⟩
        refine ⟨fun c2 => ?_, fun c2 => ?_⟩
        · skip
          exact s_wn_X3_seers_6_34 k_f_begun k_a_known (iv_ltb (l := 1) (h := 6) (r_nle c1) hx3 k_lf_singers (by decide)) hx2 (iv_lta (l := 0) (h := 5) (r_nle c1) hx3 k_lf_singers (by decide)) x3.toInt (Int.le_refl _) (fun u0 u1 hq g0 g1 => ih u0 u1 (ms_up hm hq) g0 g1) hpost
        · skip
          intro w3 ew3
          have hw3 := iv_eq ew3 (iv_or 6 (l := 0) (h := 63) hx2 (iv_shl1 (l := 1) (h := 32) (iv_lit (l := 1) (h := 1) (by decide)) (iv_lta (l := 0) (h := 5) (r_nle c1) hx3 k_lf_singers (by decide)) (by decide)) (by decide))
          exact s_wn_X3_seers_6_34 k_f_begun k_a_known (iv_ltb (l := 1) (h := 6) (r_nle c1) hx3 k_lf_singers (by decide)) hw3 (iv_lta (l := 0) (h := 5) (r_nle c1) hx3 k_lf_singers (by decide)) x3.toInt (Int.le_refl _) (fun u0 u1 hq g0 g1 => ih u0 u1 (ms_up hm hq) g0 g1) hpost
  exact loop _ _ _ (ms_init_up _ _) hx2 hx3
set_option maxRecDepth 20000 in
theorem s_wn_X3_seers_6_0 {f_begun : Int32} {a_known : Nat → Int32} {lf_singers : Int32} {post : Int32 → Prop} (k_f_begun : iv 0 31 f_begun) (k_a_known : ∀ j, iv 0 31 (a_known j)) (k_lf_singers : iv 0 6 lf_singers) (hpost : ∀ (r : Int32), iv 0 63 r → post r) : q_wn_X3_seers_6_0 f_begun a_known lf_singers post := by
  exact s_wn_X3_seers_6_4 k_f_begun k_a_known k_lf_singers (iv_w (iv_lit (l := 0) (h := 0) (by decide)) (by decide)) (iv_w (iv_lit (l := 0) (h := 0) (by decide)) (by decide)) hpost
-- wn_X3_look_6
set_option maxRecDepth 20000 in
theorem s_wn_X3_look_6_135 {f_minute : Int32} {f_avalanches : Int32} {f_begun : Int32} {f_climbed : Int32} {a_huts : Nat → Int32} {a_known : Nat → Int32} {a_levels : Nat → Int32} {a_snow : Nat → Int32} {a_open : Nat → Int32} {lf_huts : Int32} {lf_singers : Int32} {lf_dams : Int32} {lf_deep : Int32} {la_heights : Nat → Int32} {la_ladders : Nat → Int32} {la_minutes : Nat → Int32} {la_talls : Nat → Int32} {x2 : Int32} {x3 : Int32} {post : Int32 → (Nat → Int32) → Prop} (k_f_begun : iv 0 31 f_begun) (k_f_climbed : iv 0 63 f_climbed) (k_a_huts : ∀ j, iv 0 8 (a_huts j)) (k_a_known : ∀ j, iv 0 31 (a_known j)) (k_a_levels : ∀ j, iv (-9) 122 (a_levels j)) (k_a_open : ∀ j, iv 0 511 (a_open j)) (k_lf_huts : iv 0 9 lf_huts) (k_lf_singers : iv 0 6 lf_singers) (k_lf_dams : iv 0 511 lf_dams) (k_lf_deep : iv 1 9 lf_deep) (k_la_heights : ∀ j, iv 0 99 (la_heights j)) (k_la_ladders : ∀ j, iv 0 9 (la_ladders j)) (k_la_minutes : ∀ j, iv 0 9 (la_minutes j)) (k_la_talls : ∀ j, iv 0 9 (la_talls j)) (hx2 : iv 0 79 x2) (hx3 : iv 0 9 x3) (hpost : ∀ (r : Int32) (a_open : Nat → Int32), (∀ j, iv 0 511 (a_open j)) → post r a_open) : q_wn_X3_look_6_135 f_minute f_avalanches f_begun f_climbed a_huts a_known a_levels a_snow a_open lf_huts lf_singers lf_dams lf_deep la_heights la_ladders la_minutes la_talls x2 x3 post := by
  refine ⟨fun c1 => ?_, fun c1 => ?_⟩
  · skip
    exact (iv_emp (iv_lta (l := 0) (h := (-1)) (r_lt c1) hx3 (iv_lit (l := 0) (h := 0) (by decide)) (by decide)) (by decide)).elim
  · skip
    refine ⟨fun c2 => ?_, fun c2 => ?_⟩
    · skip
      refine ⟨fun c3 => ?_, fun c3 => ?_⟩
      · skip
        exact hpost _ _ k_a_open
      · skip
        exact (iv_emp (iv_ne (l := 1) (h := 0) c3 (iv_lit (l := 0) (h := 0) (by decide)) (iv_lit (l := 0) (h := 0) (by decide)) (by decide)) (by decide)).elim
    · skip
      refine ⟨fun c4 => ?_, fun c4 => ?_⟩
      · skip
        exact (iv_emp (iv_eqa (l := 1) (h := 0) c4 (iv_lit (l := 1) (h := 1) (by decide)) (iv_lit (l := 0) (h := 0) (by decide)) (by decide)) (by decide)).elim
      · skip
        refine ⟨fun c5 => ?_, fun c5 => ?_, fun c5 => ?_, fun c5 => ?_⟩
        · skip
          refine ⟨iv_in (iv_lta (l := 0) (h := 5) (r_nle c2) hx3 k_lf_singers (by decide)) (by decide), ?_⟩
          intro w6 ew6
          have hw6 := iv_eq ew6 (k_a_huts _)
          refine ⟨iv_in hw6 (by decide), ?_⟩
          refine ⟨iv_in (iv_lta (l := 0) (h := 5) (r_nle c2) hx3 k_lf_singers (by decide)) (by decide), ?_⟩
          intro w7 ew7
          have hw7 := iv_eq ew7 (iv_sub (l := (-9)) (h := 99) (k_la_heights _) (k_la_talls _) (by decide))
          refine ⟨fun c8 => ?_, fun c8 => ?_⟩
          · skip
            refine ⟨fun c9 => ?_, fun c9 => ?_⟩
            · skip
              exact hpost _ _ k_a_open
            · skip
              exact (iv_emp (iv_ne (l := 1) (h := 0) c9 (iv_lit (l := 0) (h := 0) (by decide)) (iv_lit (l := 0) (h := 0) (by decide)) (by decide)) (by decide)).elim
          · skip
            refine ⟨fun c10 => ?_, fun c10 => ?_⟩
            · skip
              exact (iv_emp (iv_eqa (l := 1) (h := 0) c10 (iv_lit (l := 1) (h := 1) (by decide)) (iv_lit (l := 0) (h := 0) (by decide)) (by decide)) (by decide)).elim
            · skip
              refine ⟨iv_in hw6 (by decide), ?_⟩
              exact hpost _ _ k_a_open
        · skip
          refine ⟨iv_in (iv_lta (l := 0) (h := 5) (r_nle c2) hx3 k_lf_singers (by decide)) (by decide), ?_⟩
          exact hpost _ _ k_a_open
        · skip
          refine ⟨iv_in (iv_lta (l := 0) (h := 5) (r_nle c2) hx3 k_lf_singers (by decide)) (by decide), ?_⟩
          exact hpost _ _ k_a_open
        · skip
          refine ⟨fun c11 => ?_, fun c11 => ?_⟩
          · skip
            refine ⟨fun c12 => ?_, fun c12 => ?_⟩
            · skip
              exact hpost _ _ k_a_open
            · skip
              exact (iv_emp (iv_ne (l := 1) (h := 0) c12 (iv_lit (l := 0) (h := 0) (by decide)) (iv_lit (l := 0) (h := 0) (by decide)) (by decide)) (by decide)).elim
          · skip
            refine ⟨fun c13 => ?_, fun c13 => ?_⟩
            · skip
              exact (iv_emp (iv_eqa (l := 1) (h := 0) c13 (iv_lit (l := 1) (h := 1) (by decide)) (iv_lit (l := 0) (h := 0) (by decide)) (by decide)) (by decide)).elim
            · skip
              exact hpost _ _ k_a_open
set_option maxRecDepth 20000 in
theorem s_wn_X3_look_6_0 {f_minute : Int32} {f_avalanches : Int32} {f_begun : Int32} {f_climbed : Int32} {a_huts : Nat → Int32} {a_known : Nat → Int32} {a_levels : Nat → Int32} {a_snow : Nat → Int32} {a_open : Nat → Int32} {lf_huts : Int32} {lf_singers : Int32} {lf_dams : Int32} {lf_deep : Int32} {la_heights : Nat → Int32} {la_ladders : Nat → Int32} {la_minutes : Nat → Int32} {la_talls : Nat → Int32} {x2 : Int32} {post : Int32 → (Nat → Int32) → Prop} (k_f_begun : iv 0 31 f_begun) (k_f_climbed : iv 0 63 f_climbed) (k_a_huts : ∀ j, iv 0 8 (a_huts j)) (k_a_known : ∀ j, iv 0 31 (a_known j)) (k_a_levels : ∀ j, iv (-9) 122 (a_levels j)) (k_a_open : ∀ j, iv 0 511 (a_open j)) (k_lf_huts : iv 0 9 lf_huts) (k_lf_singers : iv 0 6 lf_singers) (k_lf_dams : iv 0 511 lf_dams) (k_lf_deep : iv 1 9 lf_deep) (k_la_heights : ∀ j, iv 0 99 (la_heights j)) (k_la_ladders : ∀ j, iv 0 9 (la_ladders j)) (k_la_minutes : ∀ j, iv 0 9 (la_minutes j)) (k_la_talls : ∀ j, iv 0 9 (la_talls j)) (hpost : ∀ (r : Int32) (a_open : Nat → Int32), (∀ j, iv 0 511 (a_open j)) → post r a_open) : q_wn_X3_look_6_0 f_minute f_avalanches f_begun f_climbed a_huts a_known a_levels a_snow a_open lf_huts lf_singers lf_dams lf_deep la_heights la_ladders la_minutes la_talls x2 post := by
  refine ⟨fun c1 => ?_, fun c1 => ?_⟩
  · skip
    exact hpost _ _ k_a_open
  · skip
    refine ⟨fun c2 => ?_, fun c2 => ?_⟩
    · skip
      intro w3 ew3
      have hw3 := iv_eq ew3 (iv_rem (l := 0) (h := 9) (iv_lea (l := 0) (h := 79) (r_le c2) (iv_leb (l := 0) (h := 2147483647) (r_nlt c1) (iv_lit (l := 0) (h := 0) (by decide)) (iv_top x2) (by decide)) (iv_lit (l := 79) (h := 79) (by decide)) (by decide)) (iv_lit (l := 10) (h := 10) (by decide)) (by decide))
      refine ⟨fun c4 => ?_, fun c4 => ?_, fun c4 => ?_, fun c4 => ?_, fun c4 => ?_, fun c4 => ?_, fun c4 => ?_, fun c4 => ?_, fun c4 => ?_⟩
      · skip
        exact (iv_sw c4 (iv_div (l := 0) (h := 7) (iv_lea (l := 0) (h := 79) (r_le c2) (iv_leb (l := 0) (h := 2147483647) (r_nlt c1) (iv_lit (l := 0) (h := 0) (by decide)) (iv_top x2) (by decide)) (iv_lit (l := 79) (h := 79) (by decide)) (by decide)) (iv_lit (l := 10) (h := 10) (by decide)) (by decide)) (by decide)).elim
      · skip
        refine ⟨fun c5 => ?_, fun c5 => ?_, fun c5 => ?_, fun c5 => ?_, fun c5 => ?_, fun c5 => ?_⟩
        · skip
          exact hpost _ _ k_a_open
        · skip
          exact hpost _ _ k_a_open
        · skip
          exact hpost _ _ k_a_open
        · skip
          refine s_wn_X3_seers_6_0 k_f_begun k_a_known k_lf_singers (fun r6 hr6 => ?_)
          exact hpost _ _ k_a_open
        · skip
          exact hpost _ _ k_a_open
        · skip
          refine s_wn_X3_doneFor_6_0 k_f_begun k_a_huts k_a_known k_a_levels k_a_open k_lf_huts k_lf_singers k_lf_dams k_lf_deep k_la_heights k_la_minutes k_la_talls (fun r7 o8 hr7 k_o8 => ?_)
          exact hpost _ _ k_o8
      · skip
        refine ⟨fun c9 => ?_, fun c9 => ?_⟩
        · skip
          exact hpost _ _ k_a_open
        · skip
          refine ⟨iv_in (iv_lta (l := 0) (h := 4) (r_nle c9) hw3 (iv_lit (l := 5) (h := 5) (by decide)) (by decide)) (by decide), ?_⟩
          exact hpost _ _ k_a_open
      · skip
        refine ⟨fun c10 => ?_, fun c10 => ?_⟩
        · skip
          exact hpost _ _ k_a_open
        · skip
          refine s_wn_X3_knowers_6_0 k_a_known k_lf_singers (iv_lta (l := 0) (h := 4) (r_nle c10) hw3 (iv_lit (l := 5) (h := 5) (by decide)) (by decide)) (fun r11 hr11 => ?_)
          refine s_z_J6_bitCount_0f7a4_0 (iv_w hr11 (by decide)) (fun r12 hr12 => ?_)
          exact hpost _ _ k_a_open
      · skip
        exact s_wn_X3_look_6_135 k_f_begun k_f_climbed k_a_huts k_a_known k_a_levels k_a_open k_lf_huts k_lf_singers k_lf_dams k_lf_deep k_la_heights k_la_ladders k_la_minutes k_la_talls (iv_lea (l := 0) (h := 79) (r_le c2) (iv_leb (l := 0) (h := 2147483647) (r_nlt c1) (iv_lit (l := 0) (h := 0) (by decide)) (iv_top x2) (by decide)) (iv_lit (l := 79) (h := 79) (by decide)) (by decide)) hw3 hpost
      · skip
        exact s_wn_X3_look_6_135 k_f_begun k_f_climbed k_a_huts k_a_known k_a_levels k_a_open k_lf_huts k_lf_singers k_lf_dams k_lf_deep k_la_heights k_la_ladders k_la_minutes k_la_talls (iv_lea (l := 0) (h := 79) (r_le c2) (iv_leb (l := 0) (h := 2147483647) (r_nlt c1) (iv_lit (l := 0) (h := 0) (by decide)) (iv_top x2) (by decide)) (iv_lit (l := 79) (h := 79) (by decide)) (by decide)) hw3 hpost
      · skip
        exact s_wn_X3_look_6_135 k_f_begun k_f_climbed k_a_huts k_a_known k_a_levels k_a_open k_lf_huts k_lf_singers k_lf_dams k_lf_deep k_la_heights k_la_ladders k_la_minutes k_la_talls (iv_lea (l := 0) (h := 79) (r_le c2) (iv_leb (l := 0) (h := 2147483647) (r_nlt c1) (iv_lit (l := 0) (h := 0) (by decide)) (iv_top x2) (by decide)) (iv_lit (l := 79) (h := 79) (by decide)) (by decide)) hw3 hpost
      · skip
        exact s_wn_X3_look_6_135 k_f_begun k_f_climbed k_a_huts k_a_known k_a_levels k_a_open k_lf_huts k_lf_singers k_lf_dams k_lf_deep k_la_heights k_la_ladders k_la_minutes k_la_talls (iv_lea (l := 0) (h := 79) (r_le c2) (iv_leb (l := 0) (h := 2147483647) (r_nlt c1) (iv_lit (l := 0) (h := 0) (by decide)) (iv_top x2) (by decide)) (iv_lit (l := 79) (h := 79) (by decide)) (by decide)) hw3 hpost
      · skip
        refine ⟨fun c13 => ?_, fun c13 => ?_⟩
        · skip
          exact (iv_emp (iv_lta (l := 0) (h := (-1)) (r_lt c13) hw3 (iv_lit (l := 0) (h := 0) (by decide)) (by decide)) (by decide)).elim
        · skip
          refine ⟨fun c14 => ?_, fun c14 => ?_⟩
          · skip
            refine ⟨fun c15 => ?_, fun c15 => ?_⟩
            · skip
              exact hpost _ _ k_a_open
            · skip
              exact (iv_emp (iv_ne (l := 1) (h := 0) c15 (iv_lit (l := 0) (h := 0) (by decide)) (iv_lit (l := 0) (h := 0) (by decide)) (by decide)) (by decide)).elim
          · skip
            refine ⟨fun c16 => ?_, fun c16 => ?_⟩
            · skip
              exact (iv_emp (iv_eqa (l := 1) (h := 0) c16 (iv_lit (l := 1) (h := 1) (by decide)) (iv_lit (l := 0) (h := 0) (by decide)) (by decide)) (by decide)).elim
            · skip
              refine ⟨iv_in (iv_lta (l := 0) (h := 8) (r_nle c14) hw3 k_lf_huts (by decide)) (by decide), ?_⟩
              exact hpost _ _ k_a_open
    · skip
      exact hpost _ _ k_a_open
-- wn_X3_highestOf_6
set_option maxRecDepth 20000 in
theorem s_wn_X3_highestOf_6_52 {P10 : Int32 → Int32 → Int32 → Prop} {f_climbed : Int32} {a_huts : Nat → Int32} {lf_singers : Int32} {la_heights : Nat → Int32} {la_ladders : Nat → Int32} {la_talls : Nat → Int32} {x2 : Int32} {x3 : Int32} {x4 : Int32} {x5 : Int32} {post : Int32 → Prop} (k_f_climbed : iv 0 63 f_climbed) (k_a_huts : ∀ j, iv 0 8 (a_huts j)) (k_lf_singers : iv 1 6 lf_singers) (k_la_heights : ∀ j, iv 0 99 (la_heights j)) (k_la_ladders : ∀ j, iv 0 9 (la_ladders j)) (k_la_talls : ∀ j, iv 0 9 (la_talls j)) (hx2 : iv 1 2147483647 x2) (hx3 : iv 0 5 x3) (hx4 : iv (-1000) 108 x4) (hx5 : iv 0 5 x5) (m10 : Int) (hm10 : m10 ≤ x5.toInt) (hP10 : ∀ (x3 : Int32) (x4 : Int32) (x5 : Int32), m10 < x5.toInt → iv 0 5 x3 → iv (-1000) 108 x4 → iv 0 6 x5 → P10 x3 x4 x5) (hpost : ∀ (r : Int32), iv 0 5 r → post r) : q_wn_X3_highestOf_6_52 P10 f_climbed a_huts lf_singers la_heights la_ladders la_talls x2 x3 x4 x5 post := by
  intro w1 ew1
  have hw1 := iv_eq ew1 (iv_add (l := 1) (h := 6) hx5 (iv_lit (l := 1) (h := 1) (by decide)) (by decide))
  exact hP10 _ _ _ (ml_up hm10 (inc_lt ew1 hx5 (by decide))) hx3 hx4 (iv_w hw1 (by decide))
set_option maxRecDepth 20000 in
theorem s_wn_X3_highestOf_6_10 {f_climbed : Int32} {a_huts : Nat → Int32} {lf_singers : Int32} {la_heights : Nat → Int32} {la_ladders : Nat → Int32} {la_talls : Nat → Int32} {x2 : Int32} {x3 : Int32} {x4 : Int32} {x5 : Int32} {post : Int32 → Prop} (k_f_climbed : iv 0 63 f_climbed) (k_a_huts : ∀ j, iv 0 8 (a_huts j)) (k_lf_singers : iv 0 6 lf_singers) (k_la_heights : ∀ j, iv 0 99 (la_heights j)) (k_la_ladders : ∀ j, iv 0 9 (la_ladders j)) (k_la_talls : ∀ j, iv 0 9 (la_talls j)) (hx2 : iv 1 2147483647 x2) (hx3 : iv 0 5 x3) (hx4 : iv (-1000) 108 x4) (hx5 : iv 0 6 x5) (hpost : ∀ (r : Int32), iv 0 5 r → post r) : q_wn_X3_highestOf_6_10 f_climbed a_huts lf_singers la_heights la_ladders la_talls x2 x3 x4 x5 post := by
  intro P hP
  have loop : ∀ (n : Nat) (x3 : Int32) (x4 : Int32) (x5 : Int32), (6 - x5.toInt < (n : Int)) → (iv 0 5 x3) → (iv (-1000) 108 x4) → (iv 0 6 x5) → P x3 x4 x5 := by
    intro n
    induction n with
    | zero => intro x3 x4 x5 hm hx3 hx4 hx5; exact (ms0_up hm hx5).elim
    | succ n ih =>
      intro x3 x4 x5 hm hx3 hx4 hx5
      apply hP
      refine ⟨fun c1 => ?_, fun c1 => ?_⟩
      · skip
        exact hpost _ hx3
      · skip
        refine ⟨fun c2 => ?_, fun c2 => ?_⟩
        · skip
          refine ⟨fun c3 => ?_, fun c3 => ?_⟩
          · skip
            exact s_wn_X3_highestOf_6_52 k_f_climbed k_a_huts (iv_ltb (l := 1) (h := 6) (r_nle c1) hx5 k_lf_singers (by decide)) k_la_heights k_la_ladders k_la_talls hx2 hx3 hx4 (iv_lta (l := 0) (h := 5) (r_nle c1) hx5 k_lf_singers (by decide)) x5.toInt (Int.le_refl _) (fun u0 u1 u2 hq g0 g1 g2 => ih u0 u1 u2 (ms_up hm hq) g0 g1 g2) hpost
          · skip
            exact (iv_emp (iv_ne (l := 1) (h := 0) c3 (iv_lit (l := 0) (h := 0) (by decide)) (iv_lit (l := 0) (h := 0) (by decide)) (by decide)) (by decide)).elim
        · skip
          refine ⟨fun c4 => ?_, fun c4 => ?_⟩
          · skip
            exact (iv_emp (iv_eqa (l := 1) (h := 0) c4 (iv_lit (l := 1) (h := 1) (by decide)) (iv_lit (l := 0) (h := 0) (by decide)) (by decide)) (by decide)).elim
          · skip
            refine ⟨iv_in (iv_lta (l := 0) (h := 5) (r_nle c1) hx5 k_lf_singers (by decide)) (by decide), ?_⟩
            intro w5 ew5
            have hw5 := iv_eq ew5 (k_a_huts _)
            refine ⟨iv_in hw5 (by decide), ?_⟩
            refine ⟨iv_in (iv_lta (l := 0) (h := 5) (r_nle c1) hx5 k_lf_singers (by decide)) (by decide), ?_⟩
            intro w6 ew6
            have hw6 := iv_eq ew6 (iv_sub (l := (-9)) (h := 99) (k_la_heights _) (k_la_talls _) (by decide))
            refine ⟨fun c7 => ?_, fun c7 => ?_⟩
            · skip
              refine ⟨fun c8 => ?_, fun c8 => ?_⟩
              · skip
                refine ⟨fun c9 => ?_, fun c9 => ?_⟩
                · skip
                  exact s_wn_X3_highestOf_6_52 k_f_climbed k_a_huts (iv_ltb (l := 1) (h := 6) (r_nle c1) hx5 k_lf_singers (by decide)) k_la_heights k_la_ladders k_la_talls hx2 hx3 (iv_w (iv_leb (l := (-9)) (h := 108) (r_le c9) hw6 hx4 (by decide)) (by decide)) (iv_lta (l := 0) (h := 5) (r_nle c1) hx5 k_lf_singers (by decide)) x5.toInt (Int.le_refl _) (fun u0 u1 u2 hq g0 g1 g2 => ih u0 u1 u2 (ms_up hm hq) g0 g1 g2) hpost
                · skip
                  refine ⟨iv_in (iv_lta (l := 0) (h := 5) (r_nle c1) hx5 k_lf_singers (by decide)) (by decide), ?_⟩
                  intro w10 ew10
                  have hw10 := iv_eq ew10 (k_a_huts _)
                  refine ⟨iv_in hw10 (by decide), ?_⟩
                  refine ⟨iv_in (iv_lta (l := 0) (h := 5) (r_nle c1) hx5 k_lf_singers (by decide)) (by decide), ?_⟩
                  intro w11 ew11
                  have hw11 := iv_eq ew11 (iv_sub (l := (-9)) (h := 99) (k_la_heights _) (k_la_talls _) (by decide))
                  refine ⟨fun c12 => ?_, fun c12 => ?_⟩
                  · skip
                    refine ⟨fun c13 => ?_, fun c13 => ?_⟩
                    · skip
                      exact s_wn_X3_highestOf_6_52 k_f_climbed k_a_huts (iv_ltb (l := 1) (h := 6) (r_nle c1) hx5 k_lf_singers (by decide)) k_la_heights k_la_ladders k_la_talls hx2 (iv_lta (l := 0) (h := 5) (r_nle c1) hx5 k_lf_singers (by decide)) (iv_w hw11 (by decide)) (iv_lta (l := 0) (h := 5) (r_nle c1) hx5 k_lf_singers (by decide)) x5.toInt (Int.le_refl _) (fun u0 u1 u2 hq g0 g1 g2 => ih u0 u1 u2 (ms_up hm hq) g0 g1 g2) hpost
                    · skip
                      exact (iv_emp (iv_ne (l := 1) (h := 0) c13 (iv_lit (l := 0) (h := 0) (by decide)) (iv_lit (l := 0) (h := 0) (by decide)) (by decide)) (by decide)).elim
                  · skip
                    exact (iv_emp (iv_ne (l := 1) (h := 0) c12 (iv_eqa (l := 0) (h := 0) c7 (iv_andr (l := 0) (h := 1) (iv_lit (l := 1) (h := 1) (by decide)) (by decide)) (iv_lit (l := 0) (h := 0) (by decide)) (by decide)) (iv_lit (l := 0) (h := 0) (by decide)) (by decide)) (by decide)).elim
              · skip
                exact (iv_emp (iv_ne (l := 1) (h := 0) c8 (iv_lit (l := 0) (h := 0) (by decide)) (iv_lit (l := 0) (h := 0) (by decide)) (by decide)) (by decide)).elim
            · skip
              refine ⟨fun c14 => ?_, fun c14 => ?_⟩
              · skip
                exact (iv_emp (iv_eqa (l := 1) (h := 0) c14 (iv_lit (l := 1) (h := 1) (by decide)) (iv_lit (l := 0) (h := 0) (by decide)) (by decide)) (by decide)).elim
              · skip
                refine ⟨iv_in hw5 (by decide), ?_⟩
                refine ⟨fun c15 => ?_, fun c15 => ?_⟩
                · skip
                  exact s_wn_X3_highestOf_6_52 k_f_climbed k_a_huts (iv_ltb (l := 1) (h := 6) (r_nle c1) hx5 k_lf_singers (by decide)) k_la_heights k_la_ladders k_la_talls hx2 hx3 (iv_w (iv_leb (l := (-9)) (h := 108) (r_le c15) (iv_add (l := (-9)) (h := 108) hw6 (k_la_ladders _) (by decide)) hx4 (by decide)) (by decide)) (iv_lta (l := 0) (h := 5) (r_nle c1) hx5 k_lf_singers (by decide)) x5.toInt (Int.le_refl _) (fun u0 u1 u2 hq g0 g1 g2 => ih u0 u1 u2 (ms_up hm hq) g0 g1 g2) hpost
                · skip
                  refine ⟨iv_in (iv_lta (l := 0) (h := 5) (r_nle c1) hx5 k_lf_singers (by decide)) (by decide), ?_⟩
                  intro w16 ew16
                  have hw16 := iv_eq ew16 (k_a_huts _)
                  refine ⟨iv_in hw16 (by decide), ?_⟩
                  refine ⟨iv_in (iv_lta (l := 0) (h := 5) (r_nle c1) hx5 k_lf_singers (by decide)) (by decide), ?_⟩
                  intro w17 ew17
                  have hw17 := iv_eq ew17 (iv_sub (l := (-9)) (h := 99) (k_la_heights _) (k_la_talls _) (by decide))
                  refine ⟨fun c18 => ?_, fun c18 => ?_⟩
                  · skip
                    exact (iv_emp (iv_eqa (l := 1) (h := 0) c18 (iv_ne (l := 1) (h := 1) c7 (iv_andr (l := 0) (h := 1) (iv_lit (l := 1) (h := 1) (by decide)) (by decide)) (iv_lit (l := 0) (h := 0) (by decide)) (by decide)) (iv_lit (l := 0) (h := 0) (by decide)) (by decide)) (by decide)).elim
                  · skip
                    refine ⟨fun c19 => ?_, fun c19 => ?_⟩
                    · skip
                      exact (iv_emp (iv_eqa (l := 1) (h := 0) c19 (iv_lit (l := 1) (h := 1) (by decide)) (iv_lit (l := 0) (h := 0) (by decide)) (by decide)) (by decide)).elim
                    · skip
                      refine ⟨iv_in hw16 (by decide), ?_⟩
                      exact s_wn_X3_highestOf_6_52 k_f_climbed k_a_huts (iv_ltb (l := 1) (h := 6) (r_nle c1) hx5 k_lf_singers (by decide)) k_la_heights k_la_ladders k_la_talls hx2 (iv_lta (l := 0) (h := 5) (r_nle c1) hx5 k_lf_singers (by decide)) (iv_w (iv_add (l := (-9)) (h := 108) hw17 (k_la_ladders _) (by decide)) (by decide)) (iv_lta (l := 0) (h := 5) (r_nle c1) hx5 k_lf_singers (by decide)) x5.toInt (Int.le_refl _) (fun u0 u1 u2 hq g0 g1 g2 => ih u0 u1 u2 (ms_up hm hq) g0 g1 g2) hpost
  exact loop _ _ _ _ (ms_init_up _ _) hx3 hx4 hx5
set_option maxRecDepth 20000 in
theorem s_wn_X3_highestOf_6_0 {f_climbed : Int32} {a_huts : Nat → Int32} {lf_singers : Int32} {la_heights : Nat → Int32} {la_ladders : Nat → Int32} {la_talls : Nat → Int32} {x2 : Int32} {post : Int32 → Prop} (k_f_climbed : iv 0 63 f_climbed) (k_a_huts : ∀ j, iv 0 8 (a_huts j)) (k_lf_singers : iv 0 6 lf_singers) (k_la_heights : ∀ j, iv 0 99 (la_heights j)) (k_la_ladders : ∀ j, iv 0 9 (la_ladders j)) (k_la_talls : ∀ j, iv 0 9 (la_talls j)) (hx2 : iv 1 2147483647 x2) (hpost : ∀ (r : Int32), iv 0 5 r → post r) : q_wn_X3_highestOf_6_0 f_climbed a_huts lf_singers la_heights la_ladders la_talls x2 post := by
  exact s_wn_X3_highestOf_6_10 k_f_climbed k_a_huts k_lf_singers k_la_heights k_la_ladders k_la_talls hx2 (iv_w (iv_lit (l := 0) (h := 0) (by decide)) (by decide)) (iv_w (iv_lit (l := (-1000)) (h := (-1000)) (by decide)) (by decide)) (iv_w (iv_lit (l := 0) (h := 0) (by decide)) (by decide)) hpost
-- wn_X3_spreads_6
set_option maxRecDepth 20000 in
theorem s_wn_X3_spreads_6_144 {f_begun : Int32} {f_climbed : Int32} {a_huts : Nat → Int32} {a_known : Nat → Int32} {a_levels : Nat → Int32} {lf_singers : Int32} {lf_dams : Int32} {lf_echoes : Int32} {la_heights : Nat → Int32} {la_ladders : Nat → Int32} {la_echoFrom : Nat → Int32} {la_echoTo : Nat → Int32} {la_talls : Nat → Int32} {x4 : Int32} {post : Int32 → Prop} (k_f_begun : iv 0 31 f_begun) (k_f_climbed : iv 0 63 f_climbed) (k_a_huts : ∀ j, iv 0 8 (a_huts j)) (k_a_known : ∀ j, iv 0 31 (a_known j)) (k_a_levels : ∀ j, iv (-9) 122 (a_levels j)) (k_lf_singers : iv 0 6 lf_singers) (k_lf_dams : iv 0 511 lf_dams) (k_lf_echoes : iv 0 4 lf_echoes) (k_la_heights : ∀ j, iv 0 99 (la_heights j)) (k_la_ladders : ∀ j, iv 0 9 (la_ladders j)) (k_la_echoFrom : ∀ j, iv 0 8 (la_echoFrom j)) (k_la_echoTo : ∀ j, iv 0 8 (la_echoTo j)) (k_la_talls : ∀ j, iv 0 9 (la_talls j)) (hx4 : iv 0 63 x4) (hpost : ∀ (r : Int32), iv 0 1 r → post r) : q_wn_X3_spreads_6_144 f_begun f_climbed a_huts a_known a_levels lf_singers lf_dams lf_echoes la_heights la_ladders la_echoFrom la_echoTo la_talls x4 post := by
  refine s_z_J6_bitCount_0f7a4_0 (iv_w hx4 (by decide)) (fun r1 hr1 => ?_)
  refine ⟨fun c2 => ?_, fun c2 => ?_⟩
  · skip
    exact hpost _ (iv_w (iv_lit (l := 0) (h := 0) (by decide)) (by decide))
  · skip
    exact hpost _ (iv_w (iv_lit (l := 1) (h := 1) (by decide)) (by decide))
set_option maxRecDepth 20000 in
theorem s_wn_X3_spreads_6_39 {f_begun : Int32} {f_climbed : Int32} {a_huts : Nat → Int32} {a_known : Nat → Int32} {a_levels : Nat → Int32} {lf_singers : Int32} {lf_dams : Int32} {lf_echoes : Int32} {la_heights : Nat → Int32} {la_ladders : Nat → Int32} {la_echoFrom : Nat → Int32} {la_echoTo : Nat → Int32} {la_talls : Nat → Int32} {x4 : Int32} {x5 : Int32} {x6 : Int32} {x7 : Int32} {post : Int32 → Prop} (k_f_begun : iv 0 31 f_begun) (k_f_climbed : iv 0 63 f_climbed) (k_a_huts : ∀ j, iv 0 8 (a_huts j)) (k_a_known : ∀ j, iv 0 31 (a_known j)) (k_a_levels : ∀ j, iv (-9) 122 (a_levels j)) (k_lf_singers : iv 0 6 lf_singers) (k_lf_dams : iv 0 511 lf_dams) (k_lf_echoes : iv 0 4 lf_echoes) (k_la_heights : ∀ j, iv 0 99 (la_heights j)) (k_la_ladders : ∀ j, iv 0 9 (la_ladders j)) (k_la_echoFrom : ∀ j, iv 0 8 (la_echoFrom j)) (k_la_echoTo : ∀ j, iv 0 8 (la_echoTo j)) (k_la_talls : ∀ j, iv 0 9 (la_talls j)) (hx4 : iv 0 63 x4) (hx5 : iv (-9) 1000 x5) (hx6 : iv 0 2147483647 x6) (hx7 : iv 0 6 x7) (hpost : ∀ (r : Int32), iv 0 1 r → post r) : q_wn_X3_spreads_6_39 f_begun f_climbed a_huts a_known a_levels lf_singers lf_dams lf_echoes la_heights la_ladders la_echoFrom la_echoTo la_talls x4 x5 x6 x7 post := by
  intro P hP
  have loop : ∀ (n : Nat) (x4 : Int32) (x5 : Int32) (x6 : Int32) (x7 : Int32), (6 - x7.toInt < (n : Int)) → (iv 0 63 x4) → (iv (-9) 1000 x5) → (iv 0 2147483647 x6) → (iv 0 6 x7) → P x4 x5 x6 x7 := by
    intro n
    induction n with
    | zero => intro x4 x5 x6 x7 hm hx4 hx5 hx6 hx7; exact (ms0_up hm hx7).elim
    | succ n ih =>
      intro x4 x5 x6 x7 hm hx4 hx5 hx6 hx7
      apply hP
      refine ⟨fun c1 => ?_, fun c1 => ?_⟩
      · skip
        exact s_wn_X3_spreads_6_144 k_f_begun k_f_climbed k_a_huts k_a_known k_a_levels k_lf_singers k_lf_dams k_lf_echoes k_la_heights k_la_ladders k_la_echoFrom k_la_echoTo k_la_talls hx4 hpost
      · skip
        refine ⟨fun c2 => ?_, fun c2 => ?_⟩
        · skip
          exact s_wn_X3_spreads_6_144 k_f_begun k_f_climbed k_a_huts k_a_known k_a_levels k_lf_singers k_lf_dams k_lf_echoes k_la_heights k_la_ladders k_la_echoFrom k_la_echoTo k_la_talls hx4 hpost
        · skip
          refine s_wn_X3_highestOf_6_0 k_f_climbed k_a_huts k_lf_singers k_la_heights k_la_ladders k_la_talls (iv_ne (l := 1) (h := 2147483647) c2 hx6 (iv_lit (l := 0) (h := 0) (by decide)) (by decide)) (fun r3 hr3 => ?_)
          refine ⟨iv_in hr3 (by decide), ?_⟩
          intro w4 ew4
          have hw4 := iv_eq ew4 (k_a_huts _)
          refine ⟨iv_in hw4 (by decide), ?_⟩
          refine ⟨iv_in hr3 (by decide), ?_⟩
          intro w5 ew5
          have hw5 := iv_eq ew5 (iv_sub (l := (-9)) (h := 99) (k_la_heights _) (k_la_talls _) (by decide))
          refine ⟨fun c6 => ?_, fun c6 => ?_⟩
          · skip
            refine ⟨fun c7 => ?_, fun c7 => ?_⟩
            · skip
              refine ⟨fun c8 => ?_, fun c8 => ?_⟩
              · skip
                refine ⟨fun c9 => ?_, fun c9 => ?_⟩
                · skip
                  exact hpost _ (iv_w (iv_lit (l := 0) (h := 0) (by decide)) (by decide))
                · skip
                  exact (iv_emp (iv_ne (l := 1) (h := 0) c9 (iv_lit (l := 0) (h := 0) (by decide)) (iv_lit (l := 0) (h := 0) (by decide)) (by decide)) (by decide)).elim
              · skip
                refine ⟨fun c10 => ?_, fun c10 => ?_⟩
                · skip
                  exact (iv_emp (iv_eqa (l := 1) (h := 0) c10 (iv_lit (l := 1) (h := 1) (by decide)) (iv_lit (l := 0) (h := 0) (by decide)) (by decide)) (by decide)).elim
                · skip
                  refine ⟨fun c11 => ?_, fun c11 => ?_⟩
                  · skip
                    exact hpost _ (iv_w (iv_lit (l := 0) (h := 0) (by decide)) (by decide))
                  · skip
                    refine ⟨iv_in hr3 (by decide), ?_⟩
                    refine ⟨fun c12 => ?_, fun c12 => ?_⟩
                    · skip
                      refine ⟨fun c13 => ?_, fun c13 => ?_⟩
                      · skip
                        refine ⟨iv_in hr3 (by decide), ?_⟩
                        refine s_wl_X2_earshot_0 k_lf_dams k_lf_echoes k_la_echoFrom k_la_echoTo (k_a_huts _) (fun r14 hr14 => ?_)
                        refine s_wn_X3_singersIn_6_0 k_a_huts k_lf_singers hr14 (fun r15 hr15 => ?_)
                        intro w16 ew16
                        have hw16 := iv_eq ew16 (iv_or 6 (l := 0) (h := 63) hx4 hr15 (by decide))
                        intro w17 ew17
                        have hw17 := iv_eq ew17 (iv_andl (l := 0) (h := 2147483647) (iv_ne (l := 1) (h := 2147483647) c2 hx6 (iv_lit (l := 0) (h := 0) (by decide)) (by decide)) (by decide))
                        intro w18 ew18
                        have hw18 := iv_eq ew18 (iv_add (l := 1) (h := 6) (iv_lta (l := 0) (h := 5) (r_nle c1) hx7 (iv_lit (l := 6) (h := 6) (by decide)) (by decide)) (iv_lit (l := 1) (h := 1) (by decide)) (by decide))
                        exact ih _ _ _ _ (ms_up hm (inc_lt ew18 (iv_lta (l := 0) (h := 5) (r_nle c1) hx7 (iv_lit (l := 6) (h := 6) (by decide)) (by decide)) (by decide))) hw16 (iv_w hw5 (by decide)) hw17 (iv_w hw18 (by decide))
                      · skip
                        exact (iv_emp (iv_ne (l := 1) (h := 0) c13 (iv_lit (l := 0) (h := 0) (by decide)) (iv_lit (l := 0) (h := 0) (by decide)) (by decide)) (by decide)).elim
                    · skip
                      refine ⟨fun c19 => ?_, fun c19 => ?_⟩
                      · skip
                        exact (iv_emp (iv_eqa (l := 1) (h := 0) c19 (iv_lit (l := 1) (h := 1) (by decide)) (iv_lit (l := 0) (h := 0) (by decide)) (by decide)) (by decide)).elim
                      · skip
                        exact hpost _ (iv_w (iv_lit (l := 0) (h := 0) (by decide)) (by decide))
            · skip
              exact (iv_emp (iv_ne (l := 1) (h := 0) c7 (iv_lit (l := 0) (h := 0) (by decide)) (iv_lit (l := 0) (h := 0) (by decide)) (by decide)) (by decide)).elim
          · skip
            refine ⟨fun c20 => ?_, fun c20 => ?_⟩
            · skip
              exact (iv_emp (iv_eqa (l := 1) (h := 0) c20 (iv_lit (l := 1) (h := 1) (by decide)) (iv_lit (l := 0) (h := 0) (by decide)) (by decide)) (by decide)).elim
            · skip
              refine ⟨iv_in hw4 (by decide), ?_⟩
              refine ⟨fun c21 => ?_, fun c21 => ?_⟩
              · skip
                refine ⟨fun c22 => ?_, fun c22 => ?_⟩
                · skip
                  exact hpost _ (iv_w (iv_lit (l := 0) (h := 0) (by decide)) (by decide))
                · skip
                  exact (iv_emp (iv_ne (l := 1) (h := 0) c22 (iv_lit (l := 0) (h := 0) (by decide)) (iv_lit (l := 0) (h := 0) (by decide)) (by decide)) (by decide)).elim
              · skip
                refine ⟨fun c23 => ?_, fun c23 => ?_⟩
                · skip
                  exact (iv_emp (iv_eqa (l := 1) (h := 0) c23 (iv_lit (l := 1) (h := 1) (by decide)) (iv_lit (l := 0) (h := 0) (by decide)) (by decide)) (by decide)).elim
                · skip
                  refine ⟨fun c24 => ?_, fun c24 => ?_⟩
                  · skip
                    exact hpost _ (iv_w (iv_lit (l := 0) (h := 0) (by decide)) (by decide))
                  · skip
                    refine ⟨iv_in hr3 (by decide), ?_⟩
                    refine ⟨fun c25 => ?_, fun c25 => ?_⟩
                    · skip
                      refine ⟨fun c26 => ?_, fun c26 => ?_⟩
                      · skip
                        refine ⟨iv_in hr3 (by decide), ?_⟩
                        refine s_wl_X2_earshot_0 k_lf_dams k_lf_echoes k_la_echoFrom k_la_echoTo (k_a_huts _) (fun r27 hr27 => ?_)
                        refine s_wn_X3_singersIn_6_0 k_a_huts k_lf_singers hr27 (fun r28 hr28 => ?_)
                        intro w29 ew29
                        have hw29 := iv_eq ew29 (iv_or 6 (l := 0) (h := 63) hx4 hr28 (by decide))
                        intro w30 ew30
                        have hw30 := iv_eq ew30 (iv_andl (l := 0) (h := 2147483647) (iv_ne (l := 1) (h := 2147483647) c2 hx6 (iv_lit (l := 0) (h := 0) (by decide)) (by decide)) (by decide))
                        intro w31 ew31
                        have hw31 := iv_eq ew31 (iv_add (l := 1) (h := 6) (iv_lta (l := 0) (h := 5) (r_nle c1) hx7 (iv_lit (l := 6) (h := 6) (by decide)) (by decide)) (iv_lit (l := 1) (h := 1) (by decide)) (by decide))
                        exact ih _ _ _ _ (ms_up hm (inc_lt ew31 (iv_lta (l := 0) (h := 5) (r_nle c1) hx7 (iv_lit (l := 6) (h := 6) (by decide)) (by decide)) (by decide))) hw29 (iv_w (iv_add (l := (-9)) (h := 108) hw5 (k_la_ladders _) (by decide)) (by decide)) hw30 (iv_w hw31 (by decide))
                      · skip
                        exact (iv_emp (iv_ne (l := 1) (h := 0) c26 (iv_lit (l := 0) (h := 0) (by decide)) (iv_lit (l := 0) (h := 0) (by decide)) (by decide)) (by decide)).elim
                    · skip
                      refine ⟨fun c32 => ?_, fun c32 => ?_⟩
                      · skip
                        exact (iv_emp (iv_eqa (l := 1) (h := 0) c32 (iv_lit (l := 1) (h := 1) (by decide)) (iv_lit (l := 0) (h := 0) (by decide)) (by decide)) (by decide)).elim
                      · skip
                        exact hpost _ (iv_w (iv_lit (l := 0) (h := 0) (by decide)) (by decide))
  exact loop _ _ _ _ _ (ms_init_up _ _) hx4 hx5 hx6 hx7
set_option maxRecDepth 20000 in
theorem s_wn_X3_spreads_6_31 {f_begun : Int32} {f_climbed : Int32} {a_huts : Nat → Int32} {a_known : Nat → Int32} {a_levels : Nat → Int32} {lf_singers : Int32} {lf_dams : Int32} {lf_echoes : Int32} {la_heights : Nat → Int32} {la_ladders : Nat → Int32} {la_echoFrom : Nat → Int32} {la_echoTo : Nat → Int32} {la_talls : Nat → Int32} {x3 : Int32} {x4 : Int32} {y0 : Int32} {post : Int32 → Prop} (k_f_begun : iv 0 31 f_begun) (k_f_climbed : iv 0 63 f_climbed) (k_a_huts : ∀ j, iv 0 8 (a_huts j)) (k_a_known : ∀ j, iv 0 31 (a_known j)) (k_a_levels : ∀ j, iv (-9) 122 (a_levels j)) (k_lf_singers : iv 0 6 lf_singers) (k_lf_dams : iv 0 511 lf_dams) (k_lf_echoes : iv 0 4 lf_echoes) (k_la_heights : ∀ j, iv 0 99 (la_heights j)) (k_la_ladders : ∀ j, iv 0 9 (la_ladders j)) (k_la_echoFrom : ∀ j, iv 0 8 (la_echoFrom j)) (k_la_echoTo : ∀ j, iv 0 8 (la_echoTo j)) (k_la_talls : ∀ j, iv 0 9 (la_talls j)) (hx3 : iv 0 63 x3) (hx4 : iv 0 63 x4) (hy0 : iv (-9) 1000 y0) (hpost : ∀ (r : Int32), iv 0 1 r → post r) : q_wn_X3_spreads_6_31 f_begun f_climbed a_huts a_known a_levels lf_singers lf_dams lf_echoes la_heights la_ladders la_echoFrom la_echoTo la_talls x3 x4 y0 post := by
  exact s_wn_X3_spreads_6_39 k_f_begun k_f_climbed k_a_huts k_a_known k_a_levels k_lf_singers k_lf_dams k_lf_echoes k_la_heights k_la_ladders k_la_echoFrom k_la_echoTo k_la_talls hx4 hy0 (iv_w hx3 (by decide)) (iv_w (iv_lit (l := 0) (h := 0) (by decide)) (by decide)) hpost
set_option maxRecDepth 20000 in
theorem s_wn_X3_spreads_6_0 {f_begun : Int32} {f_climbed : Int32} {a_huts : Nat → Int32} {a_known : Nat → Int32} {a_levels : Nat → Int32} {lf_singers : Int32} {lf_dams : Int32} {lf_echoes : Int32} {la_heights : Nat → Int32} {la_ladders : Nat → Int32} {la_echoFrom : Nat → Int32} {la_echoTo : Nat → Int32} {la_talls : Nat → Int32} {x2 : Int32} {x3 : Int32} {post : Int32 → Prop} (k_f_begun : iv 0 31 f_begun) (k_f_climbed : iv 0 63 f_climbed) (k_a_huts : ∀ j, iv 0 8 (a_huts j)) (k_a_known : ∀ j, iv 0 31 (a_known j)) (k_a_levels : ∀ j, iv (-9) 122 (a_levels j)) (k_lf_singers : iv 0 6 lf_singers) (k_lf_dams : iv 0 511 lf_dams) (k_lf_echoes : iv 0 4 lf_echoes) (k_la_heights : ∀ j, iv 0 99 (la_heights j)) (k_la_ladders : ∀ j, iv 0 9 (la_ladders j)) (k_la_echoFrom : ∀ j, iv 0 8 (la_echoFrom j)) (k_la_echoTo : ∀ j, iv 0 8 (la_echoTo j)) (k_la_talls : ∀ j, iv 0 9 (la_talls j)) (hx2 : iv 0 4 x2) (hx3 : iv 0 63 x3) (hpost : ∀ (r : Int32), iv 0 1 r → post r) : q_wn_X3_spreads_6_0 f_begun f_climbed a_huts a_known a_levels lf_singers lf_dams lf_echoes la_heights la_ladders la_echoFrom la_echoTo la_talls x2 x3 post := by
  refine s_wn_X3_knowers_6_0 k_a_known k_lf_singers hx2 (fun r1 hr1 => ?_)
  refine ⟨fun c2 => ?_, fun c2 => ?_⟩
  · skip
    refine ⟨fun c3 => ?_, fun c3 => ?_⟩
    · skip
      exact s_wn_X3_spreads_6_31 k_f_begun k_f_climbed k_a_huts k_a_known k_a_levels k_lf_singers k_lf_dams k_lf_echoes k_la_heights k_la_ladders k_la_echoFrom k_la_echoTo k_la_talls hx3 hr1 (iv_w (iv_lit (l := 1000) (h := 1000) (by decide)) (by decide)) hpost
    · skip
      exact (iv_emp (iv_ne (l := 1) (h := 0) c3 (iv_lit (l := 0) (h := 0) (by decide)) (iv_lit (l := 0) (h := 0) (by decide)) (by decide)) (by decide)).elim
  · skip
    refine ⟨fun c4 => ?_, fun c4 => ?_⟩
    · skip
      exact (iv_emp (iv_eqa (l := 1) (h := 0) c4 (iv_lit (l := 1) (h := 1) (by decide)) (iv_lit (l := 0) (h := 0) (by decide)) (by decide)) (by decide)).elim
    · skip
      refine ⟨iv_in hx2 (by decide), ?_⟩
      exact s_wn_X3_spreads_6_31 k_f_begun k_f_climbed k_a_huts k_a_known k_a_levels k_lf_singers k_lf_dams k_lf_echoes k_la_heights k_la_ladders k_la_echoFrom k_la_echoTo k_la_talls hx3 hr1 (iv_w (k_a_levels _) (by decide)) hpost
-- wn_X3_fewestTimes_6
set_option maxRecDepth 20000 in
theorem s_wn_X3_fewestTimes_6_48 {P5 : Int32 → Int32 → Prop} {f_begun : Int32} {f_climbed : Int32} {a_huts : Nat → Int32} {a_known : Nat → Int32} {a_levels : Nat → Int32} {lf_singers : Int32} {lf_dams : Int32} {lf_echoes : Int32} {la_heights : Nat → Int32} {la_ladders : Nat → Int32} {la_echoFrom : Nat → Int32} {la_echoTo : Nat → Int32} {la_talls : Nat → Int32} {x2 : Int32} {x3 : Int32} {x4 : Int32} {post : Int32 → Prop} (k_f_begun : iv 0 31 f_begun) (k_f_climbed : iv 0 63 f_climbed) (k_a_huts : ∀ j, iv 0 8 (a_huts j)) (k_a_known : ∀ j, iv 0 31 (a_known j)) (k_a_levels : ∀ j, iv (-9) 122 (a_levels j)) (k_lf_singers : iv 0 6 lf_singers) (k_lf_dams : iv 0 511 lf_dams) (k_lf_echoes : iv 0 4 lf_echoes) (k_la_heights : ∀ j, iv 0 99 (la_heights j)) (k_la_ladders : ∀ j, iv 0 9 (la_ladders j)) (k_la_echoFrom : ∀ j, iv 0 8 (la_echoFrom j)) (k_la_echoTo : ∀ j, iv 0 8 (la_echoTo j)) (k_la_talls : ∀ j, iv 0 9 (la_talls j)) (hx2 : iv 0 4 x2) (hx3 : iv (-1) 63 x3) (hx4 : iv 0 63 x4) (m5 : Int) (hm5 : m5 ≤ x4.toInt) (hP5 : ∀ (x3 : Int32) (x4 : Int32), m5 < x4.toInt → iv (-1) 63 x3 → iv 0 64 x4 → P5 x3 x4) (hpost : ∀ (r : Int32), iv (-1) 63 r → post r) : q_wn_X3_fewestTimes_6_48 P5 f_begun f_climbed a_huts a_known a_levels lf_singers lf_dams lf_echoes la_heights la_ladders la_echoFrom la_echoTo la_talls x2 x3 x4 post := by
  intro w1 ew1
  have hw1 := iv_eq ew1 (iv_add (l := 1) (h := 64) hx4 (iv_lit (l := 1) (h := 1) (by decide)) (by decide))
  exact hP5 _ _ (ml_up hm5 (inc_lt ew1 hx4 (by decide))) hx3 (iv_w hw1 (by decide))
set_option maxRecDepth 20000 in
theorem s_wn_X3_fewestTimes_6_34 {P5 : Int32 → Int32 → Prop} {f_begun : Int32} {f_climbed : Int32} {a_huts : Nat → Int32} {a_known : Nat → Int32} {a_levels : Nat → Int32} {lf_singers : Int32} {lf_dams : Int32} {lf_echoes : Int32} {la_heights : Nat → Int32} {la_ladders : Nat → Int32} {la_echoFrom : Nat → Int32} {la_echoTo : Nat → Int32} {la_talls : Nat → Int32} {x2 : Int32} {x3 : Int32} {x4 : Int32} {x5 : Int32} {post : Int32 → Prop} (k_f_begun : iv 0 31 f_begun) (k_f_climbed : iv 0 63 f_climbed) (k_a_huts : ∀ j, iv 0 8 (a_huts j)) (k_a_known : ∀ j, iv 0 31 (a_known j)) (k_a_levels : ∀ j, iv (-9) 122 (a_levels j)) (k_lf_singers : iv 0 6 lf_singers) (k_lf_dams : iv 0 511 lf_dams) (k_lf_echoes : iv 0 4 lf_echoes) (k_la_heights : ∀ j, iv 0 99 (la_heights j)) (k_la_ladders : ∀ j, iv 0 9 (la_ladders j)) (k_la_echoFrom : ∀ j, iv 0 8 (la_echoFrom j)) (k_la_echoTo : ∀ j, iv 0 8 (la_echoTo j)) (k_la_talls : ∀ j, iv 0 9 (la_talls j)) (hx2 : iv 0 4 x2) (hx3 : iv (-1) 63 x3) (hx4 : iv 0 63 x4) (hx5 : iv 0 63 x5) (m5 : Int) (hm5 : m5 ≤ x4.toInt) (hP5 : ∀ (x3 : Int32) (x4 : Int32), m5 < x4.toInt → iv (-1) 63 x3 → iv 0 64 x4 → P5 x3 x4) (hpost : ∀ (r : Int32), iv (-1) 63 r → post r) : q_wn_X3_fewestTimes_6_34 P5 f_begun f_climbed a_huts a_known a_levels lf_singers lf_dams lf_echoes la_heights la_ladders la_echoFrom la_echoTo la_talls x2 x3 x4 x5 post := by
  refine s_wn_X3_spreads_6_0 k_f_begun k_f_climbed k_a_huts k_a_known k_a_levels k_lf_singers k_lf_dams k_lf_echoes k_la_heights k_la_ladders k_la_echoFrom k_la_echoTo k_la_talls hx2 hx4 (fun r1 hr1 => ?_)
  refine ⟨fun c2 => ?_, fun c2 => ?_⟩
  · skip
    exact s_wn_X3_fewestTimes_6_48 k_f_begun k_f_climbed k_a_huts k_a_known k_a_levels k_lf_singers k_lf_dams k_lf_echoes k_la_heights k_la_ladders k_la_echoFrom k_la_echoTo k_la_talls hx2 hx3 hx4 m5 hm5 hP5 hpost
  · skip
    exact s_wn_X3_fewestTimes_6_48 k_f_begun k_f_climbed k_a_huts k_a_known k_a_levels k_lf_singers k_lf_dams k_lf_echoes k_la_heights k_la_ladders k_la_echoFrom k_la_echoTo k_la_talls hx2 (iv_w hx5 (by decide)) hx4 m5 hm5 hP5 hpost
set_option maxRecDepth 20000 in
theorem s_wn_X3_fewestTimes_6_5 {f_begun : Int32} {f_climbed : Int32} {a_huts : Nat → Int32} {a_known : Nat → Int32} {a_levels : Nat → Int32} {lf_singers : Int32} {lf_dams : Int32} {lf_echoes : Int32} {la_heights : Nat → Int32} {la_ladders : Nat → Int32} {la_echoFrom : Nat → Int32} {la_echoTo : Nat → Int32} {la_talls : Nat → Int32} {x2 : Int32} {x3 : Int32} {x4 : Int32} {post : Int32 → Prop} (k_f_begun : iv 0 31 f_begun) (k_f_climbed : iv 0 63 f_climbed) (k_a_huts : ∀ j, iv 0 8 (a_huts j)) (k_a_known : ∀ j, iv 0 31 (a_known j)) (k_a_levels : ∀ j, iv (-9) 122 (a_levels j)) (k_lf_singers : iv 0 6 lf_singers) (k_lf_dams : iv 0 511 lf_dams) (k_lf_echoes : iv 0 4 lf_echoes) (k_la_heights : ∀ j, iv 0 99 (la_heights j)) (k_la_ladders : ∀ j, iv 0 9 (la_ladders j)) (k_la_echoFrom : ∀ j, iv 0 8 (la_echoFrom j)) (k_la_echoTo : ∀ j, iv 0 8 (la_echoTo j)) (k_la_talls : ∀ j, iv 0 9 (la_talls j)) (hx2 : iv 0 4 x2) (hx3 : iv (-1) 63 x3) (hx4 : iv 0 64 x4) (hpost : ∀ (r : Int32), iv (-1) 63 r → post r) : q_wn_X3_fewestTimes_6_5 f_begun f_climbed a_huts a_known a_levels lf_singers lf_dams lf_echoes la_heights la_ladders la_echoFrom la_echoTo la_talls x2 x3 x4 post := by
  intro P hP
  have loop : ∀ (n : Nat) (x3 : Int32) (x4 : Int32), (64 - x4.toInt < (n : Int)) → (iv (-1) 63 x3) → (iv 0 64 x4) → P x3 x4 := by
    intro n
    induction n with
    | zero => intro x3 x4 hm hx3 hx4; exact (ms0_up hm hx4).elim
    | succ n ih =>
      intro x3 x4 hm hx3 hx4
      apply hP
      refine ⟨fun c1 => ?_, fun c1 => ?_⟩
      · skip
        exact hpost _ hx3
      · skip
        refine s_z_J6_bitCount_0f7a4_0 (iv_w (iv_lta (l := 0) (h := 63) (r_nle c1) hx4 (iv_shl1 (l := 1) (h := 64) (iv_lit (l := 1) (h := 1) (by decide)) k_lf_singers (by decide)) (by decide)) (by decide)) (fun r2 hr2 => ?_)
        refine ⟨fun c3 => ?_, fun c3 => ?_⟩
        · skip
          exact s_wn_X3_fewestTimes_6_34 k_f_begun k_f_climbed k_a_huts k_a_known k_a_levels k_lf_singers k_lf_dams k_lf_echoes k_la_heights k_la_ladders k_la_echoFrom k_la_echoTo k_la_talls hx2 (iv_w (iv_eqa (l := (-1)) (h := (-1)) c3 hx3 (iv_lit (l := (-1)) (h := (-1)) (by decide)) (by decide)) (by decide)) (iv_lta (l := 0) (h := 63) (r_nle c1) hx4 (iv_shl1 (l := 1) (h := 64) (iv_lit (l := 1) (h := 1) (by decide)) k_lf_singers (by decide)) (by decide)) hr2 x4.toInt (Int.le_refl _) (fun u0 u1 hq g0 g1 => ih u0 u1 (ms_up hm hq) g0 g1) hpost
        · skip
          refine ⟨fun c4 => ?_, fun c4 => ?_⟩
          · skip
            exact s_wn_X3_fewestTimes_6_48 k_f_begun k_f_climbed k_a_huts k_a_known k_a_levels k_lf_singers k_lf_dams k_lf_echoes k_la_heights k_la_ladders k_la_echoFrom k_la_echoTo k_la_talls hx2 (iv_w (iv_ne (l := 0) (h := 63) c3 hx3 (iv_lit (l := (-1)) (h := (-1)) (by decide)) (by decide)) (by decide)) (iv_lta (l := 0) (h := 63) (r_nle c1) hx4 (iv_shl1 (l := 1) (h := 64) (iv_lit (l := 1) (h := 1) (by decide)) k_lf_singers (by decide)) (by decide)) x4.toInt (Int.le_refl _) (fun u0 u1 hq g0 g1 => ih u0 u1 (ms_up hm hq) g0 g1) hpost
          · skip
            exact s_wn_X3_fewestTimes_6_34 k_f_begun k_f_climbed k_a_huts k_a_known k_a_levels k_lf_singers k_lf_dams k_lf_echoes k_la_heights k_la_ladders k_la_echoFrom k_la_echoTo k_la_talls hx2 (iv_w (iv_ltb (l := 1) (h := 63) (r_nle c4) hr2 (iv_ne (l := 0) (h := 63) c3 hx3 (iv_lit (l := (-1)) (h := (-1)) (by decide)) (by decide)) (by decide)) (by decide)) (iv_lta (l := 0) (h := 63) (r_nle c1) hx4 (iv_shl1 (l := 1) (h := 64) (iv_lit (l := 1) (h := 1) (by decide)) k_lf_singers (by decide)) (by decide)) (iv_w (iv_lta (l := 0) (h := 62) (r_nle c4) hr2 (iv_ne (l := 0) (h := 63) c3 hx3 (iv_lit (l := (-1)) (h := (-1)) (by decide)) (by decide)) (by decide)) (by decide)) x4.toInt (Int.le_refl _) (fun u0 u1 hq g0 g1 => ih u0 u1 (ms_up hm hq) g0 g1) hpost
  exact loop _ _ _ (ms_init_up _ _) hx3 hx4
set_option maxRecDepth 20000 in
theorem s_wn_X3_fewestTimes_6_0 {f_begun : Int32} {f_climbed : Int32} {a_huts : Nat → Int32} {a_known : Nat → Int32} {a_levels : Nat → Int32} {lf_singers : Int32} {lf_dams : Int32} {lf_echoes : Int32} {la_heights : Nat → Int32} {la_ladders : Nat → Int32} {la_echoFrom : Nat → Int32} {la_echoTo : Nat → Int32} {la_talls : Nat → Int32} {x2 : Int32} {post : Int32 → Prop} (k_f_begun : iv 0 31 f_begun) (k_f_climbed : iv 0 63 f_climbed) (k_a_huts : ∀ j, iv 0 8 (a_huts j)) (k_a_known : ∀ j, iv 0 31 (a_known j)) (k_a_levels : ∀ j, iv (-9) 122 (a_levels j)) (k_lf_singers : iv 0 6 lf_singers) (k_lf_dams : iv 0 511 lf_dams) (k_lf_echoes : iv 0 4 lf_echoes) (k_la_heights : ∀ j, iv 0 99 (la_heights j)) (k_la_ladders : ∀ j, iv 0 9 (la_ladders j)) (k_la_echoFrom : ∀ j, iv 0 8 (la_echoFrom j)) (k_la_echoTo : ∀ j, iv 0 8 (la_echoTo j)) (k_la_talls : ∀ j, iv 0 9 (la_talls j)) (hx2 : iv 0 4 x2) (hpost : ∀ (r : Int32), iv (-1) 63 r → post r) : q_wn_X3_fewestTimes_6_0 f_begun f_climbed a_huts a_known a_levels lf_singers lf_dams lf_echoes la_heights la_ladders la_echoFrom la_echoTo la_talls x2 post := by
  exact s_wn_X3_fewestTimes_6_5 k_f_begun k_f_climbed k_a_huts k_a_known k_a_levels k_lf_singers k_lf_dams k_lf_echoes k_la_heights k_la_ladders k_la_echoFrom k_la_echoTo k_la_talls hx2 (iv_w (iv_lit (l := (-1)) (h := (-1)) (by decide)) (by decide)) (iv_w (iv_lit (l := 0) (h := 0) (by decide)) (by decide)) hpost
-- wp_J7_fill_53178_1
set_option maxRecDepth 20000 in
theorem s_wp_J7_fill_53178_1_5 {a_heard : Nat → Int32} {x1 : Int32} {x2 : Int32} {x3 : Int32} {post : (Nat → Int32) → Prop} (k_a_heard : ∀ j, iv 0 1000 (a_heard j)) (hx1 : iv 1000 1000 x1) (hx2 : iv 0 81 x2) (hx3 : iv 81 81 x3) (hpost : ∀ (a_heard : Nat → Int32), (∀ j, iv 0 1000 (a_heard j)) → post a_heard) : q_wp_J7_fill_53178_1_5 a_heard x1 x2 x3 post := by
  intro P hP
  have loop : ∀ (n : Nat) (x2 : Int32) (a_heard : Nat → Int32), (81 - x2.toInt < (n : Int)) → (iv 0 81 x2) → (∀ j, iv 0 1000 (a_heard j)) → P x2 a_heard := by
    intro n
    induction n with
    | zero => intro x2 a_heard hm hx2 k_a_heard; exact (ms0_up hm hx2).elim
    | succ n ih =>
      intro x2 a_heard hm hx2 k_a_heard
      apply hP
      refine ⟨fun c1 => ?_, fun c1 => ?_⟩
      · skip
        exact hpost _ k_a_heard
      · skip
        refine ⟨iv_in (iv_lta (l := 0) (h := 80) (r_nle c1) hx2 hx3 (by decide)) (by decide), ?_⟩
        intro a2 ea2
        have k_a2 := iv_upd ea2 k_a_heard (iv_w hx1 (by decide))
        intro w3 ew3
        have hw3 := iv_eq ew3 (iv_add (l := 1) (h := 81) (iv_lta (l := 0) (h := 80) (r_nle c1) hx2 hx3 (by decide)) (iv_lit (l := 1) (h := 1) (by decide)) (by decide))
        exact ih _ _ (ms_up hm (inc_lt ew3 (iv_lta (l := 0) (h := 80) (r_nle c1) hx2 hx3 (by decide)) (by decide))) (iv_w hw3 (by decide)) k_a2
  exact loop _ _ _ (ms_init_up _ _) hx2 k_a_heard
set_option maxRecDepth 20000 in
theorem s_wp_J7_fill_53178_1_0 {a_heard : Nat → Int32} {x1 : Int32} {post : (Nat → Int32) → Prop} (k_a_heard : ∀ j, iv 0 1000 (a_heard j)) (hx1 : iv 1000 1000 x1) (hpost : ∀ (a_heard : Nat → Int32), (∀ j, iv 0 1000 (a_heard j)) → post a_heard) : q_wp_J7_fill_53178_1_0 a_heard x1 post := by
  exact s_wp_J7_fill_53178_1_5 k_a_heard hx1 (iv_w (iv_lit (l := 0) (h := 0) (by decide)) (by decide)) (iv_lit (l := 81) (h := 81) (by decide)) hpost
-- wp_X7_shorten_1
set_option maxRecDepth 20000 in
theorem s_wp_X7_shorten_1_80 {P2 : Int32 → (Nat → Int32) → Prop} {P9 : Int32 → (Nat → Int32) → Prop} {P27 : Int32 → (Nat → Int32) → Prop} {a_heard : Nat → Int32} {x1 : Int32} {x2 : Int32} {x3 : Int32} {x4 : Int32} {x5 : Int32} {post : (Nat → Int32) → Prop} (k_a_heard : ∀ j, iv 0 1000 (a_heard j)) (hx1 : iv 1 9 x1) (hx2 : iv 0 8 x2) (hx3 : iv 0 8 x3) (hx4 : iv 0 999 x4) (hx5 : iv 0 8 x5) (m2 : Int) (hm2 : m2 ≤ x2.toInt) (hP2 : ∀ (x2 : Int32) (a_heard : Nat → Int32), m2 < x2.toInt → iv 0 9 x2 → (∀ j, iv 0 1000 (a_heard j)) → P2 x2 a_heard) (m9 : Int) (hm9 : m9 ≤ x3.toInt) (hP9 : ∀ (x3 : Int32) (a_heard : Nat → Int32), m9 < x3.toInt → iv 0 9 x3 → (∀ j, iv 0 1000 (a_heard j)) → P9 x3 a_heard) (m27 : Int) (hm27 : m27 ≤ x5.toInt) (hP27 : ∀ (x5 : Int32) (a_heard : Nat → Int32), m27 < x5.toInt → iv 0 9 x5 → (∀ j, iv 0 1000 (a_heard j)) → P27 x5 a_heard) (hpost : ∀ (a_heard : Nat → Int32), (∀ j, iv 0 1000 (a_heard j)) → post a_heard) : q_wp_X7_shorten_1_80 P2 P9 P27 a_heard x1 x2 x3 x4 x5 post := by
  intro w1 ew1
  have hw1 := iv_eq ew1 (iv_add (l := 1) (h := 9) hx5 (iv_lit (l := 1) (h := 1) (by decide)) (by decide))
  exact hP27 _ _ (ml_up hm27 (inc_lt ew1 hx5 (by decide))) (iv_w hw1 (by decide)) k_a_heard
set_option maxRecDepth 20000 in
theorem s_wp_X7_shorten_1_86 {P2 : Int32 → (Nat → Int32) → Prop} {P9 : Int32 → (Nat → Int32) → Prop} {a_heard : Nat → Int32} {x1 : Int32} {x2 : Int32} {x3 : Int32} {post : (Nat → Int32) → Prop} (k_a_heard : ∀ j, iv 0 1000 (a_heard j)) (hx1 : iv 1 9 x1) (hx2 : iv 0 8 x2) (hx3 : iv 0 8 x3) (m2 : Int) (hm2 : m2 ≤ x2.toInt) (hP2 : ∀ (x2 : Int32) (a_heard : Nat → Int32), m2 < x2.toInt → iv 0 9 x2 → (∀ j, iv 0 1000 (a_heard j)) → P2 x2 a_heard) (m9 : Int) (hm9 : m9 ≤ x3.toInt) (hP9 : ∀ (x3 : Int32) (a_heard : Nat → Int32), m9 < x3.toInt → iv 0 9 x3 → (∀ j, iv 0 1000 (a_heard j)) → P9 x3 a_heard) (hpost : ∀ (a_heard : Nat → Int32), (∀ j, iv 0 1000 (a_heard j)) → post a_heard) : q_wp_X7_shorten_1_86 P2 P9 a_heard x1 x2 x3 post := by
  intro w1 ew1
  have hw1 := iv_eq ew1 (iv_add (l := 1) (h := 9) hx3 (iv_lit (l := 1) (h := 1) (by decide)) (by decide))
  exact hP9 _ _ (ml_up hm9 (inc_lt ew1 hx3 (by decide))) (iv_w hw1 (by decide)) k_a_heard
set_option maxRecDepth 20000 in
theorem s_wp_X7_shorten_1_27 {P2 : Int32 → (Nat → Int32) → Prop} {P9 : Int32 → (Nat → Int32) → Prop} {a_heard : Nat → Int32} {x1 : Int32} {x2 : Int32} {x3 : Int32} {x4 : Int32} {x5 : Int32} {post : (Nat → Int32) → Prop} (k_a_heard : ∀ j, iv 0 1000 (a_heard j)) (hx1 : iv 1 9 x1) (hx2 : iv 0 8 x2) (hx3 : iv 0 8 x3) (hx4 : iv 0 1000 x4) (hx5 : iv 0 9 x5) (m2 : Int) (hm2 : m2 ≤ x2.toInt) (hP2 : ∀ (x2 : Int32) (a_heard : Nat → Int32), m2 < x2.toInt → iv 0 9 x2 → (∀ j, iv 0 1000 (a_heard j)) → P2 x2 a_heard) (m9 : Int) (hm9 : m9 ≤ x3.toInt) (hP9 : ∀ (x3 : Int32) (a_heard : Nat → Int32), m9 < x3.toInt → iv 0 9 x3 → (∀ j, iv 0 1000 (a_heard j)) → P9 x3 a_heard) (hpost : ∀ (a_heard : Nat → Int32), (∀ j, iv 0 1000 (a_heard j)) → post a_heard) : q_wp_X7_shorten_1_27 P2 P9 a_heard x1 x2 x3 x4 x5 post := by
  intro P hP
  have loop : ∀ (n : Nat) (x5 : Int32) (a_heard : Nat → Int32), (9 - x5.toInt < (n : Int)) → (iv 0 9 x5) → (∀ j, iv 0 1000 (a_heard j)) → P x5 a_heard := by
    intro n
    induction n with
    | zero => intro x5 a_heard hm hx5 k_a_heard; exact (ms0_up hm hx5).elim
    | succ n ih =>
      intro x5 a_heard hm hx5 k_a_heard
      apply hP
      refine ⟨fun c1 => ?_, fun c1 => ?_⟩
      · skip
        exact s_wp_X7_shorten_1_86 k_a_heard hx1 hx2 hx3 m2 hm2 hP2 m9 hm9 hP9 hpost
      · skip
        refine ⟨fun c2 => ?_, fun c2 => ?_⟩
        · skip
          exact s_wp_X7_shorten_1_86 k_a_heard hx1 hx2 hx3 m2 hm2 hP2 m9 hm9 hP9 hpost
        · skip
          refine ⟨iv_in (iv_add (l := 0) (h := 80) (iv_mul (l := 0) (h := 72) hx2 (iv_lit (l := 9) (h := 9) (by decide)) (by decide)) (iv_lta (l := 0) (h := 8) (r_nle c1) hx5 hx1 (by decide)) (by decide)) (by decide), ?_⟩
          intro w3 ew3
          have hw3 := iv_eq ew3 (iv_add (l := 0) (h := 1999) (iv_lta (l := 0) (h := 999) (r_nle c2) hx4 (iv_lit (l := 1000) (h := 1000) (by decide)) (by decide)) (k_a_heard _) (by decide))
          refine ⟨iv_in (iv_add (l := 0) (h := 80) (iv_mul (l := 0) (h := 72) hx3 (iv_lit (l := 9) (h := 9) (by decide)) (by decide)) (iv_lta (l := 0) (h := 8) (r_nle c1) hx5 hx1 (by decide)) (by decide)) (by decide), ?_⟩
          refine ⟨fun c4 => ?_, fun c4 => ?_⟩
          · skip
            exact s_wp_X7_shorten_1_80 k_a_heard hx1 hx2 hx3 (iv_lta (l := 0) (h := 999) (r_nle c2) hx4 (iv_lit (l := 1000) (h := 1000) (by decide)) (by decide)) (iv_lta (l := 0) (h := 8) (r_nle c1) hx5 hx1 (by decide)) m2 hm2 hP2 m9 hm9 hP9 x5.toInt (Int.le_refl _) (fun u0 u1 hq g0 g1 => ih u0 u1 (ms_up hm hq) g0 g1) hpost
          · skip
            refine ⟨iv_in (iv_add (l := 0) (h := 80) (iv_mul (l := 0) (h := 72) hx3 (iv_lit (l := 9) (h := 9) (by decide)) (by decide)) (iv_lta (l := 0) (h := 8) (r_nle c1) hx5 hx1 (by decide)) (by decide)) (by decide), ?_⟩
            intro a5 ea5
            have k_a5 := iv_upd ea5 k_a_heard (iv_w (iv_lta (l := 0) (h := 999) (r_nle c4) hw3 (k_a_heard _) (by decide)) (by decide))
            exact s_wp_X7_shorten_1_80 k_a5 hx1 hx2 hx3 (iv_lta (l := 0) (h := 999) (r_nle c2) hx4 (iv_lit (l := 1000) (h := 1000) (by decide)) (by decide)) (iv_lta (l := 0) (h := 8) (r_nle c1) hx5 hx1 (by decide)) m2 hm2 hP2 m9 hm9 hP9 x5.toInt (Int.le_refl _) (fun u0 u1 hq g0 g1 => ih u0 u1 (ms_up hm hq) g0 g1) hpost
  exact loop _ _ _ (ms_init_up _ _) hx5 k_a_heard
set_option maxRecDepth 20000 in
theorem s_wp_X7_shorten_1_9 {P2 : Int32 → (Nat → Int32) → Prop} {a_heard : Nat → Int32} {x1 : Int32} {x2 : Int32} {x3 : Int32} {post : (Nat → Int32) → Prop} (k_a_heard : ∀ j, iv 0 1000 (a_heard j)) (hx1 : iv 1 9 x1) (hx2 : iv 0 8 x2) (hx3 : iv 0 9 x3) (m2 : Int) (hm2 : m2 ≤ x2.toInt) (hP2 : ∀ (x2 : Int32) (a_heard : Nat → Int32), m2 < x2.toInt → iv 0 9 x2 → (∀ j, iv 0 1000 (a_heard j)) → P2 x2 a_heard) (hpost : ∀ (a_heard : Nat → Int32), (∀ j, iv 0 1000 (a_heard j)) → post a_heard) : q_wp_X7_shorten_1_9 P2 a_heard x1 x2 x3 post := by
  intro P hP
  have loop : ∀ (n : Nat) (x3 : Int32) (a_heard : Nat → Int32), (9 - x3.toInt < (n : Int)) → (iv 0 9 x3) → (∀ j, iv 0 1000 (a_heard j)) → P x3 a_heard := by
    intro n
    induction n with
    | zero => intro x3 a_heard hm hx3 k_a_heard; exact (ms0_up hm hx3).elim
    | succ n ih =>
      intro x3 a_heard hm hx3 k_a_heard
      apply hP
      refine ⟨fun c1 => ?_, fun c1 => ?_⟩
      · skip
        intro w2 ew2
        have hw2 := iv_eq ew2 (iv_add (l := 1) (h := 9) hx2 (iv_lit (l := 1) (h := 1) (by decide)) (by decide))
        exact hP2 _ _ (ml_up hm2 (inc_lt ew2 hx2 (by decide))) (iv_w hw2 (by decide)) k_a_heard
      · skip
        refine ⟨iv_in (iv_add (l := 0) (h := 80) (iv_mul (l := 0) (h := 72) (iv_lta (l := 0) (h := 8) (r_nle c1) hx3 hx1 (by decide)) (iv_lit (l := 9) (h := 9) (by decide)) (by decide)) hx2 (by decide)) (by decide), ?_⟩
        intro w3 ew3
        have hw3 := iv_eq ew3 (k_a_heard _)
        exact s_wp_X7_shorten_1_27 k_a_heard hx1 hx2 (iv_lta (l := 0) (h := 8) (r_nle c1) hx3 hx1 (by decide)) hw3 (iv_w (iv_lit (l := 0) (h := 0) (by decide)) (by decide)) m2 hm2 hP2 x3.toInt (Int.le_refl _) (fun u0 u1 hq g0 g1 => ih u0 u1 (ms_up hm hq) g0 g1) hpost
  exact loop _ _ _ (ms_init_up _ _) hx3 k_a_heard
set_option maxRecDepth 20000 in
theorem s_wp_X7_shorten_1_2 {a_heard : Nat → Int32} {x1 : Int32} {x2 : Int32} {post : (Nat → Int32) → Prop} (k_a_heard : ∀ j, iv 0 1000 (a_heard j)) (hx1 : iv 0 9 x1) (hx2 : iv 0 9 x2) (hpost : ∀ (a_heard : Nat → Int32), (∀ j, iv 0 1000 (a_heard j)) → post a_heard) : q_wp_X7_shorten_1_2 a_heard x1 x2 post := by
  intro P hP
  have loop : ∀ (n : Nat) (x2 : Int32) (a_heard : Nat → Int32), (9 - x2.toInt < (n : Int)) → (iv 0 9 x2) → (∀ j, iv 0 1000 (a_heard j)) → P x2 a_heard := by
    intro n
    induction n with
    | zero => intro x2 a_heard hm hx2 k_a_heard; exact (ms0_up hm hx2).elim
    | succ n ih =>
      intro x2 a_heard hm hx2 k_a_heard
      apply hP
      refine ⟨fun c1 => ?_, fun c1 => ?_⟩
      · skip
        exact hpost _ k_a_heard
      · skip
        exact s_wp_X7_shorten_1_9 k_a_heard (iv_ltb (l := 1) (h := 9) (r_nle c1) hx2 hx1 (by decide)) (iv_lta (l := 0) (h := 8) (r_nle c1) hx2 hx1 (by decide)) (iv_w (iv_lit (l := 0) (h := 0) (by decide)) (by decide)) x2.toInt (Int.le_refl _) (fun u0 u1 hq g0 g1 => ih u0 u1 (ms_up hm hq) g0 g1) hpost
  exact loop _ _ _ (ms_init_up _ _) hx2 k_a_heard
set_option maxRecDepth 20000 in
theorem s_wp_X7_shorten_1_0 {a_heard : Nat → Int32} {x1 : Int32} {post : (Nat → Int32) → Prop} (k_a_heard : ∀ j, iv 0 1000 (a_heard j)) (hx1 : iv 0 9 x1) (hpost : ∀ (a_heard : Nat → Int32), (∀ j, iv 0 1000 (a_heard j)) → post a_heard) : q_wp_X7_shorten_1_0 a_heard x1 post := by
  exact s_wp_X7_shorten_1_2 k_a_heard hx1 (iv_w (iv_lit (l := 0) (h := 0) (by decide)) (by decide)) hpost
end
section
-- wp_X7_markAtOnce
set_option maxRecDepth 20000 in
theorem s_wp_X7_markAtOnce_28 {P2 : Int32 → (Nat → Int32) → Prop} {a_heard : Nat → Int32} {x1 : Int32} {x2 : Int32} {x3 : Int32} {post : (Nat → Int32) → Prop} (k_a_heard : ∀ j, iv 0 1000 (a_heard j)) (hx1 : iv 0 8 x1) (hx2 : iv 0 511 x2) (hx3 : iv 0 8 x3) (m2 : Int) (hm2 : m2 ≤ x3.toInt) (hP2 : ∀ (x3 : Int32) (a_heard : Nat → Int32), m2 < x3.toInt → iv 0 9 x3 → (∀ j, iv 0 1000 (a_heard j)) → P2 x3 a_heard) (hpost : ∀ (a_heard : Nat → Int32), (∀ j, iv 0 1000 (a_heard j)) → post a_heard) : q_wp_X7_markAtOnce_28 P2 a_heard x1 x2 x3 post := by
  intro w1 ew1
  have hw1 := iv_eq ew1 (iv_add (l := 1) (h := 9) hx3 (iv_lit (l := 1) (h := 1) (by decide)) (by decide))
  exact hP2 _ _ (ml_up hm2 (inc_lt ew1 hx3 (by decide))) (iv_w hw1 (by decide)) k_a_heard
set_option maxRecDepth 20000 in
theorem s_wp_X7_markAtOnce_2 {a_heard : Nat → Int32} {x1 : Int32} {x2 : Int32} {x3 : Int32} {post : (Nat → Int32) → Prop} (k_a_heard : ∀ j, iv 0 1000 (a_heard j)) (hx1 : iv 0 8 x1) (hx2 : iv 0 511 x2) (hx3 : iv 0 9 x3) (hpost : ∀ (a_heard : Nat → Int32), (∀ j, iv 0 1000 (a_heard j)) → post a_heard) : q_wp_X7_markAtOnce_2 a_heard x1 x2 x3 post := by
  intro P hP
  have loop : ∀ (n : Nat) (x3 : Int32) (a_heard : Nat → Int32), (9 - x3.toInt < (n : Int)) → (iv 0 9 x3) → (∀ j, iv 0 1000 (a_heard j)) → P x3 a_heard := by
    intro n
    induction n with
    | zero => intro x3 a_heard hm hx3 k_a_heard; exact (ms0_up hm hx3).elim
    | succ n ih =>
      intro x3 a_heard hm hx3 k_a_heard
      apply hP
      refine ⟨fun c1 => ?_, fun c1 => ?_⟩
      · skip
        exact hpost _ k_a_heard
      · skip
        refine ⟨fun c2 => ?_, fun c2 => ?_⟩
        · skip
          refine ⟨fun c3 => ?_, fun c3 => ?_⟩
          · skip
            exact s_wp_X7_markAtOnce_28 k_a_heard hx1 hx2 (iv_lta (l := 0) (h := 8) (r_nle c1) hx3 (iv_lit (l := 9) (h := 9) (by decide)) (by decide)) x3.toInt (Int.le_refl _) (fun u0 u1 hq g0 g1 => ih u0 u1 (ms_up hm hq) g0 g1) hpost
          · skip
            exact (iv_emp (iv_ne (l := 1) (h := 0) c3 (iv_lit (l := 0) (h := 0) (by decide)) (iv_lit (l := 0) (h := 0) (by decide)) (by decide)) (by decide)).elim
        · skip
          refine ⟨fun c4 => ?_, fun c4 => ?_⟩
          · skip
            exact (iv_emp (iv_eqa (l := 1) (h := 0) c4 (iv_lit (l := 1) (h := 1) (by decide)) (iv_lit (l := 0) (h := 0) (by decide)) (by decide)) (by decide)).elim
          · skip
            refine ⟨iv_in (iv_add (l := 0) (h := 80) (iv_mul (l := 0) (h := 72) hx1 (iv_lit (l := 9) (h := 9) (by decide)) (by decide)) (iv_lta (l := 0) (h := 8) (r_nle c1) hx3 (iv_lit (l := 9) (h := 9) (by decide)) (by decide)) (by decide)) (by decide), ?_⟩
            intro a5 ea5
            have k_a5 := iv_upd ea5 k_a_heard (iv_w (iv_lit (l := 0) (h := 0) (by decide)) (by decide))
            exact s_wp_X7_markAtOnce_28 k_a5 hx1 hx2 (iv_lta (l := 0) (h := 8) (r_nle c1) hx3 (iv_lit (l := 9) (h := 9) (by decide)) (by decide)) x3.toInt (Int.le_refl _) (fun u0 u1 hq g0 g1 => ih u0 u1 (ms_up hm hq) g0 g1) hpost
  exact loop _ _ _ (ms_init_up _ _) hx3 k_a_heard
set_option maxRecDepth 20000 in
theorem s_wp_X7_markAtOnce_0 {a_heard : Nat → Int32} {x1 : Int32} {x2 : Int32} {post : (Nat → Int32) → Prop} (k_a_heard : ∀ j, iv 0 1000 (a_heard j)) (hx1 : iv 0 8 x1) (hx2 : iv 0 511 x2) (hpost : ∀ (a_heard : Nat → Int32), (∀ j, iv 0 1000 (a_heard j)) → post a_heard) : q_wp_X7_markAtOnce_0 a_heard x1 x2 post := by
  exact s_wp_X7_markAtOnce_2 k_a_heard hx1 hx2 (iv_w (iv_lit (l := 0) (h := 0) (by decide)) (by decide)) hpost
-- wp_X7_hear_9
set_option maxRecDepth 20000 in
theorem s_wp_X7_hear_9_61 {P12 : Int32 → (Nat → Int32) → Prop} {P22 : Int32 → (Nat → Int32) → Prop} {a_heard : Nat → Int32} {lf_huts : Int32} {lf_dams : Int32} {lf_echoes : Int32} {la_heights : Nat → Int32} {la_minutes : Nat → Int32} {la_echoFrom : Nat → Int32} {la_echoTo : Nat → Int32} {x2 : Int32} {x3 : Int32} {post : (Nat → Int32) → Prop} (k_a_heard : ∀ j, iv 0 1000 (a_heard j)) (k_lf_huts : iv 1 9 lf_huts) (k_lf_dams : iv 0 511 lf_dams) (k_lf_echoes : iv 0 4 lf_echoes) (k_la_heights : ∀ j, iv 0 99 (la_heights j)) (k_la_minutes : ∀ j, iv 0 9 (la_minutes j)) (k_la_echoFrom : ∀ j, iv 0 8 (la_echoFrom j)) (k_la_echoTo : ∀ j, iv 0 8 (la_echoTo j)) (hx2 : iv 0 8 x2) (hx3 : iv 0 8 x3) (m12 : Int) (hm12 : m12 ≤ x2.toInt) (hP12 : ∀ (x2 : Int32) (a_heard : Nat → Int32), m12 < x2.toInt → iv 0 9 x2 → (∀ j, iv 0 1000 (a_heard j)) → P12 x2 a_heard) (m22 : Int) (hm22 : m22 ≤ x3.toInt) (hP22 : ∀ (x3 : Int32) (a_heard : Nat → Int32), m22 < x3.toInt → iv 0 9 x3 → (∀ j, iv 0 1000 (a_heard j)) → P22 x3 a_heard) (hpost : ∀ (a_heard : Nat → Int32), (∀ j, iv 0 1000 (a_heard j)) → post a_heard) : q_wp_X7_hear_9_61 P12 P22 a_heard lf_huts lf_dams lf_echoes la_heights la_minutes la_echoFrom la_echoTo x2 x3 post := by
  intro w1 ew1
  have hw1 := iv_eq ew1 (iv_add (l := 1) (h := 9) hx3 (iv_lit (l := 1) (h := 1) (by decide)) (by decide))
  exact hP22 _ _ (ml_up hm22 (inc_lt ew1 hx3 (by decide))) (iv_w hw1 (by decide)) k_a_heard
set_option maxRecDepth 20000 in
theorem s_wp_X7_hear_9_85 {P12 : Int32 → (Nat → Int32) → Prop} {a_heard : Nat → Int32} {lf_huts : Int32} {lf_dams : Int32} {lf_echoes : Int32} {la_heights : Nat → Int32} {la_minutes : Nat → Int32} {la_echoFrom : Nat → Int32} {la_echoTo : Nat → Int32} {x2 : Int32} {post : (Nat → Int32) → Prop} (k_a_heard : ∀ j, iv 0 1000 (a_heard j)) (k_lf_huts : iv 1 9 lf_huts) (k_lf_dams : iv 0 511 lf_dams) (k_lf_echoes : iv 0 4 lf_echoes) (k_la_heights : ∀ j, iv 0 99 (la_heights j)) (k_la_minutes : ∀ j, iv 0 9 (la_minutes j)) (k_la_echoFrom : ∀ j, iv 0 8 (la_echoFrom j)) (k_la_echoTo : ∀ j, iv 0 8 (la_echoTo j)) (hx2 : iv 0 8 x2) (m12 : Int) (hm12 : m12 ≤ x2.toInt) (hP12 : ∀ (x2 : Int32) (a_heard : Nat → Int32), m12 < x2.toInt → iv 0 9 x2 → (∀ j, iv 0 1000 (a_heard j)) → P12 x2 a_heard) (hpost : ∀ (a_heard : Nat → Int32), (∀ j, iv 0 1000 (a_heard j)) → post a_heard) : q_wp_X7_hear_9_85 P12 a_heard lf_huts lf_dams lf_echoes la_heights la_minutes la_echoFrom la_echoTo x2 post := by
  intro w1 ew1
  have hw1 := iv_eq ew1 (iv_add (l := 1) (h := 9) hx2 (iv_lit (l := 1) (h := 1) (by decide)) (by decide))
  exact hP12 _ _ (ml_up hm12 (inc_lt ew1 hx2 (by decide))) (iv_w hw1 (by decide)) k_a_heard
set_option maxRecDepth 20000 in
theorem s_wp_X7_hear_9_22 {P12 : Int32 → (Nat → Int32) → Prop} {a_heard : Nat → Int32} {lf_huts : Int32} {lf_dams : Int32} {lf_echoes : Int32} {la_heights : Nat → Int32} {la_minutes : Nat → Int32} {la_echoFrom : Nat → Int32} {la_echoTo : Nat → Int32} {x2 : Int32} {x3 : Int32} {post : (Nat → Int32) → Prop} (k_a_heard : ∀ j, iv 0 1000 (a_heard j)) (k_lf_huts : iv 1 9 lf_huts) (k_lf_dams : iv 0 511 lf_dams) (k_lf_echoes : iv 0 4 lf_echoes) (k_la_heights : ∀ j, iv 0 99 (la_heights j)) (k_la_minutes : ∀ j, iv 0 9 (la_minutes j)) (k_la_echoFrom : ∀ j, iv 0 8 (la_echoFrom j)) (k_la_echoTo : ∀ j, iv 0 8 (la_echoTo j)) (hx2 : iv 0 8 x2) (hx3 : iv 0 9 x3) (m12 : Int) (hm12 : m12 ≤ x2.toInt) (hP12 : ∀ (x2 : Int32) (a_heard : Nat → Int32), m12 < x2.toInt → iv 0 9 x2 → (∀ j, iv 0 1000 (a_heard j)) → P12 x2 a_heard) (hpost : ∀ (a_heard : Nat → Int32), (∀ j, iv 0 1000 (a_heard j)) → post a_heard) : q_wp_X7_hear_9_22 P12 a_heard lf_huts lf_dams lf_echoes la_heights la_minutes la_echoFrom la_echoTo x2 x3 post := by
  intro P hP
  have loop : ∀ (n : Nat) (x3 : Int32) (a_heard : Nat → Int32), (9 - x3.toInt < (n : Int)) → (iv 0 9 x3) → (∀ j, iv 0 1000 (a_heard j)) → P x3 a_heard := by
    intro n
    induction n with
    | zero => intro x3 a_heard hm hx3 k_a_heard; exact (ms0_up hm hx3).elim
    | succ n ih =>
      intro x3 a_heard hm hx3 k_a_heard
      apply hP
      refine ⟨fun c1 => ?_, fun c1 => ?_⟩
      · skip
        refine ⟨fun c2 => ?_, fun c2 => ?_⟩
        · skip
          refine ⟨fun c3 => ?_, fun c3 => ?_⟩
          · skip
            exact (iv_emp (iv_ne (l := 1) (h := 0) c3 (iv_lit (l := 0) (h := 0) (by decide)) (iv_lit (l := 0) (h := 0) (by decide)) (by decide)) (by decide)).elim
          · skip
            refine s_wl_X2_earshot_0 k_lf_dams k_lf_echoes k_la_echoFrom k_la_echoTo hx2 (fun r4 hr4 => ?_)
            refine s_wp_X7_markAtOnce_0 k_a_heard hx2 hr4 (fun o5 k_o5 => ?_)
            exact s_wp_X7_hear_9_85 k_o5 k_lf_huts k_lf_dams k_lf_echoes k_la_heights k_la_minutes k_la_echoFrom k_la_echoTo hx2 m12 hm12 hP12 hpost
        · skip
          refine ⟨fun c6 => ?_, fun c6 => ?_⟩
          · skip
            exact s_wp_X7_hear_9_85 k_a_heard k_lf_huts k_lf_dams k_lf_echoes k_la_heights k_la_minutes k_la_echoFrom k_la_echoTo hx2 m12 hm12 hP12 hpost
          · skip
            exact (iv_emp (iv_eqa (l := 1) (h := 0) c6 (iv_lit (l := 1) (h := 1) (by decide)) (iv_lit (l := 0) (h := 0) (by decide)) (by decide)) (by decide)).elim
      · skip
        refine ⟨iv_in (iv_add (l := 0) (h := 80) (iv_mul (l := 0) (h := 72) hx2 (iv_lit (l := 9) (h := 9) (by decide)) (by decide)) (iv_lta (l := 0) (h := 8) (r_nle c1) hx3 k_lf_huts (by decide)) (by decide)) (by decide), ?_⟩
        refine ⟨fun c7 => ?_, fun c7 => ?_⟩
        · skip
          refine ⟨fun c8 => ?_, fun c8 => ?_⟩
          · skip
            exact s_wp_X7_hear_9_61 k_a_heard k_lf_huts k_lf_dams k_lf_echoes k_la_heights k_la_minutes k_la_echoFrom k_la_echoTo hx2 (iv_lta (l := 0) (h := 8) (r_nle c1) hx3 k_lf_huts (by decide)) m12 hm12 hP12 x3.toInt (Int.le_refl _) (fun u0 u1 hq g0 g1 => ih u0 u1 (ms_up hm hq) g0 g1) hpost
          · skip
            exact (iv_emp (iv_ne (l := 1) (h := 0) c8 (iv_lit (l := 0) (h := 0) (by decide)) (iv_lit (l := 0) (h := 0) (by decide)) (by decide)) (by decide)).elim
        · skip
          refine ⟨iv_in (iv_lta (l := 0) (h := 8) (r_nle c1) hx3 k_lf_huts (by decide)) (by decide), ?_⟩
          refine ⟨iv_in hx2 (by decide), ?_⟩
          refine ⟨fun c9 => ?_, fun c9 => ?_⟩
          · skip
            refine ⟨fun c10 => ?_, fun c10 => ?_⟩
            · skip
              exact s_wp_X7_hear_9_61 k_a_heard k_lf_huts k_lf_dams k_lf_echoes k_la_heights k_la_minutes k_la_echoFrom k_la_echoTo hx2 (iv_lta (l := 0) (h := 8) (r_nle c1) hx3 k_lf_huts (by decide)) m12 hm12 hP12 x3.toInt (Int.le_refl _) (fun u0 u1 hq g0 g1 => ih u0 u1 (ms_up hm hq) g0 g1) hpost
            · skip
              exact (iv_emp (iv_ne (l := 1) (h := 0) c10 (iv_lit (l := 0) (h := 0) (by decide)) (iv_lit (l := 0) (h := 0) (by decide)) (by decide)) (by decide)).elim
          · skip
            refine ⟨fun c11 => ?_, fun c11 => ?_⟩
            · skip
              refine ⟨fun c12 => ?_, fun c12 => ?_⟩
              · skip
                exact (iv_emp (iv_ne (l := 1) (h := 0) c12 (iv_lit (l := 0) (h := 0) (by decide)) (iv_lit (l := 0) (h := 0) (by decide)) (by decide)) (by decide)).elim
              · skip
                refine ⟨fun c13 => ?_, fun c13 => ?_⟩
                · skip
                  refine ⟨fun c14 => ?_, fun c14 => ?_⟩
                  · skip
                    exact (iv_emp (iv_ne (l := 1) (h := 0) c14 (iv_lit (l := 0) (h := 0) (by decide)) (iv_lit (l := 0) (h := 0) (by decide)) (by decide)) (by decide)).elim
                  · skip
                    refine ⟨fun c15 => ?_, fun c15 => ?_⟩
                    · skip
                      exact (iv_emp (iv_eqa (l := 1) (h := 0) c15 (iv_lit (l := 1) (h := 1) (by decide)) (iv_lit (l := 0) (h := 0) (by decide)) (by decide)) (by decide)).elim
                    · skip
                      refine ⟨iv_in (iv_add (l := 0) (h := 80) (iv_mul (l := 0) (h := 72) hx2 (iv_lit (l := 9) (h := 9) (by decide)) (by decide)) (iv_lta (l := 0) (h := 8) (r_nle c1) hx3 k_lf_huts (by decide)) (by decide)) (by decide), ?_⟩
                      intro w16 ew16
                      have hw16 := iv_eq ew16 (iv_ltb (l := 1) (h := 9) (r_nle c7) (iv_lit (l := 0) (h := 0) (by decide)) (k_la_minutes _) (by decide))
                      refine ⟨iv_in (iv_add (l := 0) (h := 80) (iv_mul (l := 0) (h := 72) hx2 (iv_lit (l := 9) (h := 9) (by decide)) (by decide)) (iv_lta (l := 0) (h := 8) (r_nle c1) hx3 k_lf_huts (by decide)) (by decide)) (by decide), ?_⟩
                      intro a17 ea17
                      have k_a17 := iv_upd ea17 k_a_heard (iv_w hw16 (by decide))
                      exact s_wp_X7_hear_9_61 k_a17 k_lf_huts k_lf_dams k_lf_echoes k_la_heights k_la_minutes k_la_echoFrom k_la_echoTo hx2 (iv_lta (l := 0) (h := 8) (r_nle c1) hx3 k_lf_huts (by decide)) m12 hm12 hP12 x3.toInt (Int.le_refl _) (fun u0 u1 hq g0 g1 => ih u0 u1 (ms_up hm hq) g0 g1) hpost
                · skip
                  refine ⟨fun c18 => ?_, fun c18 => ?_⟩
                  · skip
                    refine ⟨fun c19 => ?_, fun c19 => ?_⟩
                    · skip
                      exact s_wp_X7_hear_9_61 k_a_heard k_lf_huts k_lf_dams k_lf_echoes k_la_heights k_la_minutes k_la_echoFrom k_la_echoTo hx2 (iv_lta (l := 0) (h := 8) (r_nle c1) hx3 k_lf_huts (by decide)) m12 hm12 hP12 x3.toInt (Int.le_refl _) (fun u0 u1 hq g0 g1 => ih u0 u1 (ms_up hm hq) g0 g1) hpost
                    · skip
                      exact (iv_emp (iv_ne (l := 1) (h := 0) c19 (iv_lit (l := 0) (h := 0) (by decide)) (iv_lit (l := 0) (h := 0) (by decide)) (by decide)) (by decide)).elim
                  · skip
                    exact (iv_emp (iv_eqa (l := 1) (h := 0) c18 (iv_lit (l := 1) (h := 1) (by decide)) (iv_lit (l := 0) (h := 0) (by decide)) (by decide)) (by decide)).elim
            · skip
              refine ⟨fun c20 => ?_, fun c20 => ?_⟩
              · skip
                refine ⟨fun c21 => ?_, fun c21 => ?_⟩
                · skip
                  exact s_wp_X7_hear_9_61 k_a_heard k_lf_huts k_lf_dams k_lf_echoes k_la_heights k_la_minutes k_la_echoFrom k_la_echoTo hx2 (iv_lta (l := 0) (h := 8) (r_nle c1) hx3 k_lf_huts (by decide)) m12 hm12 hP12 x3.toInt (Int.le_refl _) (fun u0 u1 hq g0 g1 => ih u0 u1 (ms_up hm hq) g0 g1) hpost
                · skip
                  exact (iv_emp (iv_ne (l := 1) (h := 0) c21 (iv_lit (l := 0) (h := 0) (by decide)) (iv_lit (l := 0) (h := 0) (by decide)) (by decide)) (by decide)).elim
              · skip
                exact (iv_emp (iv_eqa (l := 1) (h := 0) c20 (iv_lit (l := 1) (h := 1) (by decide)) (iv_lit (l := 0) (h := 0) (by decide)) (by decide)) (by decide)).elim
  exact loop _ _ _ (ms_init_up _ _) hx3 k_a_heard
set_option maxRecDepth 20000 in
theorem s_wp_X7_hear_9_12 {a_heard : Nat → Int32} {lf_huts : Int32} {lf_dams : Int32} {lf_echoes : Int32} {la_heights : Nat → Int32} {la_minutes : Nat → Int32} {la_echoFrom : Nat → Int32} {la_echoTo : Nat → Int32} {x2 : Int32} {post : (Nat → Int32) → Prop} (k_a_heard : ∀ j, iv 0 1000 (a_heard j)) (k_lf_huts : iv 0 9 lf_huts) (k_lf_dams : iv 0 511 lf_dams) (k_lf_echoes : iv 0 4 lf_echoes) (k_la_heights : ∀ j, iv 0 99 (la_heights j)) (k_la_minutes : ∀ j, iv 0 9 (la_minutes j)) (k_la_echoFrom : ∀ j, iv 0 8 (la_echoFrom j)) (k_la_echoTo : ∀ j, iv 0 8 (la_echoTo j)) (hx2 : iv 0 9 x2) (hpost : ∀ (a_heard : Nat → Int32), (∀ j, iv 0 1000 (a_heard j)) → post a_heard) : q_wp_X7_hear_9_12 a_heard lf_huts lf_dams lf_echoes la_heights la_minutes la_echoFrom la_echoTo x2 post := by
  intro P hP
  have loop : ∀ (n : Nat) (x2 : Int32) (a_heard : Nat → Int32), (9 - x2.toInt < (n : Int)) → (iv 0 9 x2) → (∀ j, iv 0 1000 (a_heard j)) → P x2 a_heard := by
    intro n
    induction n with
    | zero => intro x2 a_heard hm hx2 k_a_heard; exact (ms0_up hm hx2).elim
    | succ n ih =>
      intro x2 a_heard hm hx2 k_a_heard
      apply hP
      refine ⟨fun c1 => ?_, fun c1 => ?_⟩
      · skip
        refine s_wp_X7_shorten_1_0 k_a_heard k_lf_huts (fun o2 k_o2 => ?_)
        exact hpost _ k_o2
      · skip
        exact s_wp_X7_hear_9_22 k_a_heard (iv_ltb (l := 1) (h := 9) (r_nle c1) hx2 k_lf_huts (by decide)) k_lf_dams k_lf_echoes k_la_heights k_la_minutes k_la_echoFrom k_la_echoTo (iv_lta (l := 0) (h := 8) (r_nle c1) hx2 k_lf_huts (by decide)) (iv_w (iv_lit (l := 0) (h := 0) (by decide)) (by decide)) x2.toInt (Int.le_refl _) (fun u0 u1 hq g0 g1 => ih u0 u1 (ms_up hm hq) g0 g1) hpost
  exact loop _ _ _ (ms_init_up _ _) hx2 k_a_heard
set_option maxRecDepth 20000 in
theorem s_wp_X7_hear_9_0 {a_heard : Nat → Int32} {lf_huts : Int32} {lf_dams : Int32} {lf_echoes : Int32} {la_heights : Nat → Int32} {la_minutes : Nat → Int32} {la_echoFrom : Nat → Int32} {la_echoTo : Nat → Int32} {post : (Nat → Int32) → Prop} (k_a_heard : ∀ j, iv 0 1000 (a_heard j)) (k_lf_huts : iv 0 9 lf_huts) (k_lf_dams : iv 0 511 lf_dams) (k_lf_echoes : iv 0 4 lf_echoes) (k_la_heights : ∀ j, iv 0 99 (la_heights j)) (k_la_minutes : ∀ j, iv 0 9 (la_minutes j)) (k_la_echoFrom : ∀ j, iv 0 8 (la_echoFrom j)) (k_la_echoTo : ∀ j, iv 0 8 (la_echoTo j)) (hpost : ∀ (a_heard : Nat → Int32), (∀ j, iv 0 1000 (a_heard j)) → post a_heard) : q_wp_X7_hear_9_0 a_heard lf_huts lf_dams lf_echoes la_heights la_minutes la_echoFrom la_echoTo post := by
  refine s_wp_J7_fill_53178_1_0 k_a_heard (iv_lit (l := 1000) (h := 1000) (by decide)) (fun o1 k_o1 => ?_)
  exact s_wp_X7_hear_9_12 k_o1 k_lf_huts k_lf_dams k_lf_echoes k_la_heights k_la_minutes k_la_echoFrom k_la_echoTo (iv_w (iv_lit (l := 0) (h := 0) (by decide)) (by decide)) hpost
-- wp_J7_fill_53178_2
set_option maxRecDepth 20000 in
theorem s_wp_J7_fill_53178_2_5 {a_walked : Nat → Int32} {x1 : Int32} {x2 : Int32} {x3 : Int32} {post : (Nat → Int32) → Prop} (k_a_walked : ∀ j, iv 0 1000 (a_walked j)) (hx1 : iv 1000 1000 x1) (hx2 : iv 0 81 x2) (hx3 : iv 81 81 x3) (hpost : ∀ (a_walked : Nat → Int32), (∀ j, iv 0 1000 (a_walked j)) → post a_walked) : q_wp_J7_fill_53178_2_5 a_walked x1 x2 x3 post := by
  intro P hP
  have loop : ∀ (n : Nat) (x2 : Int32) (a_walked : Nat → Int32), (81 - x2.toInt < (n : Int)) → (iv 0 81 x2) → (∀ j, iv 0 1000 (a_walked j)) → P x2 a_walked := by
    intro n
    induction n with
    | zero => intro x2 a_walked hm hx2 k_a_walked; exact (ms0_up hm hx2).elim
    | succ n ih =>
      intro x2 a_walked hm hx2 k_a_walked
      apply hP
      refine ⟨fun c1 => ?_, fun c1 => ?_⟩
      · skip
        exact hpost _ k_a_walked
      · skip
        refine ⟨iv_in (iv_lta (l := 0) (h := 80) (r_nle c1) hx2 hx3 (by decide)) (by decide), ?_⟩
        intro a2 ea2
        have k_a2 := iv_upd ea2 k_a_walked (iv_w hx1 (by decide))
        intro w3 ew3
        have hw3 := iv_eq ew3 (iv_add (l := 1) (h := 81) (iv_lta (l := 0) (h := 80) (r_nle c1) hx2 hx3 (by decide)) (iv_lit (l := 1) (h := 1) (by decide)) (by decide))
        exact ih _ _ (ms_up hm (inc_lt ew3 (iv_lta (l := 0) (h := 80) (r_nle c1) hx2 hx3 (by decide)) (by decide))) (iv_w hw3 (by decide)) k_a2
  exact loop _ _ _ (ms_init_up _ _) hx2 k_a_walked
set_option maxRecDepth 20000 in
theorem s_wp_J7_fill_53178_2_0 {a_walked : Nat → Int32} {x1 : Int32} {post : (Nat → Int32) → Prop} (k_a_walked : ∀ j, iv 0 1000 (a_walked j)) (hx1 : iv 1000 1000 x1) (hpost : ∀ (a_walked : Nat → Int32), (∀ j, iv 0 1000 (a_walked j)) → post a_walked) : q_wp_J7_fill_53178_2_0 a_walked x1 post := by
  exact s_wp_J7_fill_53178_2_5 k_a_walked hx1 (iv_w (iv_lit (l := 0) (h := 0) (by decide)) (by decide)) (iv_lit (l := 81) (h := 81) (by decide)) hpost
-- wp_X7_shorten_2
set_option maxRecDepth 20000 in
theorem s_wp_X7_shorten_2_80 {P2 : Int32 → (Nat → Int32) → Prop} {P9 : Int32 → (Nat → Int32) → Prop} {P27 : Int32 → (Nat → Int32) → Prop} {a_walked : Nat → Int32} {x1 : Int32} {x2 : Int32} {x3 : Int32} {x4 : Int32} {x5 : Int32} {post : (Nat → Int32) → Prop} (k_a_walked : ∀ j, iv 0 1000 (a_walked j)) (hx1 : iv 1 9 x1) (hx2 : iv 0 8 x2) (hx3 : iv 0 8 x3) (hx4 : iv 0 999 x4) (hx5 : iv 0 8 x5) (m2 : Int) (hm2 : m2 ≤ x2.toInt) (hP2 : ∀ (x2 : Int32) (a_walked : Nat → Int32), m2 < x2.toInt → iv 0 9 x2 → (∀ j, iv 0 1000 (a_walked j)) → P2 x2 a_walked) (m9 : Int) (hm9 : m9 ≤ x3.toInt) (hP9 : ∀ (x3 : Int32) (a_walked : Nat → Int32), m9 < x3.toInt → iv 0 9 x3 → (∀ j, iv 0 1000 (a_walked j)) → P9 x3 a_walked) (m27 : Int) (hm27 : m27 ≤ x5.toInt) (hP27 : ∀ (x5 : Int32) (a_walked : Nat → Int32), m27 < x5.toInt → iv 0 9 x5 → (∀ j, iv 0 1000 (a_walked j)) → P27 x5 a_walked) (hpost : ∀ (a_walked : Nat → Int32), (∀ j, iv 0 1000 (a_walked j)) → post a_walked) : q_wp_X7_shorten_2_80 P2 P9 P27 a_walked x1 x2 x3 x4 x5 post := by
  intro w1 ew1
  have hw1 := iv_eq ew1 (iv_add (l := 1) (h := 9) hx5 (iv_lit (l := 1) (h := 1) (by decide)) (by decide))
  exact hP27 _ _ (ml_up hm27 (inc_lt ew1 hx5 (by decide))) (iv_w hw1 (by decide)) k_a_walked
set_option maxRecDepth 20000 in
theorem s_wp_X7_shorten_2_86 {P2 : Int32 → (Nat → Int32) → Prop} {P9 : Int32 → (Nat → Int32) → Prop} {a_walked : Nat → Int32} {x1 : Int32} {x2 : Int32} {x3 : Int32} {post : (Nat → Int32) → Prop} (k_a_walked : ∀ j, iv 0 1000 (a_walked j)) (hx1 : iv 1 9 x1) (hx2 : iv 0 8 x2) (hx3 : iv 0 8 x3) (m2 : Int) (hm2 : m2 ≤ x2.toInt) (hP2 : ∀ (x2 : Int32) (a_walked : Nat → Int32), m2 < x2.toInt → iv 0 9 x2 → (∀ j, iv 0 1000 (a_walked j)) → P2 x2 a_walked) (m9 : Int) (hm9 : m9 ≤ x3.toInt) (hP9 : ∀ (x3 : Int32) (a_walked : Nat → Int32), m9 < x3.toInt → iv 0 9 x3 → (∀ j, iv 0 1000 (a_walked j)) → P9 x3 a_walked) (hpost : ∀ (a_walked : Nat → Int32), (∀ j, iv 0 1000 (a_walked j)) → post a_walked) : q_wp_X7_shorten_2_86 P2 P9 a_walked x1 x2 x3 post := by
  intro w1 ew1
  have hw1 := iv_eq ew1 (iv_add (l := 1) (h := 9) hx3 (iv_lit (l := 1) (h := 1) (by decide)) (by decide))
  exact hP9 _ _ (ml_up hm9 (inc_lt ew1 hx3 (by decide))) (iv_w hw1 (by decide)) k_a_walked
set_option maxRecDepth 20000 in
theorem s_wp_X7_shorten_2_27 {P2 : Int32 → (Nat → Int32) → Prop} {P9 : Int32 → (Nat → Int32) → Prop} {a_walked : Nat → Int32} {x1 : Int32} {x2 : Int32} {x3 : Int32} {x4 : Int32} {x5 : Int32} {post : (Nat → Int32) → Prop} (k_a_walked : ∀ j, iv 0 1000 (a_walked j)) (hx1 : iv 1 9 x1) (hx2 : iv 0 8 x2) (hx3 : iv 0 8 x3) (hx4 : iv 0 1000 x4) (hx5 : iv 0 9 x5) (m2 : Int) (hm2 : m2 ≤ x2.toInt) (hP2 : ∀ (x2 : Int32) (a_walked : Nat → Int32), m2 < x2.toInt → iv 0 9 x2 → (∀ j, iv 0 1000 (a_walked j)) → P2 x2 a_walked) (m9 : Int) (hm9 : m9 ≤ x3.toInt) (hP9 : ∀ (x3 : Int32) (a_walked : Nat → Int32), m9 < x3.toInt → iv 0 9 x3 → (∀ j, iv 0 1000 (a_walked j)) → P9 x3 a_walked) (hpost : ∀ (a_walked : Nat → Int32), (∀ j, iv 0 1000 (a_walked j)) → post a_walked) : q_wp_X7_shorten_2_27 P2 P9 a_walked x1 x2 x3 x4 x5 post := by
  intro P hP
  have loop : ∀ (n : Nat) (x5 : Int32) (a_walked : Nat → Int32), (9 - x5.toInt < (n : Int)) → (iv 0 9 x5) → (∀ j, iv 0 1000 (a_walked j)) → P x5 a_walked := by
    intro n
    induction n with
    | zero => intro x5 a_walked hm hx5 k_a_walked; exact (ms0_up hm hx5).elim
    | succ n ih =>
      intro x5 a_walked hm hx5 k_a_walked
      apply hP
      refine ⟨fun c1 => ?_, fun c1 => ?_⟩
      · skip
        exact s_wp_X7_shorten_2_86 k_a_walked hx1 hx2 hx3 m2 hm2 hP2 m9 hm9 hP9 hpost
      · skip
        refine ⟨fun c2 => ?_, fun c2 => ?_⟩
        · skip
          exact s_wp_X7_shorten_2_86 k_a_walked hx1 hx2 hx3 m2 hm2 hP2 m9 hm9 hP9 hpost
        · skip
          refine ⟨iv_in (iv_add (l := 0) (h := 80) (iv_mul (l := 0) (h := 72) hx2 (iv_lit (l := 9) (h := 9) (by decide)) (by decide)) (iv_lta (l := 0) (h := 8) (r_nle c1) hx5 hx1 (by decide)) (by decide)) (by decide), ?_⟩
          intro w3 ew3
          have hw3 := iv_eq ew3 (iv_add (l := 0) (h := 1999) (iv_lta (l := 0) (h := 999) (r_nle c2) hx4 (iv_lit (l := 1000) (h := 1000) (by decide)) (by decide)) (k_a_walked _) (by decide))
          refine ⟨iv_in (iv_add (l := 0) (h := 80) (iv_mul (l := 0) (h := 72) hx3 (iv_lit (l := 9) (h := 9) (by decide)) (by decide)) (iv_lta (l := 0) (h := 8) (r_nle c1) hx5 hx1 (by decide)) (by decide)) (by decide), ?_⟩
          refine ⟨fun c4 => ?_, fun c4 => ?_⟩
          · skip
            exact s_wp_X7_shorten_2_80 k_a_walked hx1 hx2 hx3 (iv_lta (l := 0) (h := 999) (r_nle c2) hx4 (iv_lit (l := 1000) (h := 1000) (by decide)) (by decide)) (iv_lta (l := 0) (h := 8) (r_nle c1) hx5 hx1 (by decide)) m2 hm2 hP2 m9 hm9 hP9 x5.toInt (Int.le_refl _) (fun u0 u1 hq g0 g1 => ih u0 u1 (ms_up hm hq) g0 g1) hpost
          · skip
            refine ⟨iv_in (iv_add (l := 0) (h := 80) (iv_mul (l := 0) (h := 72) hx3 (iv_lit (l := 9) (h := 9) (by decide)) (by decide)) (iv_lta (l := 0) (h := 8) (r_nle c1) hx5 hx1 (by decide)) (by decide)) (by decide), ?_⟩
            intro a5 ea5
            have k_a5 := iv_upd ea5 k_a_walked (iv_w (iv_lta (l := 0) (h := 999) (r_nle c4) hw3 (k_a_walked _) (by decide)) (by decide))
            exact s_wp_X7_shorten_2_80 k_a5 hx1 hx2 hx3 (iv_lta (l := 0) (h := 999) (r_nle c2) hx4 (iv_lit (l := 1000) (h := 1000) (by decide)) (by decide)) (iv_lta (l := 0) (h := 8) (r_nle c1) hx5 hx1 (by decide)) m2 hm2 hP2 m9 hm9 hP9 x5.toInt (Int.le_refl _) (fun u0 u1 hq g0 g1 => ih u0 u1 (ms_up hm hq) g0 g1) hpost
  exact loop _ _ _ (ms_init_up _ _) hx5 k_a_walked
set_option maxRecDepth 20000 in
theorem s_wp_X7_shorten_2_9 {P2 : Int32 → (Nat → Int32) → Prop} {a_walked : Nat → Int32} {x1 : Int32} {x2 : Int32} {x3 : Int32} {post : (Nat → Int32) → Prop} (k_a_walked : ∀ j, iv 0 1000 (a_walked j)) (hx1 : iv 1 9 x1) (hx2 : iv 0 8 x2) (hx3 : iv 0 9 x3) (m2 : Int) (hm2 : m2 ≤ x2.toInt) (hP2 : ∀ (x2 : Int32) (a_walked : Nat → Int32), m2 < x2.toInt → iv 0 9 x2 → (∀ j, iv 0 1000 (a_walked j)) → P2 x2 a_walked) (hpost : ∀ (a_walked : Nat → Int32), (∀ j, iv 0 1000 (a_walked j)) → post a_walked) : q_wp_X7_shorten_2_9 P2 a_walked x1 x2 x3 post := by
  intro P hP
  have loop : ∀ (n : Nat) (x3 : Int32) (a_walked : Nat → Int32), (9 - x3.toInt < (n : Int)) → (iv 0 9 x3) → (∀ j, iv 0 1000 (a_walked j)) → P x3 a_walked := by
    intro n
    induction n with
    | zero => intro x3 a_walked hm hx3 k_a_walked; exact (ms0_up hm hx3).elim
    | succ n ih =>
      intro x3 a_walked hm hx3 k_a_walked
      apply hP
      refine ⟨fun c1 => ?_, fun c1 => ?_⟩
      · skip
        intro w2 ew2
        have hw2 := iv_eq ew2 (iv_add (l := 1) (h := 9) hx2 (iv_lit (l := 1) (h := 1) (by decide)) (by decide))
        exact hP2 _ _ (ml_up hm2 (inc_lt ew2 hx2 (by decide))) (iv_w hw2 (by decide)) k_a_walked
      · skip
        refine ⟨iv_in (iv_add (l := 0) (h := 80) (iv_mul (l := 0) (h := 72) (iv_lta (l := 0) (h := 8) (r_nle c1) hx3 hx1 (by decide)) (iv_lit (l := 9) (h := 9) (by decide)) (by decide)) hx2 (by decide)) (by decide), ?_⟩
        intro w3 ew3
        have hw3 := iv_eq ew3 (k_a_walked _)
        exact s_wp_X7_shorten_2_27 k_a_walked hx1 hx2 (iv_lta (l := 0) (h := 8) (r_nle c1) hx3 hx1 (by decide)) hw3 (iv_w (iv_lit (l := 0) (h := 0) (by decide)) (by decide)) m2 hm2 hP2 x3.toInt (Int.le_refl _) (fun u0 u1 hq g0 g1 => ih u0 u1 (ms_up hm hq) g0 g1) hpost
  exact loop _ _ _ (ms_init_up _ _) hx3 k_a_walked
set_option maxRecDepth 20000 in
theorem s_wp_X7_shorten_2_2 {a_walked : Nat → Int32} {x1 : Int32} {x2 : Int32} {post : (Nat → Int32) → Prop} (k_a_walked : ∀ j, iv 0 1000 (a_walked j)) (hx1 : iv 0 9 x1) (hx2 : iv 0 9 x2) (hpost : ∀ (a_walked : Nat → Int32), (∀ j, iv 0 1000 (a_walked j)) → post a_walked) : q_wp_X7_shorten_2_2 a_walked x1 x2 post := by
  intro P hP
  have loop : ∀ (n : Nat) (x2 : Int32) (a_walked : Nat → Int32), (9 - x2.toInt < (n : Int)) → (iv 0 9 x2) → (∀ j, iv 0 1000 (a_walked j)) → P x2 a_walked := by
    intro n
    induction n with
    | zero => intro x2 a_walked hm hx2 k_a_walked; exact (ms0_up hm hx2).elim
    | succ n ih =>
      intro x2 a_walked hm hx2 k_a_walked
      apply hP
      refine ⟨fun c1 => ?_, fun c1 => ?_⟩
      · skip
        exact hpost _ k_a_walked
      · skip
        exact s_wp_X7_shorten_2_9 k_a_walked (iv_ltb (l := 1) (h := 9) (r_nle c1) hx2 hx1 (by decide)) (iv_lta (l := 0) (h := 8) (r_nle c1) hx2 hx1 (by decide)) (iv_w (iv_lit (l := 0) (h := 0) (by decide)) (by decide)) x2.toInt (Int.le_refl _) (fun u0 u1 hq g0 g1 => ih u0 u1 (ms_up hm hq) g0 g1) hpost
  exact loop _ _ _ (ms_init_up _ _) hx2 k_a_walked
set_option maxRecDepth 20000 in
theorem s_wp_X7_shorten_2_0 {a_walked : Nat → Int32} {x1 : Int32} {post : (Nat → Int32) → Prop} (k_a_walked : ∀ j, iv 0 1000 (a_walked j)) (hx1 : iv 0 9 x1) (hpost : ∀ (a_walked : Nat → Int32), (∀ j, iv 0 1000 (a_walked j)) → post a_walked) : q_wp_X7_shorten_2_0 a_walked x1 post := by
  exact s_wp_X7_shorten_2_2 k_a_walked hx1 (iv_w (iv_lit (l := 0) (h := 0) (by decide)) (by decide)) hpost
-- wp_X7_walk_9
set_option maxRecDepth 20000 in
theorem s_wp_X7_walk_9_61 {P12 : Int32 → (Nat → Int32) → Prop} {P22 : Int32 → (Nat → Int32) → Prop} {a_walked : Nat → Int32} {lf_huts : Int32} {la_minutes : Nat → Int32} {x2 : Int32} {x3 : Int32} {post : (Nat → Int32) → Prop} (k_a_walked : ∀ j, iv 0 1000 (a_walked j)) (k_lf_huts : iv 1 9 lf_huts) (k_la_minutes : ∀ j, iv 0 9 (la_minutes j)) (hx2 : iv 0 8 x2) (hx3 : iv 0 8 x3) (m12 : Int) (hm12 : m12 ≤ x2.toInt) (hP12 : ∀ (x2 : Int32) (a_walked : Nat → Int32), m12 < x2.toInt → iv 0 9 x2 → (∀ j, iv 0 1000 (a_walked j)) → P12 x2 a_walked) (m22 : Int) (hm22 : m22 ≤ x3.toInt) (hP22 : ∀ (x3 : Int32) (a_walked : Nat → Int32), m22 < x3.toInt → iv 0 9 x3 → (∀ j, iv 0 1000 (a_walked j)) → P22 x3 a_walked) (hpost : ∀ (a_walked : Nat → Int32), (∀ j, iv 0 1000 (a_walked j)) → post a_walked) : q_wp_X7_walk_9_61 P12 P22 a_walked lf_huts la_minutes x2 x3 post := by
  intro w1 ew1
  have hw1 := iv_eq ew1 (iv_add (l := 1) (h := 9) hx3 (iv_lit (l := 1) (h := 1) (by decide)) (by decide))
  exact hP22 _ _ (ml_up hm22 (inc_lt ew1 hx3 (by decide))) (iv_w hw1 (by decide)) k_a_walked
set_option maxRecDepth 20000 in
theorem s_wp_X7_walk_9_22 {P12 : Int32 → (Nat → Int32) → Prop} {a_walked : Nat → Int32} {lf_huts : Int32} {la_minutes : Nat → Int32} {x2 : Int32} {x3 : Int32} {post : (Nat → Int32) → Prop} (k_a_walked : ∀ j, iv 0 1000 (a_walked j)) (k_lf_huts : iv 1 9 lf_huts) (k_la_minutes : ∀ j, iv 0 9 (la_minutes j)) (hx2 : iv 0 8 x2) (hx3 : iv 0 9 x3) (m12 : Int) (hm12 : m12 ≤ x2.toInt) (hP12 : ∀ (x2 : Int32) (a_walked : Nat → Int32), m12 < x2.toInt → iv 0 9 x2 → (∀ j, iv 0 1000 (a_walked j)) → P12 x2 a_walked) (hpost : ∀ (a_walked : Nat → Int32), (∀ j, iv 0 1000 (a_walked j)) → post a_walked) : q_wp_X7_walk_9_22 P12 a_walked lf_huts la_minutes x2 x3 post := by
  intro P hP
  have loop : ∀ (n : Nat) (x3 : Int32) (a_walked : Nat → Int32), (9 - x3.toInt < (n : Int)) → (iv 0 9 x3) → (∀ j, iv 0 1000 (a_walked j)) → P x3 a_walked := by
    intro n
    induction n with
    | zero => intro x3 a_walked hm hx3 k_a_walked; exact (ms0_up hm hx3).elim
    | succ n ih =>
      intro x3 a_walked hm hx3 k_a_walked
      apply hP
      refine ⟨fun c1 => ?_, fun c1 => ?_⟩
      · skip
        refine ⟨iv_in (iv_add (l := 0) (h := 80) (iv_mul (l := 0) (h := 72) hx2 (iv_lit (l := 9) (h := 9) (by decide)) (by decide)) hx2 (by decide)) (by decide), ?_⟩
        intro a2 ea2
        have k_a2 := iv_upd ea2 k_a_walked (iv_w (iv_lit (l := 0) (h := 0) (by decide)) (by decide))
        intro w3 ew3
        have hw3 := iv_eq ew3 (iv_add (l := 1) (h := 9) hx2 (iv_lit (l := 1) (h := 1) (by decide)) (by decide))
        exact hP12 _ _ (ml_up hm12 (inc_lt ew3 hx2 (by decide))) (iv_w hw3 (by decide)) k_a2
      · skip
        refine ⟨iv_in (iv_add (l := 0) (h := 80) (iv_mul (l := 0) (h := 72) hx2 (iv_lit (l := 9) (h := 9) (by decide)) (by decide)) (iv_lta (l := 0) (h := 8) (r_nle c1) hx3 k_lf_huts (by decide)) (by decide)) (by decide), ?_⟩
        intro w4 ew4
        have hw4 := iv_eq ew4 (k_la_minutes _)
        refine ⟨fun c5 => ?_, fun c5 => ?_⟩
        · skip
          exact s_wp_X7_walk_9_61 k_a_walked k_lf_huts k_la_minutes hx2 (iv_lta (l := 0) (h := 8) (r_nle c1) hx3 k_lf_huts (by decide)) m12 hm12 hP12 x3.toInt (Int.le_refl _) (fun u0 u1 hq g0 g1 => ih u0 u1 (ms_up hm hq) g0 g1) hpost
        · skip
          refine ⟨iv_in (iv_add (l := 0) (h := 80) (iv_mul (l := 0) (h := 72) hx2 (iv_lit (l := 9) (h := 9) (by decide)) (by decide)) (iv_lta (l := 0) (h := 8) (r_nle c1) hx3 k_lf_huts (by decide)) (by decide)) (by decide), ?_⟩
          intro a6 ea6
          have k_a6 := iv_upd ea6 k_a_walked (iv_w (iv_ltb (l := 1) (h := 9) (r_nle c5) (iv_lit (l := 0) (h := 0) (by decide)) hw4 (by decide)) (by decide))
          exact s_wp_X7_walk_9_61 k_a6 k_lf_huts k_la_minutes hx2 (iv_lta (l := 0) (h := 8) (r_nle c1) hx3 k_lf_huts (by decide)) m12 hm12 hP12 x3.toInt (Int.le_refl _) (fun u0 u1 hq g0 g1 => ih u0 u1 (ms_up hm hq) g0 g1) hpost
  exact loop _ _ _ (ms_init_up _ _) hx3 k_a_walked
set_option maxRecDepth 20000 in
theorem s_wp_X7_walk_9_12 {a_walked : Nat → Int32} {lf_huts : Int32} {la_minutes : Nat → Int32} {x2 : Int32} {post : (Nat → Int32) → Prop} (k_a_walked : ∀ j, iv 0 1000 (a_walked j)) (k_lf_huts : iv 0 9 lf_huts) (k_la_minutes : ∀ j, iv 0 9 (la_minutes j)) (hx2 : iv 0 9 x2) (hpost : ∀ (a_walked : Nat → Int32), (∀ j, iv 0 1000 (a_walked j)) → post a_walked) : q_wp_X7_walk_9_12 a_walked lf_huts la_minutes x2 post := by
  intro P hP
  have loop : ∀ (n : Nat) (x2 : Int32) (a_walked : Nat → Int32), (9 - x2.toInt < (n : Int)) → (iv 0 9 x2) → (∀ j, iv 0 1000 (a_walked j)) → P x2 a_walked := by
    intro n
    induction n with
    | zero => intro x2 a_walked hm hx2 k_a_walked; exact (ms0_up hm hx2).elim
    | succ n ih =>
      intro x2 a_walked hm hx2 k_a_walked
      apply hP
      refine ⟨fun c1 => ?_, fun c1 => ?_⟩
      · skip
        refine s_wp_X7_shorten_2_0 k_a_walked k_lf_huts (fun o2 k_o2 => ?_)
        exact hpost _ k_o2
      · skip
        exact s_wp_X7_walk_9_22 k_a_walked (iv_ltb (l := 1) (h := 9) (r_nle c1) hx2 k_lf_huts (by decide)) k_la_minutes (iv_lta (l := 0) (h := 8) (r_nle c1) hx2 k_lf_huts (by decide)) (iv_w (iv_lit (l := 0) (h := 0) (by decide)) (by decide)) x2.toInt (Int.le_refl _) (fun u0 u1 hq g0 g1 => ih u0 u1 (ms_up hm hq) g0 g1) hpost
  exact loop _ _ _ (ms_init_up _ _) hx2 k_a_walked
set_option maxRecDepth 20000 in
theorem s_wp_X7_walk_9_0 {a_walked : Nat → Int32} {lf_huts : Int32} {la_minutes : Nat → Int32} {post : (Nat → Int32) → Prop} (k_a_walked : ∀ j, iv 0 1000 (a_walked j)) (k_lf_huts : iv 0 9 lf_huts) (k_la_minutes : ∀ j, iv 0 9 (la_minutes j)) (hpost : ∀ (a_walked : Nat → Int32), (∀ j, iv 0 1000 (a_walked j)) → post a_walked) : q_wp_X7_walk_9_0 a_walked lf_huts la_minutes post := by
  refine s_wp_J7_fill_53178_2_0 k_a_walked (iv_lit (l := 1000) (h := 1000) (by decide)) (fun o1 k_o1 => ?_)
  exact s_wp_X7_walk_9_12 k_o1 k_lf_huts k_la_minutes (iv_w (iv_lit (l := 0) (h := 0) (by decide)) (by decide)) hpost
-- wp_X7_link_9
set_option maxRecDepth 20000 in
theorem s_wp_X7_link_9_64 {P2 : Int32 → (Nat → Int32) → Prop} {P35 : Int32 → (Nat → Int32) → Prop} {a_next : Nat → Int32} {lf_huts : Int32} {lf_dams : Int32} {lf_echoes : Int32} {la_heights : Nat → Int32} {la_minutes : Nat → Int32} {la_echoFrom : Nat → Int32} {la_echoTo : Nat → Int32} {x2 : Int32} {x3 : Int32} {post : (Nat → Int32) → Prop} (k_a_next : ∀ j, iv 0 511 (a_next j)) (k_lf_huts : iv 1 9 lf_huts) (k_lf_dams : iv 0 511 lf_dams) (k_lf_echoes : iv 0 4 lf_echoes) (k_la_heights : ∀ j, iv 0 99 (la_heights j)) (k_la_minutes : ∀ j, iv 0 9 (la_minutes j)) (k_la_echoFrom : ∀ j, iv 0 8 (la_echoFrom j)) (k_la_echoTo : ∀ j, iv 0 8 (la_echoTo j)) (hx2 : iv 0 8 x2) (hx3 : iv 0 8 x3) (m2 : Int) (hm2 : m2 ≤ x2.toInt) (hP2 : ∀ (x2 : Int32) (a_next : Nat → Int32), m2 < x2.toInt → iv 0 9 x2 → (∀ j, iv 0 511 (a_next j)) → P2 x2 a_next) (m35 : Int) (hm35 : m35 ≤ x3.toInt) (hP35 : ∀ (x3 : Int32) (a_next : Nat → Int32), m35 < x3.toInt → iv 0 9 x3 → (∀ j, iv 0 511 (a_next j)) → P35 x3 a_next) (hpost : ∀ (a_next : Nat → Int32), (∀ j, iv 0 511 (a_next j)) → post a_next) : q_wp_X7_link_9_64 P2 P35 a_next lf_huts lf_dams lf_echoes la_heights la_minutes la_echoFrom la_echoTo x2 x3 post := by
  intro w1 ew1
  have hw1 := iv_eq ew1 (iv_add (l := 1) (h := 9) hx3 (iv_lit (l := 1) (h := 1) (by decide)) (by decide))
  exact hP35 _ _ (ml_up hm35 (inc_lt ew1 hx3 (by decide))) (iv_w hw1 (by decide)) k_a_next
set_option maxRecDepth 20000 in
theorem s_wp_X7_link_9_35 {P2 : Int32 → (Nat → Int32) → Prop} {a_next : Nat → Int32} {lf_huts : Int32} {lf_dams : Int32} {lf_echoes : Int32} {la_heights : Nat → Int32} {la_minutes : Nat → Int32} {la_echoFrom : Nat → Int32} {la_echoTo : Nat → Int32} {x2 : Int32} {x3 : Int32} {post : (Nat → Int32) → Prop} (k_a_next : ∀ j, iv 0 511 (a_next j)) (k_lf_huts : iv 1 9 lf_huts) (k_lf_dams : iv 0 511 lf_dams) (k_lf_echoes : iv 0 4 lf_echoes) (k_la_heights : ∀ j, iv 0 99 (la_heights j)) (k_la_minutes : ∀ j, iv 0 9 (la_minutes j)) (k_la_echoFrom : ∀ j, iv 0 8 (la_echoFrom j)) (k_la_echoTo : ∀ j, iv 0 8 (la_echoTo j)) (hx2 : iv 0 8 x2) (hx3 : iv 0 9 x3) (m2 : Int) (hm2 : m2 ≤ x2.toInt) (hP2 : ∀ (x2 : Int32) (a_next : Nat → Int32), m2 < x2.toInt → iv 0 9 x2 → (∀ j, iv 0 511 (a_next j)) → P2 x2 a_next) (hpost : ∀ (a_next : Nat → Int32), (∀ j, iv 0 511 (a_next j)) → post a_next) : q_wp_X7_link_9_35 P2 a_next lf_huts lf_dams lf_echoes la_heights la_minutes la_echoFrom la_echoTo x2 x3 post := by
  intro P hP
  have loop : ∀ (n : Nat) (x3 : Int32) (a_next : Nat → Int32), (9 - x3.toInt < (n : Int)) → (iv 0 9 x3) → (∀ j, iv 0 511 (a_next j)) → P x3 a_next := by
    intro n
    induction n with
    | zero => intro x3 a_next hm hx3 k_a_next; exact (ms0_up hm hx3).elim
    | succ n ih =>
      intro x3 a_next hm hx3 k_a_next
      apply hP
      refine ⟨fun c1 => ?_, fun c1 => ?_⟩
      · skip
        intro w2 ew2
        have hw2 := iv_eq ew2 (iv_add (l := 1) (h := 9) hx2 (iv_lit (l := 1) (h := 1) (by decide)) (by decide))
        exact hP2 _ _ (ml_up hm2 (inc_lt ew2 hx2 (by decide))) (iv_w hw2 (by decide)) k_a_next
      · skip
        refine ⟨iv_in (iv_add (l := 0) (h := 80) (iv_mul (l := 0) (h := 72) hx2 (iv_lit (l := 9) (h := 9) (by decide)) (by decide)) (iv_lta (l := 0) (h := 8) (r_nle c1) hx3 k_lf_huts (by decide)) (by decide)) (by decide), ?_⟩
        refine ⟨fun c3 => ?_, fun c3 => ?_⟩
        · skip
          refine ⟨fun c4 => ?_, fun c4 => ?_⟩
          · skip
            exact s_wp_X7_link_9_64 k_a_next k_lf_huts k_lf_dams k_lf_echoes k_la_heights k_la_minutes k_la_echoFrom k_la_echoTo hx2 (iv_lta (l := 0) (h := 8) (r_nle c1) hx3 k_lf_huts (by decide)) m2 hm2 hP2 x3.toInt (Int.le_refl _) (fun u0 u1 hq g0 g1 => ih u0 u1 (ms_up hm hq) g0 g1) hpost
          · skip
            exact (iv_emp (iv_ne (l := 1) (h := 0) c4 (iv_lit (l := 0) (h := 0) (by decide)) (iv_lit (l := 0) (h := 0) (by decide)) (by decide)) (by decide)).elim
        · skip
          refine ⟨iv_in (iv_lta (l := 0) (h := 8) (r_nle c1) hx3 k_lf_huts (by decide)) (by decide), ?_⟩
          refine ⟨iv_in hx2 (by decide), ?_⟩
          refine ⟨fun c5 => ?_, fun c5 => ?_⟩
          · skip
            refine ⟨fun c6 => ?_, fun c6 => ?_⟩
            · skip
              exact s_wp_X7_link_9_64 k_a_next k_lf_huts k_lf_dams k_lf_echoes k_la_heights k_la_minutes k_la_echoFrom k_la_echoTo hx2 (iv_lta (l := 0) (h := 8) (r_nle c1) hx3 k_lf_huts (by decide)) m2 hm2 hP2 x3.toInt (Int.le_refl _) (fun u0 u1 hq g0 g1 => ih u0 u1 (ms_up hm hq) g0 g1) hpost
            · skip
              exact (iv_emp (iv_ne (l := 1) (h := 0) c6 (iv_lit (l := 0) (h := 0) (by decide)) (iv_lit (l := 0) (h := 0) (by decide)) (by decide)) (by decide)).elim
          · skip
            refine ⟨fun c7 => ?_, fun c7 => ?_⟩
            · skip
              refine ⟨fun c8 => ?_, fun c8 => ?_⟩
              · skip
                exact (iv_emp (iv_ne (l := 1) (h := 0) c8 (iv_lit (l := 0) (h := 0) (by decide)) (iv_lit (l := 0) (h := 0) (by decide)) (by decide)) (by decide)).elim
              · skip
                refine ⟨fun c9 => ?_, fun c9 => ?_⟩
                · skip
                  refine ⟨fun c10 => ?_, fun c10 => ?_⟩
                  · skip
                    exact (iv_emp (iv_ne (l := 1) (h := 0) c10 (iv_lit (l := 0) (h := 0) (by decide)) (iv_lit (l := 0) (h := 0) (by decide)) (by decide)) (by decide)).elim
                  · skip
                    refine ⟨fun c11 => ?_, fun c11 => ?_⟩
                    · skip
                      exact (iv_emp (iv_eqa (l := 1) (h := 0) c11 (iv_lit (l := 1) (h := 1) (by decide)) (iv_lit (l := 0) (h := 0) (by decide)) (by decide)) (by decide)).elim
                    · skip
                      refine ⟨iv_in hx2 (by decide), ?_⟩
                      intro w12 ew12
                      have hw12 := iv_eq ew12 (iv_or 9 (l := 0) (h := 511) (k_a_next _) (iv_shl1 (l := 1) (h := 256) (iv_lit (l := 1) (h := 1) (by decide)) (iv_lta (l := 0) (h := 8) (r_nle c1) hx3 k_lf_huts (by decide)) (by decide)) (by decide))
                      refine ⟨iv_in hx2 (by decide), ?_⟩
                      intro a13 ea13
                      have k_a13 := iv_upd ea13 k_a_next hw12
                      exact s_wp_X7_link_9_64 k_a13 k_lf_huts k_lf_dams k_lf_echoes k_la_heights k_la_minutes k_la_echoFrom k_la_echoTo hx2 (iv_lta (l := 0) (h := 8) (r_nle c1) hx3 k_lf_huts (by decide)) m2 hm2 hP2 x3.toInt (Int.le_refl _) (fun u0 u1 hq g0 g1 => ih u0 u1 (ms_up hm hq) g0 g1) hpost
                · skip
                  refine ⟨fun c14 => ?_, fun c14 => ?_⟩
                  · skip
                    refine ⟨fun c15 => ?_, fun c15 => ?_⟩
                    · skip
                      exact s_wp_X7_link_9_64 k_a_next k_lf_huts k_lf_dams k_lf_echoes k_la_heights k_la_minutes k_la_echoFrom k_la_echoTo hx2 (iv_lta (l := 0) (h := 8) (r_nle c1) hx3 k_lf_huts (by decide)) m2 hm2 hP2 x3.toInt (Int.le_refl _) (fun u0 u1 hq g0 g1 => ih u0 u1 (ms_up hm hq) g0 g1) hpost
                    · skip
                      exact (iv_emp (iv_ne (l := 1) (h := 0) c15 (iv_lit (l := 0) (h := 0) (by decide)) (iv_lit (l := 0) (h := 0) (by decide)) (by decide)) (by decide)).elim
                  · skip
                    exact (iv_emp (iv_eqa (l := 1) (h := 0) c14 (iv_lit (l := 1) (h := 1) (by decide)) (iv_lit (l := 0) (h := 0) (by decide)) (by decide)) (by decide)).elim
            · skip
              refine ⟨fun c16 => ?_, fun c16 => ?_⟩
              · skip
                refine ⟨fun c17 => ?_, fun c17 => ?_⟩
                · skip
                  exact s_wp_X7_link_9_64 k_a_next k_lf_huts k_lf_dams k_lf_echoes k_la_heights k_la_minutes k_la_echoFrom k_la_echoTo hx2 (iv_lta (l := 0) (h := 8) (r_nle c1) hx3 k_lf_huts (by decide)) m2 hm2 hP2 x3.toInt (Int.le_refl _) (fun u0 u1 hq g0 g1 => ih u0 u1 (ms_up hm hq) g0 g1) hpost
                · skip
                  exact (iv_emp (iv_ne (l := 1) (h := 0) c17 (iv_lit (l := 0) (h := 0) (by decide)) (iv_lit (l := 0) (h := 0) (by decide)) (by decide)) (by decide)).elim
              · skip
                exact (iv_emp (iv_eqa (l := 1) (h := 0) c16 (iv_lit (l := 1) (h := 1) (by decide)) (iv_lit (l := 0) (h := 0) (by decide)) (by decide)) (by decide)).elim
  exact loop _ _ _ (ms_init_up _ _) hx3 k_a_next
set_option maxRecDepth 20000 in
theorem s_wp_X7_link_9_32 {P2 : Int32 → (Nat → Int32) → Prop} {a_next : Nat → Int32} {lf_huts : Int32} {lf_dams : Int32} {lf_echoes : Int32} {la_heights : Nat → Int32} {la_minutes : Nat → Int32} {la_echoFrom : Nat → Int32} {la_echoTo : Nat → Int32} {x2 : Int32} {y0 : Int32} {y1 : Int32} {post : (Nat → Int32) → Prop} (k_a_next : ∀ j, iv 0 511 (a_next j)) (k_lf_huts : iv 1 9 lf_huts) (k_lf_dams : iv 0 511 lf_dams) (k_lf_echoes : iv 0 4 lf_echoes) (k_la_heights : ∀ j, iv 0 99 (la_heights j)) (k_la_minutes : ∀ j, iv 0 9 (la_minutes j)) (k_la_echoFrom : ∀ j, iv 0 8 (la_echoFrom j)) (k_la_echoTo : ∀ j, iv 0 8 (la_echoTo j)) (hx2 : iv 0 8 x2) (hy0 : iv 0 8 y0) (hy1 : iv 0 511 y1) (m2 : Int) (hm2 : m2 ≤ x2.toInt) (hP2 : ∀ (x2 : Int32) (a_next : Nat → Int32), m2 < x2.toInt → iv 0 9 x2 → (∀ j, iv 0 511 (a_next j)) → P2 x2 a_next) (hpost : ∀ (a_next : Nat → Int32), (∀ j, iv 0 511 (a_next j)) → post a_next) : q_wp_X7_link_9_32 P2 a_next lf_huts lf_dams lf_echoes la_heights la_minutes la_echoFrom la_echoTo x2 y0 y1 post := by
  refine ⟨iv_in hy0 (by decide), ?_⟩
  intro a1 ea1
  have k_a1 := iv_upd ea1 k_a_next hy1
  exact s_wp_X7_link_9_35 k_a1 k_lf_huts k_lf_dams k_lf_echoes k_la_heights k_la_minutes k_la_echoFrom k_la_echoTo hx2 (iv_w (iv_lit (l := 0) (h := 0) (by decide)) (by decide)) m2 hm2 hP2 hpost
set_option maxRecDepth 20000 in
theorem s_wp_X7_link_9_2 {a_next : Nat → Int32} {lf_huts : Int32} {lf_dams : Int32} {lf_echoes : Int32} {la_heights : Nat → Int32} {la_minutes : Nat → Int32} {la_echoFrom : Nat → Int32} {la_echoTo : Nat → Int32} {x2 : Int32} {post : (Nat → Int32) → Prop} (k_a_next : ∀ j, iv 0 511 (a_next j)) (k_lf_huts : iv 1 9 lf_huts) (k_lf_dams : iv 0 511 lf_dams) (k_lf_echoes : iv 0 4 lf_echoes) (k_la_heights : ∀ j, iv 0 99 (la_heights j)) (k_la_minutes : ∀ j, iv 0 9 (la_minutes j)) (k_la_echoFrom : ∀ j, iv 0 8 (la_echoFrom j)) (k_la_echoTo : ∀ j, iv 0 8 (la_echoTo j)) (hx2 : iv 0 9 x2) (hpost : ∀ (a_next : Nat → Int32), (∀ j, iv 0 511 (a_next j)) → post a_next) : q_wp_X7_link_9_2 a_next lf_huts lf_dams lf_echoes la_heights la_minutes la_echoFrom la_echoTo x2 post := by
  intro P hP
  have loop : ∀ (n : Nat) (x2 : Int32) (a_next : Nat → Int32), (9 - x2.toInt < (n : Int)) → (iv 0 9 x2) → (∀ j, iv 0 511 (a_next j)) → P x2 a_next := by
    intro n
    induction n with
    | zero => intro x2 a_next hm hx2 k_a_next; exact (ms0_up hm hx2).elim
    | succ n ih =>
      intro x2 a_next hm hx2 k_a_next
      apply hP
      refine ⟨fun c1 => ?_, fun c1 => ?_⟩
      · skip
        exact hpost _ k_a_next
      · skip
        refine ⟨fun c2 => ?_, fun c2 => ?_⟩
        · skip
          refine ⟨fun c3 => ?_, fun c3 => ?_⟩
          · skip
            refine s_wl_X2_earshot_0 k_lf_dams k_lf_echoes k_la_echoFrom k_la_echoTo (iv_lta (l := 0) (h := 8) (r_nle c1) hx2 k_lf_huts (by decide)) (fun r4 hr4 => ?_)
            exact s_wp_X7_link_9_32 k_a_next k_lf_huts k_lf_dams k_lf_echoes k_la_heights k_la_minutes k_la_echoFrom k_la_echoTo (iv_lta (l := 0) (h := 8) (r_nle c1) hx2 k_lf_huts (by decide)) (iv_lta (l := 0) (h := 8) (r_nle c1) hx2 k_lf_huts (by decide)) hr4 x2.toInt (Int.le_refl _) (fun u0 u1 hq g0 g1 => ih u0 u1 (ms_up hm hq) g0 g1) hpost
          · skip
            exact (iv_emp (iv_ne (l := 1) (h := 0) c3 (iv_lit (l := 0) (h := 0) (by decide)) (iv_lit (l := 0) (h := 0) (by decide)) (by decide)) (by decide)).elim
        · skip
          refine ⟨fun c5 => ?_, fun c5 => ?_⟩
          · skip
            exact (iv_emp (iv_eqa (l := 1) (h := 0) c5 (iv_lit (l := 1) (h := 1) (by decide)) (iv_lit (l := 0) (h := 0) (by decide)) (by decide)) (by decide)).elim
          · skip
            exact s_wp_X7_link_9_32 k_a_next k_lf_huts k_lf_dams k_lf_echoes k_la_heights k_la_minutes k_la_echoFrom k_la_echoTo (iv_lta (l := 0) (h := 8) (r_nle c1) hx2 k_lf_huts (by decide)) (iv_lta (l := 0) (h := 8) (r_nle c1) hx2 k_lf_huts (by decide)) (iv_w (iv_lit (l := 0) (h := 0) (by decide)) (by decide)) x2.toInt (Int.le_refl _) (fun u0 u1 hq g0 g1 => ih u0 u1 (ms_up hm hq) g0 g1) hpost
  exact loop _ _ _ (ms_init_up _ _) hx2 k_a_next
set_option maxRecDepth 20000 in
theorem s_wp_X7_link_9_0 {a_next : Nat → Int32} {lf_huts : Int32} {lf_dams : Int32} {lf_echoes : Int32} {la_heights : Nat → Int32} {la_minutes : Nat → Int32} {la_echoFrom : Nat → Int32} {la_echoTo : Nat → Int32} {post : (Nat → Int32) → Prop} (k_a_next : ∀ j, iv 0 511 (a_next j)) (k_lf_huts : iv 1 9 lf_huts) (k_lf_dams : iv 0 511 lf_dams) (k_lf_echoes : iv 0 4 lf_echoes) (k_la_heights : ∀ j, iv 0 99 (la_heights j)) (k_la_minutes : ∀ j, iv 0 9 (la_minutes j)) (k_la_echoFrom : ∀ j, iv 0 8 (la_echoFrom j)) (k_la_echoTo : ∀ j, iv 0 8 (la_echoTo j)) (hpost : ∀ (a_next : Nat → Int32), (∀ j, iv 0 511 (a_next j)) → post a_next) : q_wp_X7_link_9_0 a_next lf_huts lf_dams lf_echoes la_heights la_minutes la_echoFrom la_echoTo post := by
  exact s_wp_X7_link_9_2 k_a_next k_lf_huts k_lf_dams k_lf_echoes k_la_heights k_la_minutes k_la_echoFrom k_la_echoTo (iv_w (iv_lit (l := 0) (h := 0) (by decide)) (by decide)) hpost
-- wp_X7_lastVillage_9
set_option maxRecDepth 20000 in
theorem s_wp_X7_lastVillage_9_52 {P5 : Int32 → Int32 → Prop} {a_heard : Nat → Int32} {lf_huts : Int32} {lf_villages : Int32} {lf_dams : Int32} {x2 : Int32} {x3 : Int32} {x4 : Int32} {post : Int32 → Prop} (k_a_heard : ∀ j, iv 0 1000 (a_heard j)) (k_lf_huts : iv 1 9 lf_huts) (k_lf_villages : iv 0 511 lf_villages) (k_lf_dams : iv 0 511 lf_dams) (hx2 : iv 0 8 x2) (hx3 : iv 0 1000 x3) (hx4 : iv 0 8 x4) (m5 : Int) (hm5 : m5 ≤ x4.toInt) (hP5 : ∀ (x3 : Int32) (x4 : Int32), m5 < x4.toInt → iv 0 1000 x3 → iv 0 9 x4 → P5 x3 x4) (hpost : ∀ (r : Int32), iv 0 1000 r → post r) : q_wp_X7_lastVillage_9_52 P5 a_heard lf_huts lf_villages lf_dams x2 x3 x4 post := by
  intro w1 ew1
  have hw1 := iv_eq ew1 (iv_add (l := 1) (h := 9) hx4 (iv_lit (l := 1) (h := 1) (by decide)) (by decide))
  exact hP5 _ _ (ml_up hm5 (inc_lt ew1 hx4 (by decide))) hx3 (iv_w hw1 (by decide))
set_option maxRecDepth 20000 in
theorem s_wp_X7_lastVillage_9_5 {a_heard : Nat → Int32} {lf_huts : Int32} {lf_villages : Int32} {lf_dams : Int32} {x2 : Int32} {x3 : Int32} {x4 : Int32} {post : Int32 → Prop} (k_a_heard : ∀ j, iv 0 1000 (a_heard j)) (k_lf_huts : iv 0 9 lf_huts) (k_lf_villages : iv 0 511 lf_villages) (k_lf_dams : iv 0 511 lf_dams) (hx2 : iv 0 8 x2) (hx3 : iv 0 1000 x3) (hx4 : iv 0 9 x4) (hpost : ∀ (r : Int32), iv 0 1000 r → post r) : q_wp_X7_lastVillage_9_5 a_heard lf_huts lf_villages lf_dams x2 x3 x4 post := by
  intro P hP
  have loop : ∀ (n : Nat) (x3 : Int32) (x4 : Int32), (9 - x4.toInt < (n : Int)) → (iv 0 1000 x3) → (iv 0 9 x4) → P x3 x4 := by
    intro n
    induction n with
    | zero => intro x3 x4 hm hx3 hx4; exact (ms0_up hm hx4).elim
    | succ n ih =>
      intro x3 x4 hm hx3 hx4
      apply hP
      refine ⟨fun c1 => ?_, fun c1 => ?_⟩
      · skip
        exact hpost _ hx3
      · skip
        refine ⟨fun c2 => ?_, fun c2 => ?_⟩
        · skip
          refine ⟨fun c3 => ?_, fun c3 => ?_⟩
          · skip
            exact s_wp_X7_lastVillage_9_52 k_a_heard (iv_ltb (l := 1) (h := 9) (r_nle c1) hx4 k_lf_huts (by decide)) k_lf_villages k_lf_dams hx2 hx3 (iv_lta (l := 0) (h := 8) (r_nle c1) hx4 k_lf_huts (by decide)) x4.toInt (Int.le_refl _) (fun u0 u1 hq g0 g1 => ih u0 u1 (ms_up hm hq) g0 g1) hpost
          · skip
            exact (iv_emp (iv_ne (l := 1) (h := 0) c3 (iv_lit (l := 0) (h := 0) (by decide)) (iv_lit (l := 0) (h := 0) (by decide)) (by decide)) (by decide)).elim
        · skip
          refine ⟨fun c4 => ?_, fun c4 => ?_⟩
          · skip
            exact (iv_emp (iv_eqa (l := 1) (h := 0) c4 (iv_lit (l := 1) (h := 1) (by decide)) (iv_lit (l := 0) (h := 0) (by decide)) (by decide)) (by decide)).elim
          · skip
            refine ⟨fun c5 => ?_, fun c5 => ?_⟩
            · skip
              refine ⟨fun c6 => ?_, fun c6 => ?_⟩
              · skip
                exact (iv_emp (iv_ne (l := 1) (h := 0) c6 (iv_lit (l := 0) (h := 0) (by decide)) (iv_lit (l := 0) (h := 0) (by decide)) (by decide)) (by decide)).elim
              · skip
                refine ⟨iv_in (iv_add (l := 0) (h := 80) (iv_mul (l := 0) (h := 72) hx2 (iv_lit (l := 9) (h := 9) (by decide)) (by decide)) (iv_lta (l := 0) (h := 8) (r_nle c1) hx4 k_lf_huts (by decide)) (by decide)) (by decide), ?_⟩
                intro w7 ew7
                have hw7 := iv_eq ew7 (iv_max (l := 0) (h := 1000) hx3 (k_a_heard _) (by decide))
                exact s_wp_X7_lastVillage_9_52 k_a_heard (iv_ltb (l := 1) (h := 9) (r_nle c1) hx4 k_lf_huts (by decide)) k_lf_villages k_lf_dams hx2 hw7 (iv_lta (l := 0) (h := 8) (r_nle c1) hx4 k_lf_huts (by decide)) x4.toInt (Int.le_refl _) (fun u0 u1 hq g0 g1 => ih u0 u1 (ms_up hm hq) g0 g1) hpost
            · skip
              refine ⟨fun c8 => ?_, fun c8 => ?_⟩
              · skip
                exact s_wp_X7_lastVillage_9_52 k_a_heard (iv_ltb (l := 1) (h := 9) (r_nle c1) hx4 k_lf_huts (by decide)) k_lf_villages k_lf_dams hx2 hx3 (iv_lta (l := 0) (h := 8) (r_nle c1) hx4 k_lf_huts (by decide)) x4.toInt (Int.le_refl _) (fun u0 u1 hq g0 g1 => ih u0 u1 (ms_up hm hq) g0 g1) hpost
              · skip
                exact (iv_emp (iv_eqa (l := 1) (h := 0) c8 (iv_lit (l := 1) (h := 1) (by decide)) (iv_lit (l := 0) (h := 0) (by decide)) (by decide)) (by decide)).elim
  exact loop _ _ _ (ms_init_up _ _) hx3 hx4
set_option maxRecDepth 20000 in
theorem s_wp_X7_lastVillage_9_0 {a_heard : Nat → Int32} {lf_huts : Int32} {lf_villages : Int32} {lf_dams : Int32} {x2 : Int32} {post : Int32 → Prop} (k_a_heard : ∀ j, iv 0 1000 (a_heard j)) (k_lf_huts : iv 0 9 lf_huts) (k_lf_villages : iv 0 511 lf_villages) (k_lf_dams : iv 0 511 lf_dams) (hx2 : iv 0 8 x2) (hpost : ∀ (r : Int32), iv 0 1000 r → post r) : q_wp_X7_lastVillage_9_0 a_heard lf_huts lf_villages lf_dams x2 post := by
  exact s_wp_X7_lastVillage_9_5 k_a_heard k_lf_huts k_lf_villages k_lf_dams hx2 (iv_w (iv_lit (l := 0) (h := 0) (by decide)) (by decide)) (iv_w (iv_lit (l := 0) (h := 0) (by decide)) (by decide)) hpost
-- wp_X7_allBy_9
set_option maxRecDepth 20000 in
theorem s_wp_X7_allBy_9_41 {P5 : Int32 → Int32 → Prop} {a_heard : Nat → Int32} {lf_huts : Int32} {lf_villages : Int32} {lf_dams : Int32} {x2 : Int32} {x3 : Int32} {x4 : Int32} {post : Int32 → Prop} (k_a_heard : ∀ j, iv 0 1000 (a_heard j)) (k_lf_huts : iv 1 9 lf_huts) (k_lf_villages : iv 0 511 lf_villages) (k_lf_dams : iv 0 511 lf_dams) (hx2 : iv 0 99 x2) (hx3 : iv 0 511 x3) (hx4 : iv 0 8 x4) (m5 : Int) (hm5 : m5 ≤ x4.toInt) (hP5 : ∀ (x3 : Int32) (x4 : Int32), m5 < x4.toInt → iv 0 511 x3 → iv 0 9 x4 → P5 x3 x4) (hpost : ∀ (r : Int32), iv 0 511 r → post r) : q_wp_X7_allBy_9_41 P5 a_heard lf_huts lf_villages lf_dams x2 x3 x4 post := by
  intro w1 ew1
  have hw1 := iv_eq ew1 (iv_add (l := 1) (h := 9) hx4 (iv_lit (l := 1) (h := 1) (by decide)) (by decide))
  exact hP5 _ _ (ml_up hm5 (inc_lt ew1 hx4 (by decide))) hx3 (iv_w hw1 (by decide))
set_option maxRecDepth 20000 in
theorem s_wp_X7_allBy_9_5 {a_heard : Nat → Int32} {lf_huts : Int32} {lf_villages : Int32} {lf_dams : Int32} {x2 : Int32} {x3 : Int32} {x4 : Int32} {post : Int32 → Prop} (k_a_heard : ∀ j, iv 0 1000 (a_heard j)) (k_lf_huts : iv 0 9 lf_huts) (k_lf_villages : iv 0 511 lf_villages) (k_lf_dams : iv 0 511 lf_dams) (hx2 : iv 0 99 x2) (hx3 : iv 0 511 x3) (hx4 : iv 0 9 x4) (hpost : ∀ (r : Int32), iv 0 511 r → post r) : q_wp_X7_allBy_9_5 a_heard lf_huts lf_villages lf_dams x2 x3 x4 post := by
  intro P hP
  have loop : ∀ (n : Nat) (x3 : Int32) (x4 : Int32), (9 - x4.toInt < (n : Int)) → (iv 0 511 x3) → (iv 0 9 x4) → P x3 x4 := by
    intro n
    induction n with
    | zero => intro x3 x4 hm hx3 hx4; exact (ms0_up hm hx4).elim
    | succ n ih =>
      intro x3 x4 hm hx3 hx4
      apply hP
      refine ⟨fun c1 => ?_, fun c1 => ?_⟩
      · skip
        exact hpost _ hx3
      · skip
        refine ⟨fun c2 => ?_, fun c2 => ?_⟩
        · skip
          refine ⟨fun c3 => ?_, fun c3 => ?_⟩
          · skip
            exact (iv_emp (iv_ne (l := 1) (h := 0) c3 (iv_lit (l := 0) (h := 0) (by decide)) (iv_lit (l := 0) (h := 0) (by decide)) (by decide)) (by decide)).elim
          · skip
            refine s_wp_X7_lastVillage_9_0 k_a_heard (iv_w (iv_ltb (l := 1) (h := 9) (r_nle c1) hx4 k_lf_huts (by decide)) (by decide)) k_lf_villages k_lf_dams (iv_lta (l := 0) (h := 8) (r_nle c1) hx4 k_lf_huts (by decide)) (fun r4 hr4 => ?_)
            refine ⟨fun c5 => ?_, fun c5 => ?_⟩
            · skip
              exact s_wp_X7_allBy_9_41 k_a_heard (iv_ltb (l := 1) (h := 9) (r_nle c1) hx4 k_lf_huts (by decide)) k_lf_villages k_lf_dams hx2 hx3 (iv_lta (l := 0) (h := 8) (r_nle c1) hx4 k_lf_huts (by decide)) x4.toInt (Int.le_refl _) (fun u0 u1 hq g0 g1 => ih u0 u1 (ms_up hm hq) g0 g1) hpost
            · skip
              intro w6 ew6
              have hw6 := iv_eq ew6 (iv_or 9 (l := 0) (h := 511) hx3 (iv_shl1 (l := 1) (h := 256) (iv_lit (l := 1) (h := 1) (by decide)) (iv_lta (l := 0) (h := 8) (r_nle c1) hx4 k_lf_huts (by decide)) (by decide)) (by decide))
              exact s_wp_X7_allBy_9_41 k_a_heard (iv_ltb (l := 1) (h := 9) (r_nle c1) hx4 k_lf_huts (by decide)) k_lf_villages k_lf_dams hx2 hw6 (iv_lta (l := 0) (h := 8) (r_nle c1) hx4 k_lf_huts (by decide)) x4.toInt (Int.le_refl _) (fun u0 u1 hq g0 g1 => ih u0 u1 (ms_up hm hq) g0 g1) hpost
        · skip
          refine ⟨fun c7 => ?_, fun c7 => ?_⟩
          · skip
            exact s_wp_X7_allBy_9_41 k_a_heard (iv_ltb (l := 1) (h := 9) (r_nle c1) hx4 k_lf_huts (by decide)) k_lf_villages k_lf_dams hx2 hx3 (iv_lta (l := 0) (h := 8) (r_nle c1) hx4 k_lf_huts (by decide)) x4.toInt (Int.le_refl _) (fun u0 u1 hq g0 g1 => ih u0 u1 (ms_up hm hq) g0 g1) hpost
          · skip
            exact (iv_emp (iv_eqa (l := 1) (h := 0) c7 (iv_lit (l := 1) (h := 1) (by decide)) (iv_lit (l := 0) (h := 0) (by decide)) (by decide)) (by decide)).elim
  exact loop _ _ _ (ms_init_up _ _) hx3 hx4
set_option maxRecDepth 20000 in
theorem s_wp_X7_allBy_9_0 {a_heard : Nat → Int32} {lf_huts : Int32} {lf_villages : Int32} {lf_dams : Int32} {x2 : Int32} {post : Int32 → Prop} (k_a_heard : ∀ j, iv 0 1000 (a_heard j)) (k_lf_huts : iv 0 9 lf_huts) (k_lf_villages : iv 0 511 lf_villages) (k_lf_dams : iv 0 511 lf_dams) (hx2 : iv 0 99 x2) (hpost : ∀ (r : Int32), iv 0 511 r → post r) : q_wp_X7_allBy_9_0 a_heard lf_huts lf_villages lf_dams x2 post := by
  exact s_wp_X7_allBy_9_5 k_a_heard k_lf_huts k_lf_villages k_lf_dams hx2 (iv_w (iv_lit (l := 0) (h := 0) (by decide)) (by decide)) (iv_w (iv_lit (l := 0) (h := 0) (by decide)) (by decide)) hpost
-- wp_X7_bestHut_9
set_option maxRecDepth 20000 in
theorem s_wp_X7_bestHut_9_49 {P9 : Int32 → Int32 → Int32 → Prop} {a_heard : Nat → Int32} {lf_huts : Int32} {lf_villages : Int32} {lf_dams : Int32} {x2 : Int32} {x3 : Int32} {x4 : Int32} {post : Int32 → Prop} (k_a_heard : ∀ j, iv 0 1000 (a_heard j)) (k_lf_huts : iv 1 9 lf_huts) (k_lf_villages : iv 0 511 lf_villages) (k_lf_dams : iv 0 511 lf_dams) (hx2 : iv (-1) 8 x2) (hx3 : iv 0 1000 x3) (hx4 : iv 0 8 x4) (m9 : Int) (hm9 : m9 ≤ x4.toInt) (hP9 : ∀ (x2 : Int32) (x3 : Int32) (x4 : Int32), m9 < x4.toInt → iv (-1) 8 x2 → iv 0 1000 x3 → iv 0 9 x4 → P9 x2 x3 x4) (hpost : ∀ (r : Int32), iv (-1) 8 r → post r) : q_wp_X7_bestHut_9_49 P9 a_heard lf_huts lf_villages lf_dams x2 x3 x4 post := by
  intro w1 ew1
  have hw1 := iv_eq ew1 (iv_add (l := 1) (h := 9) hx4 (iv_lit (l := 1) (h := 1) (by decide)) (by decide))
  exact hP9 _ _ _ (ml_up hm9 (inc_lt ew1 hx4 (by decide))) hx2 hx3 (iv_w hw1 (by decide))
set_option maxRecDepth 20000 in
theorem s_wp_X7_bestHut_9_9 {a_heard : Nat → Int32} {lf_huts : Int32} {lf_villages : Int32} {lf_dams : Int32} {x2 : Int32} {x3 : Int32} {x4 : Int32} {post : Int32 → Prop} (k_a_heard : ∀ j, iv 0 1000 (a_heard j)) (k_lf_huts : iv 0 9 lf_huts) (k_lf_villages : iv 0 511 lf_villages) (k_lf_dams : iv 0 511 lf_dams) (hx2 : iv (-1) 8 x2) (hx3 : iv 0 1000 x3) (hx4 : iv 0 9 x4) (hpost : ∀ (r : Int32), iv (-1) 8 r → post r) : q_wp_X7_bestHut_9_9 a_heard lf_huts lf_villages lf_dams x2 x3 x4 post := by
  intro P hP
  have loop : ∀ (n : Nat) (x2 : Int32) (x3 : Int32) (x4 : Int32), (9 - x4.toInt < (n : Int)) → (iv (-1) 8 x2) → (iv 0 1000 x3) → (iv 0 9 x4) → P x2 x3 x4 := by
    intro n
    induction n with
    | zero => intro x2 x3 x4 hm hx2 hx3 hx4; exact (ms0_up hm hx4).elim
    | succ n ih =>
      intro x2 x3 x4 hm hx2 hx3 hx4
      apply hP
      refine ⟨fun c1 => ?_, fun c1 => ?_⟩
      · skip
        exact hpost _ hx2
      · skip
        refine ⟨fun c2 => ?_, fun c2 => ?_⟩
        · skip
          refine ⟨fun c3 => ?_, fun c3 => ?_⟩
          · skip
            exact (iv_emp (iv_ne (l := 1) (h := 0) c3 (iv_lit (l := 0) (h := 0) (by decide)) (iv_lit (l := 0) (h := 0) (by decide)) (by decide)) (by decide)).elim
          · skip
            refine s_wp_X7_lastVillage_9_0 k_a_heard (iv_w (iv_ltb (l := 1) (h := 9) (r_nle c1) hx4 k_lf_huts (by decide)) (by decide)) k_lf_villages k_lf_dams (iv_lta (l := 0) (h := 8) (r_nle c1) hx4 k_lf_huts (by decide)) (fun r4 hr4 => ?_)
            refine ⟨fun c5 => ?_, fun c5 => ?_⟩
            · skip
              exact s_wp_X7_bestHut_9_49 k_a_heard (iv_ltb (l := 1) (h := 9) (r_nle c1) hx4 k_lf_huts (by decide)) k_lf_villages k_lf_dams hx2 hx3 (iv_lta (l := 0) (h := 8) (r_nle c1) hx4 k_lf_huts (by decide)) x4.toInt (Int.le_refl _) (fun u0 u1 u2 hq g0 g1 g2 => ih u0 u1 u2 (ms_up hm hq) g0 g1 g2) hpost
            · skip
              refine s_wp_X7_lastVillage_9_0 k_a_heard (iv_w (iv_ltb (l := 1) (h := 9) (r_nle c1) hx4 k_lf_huts (by decide)) (by decide)) k_lf_villages k_lf_dams (iv_lta (l := 0) (h := 8) (r_nle c1) hx4 k_lf_huts (by decide)) (fun r6 hr6 => ?_)
              exact s_wp_X7_bestHut_9_49 k_a_heard (iv_ltb (l := 1) (h := 9) (r_nle c1) hx4 k_lf_huts (by decide)) k_lf_villages k_lf_dams (iv_w (iv_lta (l := 0) (h := 8) (r_nle c1) hx4 k_lf_huts (by decide)) (by decide)) hr6 (iv_lta (l := 0) (h := 8) (r_nle c1) hx4 k_lf_huts (by decide)) x4.toInt (Int.le_refl _) (fun u0 u1 u2 hq g0 g1 g2 => ih u0 u1 u2 (ms_up hm hq) g0 g1 g2) hpost
        · skip
          refine ⟨fun c7 => ?_, fun c7 => ?_⟩
          · skip
            exact s_wp_X7_bestHut_9_49 k_a_heard (iv_ltb (l := 1) (h := 9) (r_nle c1) hx4 k_lf_huts (by decide)) k_lf_villages k_lf_dams hx2 hx3 (iv_lta (l := 0) (h := 8) (r_nle c1) hx4 k_lf_huts (by decide)) x4.toInt (Int.le_refl _) (fun u0 u1 u2 hq g0 g1 g2 => ih u0 u1 u2 (ms_up hm hq) g0 g1 g2) hpost
          · skip
            exact (iv_emp (iv_eqa (l := 1) (h := 0) c7 (iv_lit (l := 1) (h := 1) (by decide)) (iv_lit (l := 0) (h := 0) (by decide)) (by decide)) (by decide)).elim
  exact loop _ _ _ _ (ms_init_up _ _) hx2 hx3 hx4
set_option maxRecDepth 20000 in
theorem s_wp_X7_bestHut_9_0 {a_heard : Nat → Int32} {lf_huts : Int32} {lf_villages : Int32} {lf_dams : Int32} {post : Int32 → Prop} (k_a_heard : ∀ j, iv 0 1000 (a_heard j)) (k_lf_huts : iv 0 9 lf_huts) (k_lf_villages : iv 0 511 lf_villages) (k_lf_dams : iv 0 511 lf_dams) (hpost : ∀ (r : Int32), iv (-1) 8 r → post r) : q_wp_X7_bestHut_9_0 a_heard lf_huts lf_villages lf_dams post := by
  exact s_wp_X7_bestHut_9_9 k_a_heard k_lf_huts k_lf_villages k_lf_dams (iv_w (iv_lit (l := (-1)) (h := (-1)) (by decide)) (by decide)) (iv_w (iv_lit (l := 1000) (h := 1000) (by decide)) (by decide)) (iv_w (iv_lit (l := 0) (h := 0) (by decide)) (by decide)) hpost
-- wp_X7_coverBy_1
set_option maxRecDepth 20000 in
theorem s_wp_X7_coverBy_1_54 {P3 : Int32 → (Nat → Int32) → Prop} {P20 : Int32 → (Nat → Int32) → Prop} {a_heard : Nat → Int32} {a_cover : Nat → Int32} {x2 : Int32} {x3 : Int32} {x4 : Int32} {x5 : Int32} {post : (Nat → Int32) → Prop} (k_a_heard : ∀ j, iv 0 1000 (a_heard j)) (k_a_cover : ∀ j, iv 0 511 (a_cover j)) (hx2 : iv 1 9 x2) (hx3 : iv 0 99 x3) (hx4 : iv 0 8 x4) (hx5 : iv 0 8 x5) (m3 : Int) (hm3 : m3 ≤ x4.toInt) (hP3 : ∀ (x4 : Int32) (a_cover : Nat → Int32), m3 < x4.toInt → iv 0 9 x4 → (∀ j, iv 0 511 (a_cover j)) → P3 x4 a_cover) (m20 : Int) (hm20 : m20 ≤ x5.toInt) (hP20 : ∀ (x5 : Int32) (a_cover : Nat → Int32), m20 < x5.toInt → iv 0 9 x5 → (∀ j, iv 0 511 (a_cover j)) → P20 x5 a_cover) (hpost : ∀ (a_cover : Nat → Int32), (∀ j, iv 0 511 (a_cover j)) → post a_cover) : q_wp_X7_coverBy_1_54 P3 P20 a_heard a_cover x2 x3 x4 x5 post := by
  intro w1 ew1
  have hw1 := iv_eq ew1 (iv_add (l := 1) (h := 9) hx5 (iv_lit (l := 1) (h := 1) (by decide)) (by decide))
  exact hP20 _ _ (ml_up hm20 (inc_lt ew1 hx5 (by decide))) (iv_w hw1 (by decide)) k_a_cover
set_option maxRecDepth 20000 in
theorem s_wp_X7_coverBy_1_20 {P3 : Int32 → (Nat → Int32) → Prop} {a_heard : Nat → Int32} {a_cover : Nat → Int32} {x2 : Int32} {x3 : Int32} {x4 : Int32} {x5 : Int32} {post : (Nat → Int32) → Prop} (k_a_heard : ∀ j, iv 0 1000 (a_heard j)) (k_a_cover : ∀ j, iv 0 511 (a_cover j)) (hx2 : iv 1 9 x2) (hx3 : iv 0 99 x3) (hx4 : iv 0 8 x4) (hx5 : iv 0 9 x5) (m3 : Int) (hm3 : m3 ≤ x4.toInt) (hP3 : ∀ (x4 : Int32) (a_cover : Nat → Int32), m3 < x4.toInt → iv 0 9 x4 → (∀ j, iv 0 511 (a_cover j)) → P3 x4 a_cover) (hpost : ∀ (a_cover : Nat → Int32), (∀ j, iv 0 511 (a_cover j)) → post a_cover) : q_wp_X7_coverBy_1_20 P3 a_heard a_cover x2 x3 x4 x5 post := by
  intro P hP
  have loop : ∀ (n : Nat) (x5 : Int32) (a_cover : Nat → Int32), (9 - x5.toInt < (n : Int)) → (iv 0 9 x5) → (∀ j, iv 0 511 (a_cover j)) → P x5 a_cover := by
    intro n
    induction n with
    | zero => intro x5 a_cover hm hx5 k_a_cover; exact (ms0_up hm hx5).elim
    | succ n ih =>
      intro x5 a_cover hm hx5 k_a_cover
      apply hP
      refine ⟨fun c1 => ?_, fun c1 => ?_⟩
      · skip
        intro w2 ew2
        have hw2 := iv_eq ew2 (iv_add (l := 1) (h := 9) hx4 (iv_lit (l := 1) (h := 1) (by decide)) (by decide))
        exact hP3 _ _ (ml_up hm3 (inc_lt ew2 hx4 (by decide))) (iv_w hw2 (by decide)) k_a_cover
      · skip
        refine ⟨iv_in (iv_add (l := 0) (h := 80) (iv_mul (l := 0) (h := 72) hx4 (iv_lit (l := 9) (h := 9) (by decide)) (by decide)) (iv_lta (l := 0) (h := 8) (r_nle c1) hx5 hx2 (by decide)) (by decide)) (by decide), ?_⟩
        refine ⟨fun c3 => ?_, fun c3 => ?_⟩
        · skip
          exact s_wp_X7_coverBy_1_54 k_a_heard k_a_cover hx2 hx3 hx4 (iv_lta (l := 0) (h := 8) (r_nle c1) hx5 hx2 (by decide)) m3 hm3 hP3 x5.toInt (Int.le_refl _) (fun u0 u1 hq g0 g1 => ih u0 u1 (ms_up hm hq) g0 g1) hpost
        · skip
          refine ⟨iv_in hx4 (by decide), ?_⟩
          intro w4 ew4
          have hw4 := iv_eq ew4 (iv_or 9 (l := 0) (h := 511) (k_a_cover _) (iv_shl1 (l := 1) (h := 256) (iv_lit (l := 1) (h := 1) (by decide)) (iv_lta (l := 0) (h := 8) (r_nle c1) hx5 hx2 (by decide)) (by decide)) (by decide))
          refine ⟨iv_in hx4 (by decide), ?_⟩
          intro a5 ea5
          have k_a5 := iv_upd ea5 k_a_cover hw4
          exact s_wp_X7_coverBy_1_54 k_a_heard k_a5 hx2 hx3 hx4 (iv_lta (l := 0) (h := 8) (r_nle c1) hx5 hx2 (by decide)) m3 hm3 hP3 x5.toInt (Int.le_refl _) (fun u0 u1 hq g0 g1 => ih u0 u1 (ms_up hm hq) g0 g1) hpost
  exact loop _ _ _ (ms_init_up _ _) hx5 k_a_cover
set_option maxRecDepth 20000 in
theorem s_wp_X7_coverBy_1_3 {a_heard : Nat → Int32} {a_cover : Nat → Int32} {x2 : Int32} {x3 : Int32} {x4 : Int32} {post : (Nat → Int32) → Prop} (k_a_heard : ∀ j, iv 0 1000 (a_heard j)) (k_a_cover : ∀ j, iv 0 511 (a_cover j)) (hx2 : iv 0 9 x2) (hx3 : iv 0 99 x3) (hx4 : iv 0 9 x4) (hpost : ∀ (a_cover : Nat → Int32), (∀ j, iv 0 511 (a_cover j)) → post a_cover) : q_wp_X7_coverBy_1_3 a_heard a_cover x2 x3 x4 post := by
  intro P hP
  have loop : ∀ (n : Nat) (x4 : Int32) (a_cover : Nat → Int32), (9 - x4.toInt < (n : Int)) → (iv 0 9 x4) → (∀ j, iv 0 511 (a_cover j)) → P x4 a_cover := by
    intro n
    induction n with
    | zero => intro x4 a_cover hm hx4 k_a_cover; exact (ms0_up hm hx4).elim
    | succ n ih =>
      intro x4 a_cover hm hx4 k_a_cover
      apply hP
      refine ⟨fun c1 => ?_, fun c1 => ?_⟩
      · skip
        exact hpost _ k_a_cover
      · skip
        refine ⟨iv_in (iv_lta (l := 0) (h := 8) (r_nle c1) hx4 hx2 (by decide)) (by decide), ?_⟩
        intro a2 ea2
        have k_a2 := iv_upd ea2 k_a_cover (iv_w (iv_lit (l := 0) (h := 0) (by decide)) (by decide))
        exact s_wp_X7_coverBy_1_20 k_a_heard k_a2 (iv_ltb (l := 1) (h := 9) (r_nle c1) hx4 hx2 (by decide)) hx3 (iv_lta (l := 0) (h := 8) (r_nle c1) hx4 hx2 (by decide)) (iv_w (iv_lit (l := 0) (h := 0) (by decide)) (by decide)) x4.toInt (Int.le_refl _) (fun u0 u1 hq g0 g1 => ih u0 u1 (ms_up hm hq) g0 g1) hpost
  exact loop _ _ _ (ms_init_up _ _) hx4 k_a_cover
set_option maxRecDepth 20000 in
theorem s_wp_X7_coverBy_1_0 {a_heard : Nat → Int32} {a_cover : Nat → Int32} {x2 : Int32} {x3 : Int32} {post : (Nat → Int32) → Prop} (k_a_heard : ∀ j, iv 0 1000 (a_heard j)) (k_a_cover : ∀ j, iv 0 511 (a_cover j)) (hx2 : iv 0 9 x2) (hx3 : iv 0 99 x3) (hpost : ∀ (a_cover : Nat → Int32), (∀ j, iv 0 511 (a_cover j)) → post a_cover) : q_wp_X7_coverBy_1_0 a_heard a_cover x2 x3 post := by
  exact s_wp_X7_coverBy_1_3 k_a_heard k_a_cover hx2 hx3 (iv_w (iv_lit (l := 0) (h := 0) (by decide)) (by decide)) hpost
-- wp_X7_covered
set_option maxRecDepth 20000 in
theorem s_wp_X7_covered_30 {P5 : Int32 → Int32 → Prop} {a_cover : Nat → Int32} {x1 : Int32} {x2 : Int32} {x3 : Int32} {x4 : Int32} {post : Int32 → Prop} (k_a_cover : ∀ j, iv 0 511 (a_cover j)) (hx1 : iv 0 511 x1) (hx2 : iv 1 9 x2) (hx3 : iv 0 511 x3) (hx4 : iv 0 8 x4) (m5 : Int) (hm5 : m5 ≤ x4.toInt) (hP5 : ∀ (x3 : Int32) (x4 : Int32), m5 < x4.toInt → iv 0 511 x3 → iv 0 9 x4 → P5 x3 x4) (hpost : ∀ (r : Int32), iv 0 511 r → post r) : q_wp_X7_covered_30 P5 a_cover x1 x2 x3 x4 post := by
  intro w1 ew1
  have hw1 := iv_eq ew1 (iv_add (l := 1) (h := 9) hx4 (iv_lit (l := 1) (h := 1) (by decide)) (by decide))
  exact hP5 _ _ (ml_up hm5 (inc_lt ew1 hx4 (by decide))) hx3 (iv_w hw1 (by decide))
set_option maxRecDepth 20000 in
theorem s_wp_X7_covered_5 {a_cover : Nat → Int32} {x1 : Int32} {x2 : Int32} {x3 : Int32} {x4 : Int32} {post : Int32 → Prop} (k_a_cover : ∀ j, iv 0 511 (a_cover j)) (hx1 : iv 0 511 x1) (hx2 : iv 0 9 x2) (hx3 : iv 0 511 x3) (hx4 : iv 0 9 x4) (hpost : ∀ (r : Int32), iv 0 511 r → post r) : q_wp_X7_covered_5 a_cover x1 x2 x3 x4 post := by
  intro P hP
  have loop : ∀ (n : Nat) (x3 : Int32) (x4 : Int32), (9 - x4.toInt < (n : Int)) → (iv 0 511 x3) → (iv 0 9 x4) → P x3 x4 := by
    intro n
    induction n with
    | zero => intro x3 x4 hm hx3 hx4; exact (ms0_up hm hx4).elim
    | succ n ih =>
      intro x3 x4 hm hx3 hx4
      apply hP
      refine ⟨fun c1 => ?_, fun c1 => ?_⟩
      · skip
        exact hpost _ hx3
      · skip
        refine ⟨fun c2 => ?_, fun c2 => ?_⟩
        · skip
          refine ⟨fun c3 => ?_, fun c3 => ?_⟩
          · skip
            exact s_wp_X7_covered_30 k_a_cover hx1 (iv_ltb (l := 1) (h := 9) (r_nle c1) hx4 hx2 (by decide)) hx3 (iv_lta (l := 0) (h := 8) (r_nle c1) hx4 hx2 (by decide)) x4.toInt (Int.le_refl _) (fun u0 u1 hq g0 g1 => ih u0 u1 (ms_up hm hq) g0 g1) hpost
          · skip
            exact (iv_emp (iv_ne (l := 1) (h := 0) c3 (iv_lit (l := 0) (h := 0) (by decide)) (iv_lit (l := 0) (h := 0) (by decide)) (by decide)) (by decide)).elim
        · skip
          refine ⟨fun c4 => ?_, fun c4 => ?_⟩
          · skip
            exact (iv_emp (iv_eqa (l := 1) (h := 0) c4 (iv_lit (l := 1) (h := 1) (by decide)) (iv_lit (l := 0) (h := 0) (by decide)) (by decide)) (by decide)).elim
          · skip
            refine ⟨iv_in (iv_lta (l := 0) (h := 8) (r_nle c1) hx4 hx2 (by decide)) (by decide), ?_⟩
            intro w5 ew5
            have hw5 := iv_eq ew5 (iv_or 9 (l := 0) (h := 511) hx3 (k_a_cover _) (by decide))
            exact s_wp_X7_covered_30 k_a_cover hx1 (iv_ltb (l := 1) (h := 9) (r_nle c1) hx4 hx2 (by decide)) hw5 (iv_lta (l := 0) (h := 8) (r_nle c1) hx4 hx2 (by decide)) x4.toInt (Int.le_refl _) (fun u0 u1 hq g0 g1 => ih u0 u1 (ms_up hm hq) g0 g1) hpost
  exact loop _ _ _ (ms_init_up _ _) hx3 hx4
set_option maxRecDepth 20000 in
theorem s_wp_X7_covered_0 {a_cover : Nat → Int32} {x1 : Int32} {x2 : Int32} {post : Int32 → Prop} (k_a_cover : ∀ j, iv 0 511 (a_cover j)) (hx1 : iv 0 511 x1) (hx2 : iv 0 9 x2) (hpost : ∀ (r : Int32), iv 0 511 r → post r) : q_wp_X7_covered_0 a_cover x1 x2 post := by
  exact s_wp_X7_covered_5 k_a_cover hx1 hx2 (iv_w (iv_lit (l := 0) (h := 0) (by decide)) (by decide)) (iv_w (iv_lit (l := 0) (h := 0) (by decide)) (by decide)) hpost
end
section
-- wp_X7_fewestCovering
set_option maxRecDepth 20000 in
theorem s_wp_X7_fewestCovering_52 {P10 : Int32 → Int32 → Int32 → Prop} {a_cover : Nat → Int32} {x1 : Int32} {x2 : Int32} {x3 : Int32} {x4 : Int32} {x5 : Int32} {post : Int32 → Prop} (k_a_cover : ∀ j, iv 0 511 (a_cover j)) (hx1 : iv 0 511 x1) (hx2 : iv 0 9 x2) (hx3 : iv (-1) 2147483647 x3) (hx4 : iv 0 63 x4) (hx5 : iv 0 511 x5) (m10 : Int) (hm10 : m10 ≤ x5.toInt) (hP10 : ∀ (x3 : Int32) (x4 : Int32) (x5 : Int32), m10 < x5.toInt → iv (-1) 2147483647 x3 → iv 0 63 x4 → iv 0 512 x5 → P10 x3 x4 x5) (hpost : ∀ (r : Int32), iv (-1) 2147483647 r → post r) : q_wp_X7_fewestCovering_52 P10 a_cover x1 x2 x3 x4 x5 post := by
  intro w1 ew1
  have hw1 := iv_eq ew1 (iv_add (l := 1) (h := 512) hx5 (iv_lit (l := 1) (h := 1) (by decide)) (by decide))
  exact hP10 _ _ _ (ml_up hm10 (inc_lt ew1 hx5 (by decide))) hx3 hx4 (iv_w hw1 (by decide))
set_option maxRecDepth 20000 in
theorem s_wp_X7_fewestCovering_10 {a_cover : Nat → Int32} {x1 : Int32} {x2 : Int32} {x3 : Int32} {x4 : Int32} {x5 : Int32} {post : Int32 → Prop} (k_a_cover : ∀ j, iv 0 511 (a_cover j)) (hx1 : iv 0 511 x1) (hx2 : iv 0 9 x2) (hx3 : iv (-1) 2147483647 x3) (hx4 : iv 0 63 x4) (hx5 : iv 0 512 x5) (hpost : ∀ (r : Int32), iv (-1) 2147483647 r → post r) : q_wp_X7_fewestCovering_10 a_cover x1 x2 x3 x4 x5 post := by
  intro P hP
  have loop : ∀ (n : Nat) (x3 : Int32) (x4 : Int32) (x5 : Int32), (512 - x5.toInt < (n : Int)) → (iv (-1) 2147483647 x3) → (iv 0 63 x4) → (iv 0 512 x5) → P x3 x4 x5 := by
    intro n
    induction n with
    | zero => intro x3 x4 x5 hm hx3 hx4 hx5; exact (ms0_up hm hx5).elim
    | succ n ih =>
      intro x3 x4 x5 hm hx3 hx4 hx5
      apply hP
      refine ⟨fun c1 => ?_, fun c1 => ?_⟩
      · skip
        exact hpost _ hx3
      · skip
        refine s_z_J6_bitCount_0f7a4_0 (iv_w (iv_lta (l := 0) (h := 511) (r_nle c1) hx5 (iv_shl1 (l := 1) (h := 512) (iv_lit (l := 1) (h := 1) (by decide)) hx2 (by decide)) (by decide)) (by decide)) (fun r2 hr2 => ?_)
        refine ⟨fun c3 => ?_, fun c3 => ?_⟩
        · skip
          exact s_wp_X7_fewestCovering_52 k_a_cover hx1 hx2 hx3 hx4 (iv_lta (l := 0) (h := 511) (r_nle c1) hx5 (iv_shl1 (l := 1) (h := 512) (iv_lit (l := 1) (h := 1) (by decide)) hx2 (by decide)) (by decide)) x5.toInt (Int.le_refl _) (fun u0 u1 u2 hq g0 g1 g2 => ih u0 u1 u2 (ms_up hm hq) g0 g1 g2) hpost
        · skip
          refine s_wp_X7_covered_0 k_a_cover (iv_lta (l := 0) (h := 511) (r_nle c1) hx5 (iv_shl1 (l := 1) (h := 512) (iv_lit (l := 1) (h := 1) (by decide)) hx2 (by decide)) (by decide)) hx2 (fun r4 hr4 => ?_)
          refine ⟨fun c5 => ?_, fun c5 => ?_⟩
          · skip
            exact s_wp_X7_fewestCovering_52 k_a_cover hx1 hx2 hx3 (iv_w (iv_ltb (l := 1) (h := 63) (r_nle c3) hr2 hx4 (by decide)) (by decide)) (iv_lta (l := 0) (h := 511) (r_nle c1) hx5 (iv_shl1 (l := 1) (h := 512) (iv_lit (l := 1) (h := 1) (by decide)) hx2 (by decide)) (by decide)) x5.toInt (Int.le_refl _) (fun u0 u1 u2 hq g0 g1 g2 => ih u0 u1 u2 (ms_up hm hq) g0 g1 g2) hpost
          · skip
            refine s_z_J6_bitCount_0f7a4_0 (iv_w (iv_lta (l := 0) (h := 511) (r_nle c1) hx5 (iv_shl1 (l := 1) (h := 512) (iv_lit (l := 1) (h := 1) (by decide)) hx2 (by decide)) (by decide)) (by decide)) (fun r6 hr6 => ?_)
            exact s_wp_X7_fewestCovering_52 k_a_cover hx1 hx2 (iv_w (iv_lta (l := 0) (h := 511) (r_nle c1) hx5 (iv_shl1 (l := 1) (h := 512) (iv_lit (l := 1) (h := 1) (by decide)) hx2 (by decide)) (by decide)) (by decide)) hr6 (iv_lta (l := 0) (h := 511) (r_nle c1) hx5 (iv_shl1 (l := 1) (h := 512) (iv_lit (l := 1) (h := 1) (by decide)) hx2 (by decide)) (by decide)) x5.toInt (Int.le_refl _) (fun u0 u1 u2 hq g0 g1 g2 => ih u0 u1 u2 (ms_up hm hq) g0 g1 g2) hpost
  exact loop _ _ _ _ (ms_init_up _ _) hx3 hx4 hx5
set_option maxRecDepth 20000 in
theorem s_wp_X7_fewestCovering_0 {a_cover : Nat → Int32} {x1 : Int32} {x2 : Int32} {post : Int32 → Prop} (k_a_cover : ∀ j, iv 0 511 (a_cover j)) (hx1 : iv 0 511 x1) (hx2 : iv 0 9 x2) (hpost : ∀ (r : Int32), iv (-1) 2147483647 r → post r) : q_wp_X7_fewestCovering_0 a_cover x1 x2 post := by
  intro w1 ew1
  have hw1 := iv_eq ew1 (iv_add (l := 1) (h := 10) hx2 (iv_lit (l := 1) (h := 1) (by decide)) (by decide))
  exact s_wp_X7_fewestCovering_10 k_a_cover hx1 hx2 (iv_w (iv_lit (l := (-1)) (h := (-1)) (by decide)) (by decide)) (iv_w hw1 (by decide)) (iv_w (iv_lit (l := 0) (h := 0) (by decide)) (by decide)) hpost
-- wp_X7_coverBy_2
set_option maxRecDepth 20000 in
theorem s_wp_X7_coverBy_2_54 {P3 : Int32 → (Nat → Int32) → Prop} {P20 : Int32 → (Nat → Int32) → Prop} {a_walked : Nat → Int32} {a_cover : Nat → Int32} {x2 : Int32} {x3 : Int32} {x4 : Int32} {x5 : Int32} {post : (Nat → Int32) → Prop} (k_a_walked : ∀ j, iv 0 1000 (a_walked j)) (k_a_cover : ∀ j, iv 0 511 (a_cover j)) (hx2 : iv 1 9 x2) (hx3 : iv 0 99 x3) (hx4 : iv 0 8 x4) (hx5 : iv 0 8 x5) (m3 : Int) (hm3 : m3 ≤ x4.toInt) (hP3 : ∀ (x4 : Int32) (a_cover : Nat → Int32), m3 < x4.toInt → iv 0 9 x4 → (∀ j, iv 0 511 (a_cover j)) → P3 x4 a_cover) (m20 : Int) (hm20 : m20 ≤ x5.toInt) (hP20 : ∀ (x5 : Int32) (a_cover : Nat → Int32), m20 < x5.toInt → iv 0 9 x5 → (∀ j, iv 0 511 (a_cover j)) → P20 x5 a_cover) (hpost : ∀ (a_cover : Nat → Int32), (∀ j, iv 0 511 (a_cover j)) → post a_cover) : q_wp_X7_coverBy_2_54 P3 P20 a_walked a_cover x2 x3 x4 x5 post := by
  intro w1 ew1
  have hw1 := iv_eq ew1 (iv_add (l := 1) (h := 9) hx5 (iv_lit (l := 1) (h := 1) (by decide)) (by decide))
  exact hP20 _ _ (ml_up hm20 (inc_lt ew1 hx5 (by decide))) (iv_w hw1 (by decide)) k_a_cover
set_option maxRecDepth 20000 in
theorem s_wp_X7_coverBy_2_20 {P3 : Int32 → (Nat → Int32) → Prop} {a_walked : Nat → Int32} {a_cover : Nat → Int32} {x2 : Int32} {x3 : Int32} {x4 : Int32} {x5 : Int32} {post : (Nat → Int32) → Prop} (k_a_walked : ∀ j, iv 0 1000 (a_walked j)) (k_a_cover : ∀ j, iv 0 511 (a_cover j)) (hx2 : iv 1 9 x2) (hx3 : iv 0 99 x3) (hx4 : iv 0 8 x4) (hx5 : iv 0 9 x5) (m3 : Int) (hm3 : m3 ≤ x4.toInt) (hP3 : ∀ (x4 : Int32) (a_cover : Nat → Int32), m3 < x4.toInt → iv 0 9 x4 → (∀ j, iv 0 511 (a_cover j)) → P3 x4 a_cover) (hpost : ∀ (a_cover : Nat → Int32), (∀ j, iv 0 511 (a_cover j)) → post a_cover) : q_wp_X7_coverBy_2_20 P3 a_walked a_cover x2 x3 x4 x5 post := by
  intro P hP
  have loop : ∀ (n : Nat) (x5 : Int32) (a_cover : Nat → Int32), (9 - x5.toInt < (n : Int)) → (iv 0 9 x5) → (∀ j, iv 0 511 (a_cover j)) → P x5 a_cover := by
    intro n
    induction n with
    | zero => intro x5 a_cover hm hx5 k_a_cover; exact (ms0_up hm hx5).elim
    | succ n ih =>
      intro x5 a_cover hm hx5 k_a_cover
      apply hP
      refine ⟨fun c1 => ?_, fun c1 => ?_⟩
      · skip
        intro w2 ew2
        have hw2 := iv_eq ew2 (iv_add (l := 1) (h := 9) hx4 (iv_lit (l := 1) (h := 1) (by decide)) (by decide))
        exact hP3 _ _ (ml_up hm3 (inc_lt ew2 hx4 (by decide))) (iv_w hw2 (by decide)) k_a_cover
      · skip
        refine ⟨iv_in (iv_add (l := 0) (h := 80) (iv_mul (l := 0) (h := 72) hx4 (iv_lit (l := 9) (h := 9) (by decide)) (by decide)) (iv_lta (l := 0) (h := 8) (r_nle c1) hx5 hx2 (by decide)) (by decide)) (by decide), ?_⟩
        refine ⟨fun c3 => ?_, fun c3 => ?_⟩
        · skip
          exact s_wp_X7_coverBy_2_54 k_a_walked k_a_cover hx2 hx3 hx4 (iv_lta (l := 0) (h := 8) (r_nle c1) hx5 hx2 (by decide)) m3 hm3 hP3 x5.toInt (Int.le_refl _) (fun u0 u1 hq g0 g1 => ih u0 u1 (ms_up hm hq) g0 g1) hpost
        · skip
          refine ⟨iv_in hx4 (by decide), ?_⟩
          intro w4 ew4
          have hw4 := iv_eq ew4 (iv_or 9 (l := 0) (h := 511) (k_a_cover _) (iv_shl1 (l := 1) (h := 256) (iv_lit (l := 1) (h := 1) (by decide)) (iv_lta (l := 0) (h := 8) (r_nle c1) hx5 hx2 (by decide)) (by decide)) (by decide))
          refine ⟨iv_in hx4 (by decide), ?_⟩
          intro a5 ea5
          have k_a5 := iv_upd ea5 k_a_cover hw4
          exact s_wp_X7_coverBy_2_54 k_a_walked k_a5 hx2 hx3 hx4 (iv_lta (l := 0) (h := 8) (r_nle c1) hx5 hx2 (by decide)) m3 hm3 hP3 x5.toInt (Int.le_refl _) (fun u0 u1 hq g0 g1 => ih u0 u1 (ms_up hm hq) g0 g1) hpost
  exact loop _ _ _ (ms_init_up _ _) hx5 k_a_cover
set_option maxRecDepth 20000 in
theorem s_wp_X7_coverBy_2_3 {a_walked : Nat → Int32} {a_cover : Nat → Int32} {x2 : Int32} {x3 : Int32} {x4 : Int32} {post : (Nat → Int32) → Prop} (k_a_walked : ∀ j, iv 0 1000 (a_walked j)) (k_a_cover : ∀ j, iv 0 511 (a_cover j)) (hx2 : iv 0 9 x2) (hx3 : iv 0 99 x3) (hx4 : iv 0 9 x4) (hpost : ∀ (a_cover : Nat → Int32), (∀ j, iv 0 511 (a_cover j)) → post a_cover) : q_wp_X7_coverBy_2_3 a_walked a_cover x2 x3 x4 post := by
  intro P hP
  have loop : ∀ (n : Nat) (x4 : Int32) (a_cover : Nat → Int32), (9 - x4.toInt < (n : Int)) → (iv 0 9 x4) → (∀ j, iv 0 511 (a_cover j)) → P x4 a_cover := by
    intro n
    induction n with
    | zero => intro x4 a_cover hm hx4 k_a_cover; exact (ms0_up hm hx4).elim
    | succ n ih =>
      intro x4 a_cover hm hx4 k_a_cover
      apply hP
      refine ⟨fun c1 => ?_, fun c1 => ?_⟩
      · skip
        exact hpost _ k_a_cover
      · skip
        refine ⟨iv_in (iv_lta (l := 0) (h := 8) (r_nle c1) hx4 hx2 (by decide)) (by decide), ?_⟩
        intro a2 ea2
        have k_a2 := iv_upd ea2 k_a_cover (iv_w (iv_lit (l := 0) (h := 0) (by decide)) (by decide))
        exact s_wp_X7_coverBy_2_20 k_a_walked k_a2 (iv_ltb (l := 1) (h := 9) (r_nle c1) hx4 hx2 (by decide)) hx3 (iv_lta (l := 0) (h := 8) (r_nle c1) hx4 hx2 (by decide)) (iv_w (iv_lit (l := 0) (h := 0) (by decide)) (by decide)) x4.toInt (Int.le_refl _) (fun u0 u1 hq g0 g1 => ih u0 u1 (ms_up hm hq) g0 g1) hpost
  exact loop _ _ _ (ms_init_up _ _) hx4 k_a_cover
set_option maxRecDepth 20000 in
theorem s_wp_X7_coverBy_2_0 {a_walked : Nat → Int32} {a_cover : Nat → Int32} {x2 : Int32} {x3 : Int32} {post : (Nat → Int32) → Prop} (k_a_walked : ∀ j, iv 0 1000 (a_walked j)) (k_a_cover : ∀ j, iv 0 511 (a_cover j)) (hx2 : iv 0 9 x2) (hx3 : iv 0 99 x3) (hpost : ∀ (a_cover : Nat → Int32), (∀ j, iv 0 511 (a_cover j)) → post a_cover) : q_wp_X7_coverBy_2_0 a_walked a_cover x2 x3 post := by
  exact s_wp_X7_coverBy_2_3 k_a_walked k_a_cover hx2 hx3 (iv_w (iv_lit (l := 0) (h := 0) (by decide)) (by decide)) hpost
-- wp_J7_fill_53178_3
set_option maxRecDepth 20000 in
theorem s_wp_J7_fill_53178_3_5 {a_total : Nat → Int32} {x1 : Int32} {x2 : Int32} {x3 : Int32} {post : (Nat → Int32) → Prop} (hx1 : iv 0 0 x1) (hx2 : iv 0 9 x2) (hx3 : iv 9 9 x3) (hpost : ∀ (a_total : Nat → Int32), post a_total) : q_wp_J7_fill_53178_3_5 a_total x1 x2 x3 post := by
  intro P hP
  have loop : ∀ (n : Nat) (x2 : Int32) (a_total : Nat → Int32), (9 - x2.toInt < (n : Int)) → (iv 0 9 x2) → P x2 a_total := by
    intro n
    induction n with
    | zero => intro x2 a_total hm hx2; exact (ms0_up hm hx2).elim
    | succ n ih =>
      intro x2 a_total hm hx2
      apply hP
      refine ⟨fun c1 => ?_, fun c1 => ?_⟩
      · skip
        exact hpost _
      · skip
        refine ⟨iv_in (iv_lta (l := 0) (h := 8) (r_nle c1) hx2 hx3 (by decide)) (by decide), ?_⟩
        intro a2 ea2
        intro w3 ew3
        have hw3 := iv_eq ew3 (iv_add (l := 1) (h := 9) (iv_lta (l := 0) (h := 8) (r_nle c1) hx2 hx3 (by decide)) (iv_lit (l := 1) (h := 1) (by decide)) (by decide))
        exact ih _ _ (ms_up hm (inc_lt ew3 (iv_lta (l := 0) (h := 8) (r_nle c1) hx2 hx3 (by decide)) (by decide))) (iv_w hw3 (by decide))
  exact loop _ _ _ (ms_init_up _ _) hx2
set_option maxRecDepth 20000 in
theorem s_wp_J7_fill_53178_3_0 {a_total : Nat → Int32} {x1 : Int32} {post : (Nat → Int32) → Prop} (hx1 : iv 0 0 x1) (hpost : ∀ (a_total : Nat → Int32), post a_total) : q_wp_J7_fill_53178_3_0 a_total x1 post := by
  exact s_wp_J7_fill_53178_3_5 hx1 (iv_w (iv_lit (l := 0) (h := 0) (by decide)) (by decide)) (iv_lit (l := 9) (h := 9) (by decide)) hpost
-- wp_J7_fill_53178_4
set_option maxRecDepth 20000 in
theorem s_wp_J7_fill_53178_4_5 {a_longest : Nat → Int32} {x1 : Int32} {x2 : Int32} {x3 : Int32} {post : (Nat → Int32) → Prop} (k_a_longest : ∀ j, iv 0 8 (a_longest j)) (hx1 : iv 0 0 x1) (hx2 : iv 0 9 x2) (hx3 : iv 9 9 x3) (hpost : ∀ (a_longest : Nat → Int32), (∀ j, iv 0 8 (a_longest j)) → post a_longest) : q_wp_J7_fill_53178_4_5 a_longest x1 x2 x3 post := by
  intro P hP
  have loop : ∀ (n : Nat) (x2 : Int32) (a_longest : Nat → Int32), (9 - x2.toInt < (n : Int)) → (iv 0 9 x2) → (∀ j, iv 0 8 (a_longest j)) → P x2 a_longest := by
    intro n
    induction n with
    | zero => intro x2 a_longest hm hx2 k_a_longest; exact (ms0_up hm hx2).elim
    | succ n ih =>
      intro x2 a_longest hm hx2 k_a_longest
      apply hP
      refine ⟨fun c1 => ?_, fun c1 => ?_⟩
      · skip
        exact hpost _ k_a_longest
      · skip
        refine ⟨iv_in (iv_lta (l := 0) (h := 8) (r_nle c1) hx2 hx3 (by decide)) (by decide), ?_⟩
        intro a2 ea2
        have k_a2 := iv_upd ea2 k_a_longest (iv_w hx1 (by decide))
        intro w3 ew3
        have hw3 := iv_eq ew3 (iv_add (l := 1) (h := 9) (iv_lta (l := 0) (h := 8) (r_nle c1) hx2 hx3 (by decide)) (iv_lit (l := 1) (h := 1) (by decide)) (by decide))
        exact ih _ _ (ms_up hm (inc_lt ew3 (iv_lta (l := 0) (h := 8) (r_nle c1) hx2 hx3 (by decide)) (by decide))) (iv_w hw3 (by decide)) k_a2
  exact loop _ _ _ (ms_init_up _ _) hx2 k_a_longest
set_option maxRecDepth 20000 in
theorem s_wp_J7_fill_53178_4_0 {a_longest : Nat → Int32} {x1 : Int32} {post : (Nat → Int32) → Prop} (k_a_longest : ∀ j, iv 0 8 (a_longest j)) (hx1 : iv 0 0 x1) (hpost : ∀ (a_longest : Nat → Int32), (∀ j, iv 0 8 (a_longest j)) → post a_longest) : q_wp_J7_fill_53178_4_0 a_longest x1 post := by
  exact s_wp_J7_fill_53178_4_5 k_a_longest hx1 (iv_w (iv_lit (l := 0) (h := 0) (by decide)) (by decide)) (iv_lit (l := 9) (h := 9) (by decide)) hpost
-- wp_J7_fill_53178_7
set_option maxRecDepth 20000 in
theorem s_wp_J7_fill_53178_7_5 {a_now : Nat → Int32} {x1 : Int32} {x2 : Int32} {x3 : Int32} {post : (Nat → Int32) → Prop} (hx1 : iv 0 1000 x1) (hx2 : iv 0 9 x2) (hx3 : iv 9 9 x3) (hpost : ∀ (a_now : Nat → Int32), post a_now) : q_wp_J7_fill_53178_7_5 a_now x1 x2 x3 post := by
  intro P hP
  have loop : ∀ (n : Nat) (x2 : Int32) (a_now : Nat → Int32), (9 - x2.toInt < (n : Int)) → (iv 0 9 x2) → P x2 a_now := by
    intro n
    induction n with
    | zero => intro x2 a_now hm hx2; exact (ms0_up hm hx2).elim
    | succ n ih =>
      intro x2 a_now hm hx2
      apply hP
      refine ⟨fun c1 => ?_, fun c1 => ?_⟩
      · skip
        exact hpost _
      · skip
        refine ⟨iv_in (iv_lta (l := 0) (h := 8) (r_nle c1) hx2 hx3 (by decide)) (by decide), ?_⟩
        intro a2 ea2
        intro w3 ew3
        have hw3 := iv_eq ew3 (iv_add (l := 1) (h := 9) (iv_lta (l := 0) (h := 8) (r_nle c1) hx2 hx3 (by decide)) (iv_lit (l := 1) (h := 1) (by decide)) (by decide))
        exact ih _ _ (ms_up hm (inc_lt ew3 (iv_lta (l := 0) (h := 8) (r_nle c1) hx2 hx3 (by decide)) (by decide))) (iv_w hw3 (by decide))
  exact loop _ _ _ (ms_init_up _ _) hx2
set_option maxRecDepth 20000 in
theorem s_wp_J7_fill_53178_7_0 {a_now : Nat → Int32} {x1 : Int32} {post : (Nat → Int32) → Prop} (hx1 : iv 0 1000 x1) (hpost : ∀ (a_now : Nat → Int32), post a_now) : q_wp_J7_fill_53178_7_0 a_now x1 post := by
  exact s_wp_J7_fill_53178_7_5 hx1 (iv_w (iv_lit (l := 0) (h := 0) (by decide)) (by decide)) (iv_lit (l := 9) (h := 9) (by decide)) hpost
-- wp_X7_routesOn_9
set_option maxRecDepth 20000 in
theorem s_wp_X7_routesOn_9_34 {P5 : Int32 → Int32 → Prop} {a_now : Nat → Int32} {lf_huts : Int32} {lf_dams : Int32} {la_heights : Nat → Int32} {la_minutes : Nat → Int32} {x2 : Int32} {x3 : Int32} {x4 : Int32} {post : Int32 → Prop} (k_lf_huts : iv 2 9 lf_huts) (k_lf_dams : iv 0 511 lf_dams) (k_la_heights : ∀ j, iv 0 99 (la_heights j)) (k_la_minutes : ∀ j, iv 0 9 (la_minutes j)) (hx2 : iv 0 8 x2) (hx4 : iv 0 8 x4) (m5 : Int) (hm5 : m5 ≤ x4.toInt) (hP5 : ∀ (x3 : Int32) (x4 : Int32), m5 < x4.toInt → iv 0 9 x4 → P5 x3 x4) (hpost : ∀ (r : Int32), post r) : q_wp_X7_routesOn_9_34 P5 a_now lf_huts lf_dams la_heights la_minutes x2 x3 x4 post := by
  intro w1 ew1
  have hw1 := iv_eq ew1 (iv_add (l := 1) (h := 9) hx4 (iv_lit (l := 1) (h := 1) (by decide)) (by decide))
  exact hP5 _ _ (ml_up hm5 (inc_lt ew1 hx4 (by decide))) (iv_w hw1 (by decide))
set_option maxRecDepth 20000 in
theorem s_wp_X7_routesOn_9_5 {a_now : Nat → Int32} {lf_huts : Int32} {lf_dams : Int32} {la_heights : Nat → Int32} {la_minutes : Nat → Int32} {x2 : Int32} {x3 : Int32} {x4 : Int32} {post : Int32 → Prop} (k_lf_huts : iv 2 9 lf_huts) (k_lf_dams : iv 0 511 lf_dams) (k_la_heights : ∀ j, iv 0 99 (la_heights j)) (k_la_minutes : ∀ j, iv 0 9 (la_minutes j)) (hx2 : iv 0 8 x2) (hx4 : iv 0 9 x4) (hpost : ∀ (r : Int32), post r) : q_wp_X7_routesOn_9_5 a_now lf_huts lf_dams la_heights la_minutes x2 x3 x4 post := by
  intro P hP
  have loop : ∀ (n : Nat) (x3 : Int32) (x4 : Int32), (9 - x4.toInt < (n : Int)) → (iv 0 9 x4) → P x3 x4 := by
    intro n
    induction n with
    | zero => intro x3 x4 hm hx4; exact (ms0_up hm hx4).elim
    | succ n ih =>
      intro x3 x4 hm hx4
      apply hP
      refine ⟨fun c1 => ?_, fun c1 => ?_⟩
      · skip
        exact hpost _
      · skip
        refine ⟨iv_in (iv_add (l := 0) (h := 80) (iv_mul (l := 0) (h := 72) (iv_lta (l := 0) (h := 8) (r_nle c1) hx4 k_lf_huts (by decide)) (iv_lit (l := 9) (h := 9) (by decide)) (by decide)) hx2 (by decide)) (by decide), ?_⟩
        refine ⟨fun c2 => ?_, fun c2 => ?_⟩
        · skip
          refine ⟨fun c3 => ?_, fun c3 => ?_⟩
          · skip
            exact s_wp_X7_routesOn_9_34 k_lf_huts k_lf_dams k_la_heights k_la_minutes hx2 (iv_lta (l := 0) (h := 8) (r_nle c1) hx4 k_lf_huts (by decide)) x4.toInt (Int.le_refl _) (fun u0 u1 hq g0 => ih u0 u1 (ms_up hm hq) g0) hpost
          · skip
            exact (iv_emp (iv_ne (l := 1) (h := 0) c3 (iv_lit (l := 0) (h := 0) (by decide)) (iv_lit (l := 0) (h := 0) (by decide)) (by decide)) (by decide)).elim
        · skip
          refine ⟨iv_in hx2 (by decide), ?_⟩
          refine ⟨iv_in (iv_lta (l := 0) (h := 8) (r_nle c1) hx4 k_lf_huts (by decide)) (by decide), ?_⟩
          refine ⟨fun c4 => ?_, fun c4 => ?_⟩
          · skip
            refine ⟨fun c5 => ?_, fun c5 => ?_⟩
            · skip
              exact s_wp_X7_routesOn_9_34 k_lf_huts k_lf_dams k_la_heights k_la_minutes hx2 (iv_lta (l := 0) (h := 8) (r_nle c1) hx4 k_lf_huts (by decide)) x4.toInt (Int.le_refl _) (fun u0 u1 hq g0 => ih u0 u1 (ms_up hm hq) g0) hpost
            · skip
              exact (iv_emp (iv_ne (l := 1) (h := 0) c5 (iv_lit (l := 0) (h := 0) (by decide)) (iv_lit (l := 0) (h := 0) (by decide)) (by decide)) (by decide)).elim
          · skip
            refine ⟨fun c6 => ?_, fun c6 => ?_⟩
            · skip
              refine ⟨fun c7 => ?_, fun c7 => ?_⟩
              · skip
                exact (iv_emp (iv_ne (l := 1) (h := 0) c7 (iv_lit (l := 0) (h := 0) (by decide)) (iv_lit (l := 0) (h := 0) (by decide)) (by decide)) (by decide)).elim
              · skip
                refine ⟨fun c8 => ?_, fun c8 => ?_⟩
                · skip
                  refine ⟨fun c9 => ?_, fun c9 => ?_⟩
                  · skip
                    exact (iv_emp (iv_ne (l := 1) (h := 0) c9 (iv_lit (l := 0) (h := 0) (by decide)) (iv_lit (l := 0) (h := 0) (by decide)) (by decide)) (by decide)).elim
                  · skip
                    refine ⟨fun c10 => ?_, fun c10 => ?_⟩
                    · skip
                      exact (iv_emp (iv_eqa (l := 1) (h := 0) c10 (iv_lit (l := 1) (h := 1) (by decide)) (iv_lit (l := 0) (h := 0) (by decide)) (by decide)) (by decide)).elim
                    · skip
                      refine ⟨iv_in (iv_lta (l := 0) (h := 8) (r_nle c1) hx4 k_lf_huts (by decide)) (by decide), ?_⟩
                      intro w11 ew11
                      exact s_wp_X7_routesOn_9_34 k_lf_huts k_lf_dams k_la_heights k_la_minutes hx2 (iv_lta (l := 0) (h := 8) (r_nle c1) hx4 k_lf_huts (by decide)) x4.toInt (Int.le_refl _) (fun u0 u1 hq g0 => ih u0 u1 (ms_up hm hq) g0) hpost
                · skip
                  refine ⟨fun c12 => ?_, fun c12 => ?_⟩
                  · skip
                    refine ⟨fun c13 => ?_, fun c13 => ?_⟩
                    · skip
                      exact s_wp_X7_routesOn_9_34 k_lf_huts k_lf_dams k_la_heights k_la_minutes hx2 (iv_lta (l := 0) (h := 8) (r_nle c1) hx4 k_lf_huts (by decide)) x4.toInt (Int.le_refl _) (fun u0 u1 hq g0 => ih u0 u1 (ms_up hm hq) g0) hpost
                    · skip
                      exact (iv_emp (iv_ne (l := 1) (h := 0) c13 (iv_lit (l := 0) (h := 0) (by decide)) (iv_lit (l := 0) (h := 0) (by decide)) (by decide)) (by decide)).elim
                  · skip
                    exact (iv_emp (iv_eqa (l := 1) (h := 0) c12 (iv_lit (l := 1) (h := 1) (by decide)) (iv_lit (l := 0) (h := 0) (by decide)) (by decide)) (by decide)).elim
            · skip
              refine ⟨fun c14 => ?_, fun c14 => ?_⟩
              · skip
                refine ⟨fun c15 => ?_, fun c15 => ?_⟩
                · skip
                  exact s_wp_X7_routesOn_9_34 k_lf_huts k_lf_dams k_la_heights k_la_minutes hx2 (iv_lta (l := 0) (h := 8) (r_nle c1) hx4 k_lf_huts (by decide)) x4.toInt (Int.le_refl _) (fun u0 u1 hq g0 => ih u0 u1 (ms_up hm hq) g0) hpost
                · skip
                  exact (iv_emp (iv_ne (l := 1) (h := 0) c15 (iv_lit (l := 0) (h := 0) (by decide)) (iv_lit (l := 0) (h := 0) (by decide)) (by decide)) (by decide)).elim
              · skip
                exact (iv_emp (iv_eqa (l := 1) (h := 0) c14 (iv_lit (l := 1) (h := 1) (by decide)) (iv_lit (l := 0) (h := 0) (by decide)) (by decide)) (by decide)).elim
  exact loop _ _ _ (ms_init_up _ _) hx4
set_option maxRecDepth 20000 in
theorem s_wp_X7_routesOn_9_0 {a_now : Nat → Int32} {lf_huts : Int32} {lf_dams : Int32} {la_heights : Nat → Int32} {la_minutes : Nat → Int32} {x2 : Int32} {post : Int32 → Prop} (k_lf_huts : iv 2 9 lf_huts) (k_lf_dams : iv 0 511 lf_dams) (k_la_heights : ∀ j, iv 0 99 (la_heights j)) (k_la_minutes : ∀ j, iv 0 9 (la_minutes j)) (hx2 : iv 0 8 x2) (hpost : ∀ (r : Int32), post r) : q_wp_X7_routesOn_9_0 a_now lf_huts lf_dams la_heights la_minutes x2 post := by
  exact s_wp_X7_routesOn_9_5 k_lf_huts k_lf_dams k_la_heights k_la_minutes hx2 (iv_w (iv_lit (l := 0) (h := 0) (by decide)) (by decide)) hpost
-- wp_X7_trace_9
set_option maxRecDepth 20000 in
theorem s_wp_X7_trace_9_102 {P33 : Int32 → (Nat → Int32) → (Nat → Int32) → (Nat → Int32) → (Nat → Int32) → Prop} {P44 : Int32 → (Nat → Int32) → (Nat → Int32) → (Nat → Int32) → Prop} {a_total : Nat → Int32} {a_longest : Nat → Int32} {a_now : Nat → Int32} {a_then : Nat → Int32} {lf_huts : Int32} {lf_dams : Int32} {la_heights : Nat → Int32} {la_minutes : Nat → Int32} {x3 : Int32} {x4 : Int32} {post : (Nat → Int32) → (Nat → Int32) → (Nat → Int32) → (Nat → Int32) → Prop} (k_a_longest : ∀ j, iv 0 8 (a_longest j)) (k_lf_huts : iv 2 9 lf_huts) (k_lf_dams : iv 0 511 lf_dams) (k_la_heights : ∀ j, iv 0 99 (la_heights j)) (k_la_minutes : ∀ j, iv 0 9 (la_minutes j)) (hx3 : iv 1 8 x3) (hx4 : iv 0 8 x4) (m33 : Int) (hm33 : m33 ≤ x3.toInt) (hP33 : ∀ (x3 : Int32) (a_total : Nat → Int32) (a_longest : Nat → Int32) (a_now : Nat → Int32) (a_then : Nat → Int32), m33 < x3.toInt → iv 1 9 x3 → (∀ j, iv 0 8 (a_longest j)) → P33 x3 a_total a_longest a_now a_then) (m44 : Int) (hm44 : m44 ≤ x4.toInt) (hP44 : ∀ (x4 : Int32) (a_total : Nat → Int32) (a_longest : Nat → Int32) (a_then : Nat → Int32), m44 < x4.toInt → iv 0 9 x4 → (∀ j, iv 0 8 (a_longest j)) → P44 x4 a_total a_longest a_then) (hpost : ∀ (a_total : Nat → Int32) (a_longest : Nat → Int32) (a_now : Nat → Int32) (a_then : Nat → Int32), (∀ j, iv 0 8 (a_longest j)) → post a_total a_longest a_now a_then) : q_wp_X7_trace_9_102 P33 P44 a_total a_longest a_now a_then lf_huts lf_dams la_heights la_minutes x3 x4 post := by
  intro w1 ew1
  have hw1 := iv_eq ew1 (iv_add (l := 1) (h := 9) hx4 (iv_lit (l := 1) (h := 1) (by decide)) (by decide))
  exact hP44 _ _ _ _ (ml_up hm44 (inc_lt ew1 hx4 (by decide))) (iv_w hw1 (by decide)) k_a_longest
set_option maxRecDepth 20000 in
theorem s_wp_X7_trace_9_44 {P33 : Int32 → (Nat → Int32) → (Nat → Int32) → (Nat → Int32) → (Nat → Int32) → Prop} {a_total : Nat → Int32} {a_longest : Nat → Int32} {a_now : Nat → Int32} {a_then : Nat → Int32} {lf_huts : Int32} {lf_dams : Int32} {la_heights : Nat → Int32} {la_minutes : Nat → Int32} {x3 : Int32} {x4 : Int32} {post : (Nat → Int32) → (Nat → Int32) → (Nat → Int32) → (Nat → Int32) → Prop} (k_a_longest : ∀ j, iv 0 8 (a_longest j)) (k_lf_huts : iv 2 9 lf_huts) (k_lf_dams : iv 0 511 lf_dams) (k_la_heights : ∀ j, iv 0 99 (la_heights j)) (k_la_minutes : ∀ j, iv 0 9 (la_minutes j)) (hx3 : iv 1 8 x3) (hx4 : iv 0 9 x4) (m33 : Int) (hm33 : m33 ≤ x3.toInt) (hP33 : ∀ (x3 : Int32) (a_total : Nat → Int32) (a_longest : Nat → Int32) (a_now : Nat → Int32) (a_then : Nat → Int32), m33 < x3.toInt → iv 1 9 x3 → (∀ j, iv 0 8 (a_longest j)) → P33 x3 a_total a_longest a_now a_then) (hpost : ∀ (a_total : Nat → Int32) (a_longest : Nat → Int32) (a_now : Nat → Int32) (a_then : Nat → Int32), (∀ j, iv 0 8 (a_longest j)) → post a_total a_longest a_now a_then) : q_wp_X7_trace_9_44 P33 a_total a_longest a_now a_then lf_huts lf_dams la_heights la_minutes x3 x4 post := by
  intro P hP
  have loop : ∀ (n : Nat) (x4 : Int32) (a_total : Nat → Int32) (a_longest : Nat → Int32) (a_then : Nat → Int32), (9 - x4.toInt < (n : Int)) → (iv 0 9 x4) → (∀ j, iv 0 8 (a_longest j)) → P x4 a_total a_longest a_then := by
    intro n
    induction n with
    | zero => intro x4 a_total a_longest a_then hm hx4 k_a_longest; exact (ms0_up hm hx4).elim
    | succ n ih =>
      intro x4 a_total a_longest a_then hm hx4 k_a_longest
      apply hP
      refine ⟨fun c1 => ?_, fun c1 => ?_⟩
      · skip
        intro a2 ea2
        intro w3 ew3
        have hw3 := iv_eq ew3 (iv_add (l := 2) (h := 9) hx3 (iv_lit (l := 1) (h := 1) (by decide)) (by decide))
        exact hP33 _ _ _ _ _ (ml_up hm33 (inc_lt ew3 hx3 (by decide))) (iv_w hw3 (by decide)) k_a_longest
      · skip
        refine s_wp_X7_routesOn_9_0 k_lf_huts k_lf_dams k_la_heights k_la_minutes (iv_lta (l := 0) (h := 8) (r_nle c1) hx4 k_lf_huts (by decide)) (fun r4 => ?_)
        refine ⟨iv_in (iv_lta (l := 0) (h := 8) (r_nle c1) hx4 k_lf_huts (by decide)) (by decide), ?_⟩
        intro a5 ea5
        refine ⟨iv_in (iv_lta (l := 0) (h := 8) (r_nle c1) hx4 k_lf_huts (by decide)) (by decide), ?_⟩
        refine ⟨fun c6 => ?_, fun c6 => ?_⟩
        · skip
          exact s_wp_X7_trace_9_102 k_a_longest k_lf_huts k_lf_dams k_la_heights k_la_minutes hx3 (iv_lta (l := 0) (h := 8) (r_nle c1) hx4 k_lf_huts (by decide)) m33 hm33 hP33 x4.toInt (Int.le_refl _) (fun u0 u1 u2 u3 hq g0 g1 => ih u0 u1 u2 u3 (ms_up hm hq) g0 g1) hpost
        · skip
          refine ⟨iv_in (iv_lta (l := 0) (h := 8) (r_nle c1) hx4 k_lf_huts (by decide)) (by decide), ?_⟩
          refine ⟨iv_in (iv_lta (l := 0) (h := 8) (r_nle c1) hx4 k_lf_huts (by decide)) (by decide), ?_⟩
          intro w7 ew7
          refine ⟨iv_in (iv_lta (l := 0) (h := 8) (r_nle c1) hx4 k_lf_huts (by decide)) (by decide), ?_⟩
          intro a8 ea8
          refine ⟨iv_in (iv_lta (l := 0) (h := 8) (r_nle c1) hx4 k_lf_huts (by decide)) (by decide), ?_⟩
          intro a9 ea9
          have k_a9 := iv_upd ea9 k_a_longest (iv_w hx3 (by decide))
          exact s_wp_X7_trace_9_102 k_a9 k_lf_huts k_lf_dams k_la_heights k_la_minutes hx3 (iv_lta (l := 0) (h := 8) (r_nle c1) hx4 k_lf_huts (by decide)) m33 hm33 hP33 x4.toInt (Int.le_refl _) (fun u0 u1 u2 u3 hq g0 g1 => ih u0 u1 u2 u3 (ms_up hm hq) g0 g1) hpost
  exact loop _ _ _ _ _ (ms_init_up _ _) hx4 k_a_longest
set_option maxRecDepth 20000 in
theorem s_wp_X7_trace_9_33 {a_total : Nat → Int32} {a_longest : Nat → Int32} {a_now : Nat → Int32} {a_then : Nat → Int32} {lf_huts : Int32} {lf_dams : Int32} {la_heights : Nat → Int32} {la_minutes : Nat → Int32} {x3 : Int32} {post : (Nat → Int32) → (Nat → Int32) → (Nat → Int32) → (Nat → Int32) → Prop} (k_a_longest : ∀ j, iv 0 8 (a_longest j)) (k_lf_huts : iv 1 9 lf_huts) (k_lf_dams : iv 0 511 lf_dams) (k_la_heights : ∀ j, iv 0 99 (la_heights j)) (k_la_minutes : ∀ j, iv 0 9 (la_minutes j)) (hx3 : iv 1 9 x3) (hpost : ∀ (a_total : Nat → Int32) (a_longest : Nat → Int32) (a_now : Nat → Int32) (a_then : Nat → Int32), (∀ j, iv 0 8 (a_longest j)) → post a_total a_longest a_now a_then) : q_wp_X7_trace_9_33 a_total a_longest a_now a_then lf_huts lf_dams la_heights la_minutes x3 post := by
  intro P hP
  have loop : ∀ (n : Nat) (x3 : Int32) (a_total : Nat → Int32) (a_longest : Nat → Int32) (a_now : Nat → Int32) (a_then : Nat → Int32), (9 - x3.toInt < (n : Int)) → (iv 1 9 x3) → (∀ j, iv 0 8 (a_longest j)) → P x3 a_total a_longest a_now a_then := by
    intro n
    induction n with
    | zero => intro x3 a_total a_longest a_now a_then hm hx3 k_a_longest; exact (ms0_up hm hx3).elim
    | succ n ih =>
      intro x3 a_total a_longest a_now a_then hm hx3 k_a_longest
      apply hP
      refine ⟨fun c1 => ?_, fun c1 => ?_⟩
      · skip
        exact hpost _ _ _ _ k_a_longest
      · skip
        exact s_wp_X7_trace_9_44 k_a_longest (iv_ltb (l := 2) (h := 9) (r_nle c1) hx3 k_lf_huts (by decide)) k_lf_dams k_la_heights k_la_minutes (iv_lta (l := 1) (h := 8) (r_nle c1) hx3 k_lf_huts (by decide)) (iv_w (iv_lit (l := 0) (h := 0) (by decide)) (by decide)) x3.toInt (Int.le_refl _) (fun u0 u1 u2 u3 u4 hq g0 g1 => ih u0 u1 u2 u3 u4 (ms_up hm hq) g0 g1) hpost
  exact loop _ _ _ _ _ _ (ms_init_up _ _) hx3 k_a_longest
set_option maxRecDepth 20000 in
theorem s_wp_X7_trace_9_0 {a_total : Nat → Int32} {a_longest : Nat → Int32} {a_now : Nat → Int32} {a_then : Nat → Int32} {lf_huts : Int32} {lf_dams : Int32} {la_heights : Nat → Int32} {la_minutes : Nat → Int32} {x2 : Int32} {post : (Nat → Int32) → (Nat → Int32) → (Nat → Int32) → (Nat → Int32) → Prop} (k_a_longest : ∀ j, iv 0 8 (a_longest j)) (k_lf_huts : iv 1 9 lf_huts) (k_lf_dams : iv 0 511 lf_dams) (k_la_heights : ∀ j, iv 0 99 (la_heights j)) (k_la_minutes : ∀ j, iv 0 9 (la_minutes j)) (hx2 : iv 0 8 x2) (hpost : ∀ (a_total : Nat → Int32) (a_longest : Nat → Int32) (a_now : Nat → Int32) (a_then : Nat → Int32), (∀ j, iv 0 8 (a_longest j)) → post a_total a_longest a_now a_then) : q_wp_X7_trace_9_0 a_total a_longest a_now a_then lf_huts lf_dams la_heights la_minutes x2 post := by
  refine s_wp_J7_fill_53178_3_0 (iv_lit (l := 0) (h := 0) (by decide)) (fun o1 => ?_)
  refine s_wp_J7_fill_53178_4_0 k_a_longest (iv_lit (l := 0) (h := 0) (by decide)) (fun o2 k_o2 => ?_)
  refine s_wp_J7_fill_53178_7_0 (iv_w (iv_lit (l := 0) (h := 0) (by decide)) (by decide)) (fun o3 => ?_)
  refine ⟨iv_in hx2 (by decide), ?_⟩
  intro a4 ea4
  exact s_wp_X7_trace_9_33 k_o2 k_lf_huts k_lf_dams k_la_heights k_la_minutes (iv_w (iv_lit (l := 1) (h := 1) (by decide)) (by decide)) hpost
-- wp_X7_leastFall_9
set_option maxRecDepth 20000 in
theorem s_wp_X7_leastFall_9_55 {P7 : Int32 → Int32 → Prop} {a_now : Nat → Int32} {lf_huts : Int32} {lf_dams : Int32} {la_heights : Nat → Int32} {la_minutes : Nat → Int32} {x2 : Int32} {x3 : Int32} {x4 : Int32} {post : Int32 → Prop} (k_lf_huts : iv 2 9 lf_huts) (k_lf_dams : iv 0 511 lf_dams) (k_la_heights : ∀ j, iv 0 99 (la_heights j)) (k_la_minutes : ∀ j, iv 0 9 (la_minutes j)) (hx2 : iv 0 8 x2) (hx3 : iv (-99) 1000 x3) (hx4 : iv 0 8 x4) (m7 : Int) (hm7 : m7 ≤ x4.toInt) (hP7 : ∀ (x3 : Int32) (x4 : Int32), m7 < x4.toInt → iv (-99) 1000 x3 → iv 0 9 x4 → P7 x3 x4) (hpost : ∀ (r : Int32), iv (-99) 1000 r → post r) : q_wp_X7_leastFall_9_55 P7 a_now lf_huts lf_dams la_heights la_minutes x2 x3 x4 post := by
  intro w1 ew1
  have hw1 := iv_eq ew1 (iv_add (l := 1) (h := 9) hx4 (iv_lit (l := 1) (h := 1) (by decide)) (by decide))
  exact hP7 _ _ (ml_up hm7 (inc_lt ew1 hx4 (by decide))) hx3 (iv_w hw1 (by decide))
set_option maxRecDepth 20000 in
theorem s_wp_X7_leastFall_9_7 {a_now : Nat → Int32} {lf_huts : Int32} {lf_dams : Int32} {la_heights : Nat → Int32} {la_minutes : Nat → Int32} {x2 : Int32} {x3 : Int32} {x4 : Int32} {post : Int32 → Prop} (k_lf_huts : iv 2 9 lf_huts) (k_lf_dams : iv 0 511 lf_dams) (k_la_heights : ∀ j, iv 0 99 (la_heights j)) (k_la_minutes : ∀ j, iv 0 9 (la_minutes j)) (hx2 : iv 0 8 x2) (hx3 : iv (-99) 1000 x3) (hx4 : iv 0 9 x4) (hpost : ∀ (r : Int32), iv (-99) 1000 r → post r) : q_wp_X7_leastFall_9_7 a_now lf_huts lf_dams la_heights la_minutes x2 x3 x4 post := by
  intro P hP
  have loop : ∀ (n : Nat) (x3 : Int32) (x4 : Int32), (9 - x4.toInt < (n : Int)) → (iv (-99) 1000 x3) → (iv 0 9 x4) → P x3 x4 := by
    intro n
    induction n with
    | zero => intro x3 x4 hm hx3 hx4; exact (ms0_up hm hx4).elim
    | succ n ih =>
      intro x3 x4 hm hx3 hx4
      apply hP
      refine ⟨fun c1 => ?_, fun c1 => ?_⟩
      · skip
        exact hpost _ hx3
      · skip
        refine ⟨iv_in (iv_add (l := 0) (h := 80) (iv_mul (l := 0) (h := 72) (iv_lta (l := 0) (h := 8) (r_nle c1) hx4 k_lf_huts (by decide)) (iv_lit (l := 9) (h := 9) (by decide)) (by decide)) hx2 (by decide)) (by decide), ?_⟩
        refine ⟨fun c2 => ?_, fun c2 => ?_⟩
        · skip
          refine ⟨fun c3 => ?_, fun c3 => ?_⟩
          · skip
            exact s_wp_X7_leastFall_9_55 k_lf_huts k_lf_dams k_la_heights k_la_minutes hx2 hx3 (iv_lta (l := 0) (h := 8) (r_nle c1) hx4 k_lf_huts (by decide)) x4.toInt (Int.le_refl _) (fun u0 u1 hq g0 g1 => ih u0 u1 (ms_up hm hq) g0 g1) hpost
          · skip
            exact (iv_emp (iv_ne (l := 1) (h := 0) c3 (iv_lit (l := 0) (h := 0) (by decide)) (iv_lit (l := 0) (h := 0) (by decide)) (by decide)) (by decide)).elim
        · skip
          refine ⟨iv_in hx2 (by decide), ?_⟩
          refine ⟨iv_in (iv_lta (l := 0) (h := 8) (r_nle c1) hx4 k_lf_huts (by decide)) (by decide), ?_⟩
          refine ⟨fun c4 => ?_, fun c4 => ?_⟩
          · skip
            refine ⟨fun c5 => ?_, fun c5 => ?_⟩
            · skip
              exact s_wp_X7_leastFall_9_55 k_lf_huts k_lf_dams k_la_heights k_la_minutes hx2 hx3 (iv_lta (l := 0) (h := 8) (r_nle c1) hx4 k_lf_huts (by decide)) x4.toInt (Int.le_refl _) (fun u0 u1 hq g0 g1 => ih u0 u1 (ms_up hm hq) g0 g1) hpost
            · skip
              exact (iv_emp (iv_ne (l := 1) (h := 0) c5 (iv_lit (l := 0) (h := 0) (by decide)) (iv_lit (l := 0) (h := 0) (by decide)) (by decide)) (by decide)).elim
          · skip
            refine ⟨fun c6 => ?_, fun c6 => ?_⟩
            · skip
              refine ⟨fun c7 => ?_, fun c7 => ?_⟩
              · skip
                exact (iv_emp (iv_ne (l := 1) (h := 0) c7 (iv_lit (l := 0) (h := 0) (by decide)) (iv_lit (l := 0) (h := 0) (by decide)) (by decide)) (by decide)).elim
              · skip
                refine ⟨fun c8 => ?_, fun c8 => ?_⟩
                · skip
                  refine ⟨fun c9 => ?_, fun c9 => ?_⟩
                  · skip
                    exact (iv_emp (iv_ne (l := 1) (h := 0) c9 (iv_lit (l := 0) (h := 0) (by decide)) (iv_lit (l := 0) (h := 0) (by decide)) (by decide)) (by decide)).elim
                  · skip
                    refine ⟨fun c10 => ?_, fun c10 => ?_⟩
                    · skip
                      exact (iv_emp (iv_eqa (l := 1) (h := 0) c10 (iv_lit (l := 1) (h := 1) (by decide)) (iv_lit (l := 0) (h := 0) (by decide)) (by decide)) (by decide)).elim
                    · skip
                      refine ⟨iv_in (iv_lta (l := 0) (h := 8) (r_nle c1) hx4 k_lf_huts (by decide)) (by decide), ?_⟩
                      refine ⟨iv_in (iv_lta (l := 0) (h := 8) (r_nle c1) hx4 k_lf_huts (by decide)) (by decide), ?_⟩
                      refine ⟨iv_in hx2 (by decide), ?_⟩
                      intro w11 ew11
                      have hw11 := iv_eq ew11 (iv_min (l := (-99)) (h := 1000) hx3 (iv_max (l := (-97)) (h := 2147483647) (iv_top _) (iv_sub (l := (-97)) (h := 99) (iv_ltb (l := 1) (h := 99) (r_nle c4) (k_la_heights _) (k_la_heights _) (by decide)) (iv_lta (l := 0) (h := 98) (r_nle c4) (k_la_heights _) (k_la_heights _) (by decide)) (by decide)) (by decide)) (by decide))
                      exact s_wp_X7_leastFall_9_55 k_lf_huts k_lf_dams k_la_heights k_la_minutes hx2 hw11 (iv_lta (l := 0) (h := 8) (r_nle c1) hx4 k_lf_huts (by decide)) x4.toInt (Int.le_refl _) (fun u0 u1 hq g0 g1 => ih u0 u1 (ms_up hm hq) g0 g1) hpost
                · skip
                  refine ⟨fun c12 => ?_, fun c12 => ?_⟩
                  · skip
                    refine ⟨fun c13 => ?_, fun c13 => ?_⟩
                    · skip
                      exact s_wp_X7_leastFall_9_55 k_lf_huts k_lf_dams k_la_heights k_la_minutes hx2 hx3 (iv_lta (l := 0) (h := 8) (r_nle c1) hx4 k_lf_huts (by decide)) x4.toInt (Int.le_refl _) (fun u0 u1 hq g0 g1 => ih u0 u1 (ms_up hm hq) g0 g1) hpost
                    · skip
                      exact (iv_emp (iv_ne (l := 1) (h := 0) c13 (iv_lit (l := 0) (h := 0) (by decide)) (iv_lit (l := 0) (h := 0) (by decide)) (by decide)) (by decide)).elim
                  · skip
                    exact (iv_emp (iv_eqa (l := 1) (h := 0) c12 (iv_lit (l := 1) (h := 1) (by decide)) (iv_lit (l := 0) (h := 0) (by decide)) (by decide)) (by decide)).elim
            · skip
              refine ⟨fun c14 => ?_, fun c14 => ?_⟩
              · skip
                refine ⟨fun c15 => ?_, fun c15 => ?_⟩
                · skip
                  exact s_wp_X7_leastFall_9_55 k_lf_huts k_lf_dams k_la_heights k_la_minutes hx2 hx3 (iv_lta (l := 0) (h := 8) (r_nle c1) hx4 k_lf_huts (by decide)) x4.toInt (Int.le_refl _) (fun u0 u1 hq g0 g1 => ih u0 u1 (ms_up hm hq) g0 g1) hpost
                · skip
                  exact (iv_emp (iv_ne (l := 1) (h := 0) c15 (iv_lit (l := 0) (h := 0) (by decide)) (iv_lit (l := 0) (h := 0) (by decide)) (by decide)) (by decide)).elim
              · skip
                exact (iv_emp (iv_eqa (l := 1) (h := 0) c14 (iv_lit (l := 1) (h := 1) (by decide)) (iv_lit (l := 0) (h := 0) (by decide)) (by decide)) (by decide)).elim
  exact loop _ _ _ (ms_init_up _ _) hx3 hx4
set_option maxRecDepth 20000 in
theorem s_wp_X7_leastFall_9_0 {a_now : Nat → Int32} {lf_huts : Int32} {lf_dams : Int32} {la_heights : Nat → Int32} {la_minutes : Nat → Int32} {x2 : Int32} {post : Int32 → Prop} (k_lf_huts : iv 2 9 lf_huts) (k_lf_dams : iv 0 511 lf_dams) (k_la_heights : ∀ j, iv 0 99 (la_heights j)) (k_la_minutes : ∀ j, iv 0 9 (la_minutes j)) (hx2 : iv 0 8 x2) (hpost : ∀ (r : Int32), iv (-99) 1000 r → post r) : q_wp_X7_leastFall_9_0 a_now lf_huts lf_dams la_heights la_minutes x2 post := by
  exact s_wp_X7_leastFall_9_7 k_lf_huts k_lf_dams k_la_heights k_la_minutes hx2 (iv_w (iv_lit (l := 1000) (h := 1000) (by decide)) (by decide)) (iv_w (iv_lit (l := 0) (h := 0) (by decide)) (by decide)) hpost
-- wp_X7_steepest_9
set_option maxRecDepth 20000 in
theorem s_wp_X7_steepest_9_32 {P20 : Int32 → (Nat → Int32) → Prop} {a_now : Nat → Int32} {lf_huts : Int32} {lf_dams : Int32} {la_heights : Nat → Int32} {la_minutes : Nat → Int32} {x3 : Int32} {x4 : Int32} {x5 : Int32} {post : Int32 → (Nat → Int32) → Prop} (k_lf_huts : iv 2 9 lf_huts) (k_lf_dams : iv 0 511 lf_dams) (k_la_heights : ∀ j, iv 0 99 (la_heights j)) (k_la_minutes : ∀ j, iv 0 9 (la_minutes j)) (hx3 : iv 0 8 x3) (hx4 : iv 1 8 x4) (hx5 : iv 0 9 x5) (m20 : Int) (hm20 : m20 ≤ x4.toInt) (hP20 : ∀ (x4 : Int32) (a_now : Nat → Int32), m20 < x4.toInt → iv 1 9 x4 → P20 x4 a_now) (hpost : ∀ (r : Int32) (a_now : Nat → Int32), post r a_now) : q_wp_X7_steepest_9_32 P20 a_now lf_huts lf_dams la_heights la_minutes x3 x4 x5 post := by
  intro P hP
  have loop : ∀ (n : Nat) (x5 : Int32) (a_now : Nat → Int32), (9 - x5.toInt < (n : Int)) → (iv 0 9 x5) → P x5 a_now := by
    intro n
    induction n with
    | zero => intro x5 a_now hm hx5; exact (ms0_up hm hx5).elim
    | succ n ih =>
      intro x5 a_now hm hx5
      apply hP
      refine ⟨fun c1 => ?_, fun c1 => ?_⟩
      · skip
        intro w2 ew2
        have hw2 := iv_eq ew2 (iv_add (l := 2) (h := 9) hx4 (iv_lit (l := 1) (h := 1) (by decide)) (by decide))
        exact hP20 _ _ (ml_up hm20 (inc_lt ew2 hx4 (by decide))) (iv_w hw2 (by decide))
      · skip
        refine ⟨iv_in (iv_lta (l := 0) (h := 8) (r_nle c1) hx5 k_lf_huts (by decide)) (by decide), ?_⟩
        refine s_wp_X7_leastFall_9_0 k_lf_huts k_lf_dams k_la_heights k_la_minutes (iv_lta (l := 0) (h := 8) (r_nle c1) hx5 k_lf_huts (by decide)) (fun r3 hr3 => ?_)
        intro w4 ew4
        have hw4 := iv_eq ew4 (iv_min (l := (-2147483648)) (h := 1000) (iv_top _) hr3 (by decide))
        refine ⟨iv_in (iv_lta (l := 0) (h := 8) (r_nle c1) hx5 k_lf_huts (by decide)) (by decide), ?_⟩
        intro a5 ea5
        intro w6 ew6
        have hw6 := iv_eq ew6 (iv_add (l := 1) (h := 9) (iv_lta (l := 0) (h := 8) (r_nle c1) hx5 k_lf_huts (by decide)) (iv_lit (l := 1) (h := 1) (by decide)) (by decide))
        exact ih _ _ (ms_up hm (inc_lt ew6 (iv_lta (l := 0) (h := 8) (r_nle c1) hx5 k_lf_huts (by decide)) (by decide))) (iv_w hw6 (by decide))
  exact loop _ _ _ (ms_init_up _ _) hx5
set_option maxRecDepth 20000 in
theorem s_wp_X7_steepest_9_20 {a_now : Nat → Int32} {lf_huts : Int32} {lf_dams : Int32} {la_heights : Nat → Int32} {la_minutes : Nat → Int32} {x3 : Int32} {x4 : Int32} {post : Int32 → (Nat → Int32) → Prop} (k_lf_huts : iv 1 9 lf_huts) (k_lf_dams : iv 0 511 lf_dams) (k_la_heights : ∀ j, iv 0 99 (la_heights j)) (k_la_minutes : ∀ j, iv 0 9 (la_minutes j)) (hx3 : iv 0 8 x3) (hx4 : iv 1 9 x4) (hpost : ∀ (r : Int32) (a_now : Nat → Int32), post r a_now) : q_wp_X7_steepest_9_20 a_now lf_huts lf_dams la_heights la_minutes x3 x4 post := by
  intro P hP
  have loop : ∀ (n : Nat) (x4 : Int32) (a_now : Nat → Int32), (9 - x4.toInt < (n : Int)) → (iv 1 9 x4) → P x4 a_now := by
    intro n
    induction n with
    | zero => intro x4 a_now hm hx4; exact (ms0_up hm hx4).elim
    | succ n ih =>
      intro x4 a_now hm hx4
      apply hP
      refine ⟨fun c1 => ?_, fun c1 => ?_⟩
      · skip
        refine ⟨iv_in hx3 (by decide), ?_⟩
        exact hpost _ _
      · skip
        exact s_wp_X7_steepest_9_32 (iv_ltb (l := 2) (h := 9) (r_nle c1) hx4 k_lf_huts (by decide)) k_lf_dams k_la_heights k_la_minutes hx3 (iv_lta (l := 1) (h := 8) (r_nle c1) hx4 k_lf_huts (by decide)) (iv_w (iv_lit (l := 0) (h := 0) (by decide)) (by decide)) x4.toInt (Int.le_refl _) (fun u0 u1 hq g0 => ih u0 u1 (ms_up hm hq) g0) hpost
  exact loop _ _ _ (ms_init_up _ _) hx4
set_option maxRecDepth 20000 in
theorem s_wp_X7_steepest_9_0 {a_now : Nat → Int32} {lf_huts : Int32} {lf_dams : Int32} {la_heights : Nat → Int32} {la_minutes : Nat → Int32} {x2 : Int32} {x3 : Int32} {post : Int32 → (Nat → Int32) → Prop} (k_lf_huts : iv 1 9 lf_huts) (k_lf_dams : iv 0 511 lf_dams) (k_la_heights : ∀ j, iv 0 99 (la_heights j)) (k_la_minutes : ∀ j, iv 0 9 (la_minutes j)) (hx2 : iv 0 8 x2) (hx3 : iv 0 8 x3) (hpost : ∀ (r : Int32) (a_now : Nat → Int32), post r a_now) : q_wp_X7_steepest_9_0 a_now lf_huts lf_dams la_heights la_minutes x2 x3 post := by
  refine s_wp_J7_fill_53178_7_0 (iv_w (iv_lit (l := 1000) (h := 1000) (by decide)) (by decide)) (fun o1 => ?_)
  refine ⟨iv_in hx2 (by decide), ?_⟩
  intro a2 ea2
  exact s_wp_X7_steepest_9_20 k_lf_huts k_lf_dams k_la_heights k_la_minutes hx3 (iv_w (iv_lit (l := 1) (h := 1) (by decide)) (by decide)) hpost
-- wp_X7_depth_9
set_option maxRecDepth 20000 in
theorem s_wp_X7_depth_9_21 {P4 : Int32 → Int32 → (Nat → Int32) → (Nat → Int32) → (Nat → Int32) → (Nat → Int32) → Prop} {a_total : Nat → Int32} {a_longest : Nat → Int32} {a_now : Nat → Int32} {a_then : Nat → Int32} {lf_huts : Int32} {lf_dams : Int32} {la_heights : Nat → Int32} {la_minutes : Nat → Int32} {x2 : Int32} {x3 : Int32} {x4 : Int32} {post : Int32 → (Nat → Int32) → (Nat → Int32) → (Nat → Int32) → (Nat → Int32) → Prop} (k_a_longest : ∀ j, iv 0 8 (a_longest j)) (k_lf_huts : iv 1 9 lf_huts) (k_lf_dams : iv 0 511 lf_dams) (k_la_heights : ∀ j, iv 0 99 (la_heights j)) (k_la_minutes : ∀ j, iv 0 9 (la_minutes j)) (hx2 : iv 0 8 x2) (hx3 : iv 0 8 x3) (hx4 : iv 0 9 x4) (m4 : Int) (hm4 : m4 ≤ x3.toInt) (hP4 : ∀ (x2 : Int32) (x3 : Int32) (a_total : Nat → Int32) (a_longest : Nat → Int32) (a_now : Nat → Int32) (a_then : Nat → Int32), m4 < x3.toInt → iv 0 8 x2 → iv 0 9 x3 → (∀ j, iv 0 8 (a_longest j)) → P4 x2 x3 a_total a_longest a_now a_then) (hpost : ∀ (r : Int32) (a_total : Nat → Int32) (a_longest : Nat → Int32) (a_now : Nat → Int32) (a_then : Nat → Int32), iv 0 8 r → (∀ j, iv 0 8 (a_longest j)) → post r a_total a_longest a_now a_then) : q_wp_X7_depth_9_21 P4 a_total a_longest a_now a_then lf_huts lf_dams la_heights la_minutes x2 x3 x4 post := by
  intro P hP
  have loop : ∀ (n : Nat) (x2 : Int32) (x4 : Int32), (9 - x4.toInt < (n : Int)) → (iv 0 8 x2) → (iv 0 9 x4) → P x2 x4 := by
    intro n
    induction n with
    | zero => intro x2 x4 hm hx2 hx4; exact (ms0_up hm hx4).elim
    | succ n ih =>
      intro x2 x4 hm hx2 hx4
      apply hP
      refine ⟨fun c1 => ?_, fun c1 => ?_⟩
      · skip
        intro w2 ew2
        have hw2 := iv_eq ew2 (iv_add (l := 1) (h := 9) hx3 (iv_lit (l := 1) (h := 1) (by decide)) (by decide))
        exact hP4 _ _ _ _ _ _ (ml_up hm4 (inc_lt ew2 hx3 (by decide))) hx2 (iv_w hw2 (by decide)) k_a_longest
      · skip
        refine ⟨iv_in (iv_lta (l := 0) (h := 8) (r_nle c1) hx4 k_lf_huts (by decide)) (by decide), ?_⟩
        intro w3 ew3
        have hw3 := iv_eq ew3 (iv_max (l := 0) (h := 8) hx2 (k_a_longest _) (by decide))
        intro w4 ew4
        have hw4 := iv_eq ew4 (iv_add (l := 1) (h := 9) (iv_lta (l := 0) (h := 8) (r_nle c1) hx4 k_lf_huts (by decide)) (iv_lit (l := 1) (h := 1) (by decide)) (by decide))
        exact ih _ _ (ms_up hm (inc_lt ew4 (iv_lta (l := 0) (h := 8) (r_nle c1) hx4 k_lf_huts (by decide)) (by decide))) hw3 (iv_w hw4 (by decide))
  exact loop _ _ _ (ms_init_up _ _) hx2 hx4
set_option maxRecDepth 20000 in
theorem s_wp_X7_depth_9_4 {a_total : Nat → Int32} {a_longest : Nat → Int32} {a_now : Nat → Int32} {a_then : Nat → Int32} {lf_huts : Int32} {lf_dams : Int32} {la_heights : Nat → Int32} {la_minutes : Nat → Int32} {x2 : Int32} {x3 : Int32} {post : Int32 → (Nat → Int32) → (Nat → Int32) → (Nat → Int32) → (Nat → Int32) → Prop} (k_a_longest : ∀ j, iv 0 8 (a_longest j)) (k_lf_huts : iv 0 9 lf_huts) (k_lf_dams : iv 0 511 lf_dams) (k_la_heights : ∀ j, iv 0 99 (la_heights j)) (k_la_minutes : ∀ j, iv 0 9 (la_minutes j)) (hx2 : iv 0 8 x2) (hx3 : iv 0 9 x3) (hpost : ∀ (r : Int32) (a_total : Nat → Int32) (a_longest : Nat → Int32) (a_now : Nat → Int32) (a_then : Nat → Int32), iv 0 8 r → (∀ j, iv 0 8 (a_longest j)) → post r a_total a_longest a_now a_then) : q_wp_X7_depth_9_4 a_total a_longest a_now a_then lf_huts lf_dams la_heights la_minutes x2 x3 post := by
  intro P hP
  have loop : ∀ (n : Nat) (x2 : Int32) (x3 : Int32) (a_total : Nat → Int32) (a_longest : Nat → Int32) (a_now : Nat → Int32) (a_then : Nat → Int32), (9 - x3.toInt < (n : Int)) → (iv 0 8 x2) → (iv 0 9 x3) → (∀ j, iv 0 8 (a_longest j)) → P x2 x3 a_total a_longest a_now a_then := by
    intro n
    induction n with
    | zero => intro x2 x3 a_total a_longest a_now a_then hm hx2 hx3 k_a_longest; exact (ms0_up hm hx3).elim
    | succ n ih =>
      intro x2 x3 a_total a_longest a_now a_then hm hx2 hx3 k_a_longest
      apply hP
      refine ⟨fun c1 => ?_, fun c1 => ?_⟩
      · skip
        exact hpost _ _ _ _ _ hx2 k_a_longest
      · skip
        refine s_wp_X7_trace_9_0 k_a_longest (iv_ltb (l := 1) (h := 9) (r_nle c1) hx3 k_lf_huts (by decide)) k_lf_dams k_la_heights k_la_minutes (iv_lta (l := 0) (h := 8) (r_nle c1) hx3 k_lf_huts (by decide)) (fun o2 o3 o4 o5 k_o3 => ?_)
        exact s_wp_X7_depth_9_21 k_o3 (iv_ltb (l := 1) (h := 9) (r_nle c1) hx3 k_lf_huts (by decide)) k_lf_dams k_la_heights k_la_minutes hx2 (iv_lta (l := 0) (h := 8) (r_nle c1) hx3 k_lf_huts (by decide)) (iv_w (iv_lit (l := 0) (h := 0) (by decide)) (by decide)) x3.toInt (Int.le_refl _) (fun u0 u1 u2 u3 u4 u5 hq g0 g1 g2 => ih u0 u1 u2 u3 u4 u5 (ms_up hm hq) g0 g1 g2) hpost
  exact loop _ _ _ _ _ _ _ (ms_init_up _ _) hx2 hx3 k_a_longest
set_option maxRecDepth 20000 in
theorem s_wp_X7_depth_9_0 {a_total : Nat → Int32} {a_longest : Nat → Int32} {a_now : Nat → Int32} {a_then : Nat → Int32} {lf_huts : Int32} {lf_dams : Int32} {la_heights : Nat → Int32} {la_minutes : Nat → Int32} {post : Int32 → (Nat → Int32) → (Nat → Int32) → (Nat → Int32) → (Nat → Int32) → Prop} (k_a_longest : ∀ j, iv 0 8 (a_longest j)) (k_lf_huts : iv 0 9 lf_huts) (k_lf_dams : iv 0 511 lf_dams) (k_la_heights : ∀ j, iv 0 99 (la_heights j)) (k_la_minutes : ∀ j, iv 0 9 (la_minutes j)) (hpost : ∀ (r : Int32) (a_total : Nat → Int32) (a_longest : Nat → Int32) (a_now : Nat → Int32) (a_then : Nat → Int32), iv 0 8 r → (∀ j, iv 0 8 (a_longest j)) → post r a_total a_longest a_now a_then) : q_wp_X7_depth_9_0 a_total a_longest a_now a_then lf_huts lf_dams la_heights la_minutes post := by
  exact s_wp_X7_depth_9_4 k_a_longest k_lf_huts k_lf_dams k_la_heights k_la_minutes (iv_w (iv_lit (l := 0) (h := 0) (by decide)) (by decide)) (iv_w (iv_lit (l := 0) (h := 0) (by decide)) (by decide)) hpost
-- wp_X7_reach_5
set_option maxRecDepth 20000 in
theorem s_wp_X7_reach_5_49 {P7 : Int32 → Int32 → Prop} {P20 : Int32 → Int32 → Prop} {a_next : Nat → Int32} {x2 : Int32} {x3 : Int32} {x4 : Int32} {x5 : Int32} {x6 : Int32} {post : Int32 → Prop} (k_a_next : ∀ j, iv 0 511 (a_next j)) (hx2 : iv 0 511 x2) (hx3 : iv 0 511 x3) (hx4 : iv 0 8 x4) (hx5 : iv 0 511 x5) (hx6 : iv 0 8 x6) (m7 : Int) (hm7 : m7 ≤ x4.toInt) (hP7 : ∀ (x3 : Int32) (x4 : Int32), m7 < x4.toInt → iv 0 511 x3 → iv 0 9 x4 → P7 x3 x4) (m20 : Int) (hm20 : m20 ≤ x6.toInt) (hP20 : ∀ (x5 : Int32) (x6 : Int32), m20 < x6.toInt → iv 0 511 x5 → iv 0 9 x6 → P20 x5 x6) (hpost : ∀ (r : Int32), iv 0 511 r → post r) : q_wp_X7_reach_5_49 P7 P20 a_next x2 x3 x4 x5 x6 post := by
  intro w1 ew1
  have hw1 := iv_eq ew1 (iv_add (l := 1) (h := 9) hx6 (iv_lit (l := 1) (h := 1) (by decide)) (by decide))
  exact hP20 _ _ (ml_up hm20 (inc_lt ew1 hx6 (by decide))) hx5 (iv_w hw1 (by decide))
set_option maxRecDepth 20000 in
theorem s_wp_X7_reach_5_20 {P7 : Int32 → Int32 → Prop} {a_next : Nat → Int32} {x2 : Int32} {x3 : Int32} {x4 : Int32} {x5 : Int32} {x6 : Int32} {post : Int32 → Prop} (k_a_next : ∀ j, iv 0 511 (a_next j)) (hx2 : iv 0 511 x2) (hx3 : iv 0 511 x3) (hx4 : iv 0 8 x4) (hx5 : iv 0 511 x5) (hx6 : iv 0 9 x6) (m7 : Int) (hm7 : m7 ≤ x4.toInt) (hP7 : ∀ (x3 : Int32) (x4 : Int32), m7 < x4.toInt → iv 0 511 x3 → iv 0 9 x4 → P7 x3 x4) (hpost : ∀ (r : Int32), iv 0 511 r → post r) : q_wp_X7_reach_5_20 P7 a_next x2 x3 x4 x5 x6 post := by
  intro P hP
  have loop : ∀ (n : Nat) (x5 : Int32) (x6 : Int32), (9 - x6.toInt < (n : Int)) → (iv 0 511 x5) → (iv 0 9 x6) → P x5 x6 := by
    intro n
    induction n with
    | zero => intro x5 x6 hm hx5 hx6; exact (ms0_up hm hx6).elim
    | succ n ih =>
      intro x5 x6 hm hx5 hx6
      apply hP
      refine ⟨fun c1 => ?_, fun c1 => ?_⟩
      · skip
        refine ⟨fun c2 => ?_, fun c2 => ?_⟩
        · skip
          intro w3 ew3
          have hw3 := iv_eq ew3 (iv_add (l := 1) (h := 9) hx4 (iv_lit (l := 1) (h := 1) (by decide)) (by decide))
          exact hP7 _ _ (ml_up hm7 (inc_lt ew3 hx4 (by decide))) hx5 (iv_w hw3 (by decide))
        · skip
          exact hpost _ hx3
      · skip
        refine ⟨fun c4 => ?_, fun c4 => ?_⟩
        · skip
          refine ⟨fun c5 => ?_, fun c5 => ?_⟩
          · skip
            exact s_wp_X7_reach_5_49 k_a_next hx2 hx3 hx4 hx5 (iv_lta (l := 0) (h := 8) (r_nle c1) hx6 (iv_lit (l := 9) (h := 9) (by decide)) (by decide)) m7 hm7 hP7 x6.toInt (Int.le_refl _) (fun u0 u1 hq g0 g1 => ih u0 u1 (ms_up hm hq) g0 g1) hpost
          · skip
            exact (iv_emp (iv_ne (l := 1) (h := 0) c5 (iv_lit (l := 0) (h := 0) (by decide)) (iv_lit (l := 0) (h := 0) (by decide)) (by decide)) (by decide)).elim
        · skip
          refine ⟨fun c6 => ?_, fun c6 => ?_⟩
          · skip
            exact (iv_emp (iv_eqa (l := 1) (h := 0) c6 (iv_lit (l := 1) (h := 1) (by decide)) (iv_lit (l := 0) (h := 0) (by decide)) (by decide)) (by decide)).elim
          · skip
            refine ⟨iv_in (iv_lta (l := 0) (h := 8) (r_nle c1) hx6 (iv_lit (l := 9) (h := 9) (by decide)) (by decide)) (by decide), ?_⟩
            intro w7 ew7
            have hw7 := iv_eq ew7 (iv_or 9 (l := 0) (h := 511) hx5 (iv_andl (l := 0) (h := 511) (k_a_next _) (by decide)) (by decide))
            exact s_wp_X7_reach_5_49 k_a_next hx2 hx3 hx4 hw7 (iv_lta (l := 0) (h := 8) (r_nle c1) hx6 (iv_lit (l := 9) (h := 9) (by decide)) (by decide)) m7 hm7 hP7 x6.toInt (Int.le_refl _) (fun u0 u1 hq g0 g1 => ih u0 u1 (ms_up hm hq) g0 g1) hpost
  exact loop _ _ _ (ms_init_up _ _) hx5 hx6
set_option maxRecDepth 20000 in
theorem s_wp_X7_reach_5_7 {a_next : Nat → Int32} {x2 : Int32} {x3 : Int32} {x4 : Int32} {post : Int32 → Prop} (k_a_next : ∀ j, iv 0 511 (a_next j)) (hx2 : iv 0 511 x2) (hx3 : iv 0 511 x3) (hx4 : iv 0 9 x4) (hpost : ∀ (r : Int32), iv 0 511 r → post r) : q_wp_X7_reach_5_7 a_next x2 x3 x4 post := by
  intro P hP
  have loop : ∀ (n : Nat) (x3 : Int32) (x4 : Int32), (9 - x4.toInt < (n : Int)) → (iv 0 511 x3) → (iv 0 9 x4) → P x3 x4 := by
    intro n
    induction n with
    | zero => intro x3 x4 hm hx3 hx4; exact (ms0_up hm hx4).elim
    | succ n ih =>
      intro x3 x4 hm hx3 hx4
      apply hP
      refine ⟨fun c1 => ?_, fun c1 => ?_⟩
      · skip
        exact hpost _ hx3
      · skip
        exact s_wp_X7_reach_5_20 k_a_next hx2 hx3 (iv_lta (l := 0) (h := 8) (r_nle c1) hx4 (iv_lit (l := 9) (h := 9) (by decide)) (by decide)) hx3 (iv_w (iv_lit (l := 0) (h := 0) (by decide)) (by decide)) x4.toInt (Int.le_refl _) (fun u0 u1 hq g0 g1 => ih u0 u1 (ms_up hm hq) g0 g1) hpost
  exact loop _ _ _ (ms_init_up _ _) hx3 hx4
set_option maxRecDepth 20000 in
theorem s_wp_X7_reach_5_0 {a_next : Nat → Int32} {x0 : Int32} {x2 : Int32} {post : Int32 → Prop} (k_a_next : ∀ j, iv 0 511 (a_next j)) (hx0 : iv 0 8 x0) (hx2 : iv 0 511 x2) (hpost : ∀ (r : Int32), iv 0 511 r → post r) : q_wp_X7_reach_5_0 a_next x0 x2 post := by
  intro w1 ew1
  have hw1 := iv_eq ew1 (iv_shl1 (l := 1) (h := 256) (iv_lit (l := 1) (h := 1) (by decide)) hx0 (by decide))
  exact s_wp_X7_reach_5_7 k_a_next hx2 (iv_w hw1 (by decide)) (iv_w (iv_lit (l := 0) (h := 0) (by decide)) (by decide)) hpost
-- wp_X7_worst_9
set_option maxRecDepth 20000 in
theorem s_wp_X7_worst_9_56 {P8 : Int32 → Int32 → Int32 → Prop} {a_next : Nat → Int32} {lf_huts : Int32} {lf_dams : Int32} {x2 : Int32} {x3 : Int32} {x4 : Int32} {x5 : Int32} {post : Int32 → Prop} (k_a_next : ∀ j, iv 0 511 (a_next j)) (k_lf_huts : iv 1 9 lf_huts) (k_lf_dams : iv 0 511 lf_dams) (hx2 : iv 0 8 x2) (hx3 : iv (-1) 8 x3) (hx4 : iv (-1) 63 x4) (hx5 : iv 0 8 x5) (m8 : Int) (hm8 : m8 ≤ x5.toInt) (hP8 : ∀ (x3 : Int32) (x4 : Int32) (x5 : Int32), m8 < x5.toInt → iv (-1) 8 x3 → iv (-1) 63 x4 → iv 0 9 x5 → P8 x3 x4 x5) (hpost : ∀ (r : Int32), iv (-1) 8 r → post r) : q_wp_X7_worst_9_56 P8 a_next lf_huts lf_dams x2 x3 x4 x5 post := by
  intro w1 ew1
  have hw1 := iv_eq ew1 (iv_add (l := 1) (h := 9) hx5 (iv_lit (l := 1) (h := 1) (by decide)) (by decide))
  exact hP8 _ _ _ (ml_up hm8 (inc_lt ew1 hx5 (by decide))) hx3 hx4 (iv_w hw1 (by decide))
set_option maxRecDepth 20000 in
theorem s_wp_X7_worst_9_8 {a_next : Nat → Int32} {lf_huts : Int32} {lf_dams : Int32} {x2 : Int32} {x3 : Int32} {x4 : Int32} {x5 : Int32} {post : Int32 → Prop} (k_a_next : ∀ j, iv 0 511 (a_next j)) (k_lf_huts : iv 1 9 lf_huts) (k_lf_dams : iv 0 511 lf_dams) (hx2 : iv 0 8 x2) (hx3 : iv (-1) 8 x3) (hx4 : iv (-1) 63 x4) (hx5 : iv 0 9 x5) (hpost : ∀ (r : Int32), iv (-1) 8 r → post r) : q_wp_X7_worst_9_8 a_next lf_huts lf_dams x2 x3 x4 x5 post := by
  intro P hP
  have loop : ∀ (n : Nat) (x3 : Int32) (x4 : Int32) (x5 : Int32), (9 - x5.toInt < (n : Int)) → (iv (-1) 8 x3) → (iv (-1) 63 x4) → (iv 0 9 x5) → P x3 x4 x5 := by
    intro n
    induction n with
    | zero => intro x3 x4 x5 hm hx3 hx4 hx5; exact (ms0_up hm hx5).elim
    | succ n ih =>
      intro x3 x4 x5 hm hx3 hx4 hx5
      apply hP
      refine ⟨fun c1 => ?_, fun c1 => ?_⟩
      · skip
        exact hpost _ hx3
      · skip
        refine ⟨fun c2 => ?_, fun c2 => ?_⟩
        · skip
          exact s_wp_X7_worst_9_56 k_a_next k_lf_huts k_lf_dams hx2 hx3 hx4 (iv_lta (l := 0) (h := 8) (r_nle c1) hx5 k_lf_huts (by decide)) x5.toInt (Int.le_refl _) (fun u0 u1 u2 hq g0 g1 g2 => ih u0 u1 u2 (ms_up hm hq) g0 g1 g2) hpost
        · skip
          refine ⟨fun c3 => ?_, fun c3 => ?_⟩
          · skip
            refine ⟨fun c4 => ?_, fun c4 => ?_⟩
            · skip
              exact (iv_emp (iv_ne (l := 1) (h := 0) c4 (iv_lit (l := 0) (h := 0) (by decide)) (iv_lit (l := 0) (h := 0) (by decide)) (by decide)) (by decide)).elim
            · skip
              refine s_wp_X7_reach_5_0 k_a_next hx2 (iv_w (iv_lit (l := 0) (h := 0) (by decide)) (by decide)) (fun r5 hr5 => ?_)
              refine s_wp_X7_reach_5_0 k_a_next hx2 (iv_w (iv_shl1 (l := 1) (h := 256) (iv_lit (l := 1) (h := 1) (by decide)) (iv_lta (l := 0) (h := 8) (r_nle c1) hx5 k_lf_huts (by decide)) (by decide)) (by decide)) (fun r6 hr6 => ?_)
              refine s_z_J6_bitCount_0f7a4_0 (iv_w (iv_andl (l := 0) (h := 511) (iv_andl (l := 0) (h := 511) hr5 (by decide)) (by decide)) (by decide)) (fun r7 hr7 => ?_)
              refine ⟨fun c8 => ?_, fun c8 => ?_⟩
              · skip
                exact s_wp_X7_worst_9_56 k_a_next k_lf_huts k_lf_dams hx2 hx3 (iv_w (iv_leb (l := 0) (h := 63) (r_le c8) hr7 hx4 (by decide)) (by decide)) (iv_lta (l := 0) (h := 8) (r_nle c1) hx5 k_lf_huts (by decide)) x5.toInt (Int.le_refl _) (fun u0 u1 u2 hq g0 g1 g2 => ih u0 u1 u2 (ms_up hm hq) g0 g1 g2) hpost
              · skip
                refine s_wp_X7_reach_5_0 k_a_next hx2 (iv_w (iv_lit (l := 0) (h := 0) (by decide)) (by decide)) (fun r9 hr9 => ?_)
                refine s_wp_X7_reach_5_0 k_a_next hx2 (iv_w (iv_shl1 (l := 1) (h := 256) (iv_lit (l := 1) (h := 1) (by decide)) (iv_lta (l := 0) (h := 8) (r_nle c1) hx5 k_lf_huts (by decide)) (by decide)) (by decide)) (fun r10 hr10 => ?_)
                refine s_z_J6_bitCount_0f7a4_0 (iv_w (iv_andl (l := 0) (h := 511) (iv_andl (l := 0) (h := 511) hr9 (by decide)) (by decide)) (by decide)) (fun r11 hr11 => ?_)
                exact s_wp_X7_worst_9_56 k_a_next k_lf_huts k_lf_dams hx2 (iv_w (iv_lta (l := 0) (h := 8) (r_nle c1) hx5 k_lf_huts (by decide)) (by decide)) (iv_w hr11 (by decide)) (iv_lta (l := 0) (h := 8) (r_nle c1) hx5 k_lf_huts (by decide)) x5.toInt (Int.le_refl _) (fun u0 u1 u2 hq g0 g1 g2 => ih u0 u1 u2 (ms_up hm hq) g0 g1 g2) hpost
          · skip
            refine ⟨fun c12 => ?_, fun c12 => ?_⟩
            · skip
              exact s_wp_X7_worst_9_56 k_a_next k_lf_huts k_lf_dams hx2 hx3 hx4 (iv_lta (l := 0) (h := 8) (r_nle c1) hx5 k_lf_huts (by decide)) x5.toInt (Int.le_refl _) (fun u0 u1 u2 hq g0 g1 g2 => ih u0 u1 u2 (ms_up hm hq) g0 g1 g2) hpost
            · skip
              exact (iv_emp (iv_eqa (l := 1) (h := 0) c12 (iv_lit (l := 1) (h := 1) (by decide)) (iv_lit (l := 0) (h := 0) (by decide)) (by decide)) (by decide)).elim
  exact loop _ _ _ _ (ms_init_up _ _) hx3 hx4 hx5
set_option maxRecDepth 20000 in
theorem s_wp_X7_worst_9_0 {a_next : Nat → Int32} {lf_huts : Int32} {lf_dams : Int32} {x2 : Int32} {post : Int32 → Prop} (k_a_next : ∀ j, iv 0 511 (a_next j)) (k_lf_huts : iv 1 9 lf_huts) (k_lf_dams : iv 0 511 lf_dams) (hx2 : iv 0 8 x2) (hpost : ∀ (r : Int32), iv (-1) 8 r → post r) : q_wp_X7_worst_9_0 a_next lf_huts lf_dams x2 post := by
  exact s_wp_X7_worst_9_8 k_a_next k_lf_huts k_lf_dams hx2 (iv_w (iv_lit (l := (-1)) (h := (-1)) (by decide)) (by decide)) (iv_w (iv_lit (l := (-1)) (h := (-1)) (by decide)) (by decide)) (iv_w (iv_lit (l := 0) (h := 0) (by decide)) (by decide)) hpost
-- wp_X7_agrees_18
set_option maxRecDepth 20000 in
theorem s_wp_X7_agrees_18_59 {P2 : Int32 → Prop} {a_heard : Nat → Int32} {sf_facts : Int32} {sa_heard : Nat → Int32} {sa_huts : Nat → Int32} {sa_minutes : Nat → Int32} {x2 : Int32} {x3 : Int32} {y0 : Int32} {y1 : Int32} {post : Int32 → Prop} (k_a_heard : ∀ j, iv 0 1000 (a_heard j)) (k_sf_facts : iv 1 10 sf_facts) (k_sa_heard : ∀ j, iv 0 1 (sa_heard j)) (k_sa_huts : ∀ j, iv 0 8 (sa_huts j)) (k_sa_minutes : ∀ j, iv 0 60 (sa_minutes j)) (hx2 : iv 0 8 x2) (hx3 : iv 0 9 x3) (hy0 : iv 0 1 y0) (hy1 : iv 0 1 y1) (m2 : Int) (hm2 : m2 ≤ x3.toInt) (hP2 : ∀ (x3 : Int32), m2 < x3.toInt → iv 0 10 x3 → P2 x3) (hpost : ∀ (r : Int32), iv 0 1 r → post r) : q_wp_X7_agrees_18_59 P2 a_heard sf_facts sa_heard sa_huts sa_minutes x2 x3 y0 y1 post := by
  refine ⟨fun c1 => ?_, fun c1 => ?_⟩
  · skip
    intro w2 ew2
    have hw2 := iv_eq ew2 (iv_add (l := 1) (h := 10) hx3 (iv_lit (l := 1) (h := 1) (by decide)) (by decide))
    exact hP2 _ (ml_up hm2 (inc_lt ew2 hx3 (by decide))) (iv_w hw2 (by decide))
  · skip
    exact hpost _ (iv_w (iv_lit (l := 0) (h := 0) (by decide)) (by decide))
set_option maxRecDepth 20000 in
theorem s_wp_X7_agrees_18_40 {P2 : Int32 → Prop} {a_heard : Nat → Int32} {sf_facts : Int32} {sa_heard : Nat → Int32} {sa_huts : Nat → Int32} {sa_minutes : Nat → Int32} {x2 : Int32} {x3 : Int32} {y0 : Int32} {post : Int32 → Prop} (k_a_heard : ∀ j, iv 0 1000 (a_heard j)) (k_sf_facts : iv 1 10 sf_facts) (k_sa_heard : ∀ j, iv 0 1 (sa_heard j)) (k_sa_huts : ∀ j, iv 0 8 (sa_huts j)) (k_sa_minutes : ∀ j, iv 0 60 (sa_minutes j)) (hx2 : iv 0 8 x2) (hx3 : iv 0 9 x3) (hy0 : iv 0 1 y0) (m2 : Int) (hm2 : m2 ≤ x3.toInt) (hP2 : ∀ (x3 : Int32), m2 < x3.toInt → iv 0 10 x3 → P2 x3) (hpost : ∀ (r : Int32), iv 0 1 r → post r) : q_wp_X7_agrees_18_40 P2 a_heard sf_facts sa_heard sa_huts sa_minutes x2 x3 y0 post := by
  refine ⟨iv_in hx3 (by decide), ?_⟩
  refine ⟨fun c1 => ?_, fun c1 => ?_⟩
  · skip
    exact s_wp_X7_agrees_18_59 k_a_heard k_sf_facts k_sa_heard k_sa_huts k_sa_minutes hx2 hx3 hy0 (iv_w (iv_lit (l := 0) (h := 0) (by decide)) (by decide)) m2 hm2 hP2 hpost
  · skip
    exact s_wp_X7_agrees_18_59 k_a_heard k_sf_facts k_sa_heard k_sa_huts k_sa_minutes hx2 hx3 hy0 (iv_w (iv_lit (l := 1) (h := 1) (by decide)) (by decide)) m2 hm2 hP2 hpost
set_option maxRecDepth 20000 in
theorem s_wp_X7_agrees_18_2 {a_heard : Nat → Int32} {sf_facts : Int32} {sa_heard : Nat → Int32} {sa_huts : Nat → Int32} {sa_minutes : Nat → Int32} {x2 : Int32} {x3 : Int32} {post : Int32 → Prop} (k_a_heard : ∀ j, iv 0 1000 (a_heard j)) (k_sf_facts : iv 0 10 sf_facts) (k_sa_heard : ∀ j, iv 0 1 (sa_heard j)) (k_sa_huts : ∀ j, iv 0 8 (sa_huts j)) (k_sa_minutes : ∀ j, iv 0 60 (sa_minutes j)) (hx2 : iv 0 8 x2) (hx3 : iv 0 10 x3) (hpost : ∀ (r : Int32), iv 0 1 r → post r) : q_wp_X7_agrees_18_2 a_heard sf_facts sa_heard sa_huts sa_minutes x2 x3 post := by
  intro P hP
  have loop : ∀ (n : Nat) (x3 : Int32), (10 - x3.toInt < (n : Int)) → (iv 0 10 x3) → P x3 := by
    intro n
    induction n with
    | zero => intro x3 hm hx3; exact (ms0_up hm hx3).elim
    | succ n ih =>
      intro x3 hm hx3
      apply hP
      refine ⟨fun c1 => ?_, fun c1 => ?_⟩
      · skip
        exact hpost _ (iv_w (iv_lit (l := 1) (h := 1) (by decide)) (by decide))
      · skip
        refine ⟨iv_in (iv_lta (l := 0) (h := 9) (r_nle c1) hx3 k_sf_facts (by decide)) (by decide), ?_⟩
        refine ⟨iv_in (iv_add (l := 0) (h := 80) (iv_mul (l := 0) (h := 72) hx2 (iv_lit (l := 9) (h := 9) (by decide)) (by decide)) (k_sa_huts _) (by decide)) (by decide), ?_⟩
        refine ⟨iv_in (iv_lta (l := 0) (h := 9) (r_nle c1) hx3 k_sf_facts (by decide)) (by decide), ?_⟩
        refine ⟨fun c2 => ?_, fun c2 => ?_⟩
        · skip
          exact s_wp_X7_agrees_18_40 k_a_heard (iv_ltb (l := 1) (h := 10) (r_nle c1) hx3 k_sf_facts (by decide)) k_sa_heard k_sa_huts k_sa_minutes hx2 (iv_lta (l := 0) (h := 9) (r_nle c1) hx3 k_sf_facts (by decide)) (iv_w (iv_lit (l := 0) (h := 0) (by decide)) (by decide)) x3.toInt (Int.le_refl _) (fun u0 hq g0 => ih u0 (ms_up hm hq) g0) hpost
        · skip
          exact s_wp_X7_agrees_18_40 k_a_heard (iv_ltb (l := 1) (h := 10) (r_nle c1) hx3 k_sf_facts (by decide)) k_sa_heard k_sa_huts k_sa_minutes hx2 (iv_lta (l := 0) (h := 9) (r_nle c1) hx3 k_sf_facts (by decide)) (iv_w (iv_lit (l := 1) (h := 1) (by decide)) (by decide)) x3.toInt (Int.le_refl _) (fun u0 hq g0 => ih u0 (ms_up hm hq) g0) hpost
  exact loop _ _ (ms_init_up _ _) hx3
set_option maxRecDepth 20000 in
theorem s_wp_X7_agrees_18_0 {a_heard : Nat → Int32} {sf_facts : Int32} {sa_heard : Nat → Int32} {sa_huts : Nat → Int32} {sa_minutes : Nat → Int32} {x2 : Int32} {post : Int32 → Prop} (k_a_heard : ∀ j, iv 0 1000 (a_heard j)) (k_sf_facts : iv 0 10 sf_facts) (k_sa_heard : ∀ j, iv 0 1 (sa_heard j)) (k_sa_huts : ∀ j, iv 0 8 (sa_huts j)) (k_sa_minutes : ∀ j, iv 0 60 (sa_minutes j)) (hx2 : iv 0 8 x2) (hpost : ∀ (r : Int32), iv 0 1 r → post r) : q_wp_X7_agrees_18_0 a_heard sf_facts sa_heard sa_huts sa_minutes x2 post := by
  exact s_wp_X7_agrees_18_2 k_a_heard k_sf_facts k_sa_heard k_sa_huts k_sa_minutes hx2 (iv_w (iv_lit (l := 0) (h := 0) (by decide)) (by decide)) hpost
end
section
-- wp_X7_fitting_9_18
set_option maxRecDepth 20000 in
theorem s_wp_X7_fitting_9_18_40 {P5 : Int32 → Int32 → Prop} {a_heard : Nat → Int32} {lf_huts : Int32} {lf_dams : Int32} {sf_facts : Int32} {sa_heard : Nat → Int32} {sa_huts : Nat → Int32} {sa_minutes : Nat → Int32} {x3 : Int32} {x4 : Int32} {post : Int32 → Prop} (k_a_heard : ∀ j, iv 0 1000 (a_heard j)) (k_lf_huts : iv 1 9 lf_huts) (k_lf_dams : iv 0 511 lf_dams) (k_sf_facts : iv 0 10 sf_facts) (k_sa_heard : ∀ j, iv 0 1 (sa_heard j)) (k_sa_huts : ∀ j, iv 0 8 (sa_huts j)) (k_sa_minutes : ∀ j, iv 0 60 (sa_minutes j)) (hx3 : iv 0 511 x3) (hx4 : iv 0 8 x4) (m5 : Int) (hm5 : m5 ≤ x4.toInt) (hP5 : ∀ (x3 : Int32) (x4 : Int32), m5 < x4.toInt → iv 0 511 x3 → iv 0 9 x4 → P5 x3 x4) (hpost : ∀ (r : Int32), iv 0 511 r → post r) : q_wp_X7_fitting_9_18_40 P5 a_heard lf_huts lf_dams sf_facts sa_heard sa_huts sa_minutes x3 x4 post := by
  intro w1 ew1
  have hw1 := iv_eq ew1 (iv_add (l := 1) (h := 9) hx4 (iv_lit (l := 1) (h := 1) (by decide)) (by decide))
  exact hP5 _ _ (ml_up hm5 (inc_lt ew1 hx4 (by decide))) hx3 (iv_w hw1 (by decide))
set_option maxRecDepth 20000 in
theorem s_wp_X7_fitting_9_18_5 {a_heard : Nat → Int32} {lf_huts : Int32} {lf_dams : Int32} {sf_facts : Int32} {sa_heard : Nat → Int32} {sa_huts : Nat → Int32} {sa_minutes : Nat → Int32} {x3 : Int32} {x4 : Int32} {post : Int32 → Prop} (k_a_heard : ∀ j, iv 0 1000 (a_heard j)) (k_lf_huts : iv 0 9 lf_huts) (k_lf_dams : iv 0 511 lf_dams) (k_sf_facts : iv 0 10 sf_facts) (k_sa_heard : ∀ j, iv 0 1 (sa_heard j)) (k_sa_huts : ∀ j, iv 0 8 (sa_huts j)) (k_sa_minutes : ∀ j, iv 0 60 (sa_minutes j)) (hx3 : iv 0 511 x3) (hx4 : iv 0 9 x4) (hpost : ∀ (r : Int32), iv 0 511 r → post r) : q_wp_X7_fitting_9_18_5 a_heard lf_huts lf_dams sf_facts sa_heard sa_huts sa_minutes x3 x4 post := by
  intro P hP
  have loop : ∀ (n : Nat) (x3 : Int32) (x4 : Int32), (9 - x4.toInt < (n : Int)) → (iv 0 511 x3) → (iv 0 9 x4) → P x3 x4 := by
    intro n
    induction n with
    | zero => intro x3 x4 hm hx3 hx4; exact (ms0_up hm hx4).elim
    | succ n ih =>
      intro x3 x4 hm hx3 hx4
      apply hP
      refine ⟨fun c1 => ?_, fun c1 => ?_⟩
      · skip
        exact hpost _ hx3
      · skip
        refine ⟨fun c2 => ?_, fun c2 => ?_⟩
        · skip
          refine ⟨fun c3 => ?_, fun c3 => ?_⟩
          · skip
            exact (iv_emp (iv_ne (l := 1) (h := 0) c3 (iv_lit (l := 0) (h := 0) (by decide)) (iv_lit (l := 0) (h := 0) (by decide)) (by decide)) (by decide)).elim
          · skip
            refine s_wp_X7_agrees_18_0 k_a_heard k_sf_facts k_sa_heard k_sa_huts k_sa_minutes (iv_lta (l := 0) (h := 8) (r_nle c1) hx4 k_lf_huts (by decide)) (fun r4 hr4 => ?_)
            refine ⟨fun c5 => ?_, fun c5 => ?_⟩
            · skip
              exact s_wp_X7_fitting_9_18_40 k_a_heard (iv_ltb (l := 1) (h := 9) (r_nle c1) hx4 k_lf_huts (by decide)) k_lf_dams k_sf_facts k_sa_heard k_sa_huts k_sa_minutes hx3 (iv_lta (l := 0) (h := 8) (r_nle c1) hx4 k_lf_huts (by decide)) x4.toInt (Int.le_refl _) (fun u0 u1 hq g0 g1 => ih u0 u1 (ms_up hm hq) g0 g1) hpost
            · skip
              intro w6 ew6
              have hw6 := iv_eq ew6 (iv_or 9 (l := 0) (h := 511) hx3 (iv_shl1 (l := 1) (h := 256) (iv_lit (l := 1) (h := 1) (by decide)) (iv_lta (l := 0) (h := 8) (r_nle c1) hx4 k_lf_huts (by decide)) (by decide)) (by decide))
              exact s_wp_X7_fitting_9_18_40 k_a_heard (iv_ltb (l := 1) (h := 9) (r_nle c1) hx4 k_lf_huts (by decide)) k_lf_dams k_sf_facts k_sa_heard k_sa_huts k_sa_minutes hw6 (iv_lta (l := 0) (h := 8) (r_nle c1) hx4 k_lf_huts (by decide)) x4.toInt (Int.le_refl _) (fun u0 u1 hq g0 g1 => ih u0 u1 (ms_up hm hq) g0 g1) hpost
        · skip
          refine ⟨fun c7 => ?_, fun c7 => ?_⟩
          · skip
            exact s_wp_X7_fitting_9_18_40 k_a_heard (iv_ltb (l := 1) (h := 9) (r_nle c1) hx4 k_lf_huts (by decide)) k_lf_dams k_sf_facts k_sa_heard k_sa_huts k_sa_minutes hx3 (iv_lta (l := 0) (h := 8) (r_nle c1) hx4 k_lf_huts (by decide)) x4.toInt (Int.le_refl _) (fun u0 u1 hq g0 g1 => ih u0 u1 (ms_up hm hq) g0 g1) hpost
          · skip
            exact (iv_emp (iv_eqa (l := 1) (h := 0) c7 (iv_lit (l := 1) (h := 1) (by decide)) (iv_lit (l := 0) (h := 0) (by decide)) (by decide)) (by decide)).elim
  exact loop _ _ _ (ms_init_up _ _) hx3 hx4
set_option maxRecDepth 20000 in
theorem s_wp_X7_fitting_9_18_0 {a_heard : Nat → Int32} {lf_huts : Int32} {lf_dams : Int32} {sf_facts : Int32} {sa_heard : Nat → Int32} {sa_huts : Nat → Int32} {sa_minutes : Nat → Int32} {post : Int32 → Prop} (k_a_heard : ∀ j, iv 0 1000 (a_heard j)) (k_lf_huts : iv 0 9 lf_huts) (k_lf_dams : iv 0 511 lf_dams) (k_sf_facts : iv 0 10 sf_facts) (k_sa_heard : ∀ j, iv 0 1 (sa_heard j)) (k_sa_huts : ∀ j, iv 0 8 (sa_huts j)) (k_sa_minutes : ∀ j, iv 0 60 (sa_minutes j)) (hpost : ∀ (r : Int32), iv 0 511 r → post r) : q_wp_X7_fitting_9_18_0 a_heard lf_huts lf_dams sf_facts sa_heard sa_huts sa_minutes post := by
  exact s_wp_X7_fitting_9_18_5 k_a_heard k_lf_huts k_lf_dams k_sf_facts k_sa_heard k_sa_huts k_sa_minutes (iv_w (iv_lit (l := 0) (h := 0) (by decide)) (by decide)) (iv_w (iv_lit (l := 0) (h := 0) (by decide)) (by decide)) hpost
-- wp_X7_fromBy_9
set_option maxRecDepth 20000 in
theorem s_wp_X7_fromBy_9_40 {P6 : Int32 → Int32 → Prop} {a_heard : Nat → Int32} {lf_huts : Int32} {x2 : Int32} {x3 : Int32} {x4 : Int32} {x5 : Int32} {post : Int32 → Prop} (k_a_heard : ∀ j, iv 0 1000 (a_heard j)) (k_lf_huts : iv 1 9 lf_huts) (hx2 : iv 0 8 x2) (hx3 : iv 0 999 x3) (hx4 : iv 0 511 x4) (hx5 : iv 0 8 x5) (m6 : Int) (hm6 : m6 ≤ x5.toInt) (hP6 : ∀ (x4 : Int32) (x5 : Int32), m6 < x5.toInt → iv 0 511 x4 → iv 0 9 x5 → P6 x4 x5) (hpost : ∀ (r : Int32), iv 0 511 r → post r) : q_wp_X7_fromBy_9_40 P6 a_heard lf_huts x2 x3 x4 x5 post := by
  intro w1 ew1
  have hw1 := iv_eq ew1 (iv_add (l := 1) (h := 9) hx5 (iv_lit (l := 1) (h := 1) (by decide)) (by decide))
  exact hP6 _ _ (ml_up hm6 (inc_lt ew1 hx5 (by decide))) hx4 (iv_w hw1 (by decide))
set_option maxRecDepth 20000 in
theorem s_wp_X7_fromBy_9_6 {a_heard : Nat → Int32} {lf_huts : Int32} {x2 : Int32} {x3 : Int32} {x4 : Int32} {x5 : Int32} {post : Int32 → Prop} (k_a_heard : ∀ j, iv 0 1000 (a_heard j)) (k_lf_huts : iv 1 9 lf_huts) (hx2 : iv 0 8 x2) (hx3 : iv 0 999 x3) (hx4 : iv 0 511 x4) (hx5 : iv 0 9 x5) (hpost : ∀ (r : Int32), iv 0 511 r → post r) : q_wp_X7_fromBy_9_6 a_heard lf_huts x2 x3 x4 x5 post := by
  intro P hP
  have loop : ∀ (n : Nat) (x4 : Int32) (x5 : Int32), (9 - x5.toInt < (n : Int)) → (iv 0 511 x4) → (iv 0 9 x5) → P x4 x5 := by
    intro n
    induction n with
    | zero => intro x4 x5 hm hx4 hx5; exact (ms0_up hm hx5).elim
    | succ n ih =>
      intro x4 x5 hm hx4 hx5
      apply hP
      refine ⟨fun c1 => ?_, fun c1 => ?_⟩
      · skip
        exact hpost _ hx4
      · skip
        refine ⟨iv_in (iv_add (l := 0) (h := 80) (iv_mul (l := 0) (h := 72) (iv_lta (l := 0) (h := 8) (r_nle c1) hx5 k_lf_huts (by decide)) (iv_lit (l := 9) (h := 9) (by decide)) (by decide)) hx2 (by decide)) (by decide), ?_⟩
        refine ⟨fun c2 => ?_, fun c2 => ?_⟩
        · skip
          exact s_wp_X7_fromBy_9_40 k_a_heard k_lf_huts hx2 hx3 hx4 (iv_lta (l := 0) (h := 8) (r_nle c1) hx5 k_lf_huts (by decide)) x5.toInt (Int.le_refl _) (fun u0 u1 hq g0 g1 => ih u0 u1 (ms_up hm hq) g0 g1) hpost
        · skip
          intro w3 ew3
          have hw3 := iv_eq ew3 (iv_or 9 (l := 0) (h := 511) hx4 (iv_shl1 (l := 1) (h := 256) (iv_lit (l := 1) (h := 1) (by decide)) (iv_lta (l := 0) (h := 8) (r_nle c1) hx5 k_lf_huts (by decide)) (by decide)) (by decide))
          exact s_wp_X7_fromBy_9_40 k_a_heard k_lf_huts hx2 hx3 hw3 (iv_lta (l := 0) (h := 8) (r_nle c1) hx5 k_lf_huts (by decide)) x5.toInt (Int.le_refl _) (fun u0 u1 hq g0 g1 => ih u0 u1 (ms_up hm hq) g0 g1) hpost
  exact loop _ _ _ (ms_init_up _ _) hx4 hx5
set_option maxRecDepth 20000 in
theorem s_wp_X7_fromBy_9_0 {a_heard : Nat → Int32} {lf_huts : Int32} {x2 : Int32} {x3 : Int32} {post : Int32 → Prop} (k_a_heard : ∀ j, iv 0 1000 (a_heard j)) (k_lf_huts : iv 1 9 lf_huts) (hx2 : iv 0 8 x2) (hx3 : iv 0 999 x3) (hpost : ∀ (r : Int32), iv 0 511 r → post r) : q_wp_X7_fromBy_9_0 a_heard lf_huts x2 x3 post := by
  exact s_wp_X7_fromBy_9_6 k_a_heard k_lf_huts hx2 hx3 (iv_w (iv_lit (l := 0) (h := 0) (by decide)) (by decide)) (iv_w (iv_lit (l := 0) (h := 0) (by decide)) (by decide)) hpost
-- wp_X7_question_9
set_option maxRecDepth 20000 in
theorem s_wp_X7_question_9_67 {P16 : Int32 → Int32 → Int32 → Prop} {P26 : Int32 → Int32 → Int32 → Prop} {a_heard : Nat → Int32} {lf_huts : Int32} {x2 : Int32} {x3 : Int32} {x4 : Int32} {x5 : Int32} {x6 : Int32} {post : Int32 → Prop} (k_a_heard : ∀ j, iv 0 1000 (a_heard j)) (k_lf_huts : iv 1 9 lf_huts) (hx2 : iv 1 511 x2) (hx3 : iv (-1) 2147483647 x3) (hx4 : iv 0 63 x4) (hx5 : iv 0 60 x5) (hx6 : iv 0 8 x6) (m16 : Int) (hm16 : m16 ≤ x5.toInt) (hP16 : ∀ (x3 : Int32) (x4 : Int32) (x5 : Int32), m16 < x5.toInt → iv (-1) 2147483647 x3 → iv 0 1000 x4 → iv 0 61 x5 → P16 x3 x4 x5) (m26 : Int) (hm26 : m26 ≤ x6.toInt) (hP26 : ∀ (x3 : Int32) (x4 : Int32) (x6 : Int32), m26 < x6.toInt → iv (-1) 2147483647 x3 → iv 0 1000 x4 → iv 0 9 x6 → P26 x3 x4 x6) (hpost : ∀ (r : Int32), iv (-1) 2147483647 r → post r) : q_wp_X7_question_9_67 P16 P26 a_heard lf_huts x2 x3 x4 x5 x6 post := by
  intro w1 ew1
  have hw1 := iv_eq ew1 (iv_add (l := 1) (h := 9) hx6 (iv_lit (l := 1) (h := 1) (by decide)) (by decide))
  exact hP26 _ _ _ (ml_up hm26 (inc_lt ew1 hx6 (by decide))) hx3 (iv_w hx4 (by decide)) (iv_w hw1 (by decide))
set_option maxRecDepth 20000 in
theorem s_wp_X7_question_9_26 {P16 : Int32 → Int32 → Int32 → Prop} {a_heard : Nat → Int32} {lf_huts : Int32} {x2 : Int32} {x3 : Int32} {x4 : Int32} {x5 : Int32} {x6 : Int32} {post : Int32 → Prop} (k_a_heard : ∀ j, iv 0 1000 (a_heard j)) (k_lf_huts : iv 0 9 lf_huts) (hx2 : iv 1 511 x2) (hx3 : iv (-1) 2147483647 x3) (hx4 : iv 0 1000 x4) (hx5 : iv 0 60 x5) (hx6 : iv 0 9 x6) (m16 : Int) (hm16 : m16 ≤ x5.toInt) (hP16 : ∀ (x3 : Int32) (x4 : Int32) (x5 : Int32), m16 < x5.toInt → iv (-1) 2147483647 x3 → iv 0 1000 x4 → iv 0 61 x5 → P16 x3 x4 x5) (hpost : ∀ (r : Int32), iv (-1) 2147483647 r → post r) : q_wp_X7_question_9_26 P16 a_heard lf_huts x2 x3 x4 x5 x6 post := by
  intro P hP
  have loop : ∀ (n : Nat) (x3 : Int32) (x4 : Int32) (x6 : Int32), (9 - x6.toInt < (n : Int)) → (iv (-1) 2147483647 x3) → (iv 0 1000 x4) → (iv 0 9 x6) → P x3 x4 x6 := by
    intro n
    induction n with
    | zero => intro x3 x4 x6 hm hx3 hx4 hx6; exact (ms0_up hm hx6).elim
    | succ n ih =>
      intro x3 x4 x6 hm hx3 hx4 hx6
      apply hP
      refine ⟨fun c1 => ?_, fun c1 => ?_⟩
      · skip
        intro w2 ew2
        have hw2 := iv_eq ew2 (iv_add (l := 1) (h := 61) hx5 (iv_lit (l := 1) (h := 1) (by decide)) (by decide))
        exact hP16 _ _ _ (ml_up hm16 (inc_lt ew2 hx5 (by decide))) hx3 hx4 (iv_w hw2 (by decide))
      · skip
        refine s_wp_X7_fromBy_9_0 k_a_heard (iv_ltb (l := 1) (h := 9) (r_nle c1) hx6 k_lf_huts (by decide)) (iv_lta (l := 0) (h := 8) (r_nle c1) hx6 k_lf_huts (by decide)) (iv_w hx5 (by decide)) (fun r3 hr3 => ?_)
        refine s_z_J6_bitCount_0f7a4_0 (iv_w (iv_andr (l := 0) (h := 511) hr3 (by decide)) (by decide)) (fun r4 hr4 => ?_)
        refine s_z_J6_bitCount_0f7a4_0 (iv_w hx2 (by decide)) (fun r5 hr5 => ?_)
        refine ⟨fun c6 => ?_, fun c6 => ?_⟩
        · skip
          exact s_wp_X7_question_9_67 k_a_heard (iv_ltb (l := 1) (h := 9) (r_nle c1) hx6 k_lf_huts (by decide)) hx2 hx3 (iv_lea (l := 0) (h := 63) (r_le c6) hx4 (iv_max (l := 0) (h := 63) hr4 (iv_sub (l := (-63)) (h := 63) hr5 hr4 (by decide)) (by decide)) (by decide)) hx5 (iv_lta (l := 0) (h := 8) (r_nle c1) hx6 k_lf_huts (by decide)) m16 hm16 hP16 x6.toInt (Int.le_refl _) (fun u0 u1 u2 hq g0 g1 g2 => ih u0 u1 u2 (ms_up hm hq) g0 g1 g2) hpost
        · skip
          intro w7 ew7
          have hw7 := iv_eq ew7 (iv_add (l := 0) (h := 608) (iv_mul (l := 0) (h := 600) (iv_lit (l := 10) (h := 10) (by decide)) hx5 (by decide)) (iv_lta (l := 0) (h := 8) (r_nle c1) hx6 k_lf_huts (by decide)) (by decide))
          exact s_wp_X7_question_9_67 k_a_heard (iv_ltb (l := 1) (h := 9) (r_nle c1) hx6 k_lf_huts (by decide)) hx2 (iv_w hw7 (by decide)) (iv_max (l := 0) (h := 63) hr4 (iv_sub (l := (-63)) (h := 63) hr5 hr4 (by decide)) (by decide)) hx5 (iv_lta (l := 0) (h := 8) (r_nle c1) hx6 k_lf_huts (by decide)) m16 hm16 hP16 x6.toInt (Int.le_refl _) (fun u0 u1 u2 hq g0 g1 g2 => ih u0 u1 u2 (ms_up hm hq) g0 g1 g2) hpost
  exact loop _ _ _ _ (ms_init_up _ _) hx3 hx4 hx6
set_option maxRecDepth 20000 in
theorem s_wp_X7_question_9_16 {a_heard : Nat → Int32} {lf_huts : Int32} {x2 : Int32} {x3 : Int32} {x4 : Int32} {x5 : Int32} {post : Int32 → Prop} (k_a_heard : ∀ j, iv 0 1000 (a_heard j)) (k_lf_huts : iv 0 9 lf_huts) (hx2 : iv 1 511 x2) (hx3 : iv (-1) 2147483647 x3) (hx4 : iv 0 1000 x4) (hx5 : iv 0 61 x5) (hpost : ∀ (r : Int32), iv (-1) 2147483647 r → post r) : q_wp_X7_question_9_16 a_heard lf_huts x2 x3 x4 x5 post := by
  intro P hP
  have loop : ∀ (n : Nat) (x3 : Int32) (x4 : Int32) (x5 : Int32), (61 - x5.toInt < (n : Int)) → (iv (-1) 2147483647 x3) → (iv 0 1000 x4) → (iv 0 61 x5) → P x3 x4 x5 := by
    intro n
    induction n with
    | zero => intro x3 x4 x5 hm hx3 hx4 hx5; exact (ms0_up hm hx5).elim
    | succ n ih =>
      intro x3 x4 x5 hm hx3 hx4 hx5
      apply hP
      refine ⟨fun c1 => ?_, fun c1 => ?_⟩
      · skip
        exact hpost _ hx3
      · skip
        exact s_wp_X7_question_9_26 k_a_heard k_lf_huts hx2 hx3 hx4 (iv_lea (l := 0) (h := 60) (r_nlt c1) hx5 (iv_lit (l := 60) (h := 60) (by decide)) (by decide)) (iv_w (iv_lit (l := 0) (h := 0) (by decide)) (by decide)) x5.toInt (Int.le_refl _) (fun u0 u1 u2 hq g0 g1 g2 => ih u0 u1 u2 (ms_up hm hq) g0 g1 g2) hpost
  exact loop _ _ _ _ (ms_init_up _ _) hx3 hx4 hx5
set_option maxRecDepth 20000 in
theorem s_wp_X7_question_9_0 {a_heard : Nat → Int32} {lf_huts : Int32} {x2 : Int32} {post : Int32 → Prop} (k_a_heard : ∀ j, iv 0 1000 (a_heard j)) (k_lf_huts : iv 0 9 lf_huts) (hx2 : iv 0 511 x2) (hpost : ∀ (r : Int32), iv (-1) 2147483647 r → post r) : q_wp_X7_question_9_0 a_heard lf_huts x2 post := by
  refine ⟨fun c1 => ?_, fun c1 => ?_⟩
  · skip
    exact s_wp_X7_question_9_16 k_a_heard k_lf_huts (iv_ne (l := 1) (h := 511) c1 hx2 (iv_lit (l := 0) (h := 0) (by decide)) (by decide)) (iv_w (iv_lit (l := (-1)) (h := (-1)) (by decide)) (by decide)) (iv_w (iv_lit (l := 1000) (h := 1000) (by decide)) (by decide)) (iv_w (iv_lit (l := 0) (h := 0) (by decide)) (by decide)) hpost
  · skip
    exact hpost _ (iv_w (iv_lit (l := (-1)) (h := (-1)) (by decide)) (by decide))
-- wp_X7_soonest_9
set_option maxRecDepth 20000 in
theorem s_wp_X7_soonest_9_7 {a_heard : Nat → Int32} {lf_huts : Int32} {x2 : Int32} {x3 : Int32} {x4 : Int32} {post : Int32 → Prop} (k_a_heard : ∀ j, iv 0 1000 (a_heard j)) (k_lf_huts : iv 1 9 lf_huts) (hx2 : iv 0 8 x2) (hx3 : iv 0 1000 x3) (hx4 : iv 0 9 x4) (hpost : ∀ (r : Int32), iv 0 1000 r → post r) : q_wp_X7_soonest_9_7 a_heard lf_huts x2 x3 x4 post := by
  intro P hP
  have loop : ∀ (n : Nat) (x3 : Int32) (x4 : Int32), (9 - x4.toInt < (n : Int)) → (iv 0 1000 x3) → (iv 0 9 x4) → P x3 x4 := by
    intro n
    induction n with
    | zero => intro x3 x4 hm hx3 hx4; exact (ms0_up hm hx4).elim
    | succ n ih =>
      intro x3 x4 hm hx3 hx4
      apply hP
      refine ⟨fun c1 => ?_, fun c1 => ?_⟩
      · skip
        exact hpost _ hx3
      · skip
        refine ⟨iv_in (iv_add (l := 0) (h := 80) (iv_mul (l := 0) (h := 72) (iv_lta (l := 0) (h := 8) (r_nle c1) hx4 k_lf_huts (by decide)) (iv_lit (l := 9) (h := 9) (by decide)) (by decide)) hx2 (by decide)) (by decide), ?_⟩
        intro w2 ew2
        have hw2 := iv_eq ew2 (iv_min (l := 0) (h := 1000) hx3 (k_a_heard _) (by decide))
        intro w3 ew3
        have hw3 := iv_eq ew3 (iv_add (l := 1) (h := 9) (iv_lta (l := 0) (h := 8) (r_nle c1) hx4 k_lf_huts (by decide)) (iv_lit (l := 1) (h := 1) (by decide)) (by decide))
        exact ih _ _ (ms_up hm (inc_lt ew3 (iv_lta (l := 0) (h := 8) (r_nle c1) hx4 k_lf_huts (by decide)) (by decide))) hw2 (iv_w hw3 (by decide))
  exact loop _ _ _ (ms_init_up _ _) hx3 hx4
set_option maxRecDepth 20000 in
theorem s_wp_X7_soonest_9_0 {a_heard : Nat → Int32} {lf_huts : Int32} {x2 : Int32} {post : Int32 → Prop} (k_a_heard : ∀ j, iv 0 1000 (a_heard j)) (k_lf_huts : iv 1 9 lf_huts) (hx2 : iv 0 8 x2) (hpost : ∀ (r : Int32), iv 0 1000 r → post r) : q_wp_X7_soonest_9_0 a_heard lf_huts x2 post := by
  exact s_wp_X7_soonest_9_7 k_a_heard k_lf_huts hx2 (iv_w (iv_lit (l := 1000) (h := 1000) (by decide)) (by decide)) (iv_w (iv_lit (l := 0) (h := 0) (by decide)) (by decide)) hpost
-- wp_X7_carried_9
set_option maxRecDepth 20000 in
theorem s_wp_X7_carried_9_66 {P11 : Int32 → Int32 → Int32 → Prop} {a_heard : Nat → Int32} {a_walked : Nat → Int32} {lf_huts : Int32} {lf_villages : Int32} {lf_dams : Int32} {x2 : Int32} {x3 : Int32} {x4 : Int32} {x5 : Int32} {x6 : Int32} {post : Int32 → Prop} (k_a_heard : ∀ j, iv 0 1000 (a_heard j)) (k_a_walked : ∀ j, iv 0 1000 (a_walked j)) (k_lf_huts : iv 1 9 lf_huts) (k_lf_villages : iv 0 511 lf_villages) (k_lf_dams : iv 0 511 lf_dams) (hx2 : iv 0 8 x2) (hx4 : iv (-1) 8 x4) (hx5 : iv 0 1000 x5) (hx6 : iv 0 8 x6) (m11 : Int) (hm11 : m11 ≤ x6.toInt) (hP11 : ∀ (x4 : Int32) (x5 : Int32) (x6 : Int32), m11 < x6.toInt → iv (-1) 8 x4 → iv 0 1000 x5 → iv 0 9 x6 → P11 x4 x5 x6) (hpost : ∀ (r : Int32), iv (-1) 1000 r → post r) : q_wp_X7_carried_9_66 P11 a_heard a_walked lf_huts lf_villages lf_dams x2 x3 x4 x5 x6 post := by
  intro w1 ew1
  have hw1 := iv_eq ew1 (iv_add (l := 1) (h := 9) hx6 (iv_lit (l := 1) (h := 1) (by decide)) (by decide))
  exact hP11 _ _ _ (ml_up hm11 (inc_lt ew1 hx6 (by decide))) hx4 hx5 (iv_w hw1 (by decide))
set_option maxRecDepth 20000 in
theorem s_wp_X7_carried_9_11 {a_heard : Nat → Int32} {a_walked : Nat → Int32} {lf_huts : Int32} {lf_villages : Int32} {lf_dams : Int32} {x2 : Int32} {x3 : Int32} {x4 : Int32} {x5 : Int32} {x6 : Int32} {post : Int32 → Prop} (k_a_heard : ∀ j, iv 0 1000 (a_heard j)) (k_a_walked : ∀ j, iv 0 1000 (a_walked j)) (k_lf_huts : iv 0 9 lf_huts) (k_lf_villages : iv 0 511 lf_villages) (k_lf_dams : iv 0 511 lf_dams) (hx2 : iv 0 8 x2) (hx4 : iv (-1) 8 x4) (hx5 : iv 0 1000 x5) (hx6 : iv 0 9 x6) (hpost : ∀ (r : Int32), iv (-1) 1000 r → post r) : q_wp_X7_carried_9_11 a_heard a_walked lf_huts lf_villages lf_dams x2 x3 x4 x5 x6 post := by
  intro P hP
  have loop : ∀ (n : Nat) (x4 : Int32) (x5 : Int32) (x6 : Int32), (9 - x6.toInt < (n : Int)) → (iv (-1) 8 x4) → (iv 0 1000 x5) → (iv 0 9 x6) → P x4 x5 x6 := by
    intro n
    induction n with
    | zero => intro x4 x5 x6 hm hx4 hx5 hx6; exact (ms0_up hm hx6).elim
    | succ n ih =>
      intro x4 x5 x6 hm hx4 hx5 hx6
      apply hP
      refine ⟨fun c1 => ?_, fun c1 => ?_⟩
      · skip
        refine ⟨fun c2 => ?_, fun c2 => ?_⟩
        · skip
          exact hpost _ (iv_w (iv_eqa (l := (-1)) (h := (-1)) c2 hx4 (iv_lit (l := (-1)) (h := (-1)) (by decide)) (by decide)) (by decide))
        · skip
          refine ⟨fun c3 => ?_, fun c3 => ?_⟩
          · skip
            exact hpost _ (iv_w (iv_ne (l := 0) (h := 8) c2 hx4 (iv_lit (l := (-1)) (h := (-1)) (by decide)) (by decide)) (by decide))
          · skip
            exact hpost _ (iv_w hx5 (by decide))
      · skip
        refine ⟨iv_in (iv_add (l := 0) (h := 80) (iv_mul (l := 0) (h := 72) hx2 (iv_lit (l := 9) (h := 9) (by decide)) (by decide)) (iv_lta (l := 0) (h := 8) (r_nle c1) hx6 k_lf_huts (by decide)) (by decide)) (by decide), ?_⟩
        refine s_wp_X7_lastVillage_9_0 k_a_heard (iv_w (iv_ltb (l := 1) (h := 9) (r_nle c1) hx6 k_lf_huts (by decide)) (by decide)) k_lf_villages k_lf_dams (iv_lta (l := 0) (h := 8) (r_nle c1) hx6 k_lf_huts (by decide)) (fun r4 hr4 => ?_)
        intro w5 ew5
        have hw5 := iv_eq ew5 (iv_add (l := 0) (h := 2000) (k_a_walked _) hr4 (by decide))
        refine ⟨fun c6 => ?_, fun c6 => ?_⟩
        · skip
          refine ⟨fun c7 => ?_, fun c7 => ?_⟩
          · skip
            exact (iv_emp (iv_ne (l := 1) (h := 0) c7 (iv_lit (l := 0) (h := 0) (by decide)) (iv_lit (l := 0) (h := 0) (by decide)) (by decide)) (by decide)).elim
          · skip
            refine ⟨fun c8 => ?_, fun c8 => ?_⟩
            · skip
              exact s_wp_X7_carried_9_66 k_a_heard k_a_walked (iv_ltb (l := 1) (h := 9) (r_nle c1) hx6 k_lf_huts (by decide)) k_lf_villages k_lf_dams hx2 hx4 hx5 (iv_lta (l := 0) (h := 8) (r_nle c1) hx6 k_lf_huts (by decide)) x6.toInt (Int.le_refl _) (fun u0 u1 u2 hq g0 g1 g2 => ih u0 u1 u2 (ms_up hm hq) g0 g1 g2) hpost
            · skip
              exact s_wp_X7_carried_9_66 k_a_heard k_a_walked (iv_ltb (l := 1) (h := 9) (r_nle c1) hx6 k_lf_huts (by decide)) k_lf_villages k_lf_dams hx2 (iv_w (iv_lta (l := 0) (h := 8) (r_nle c1) hx6 k_lf_huts (by decide)) (by decide)) (iv_w (iv_lta (l := 0) (h := 999) (r_nle c8) hw5 hx5 (by decide)) (by decide)) (iv_lta (l := 0) (h := 8) (r_nle c1) hx6 k_lf_huts (by decide)) x6.toInt (Int.le_refl _) (fun u0 u1 u2 hq g0 g1 g2 => ih u0 u1 u2 (ms_up hm hq) g0 g1 g2) hpost
        · skip
          refine ⟨fun c9 => ?_, fun c9 => ?_⟩
          · skip
            exact s_wp_X7_carried_9_66 k_a_heard k_a_walked (iv_ltb (l := 1) (h := 9) (r_nle c1) hx6 k_lf_huts (by decide)) k_lf_villages k_lf_dams hx2 hx4 hx5 (iv_lta (l := 0) (h := 8) (r_nle c1) hx6 k_lf_huts (by decide)) x6.toInt (Int.le_refl _) (fun u0 u1 u2 hq g0 g1 g2 => ih u0 u1 u2 (ms_up hm hq) g0 g1 g2) hpost
          · skip
            exact (iv_emp (iv_eqa (l := 1) (h := 0) c9 (iv_lit (l := 1) (h := 1) (by decide)) (iv_lit (l := 0) (h := 0) (by decide)) (by decide)) (by decide)).elim
  exact loop _ _ _ _ (ms_init_up _ _) hx4 hx5 hx6
set_option maxRecDepth 20000 in
theorem s_wp_X7_carried_9_0 {a_heard : Nat → Int32} {a_walked : Nat → Int32} {lf_huts : Int32} {lf_villages : Int32} {lf_dams : Int32} {x2 : Int32} {x3 : Int32} {post : Int32 → Prop} (k_a_heard : ∀ j, iv 0 1000 (a_heard j)) (k_a_walked : ∀ j, iv 0 1000 (a_walked j)) (k_lf_huts : iv 0 9 lf_huts) (k_lf_villages : iv 0 511 lf_villages) (k_lf_dams : iv 0 511 lf_dams) (hx2 : iv 0 8 x2) (hpost : ∀ (r : Int32), iv (-1) 1000 r → post r) : q_wp_X7_carried_9_0 a_heard a_walked lf_huts lf_villages lf_dams x2 x3 post := by
  exact s_wp_X7_carried_9_11 k_a_heard k_a_walked k_lf_huts k_lf_villages k_lf_dams hx2 (iv_w (iv_lit (l := (-1)) (h := (-1)) (by decide)) (by decide)) (iv_w (iv_lit (l := 1000) (h := 1000) (by decide)) (by decide)) (iv_w (iv_lit (l := 0) (h := 0) (by decide)) (by decide)) hpost
-- wp_X7_tops_9
set_option maxRecDepth 20000 in
theorem s_wp_X7_tops_9_33 {P4 : Int32 → Int32 → Prop} {a_heard : Nat → Int32} {lf_huts : Int32} {x2 : Int32} {x3 : Int32} {post : Int32 → Prop} (k_a_heard : ∀ j, iv 0 1000 (a_heard j)) (k_lf_huts : iv 1 9 lf_huts) (hx2 : iv 0 511 x2) (hx3 : iv 0 8 x3) (m4 : Int) (hm4 : m4 ≤ x3.toInt) (hP4 : ∀ (x2 : Int32) (x3 : Int32), m4 < x3.toInt → iv 0 511 x2 → iv 0 9 x3 → P4 x2 x3) (hpost : ∀ (r : Int32), iv 0 511 r → post r) : q_wp_X7_tops_9_33 P4 a_heard lf_huts x2 x3 post := by
  intro w1 ew1
  have hw1 := iv_eq ew1 (iv_add (l := 1) (h := 9) hx3 (iv_lit (l := 1) (h := 1) (by decide)) (by decide))
  exact hP4 _ _ (ml_up hm4 (inc_lt ew1 hx3 (by decide))) hx2 (iv_w hw1 (by decide))
set_option maxRecDepth 20000 in
theorem s_wp_X7_tops_9_4 {a_heard : Nat → Int32} {lf_huts : Int32} {x2 : Int32} {x3 : Int32} {post : Int32 → Prop} (k_a_heard : ∀ j, iv 0 1000 (a_heard j)) (k_lf_huts : iv 0 9 lf_huts) (hx2 : iv 0 511 x2) (hx3 : iv 0 9 x3) (hpost : ∀ (r : Int32), iv 0 511 r → post r) : q_wp_X7_tops_9_4 a_heard lf_huts x2 x3 post := by
  intro P hP
  have loop : ∀ (n : Nat) (x2 : Int32) (x3 : Int32), (9 - x3.toInt < (n : Int)) → (iv 0 511 x2) → (iv 0 9 x3) → P x2 x3 := by
    intro n
    induction n with
    | zero => intro x2 x3 hm hx2 hx3; exact (ms0_up hm hx3).elim
    | succ n ih =>
      intro x2 x3 hm hx2 hx3
      apply hP
      refine ⟨fun c1 => ?_, fun c1 => ?_⟩
      · skip
        exact hpost _ hx2
      · skip
        refine s_wp_X7_fromBy_9_0 k_a_heard (iv_ltb (l := 1) (h := 9) (r_nle c1) hx3 k_lf_huts (by decide)) (iv_lta (l := 0) (h := 8) (r_nle c1) hx3 k_lf_huts (by decide)) (iv_w (iv_lit (l := 999) (h := 999) (by decide)) (by decide)) (fun r2 hr2 => ?_)
        refine ⟨fun c3 => ?_, fun c3 => ?_⟩
        · skip
          exact s_wp_X7_tops_9_33 k_a_heard (iv_ltb (l := 1) (h := 9) (r_nle c1) hx3 k_lf_huts (by decide)) hx2 (iv_lta (l := 0) (h := 8) (r_nle c1) hx3 k_lf_huts (by decide)) x3.toInt (Int.le_refl _) (fun u0 u1 hq g0 g1 => ih u0 u1 (ms_up hm hq) g0 g1) hpost
        · skip
          intro w4 ew4
          have hw4 := iv_eq ew4 (iv_or 9 (l := 0) (h := 511) hx2 (iv_shl1 (l := 1) (h := 256) (iv_lit (l := 1) (h := 1) (by decide)) (iv_lta (l := 0) (h := 8) (r_nle c1) hx3 k_lf_huts (by decide)) (by decide)) (by decide))
          exact s_wp_X7_tops_9_33 k_a_heard (iv_ltb (l := 1) (h := 9) (r_nle c1) hx3 k_lf_huts (by decide)) hw4 (iv_lta (l := 0) (h := 8) (r_nle c1) hx3 k_lf_huts (by decide)) x3.toInt (Int.le_refl _) (fun u0 u1 hq g0 g1 => ih u0 u1 (ms_up hm hq) g0 g1) hpost
  exact loop _ _ _ (ms_init_up _ _) hx2 hx3
set_option maxRecDepth 20000 in
theorem s_wp_X7_tops_9_0 {a_heard : Nat → Int32} {lf_huts : Int32} {post : Int32 → Prop} (k_a_heard : ∀ j, iv 0 1000 (a_heard j)) (k_lf_huts : iv 0 9 lf_huts) (hpost : ∀ (r : Int32), iv 0 511 r → post r) : q_wp_X7_tops_9_0 a_heard lf_huts post := by
  exact s_wp_X7_tops_9_4 k_a_heard k_lf_huts (iv_w (iv_lit (l := 0) (h := 0) (by decide)) (by decide)) (iv_w (iv_lit (l := 0) (h := 0) (by decide)) (by decide)) hpost
-- wp_X7_heardElsewhere_9
set_option maxRecDepth 20000 in
theorem s_wp_X7_heardElsewhere_9_41 {P5 : Int32 → Int32 → Prop} {a_heard : Nat → Int32} {lf_huts : Int32} {x2 : Int32} {x3 : Int32} {x4 : Int32} {post : Int32 → Prop} (k_a_heard : ∀ j, iv 0 1000 (a_heard j)) (k_lf_huts : iv 1 9 lf_huts) (hx2 : iv 0 8 x2) (hx4 : iv 0 8 x4) (m5 : Int) (hm5 : m5 ≤ x4.toInt) (hP5 : ∀ (x3 : Int32) (x4 : Int32), m5 < x4.toInt → iv 0 9 x4 → P5 x3 x4) (hpost : ∀ (r : Int32), post r) : q_wp_X7_heardElsewhere_9_41 P5 a_heard lf_huts x2 x3 x4 post := by
  intro w1 ew1
  have hw1 := iv_eq ew1 (iv_add (l := 1) (h := 9) hx4 (iv_lit (l := 1) (h := 1) (by decide)) (by decide))
  exact hP5 _ _ (ml_up hm5 (inc_lt ew1 hx4 (by decide))) (iv_w hw1 (by decide))
set_option maxRecDepth 20000 in
theorem s_wp_X7_heardElsewhere_9_5 {a_heard : Nat → Int32} {lf_huts : Int32} {x2 : Int32} {x3 : Int32} {x4 : Int32} {post : Int32 → Prop} (k_a_heard : ∀ j, iv 0 1000 (a_heard j)) (k_lf_huts : iv 1 9 lf_huts) (hx2 : iv 0 8 x2) (hx4 : iv 0 9 x4) (hpost : ∀ (r : Int32), post r) : q_wp_X7_heardElsewhere_9_5 a_heard lf_huts x2 x3 x4 post := by
  intro P hP
  have loop : ∀ (n : Nat) (x3 : Int32) (x4 : Int32), (9 - x4.toInt < (n : Int)) → (iv 0 9 x4) → P x3 x4 := by
    intro n
    induction n with
    | zero => intro x3 x4 hm hx4; exact (ms0_up hm hx4).elim
    | succ n ih =>
      intro x3 x4 hm hx4
      apply hP
      refine ⟨fun c1 => ?_, fun c1 => ?_⟩
      · skip
        exact hpost _
      · skip
        refine ⟨fun c2 => ?_, fun c2 => ?_⟩
        · skip
          exact s_wp_X7_heardElsewhere_9_41 k_a_heard k_lf_huts hx2 (iv_lta (l := 0) (h := 8) (r_nle c1) hx4 k_lf_huts (by decide)) x4.toInt (Int.le_refl _) (fun u0 u1 hq g0 => ih u0 u1 (ms_up hm hq) g0) hpost
        · skip
          refine ⟨iv_in (iv_add (l := 0) (h := 80) (iv_mul (l := 0) (h := 72) hx2 (iv_lit (l := 9) (h := 9) (by decide)) (by decide)) (iv_lta (l := 0) (h := 8) (r_nle c1) hx4 k_lf_huts (by decide)) (by decide)) (by decide), ?_⟩
          refine ⟨fun c3 => ?_, fun c3 => ?_⟩
          · skip
            exact s_wp_X7_heardElsewhere_9_41 k_a_heard k_lf_huts hx2 (iv_lta (l := 0) (h := 8) (r_nle c1) hx4 k_lf_huts (by decide)) x4.toInt (Int.le_refl _) (fun u0 u1 hq g0 => ih u0 u1 (ms_up hm hq) g0) hpost
          · skip
            intro w4 ew4
            exact s_wp_X7_heardElsewhere_9_41 k_a_heard k_lf_huts hx2 (iv_lta (l := 0) (h := 8) (r_nle c1) hx4 k_lf_huts (by decide)) x4.toInt (Int.le_refl _) (fun u0 u1 hq g0 => ih u0 u1 (ms_up hm hq) g0) hpost
  exact loop _ _ _ (ms_init_up _ _) hx4
set_option maxRecDepth 20000 in
theorem s_wp_X7_heardElsewhere_9_0 {a_heard : Nat → Int32} {lf_huts : Int32} {x2 : Int32} {post : Int32 → Prop} (k_a_heard : ∀ j, iv 0 1000 (a_heard j)) (k_lf_huts : iv 1 9 lf_huts) (hx2 : iv 0 8 x2) (hpost : ∀ (r : Int32), post r) : q_wp_X7_heardElsewhere_9_0 a_heard lf_huts x2 post := by
  exact s_wp_X7_heardElsewhere_9_5 k_a_heard k_lf_huts hx2 (iv_w (iv_lit (l := 0) (h := 0) (by decide)) (by decide)) hpost
-- wp_X7_ends_9
set_option maxRecDepth 20000 in
theorem s_wp_X7_ends_9_35 {P4 : Int32 → Int32 → Prop} {a_heard : Nat → Int32} {lf_huts : Int32} {lf_dams : Int32} {x2 : Int32} {x3 : Int32} {post : Int32 → Prop} (k_a_heard : ∀ j, iv 0 1000 (a_heard j)) (k_lf_huts : iv 1 9 lf_huts) (k_lf_dams : iv 0 511 lf_dams) (hx2 : iv 0 511 x2) (hx3 : iv 0 8 x3) (m4 : Int) (hm4 : m4 ≤ x3.toInt) (hP4 : ∀ (x2 : Int32) (x3 : Int32), m4 < x3.toInt → iv 0 511 x2 → iv 0 9 x3 → P4 x2 x3) (hpost : ∀ (r : Int32), iv 0 511 r → post r) : q_wp_X7_ends_9_35 P4 a_heard lf_huts lf_dams x2 x3 post := by
  intro w1 ew1
  have hw1 := iv_eq ew1 (iv_add (l := 1) (h := 9) hx3 (iv_lit (l := 1) (h := 1) (by decide)) (by decide))
  exact hP4 _ _ (ml_up hm4 (inc_lt ew1 hx3 (by decide))) hx2 (iv_w hw1 (by decide))
set_option maxRecDepth 20000 in
theorem s_wp_X7_ends_9_4 {a_heard : Nat → Int32} {lf_huts : Int32} {lf_dams : Int32} {x2 : Int32} {x3 : Int32} {post : Int32 → Prop} (k_a_heard : ∀ j, iv 0 1000 (a_heard j)) (k_lf_huts : iv 0 9 lf_huts) (k_lf_dams : iv 0 511 lf_dams) (hx2 : iv 0 511 x2) (hx3 : iv 0 9 x3) (hpost : ∀ (r : Int32), iv 0 511 r → post r) : q_wp_X7_ends_9_4 a_heard lf_huts lf_dams x2 x3 post := by
  intro P hP
  have loop : ∀ (n : Nat) (x2 : Int32) (x3 : Int32), (9 - x3.toInt < (n : Int)) → (iv 0 511 x2) → (iv 0 9 x3) → P x2 x3 := by
    intro n
    induction n with
    | zero => intro x2 x3 hm hx2 hx3; exact (ms0_up hm hx3).elim
    | succ n ih =>
      intro x2 x3 hm hx2 hx3
      apply hP
      refine ⟨fun c1 => ?_, fun c1 => ?_⟩
      · skip
        exact hpost _ hx2
      · skip
        refine ⟨fun c2 => ?_, fun c2 => ?_⟩
        · skip
          refine ⟨fun c3 => ?_, fun c3 => ?_⟩
          · skip
            exact (iv_emp (iv_ne (l := 1) (h := 0) c3 (iv_lit (l := 0) (h := 0) (by decide)) (iv_lit (l := 0) (h := 0) (by decide)) (by decide)) (by decide)).elim
          · skip
            refine s_wp_X7_heardElsewhere_9_0 k_a_heard (iv_ltb (l := 1) (h := 9) (r_nle c1) hx3 k_lf_huts (by decide)) (iv_lta (l := 0) (h := 8) (r_nle c1) hx3 k_lf_huts (by decide)) (fun r4 => ?_)
            refine ⟨fun c5 => ?_, fun c5 => ?_⟩
            · skip
              exact s_wp_X7_ends_9_35 k_a_heard (iv_ltb (l := 1) (h := 9) (r_nle c1) hx3 k_lf_huts (by decide)) k_lf_dams hx2 (iv_lta (l := 0) (h := 8) (r_nle c1) hx3 k_lf_huts (by decide)) x3.toInt (Int.le_refl _) (fun u0 u1 hq g0 g1 => ih u0 u1 (ms_up hm hq) g0 g1) hpost
            · skip
              intro w6 ew6
              have hw6 := iv_eq ew6 (iv_or 9 (l := 0) (h := 511) hx2 (iv_shl1 (l := 1) (h := 256) (iv_lit (l := 1) (h := 1) (by decide)) (iv_lta (l := 0) (h := 8) (r_nle c1) hx3 k_lf_huts (by decide)) (by decide)) (by decide))
              exact s_wp_X7_ends_9_35 k_a_heard (iv_ltb (l := 1) (h := 9) (r_nle c1) hx3 k_lf_huts (by decide)) k_lf_dams hw6 (iv_lta (l := 0) (h := 8) (r_nle c1) hx3 k_lf_huts (by decide)) x3.toInt (Int.le_refl _) (fun u0 u1 hq g0 g1 => ih u0 u1 (ms_up hm hq) g0 g1) hpost
        · skip
          refine ⟨fun c7 => ?_, fun c7 => ?_⟩
          · skip
            exact s_wp_X7_ends_9_35 k_a_heard (iv_ltb (l := 1) (h := 9) (r_nle c1) hx3 k_lf_huts (by decide)) k_lf_dams hx2 (iv_lta (l := 0) (h := 8) (r_nle c1) hx3 k_lf_huts (by decide)) x3.toInt (Int.le_refl _) (fun u0 u1 hq g0 g1 => ih u0 u1 (ms_up hm hq) g0 g1) hpost
          · skip
            exact (iv_emp (iv_eqa (l := 1) (h := 0) c7 (iv_lit (l := 1) (h := 1) (by decide)) (iv_lit (l := 0) (h := 0) (by decide)) (by decide)) (by decide)).elim
  exact loop _ _ _ (ms_init_up _ _) hx2 hx3
set_option maxRecDepth 20000 in
theorem s_wp_X7_ends_9_0 {a_heard : Nat → Int32} {lf_huts : Int32} {lf_dams : Int32} {post : Int32 → Prop} (k_a_heard : ∀ j, iv 0 1000 (a_heard j)) (k_lf_huts : iv 0 9 lf_huts) (k_lf_dams : iv 0 511 lf_dams) (hpost : ∀ (r : Int32), iv 0 511 r → post r) : q_wp_X7_ends_9_0 a_heard lf_huts lf_dams post := by
  exact s_wp_X7_ends_9_4 k_a_heard k_lf_huts k_lf_dams (iv_w (iv_lit (l := 0) (h := 0) (by decide)) (by decide)) (iv_w (iv_lit (l := 0) (h := 0) (by decide)) (by decide)) hpost
-- wp_X7_couples_9
set_option maxRecDepth 20000 in
theorem s_wp_X7_couples_9_4 {a_heard : Nat → Int32} {lf_huts : Int32} {x2 : Int32} {x3 : Int32} {post : Int32 → Prop} (k_a_heard : ∀ j, iv 0 1000 (a_heard j)) (k_lf_huts : iv 0 9 lf_huts) (hx3 : iv 0 9 x3) (hpost : ∀ (r : Int32), post r) : q_wp_X7_couples_9_4 a_heard lf_huts x2 x3 post := by
  intro P hP
  have loop : ∀ (n : Nat) (x2 : Int32) (x3 : Int32), (9 - x3.toInt < (n : Int)) → (iv 0 9 x3) → P x2 x3 := by
    intro n
    induction n with
    | zero => intro x2 x3 hm hx3; exact (ms0_up hm hx3).elim
    | succ n ih =>
      intro x2 x3 hm hx3
      apply hP
      refine ⟨fun c1 => ?_, fun c1 => ?_⟩
      · skip
        exact hpost _
      · skip
        refine s_wp_X7_heardElsewhere_9_0 k_a_heard (iv_ltb (l := 1) (h := 9) (r_nle c1) hx3 k_lf_huts (by decide)) (iv_lta (l := 0) (h := 8) (r_nle c1) hx3 k_lf_huts (by decide)) (fun r2 => ?_)
        intro w3 ew3
        intro w4 ew4
        have hw4 := iv_eq ew4 (iv_add (l := 1) (h := 9) (iv_lta (l := 0) (h := 8) (r_nle c1) hx3 k_lf_huts (by decide)) (iv_lit (l := 1) (h := 1) (by decide)) (by decide))
        exact ih _ _ (ms_up hm (inc_lt ew4 (iv_lta (l := 0) (h := 8) (r_nle c1) hx3 k_lf_huts (by decide)) (by decide))) (iv_w hw4 (by decide))
  exact loop _ _ _ (ms_init_up _ _) hx3
set_option maxRecDepth 20000 in
theorem s_wp_X7_couples_9_0 {a_heard : Nat → Int32} {lf_huts : Int32} {post : Int32 → Prop} (k_a_heard : ∀ j, iv 0 1000 (a_heard j)) (k_lf_huts : iv 0 9 lf_huts) (hpost : ∀ (r : Int32), post r) : q_wp_X7_couples_9_0 a_heard lf_huts post := by
  exact s_wp_X7_couples_9_4 k_a_heard k_lf_huts (iv_w (iv_lit (l := 0) (h := 0) (by decide)) (by decide)) hpost
-- wp_X7_fewestDams_9
set_option maxRecDepth 20000 in
theorem s_wp_X7_fewestDams_9_85 {P28 : Int32 → Int32 → Int32 → Prop} {a_next : Nat → Int32} {lf_huts : Int32} {lf_dams : Int32} {x2 : Int32} {x3 : Int32} {x4 : Int32} {x5 : Int32} {x6 : Int32} {x7 : Int32} {post : Int32 → Prop} (k_a_next : ∀ j, iv 0 511 (a_next j)) (k_lf_huts : iv 1 9 lf_huts) (k_lf_dams : iv 0 511 lf_dams) (hx2 : iv 0 8 x2) (hx3 : iv 0 8 x3) (hx4 : iv 0 511 x4) (hx5 : iv (-1) 511 x5) (hx6 : iv 0 63 x6) (hx7 : iv 0 511 x7) (m28 : Int) (hm28 : m28 ≤ x7.toInt) (hP28 : ∀ (x5 : Int32) (x6 : Int32) (x7 : Int32), m28 < x7.toInt → iv (-1) 511 x5 → iv 0 63 x6 → iv 0 512 x7 → P28 x5 x6 x7) (hpost : ∀ (r : Int32), iv (-1) 511 r → post r) : q_wp_X7_fewestDams_9_85 P28 a_next lf_huts lf_dams x2 x3 x4 x5 x6 x7 post := by
  intro w1 ew1
  have hw1 := iv_eq ew1 (iv_add (l := 1) (h := 512) hx7 (iv_lit (l := 1) (h := 1) (by decide)) (by decide))
  exact hP28 _ _ _ (ml_up hm28 (inc_lt ew1 hx7 (by decide))) hx5 hx6 (iv_w hw1 (by decide))
set_option maxRecDepth 20000 in
theorem s_wp_X7_fewestDams_9_28 {a_next : Nat → Int32} {lf_huts : Int32} {lf_dams : Int32} {x2 : Int32} {x3 : Int32} {x4 : Int32} {x5 : Int32} {x6 : Int32} {x7 : Int32} {post : Int32 → Prop} (k_a_next : ∀ j, iv 0 511 (a_next j)) (k_lf_huts : iv 1 9 lf_huts) (k_lf_dams : iv 0 511 lf_dams) (hx2 : iv 0 8 x2) (hx3 : iv 0 8 x3) (hx4 : iv 0 511 x4) (hx5 : iv (-1) 511 x5) (hx6 : iv 0 63 x6) (hx7 : iv 0 512 x7) (hpost : ∀ (r : Int32), iv (-1) 511 r → post r) : q_wp_X7_fewestDams_9_28 a_next lf_huts lf_dams x2 x3 x4 x5 x6 x7 post := by
  intro P hP
  have loop : ∀ (n : Nat) (x5 : Int32) (x6 : Int32) (x7 : Int32), (512 - x7.toInt < (n : Int)) → (iv (-1) 511 x5) → (iv 0 63 x6) → (iv 0 512 x7) → P x5 x6 x7 := by
    intro n
    induction n with
    | zero => intro x5 x6 x7 hm hx5 hx6 hx7; exact (ms0_up hm hx7).elim
    | succ n ih =>
      intro x5 x6 x7 hm hx5 hx6 hx7
      apply hP
      refine ⟨fun c1 => ?_, fun c1 => ?_⟩
      · skip
        exact hpost _ hx5
      · skip
        refine ⟨fun c2 => ?_, fun c2 => ?_⟩
        · skip
          exact s_wp_X7_fewestDams_9_85 k_a_next k_lf_huts k_lf_dams hx2 hx3 hx4 hx5 hx6 (iv_lta (l := 0) (h := 511) (r_nle c1) hx7 (iv_shl1 (l := 1) (h := 512) (iv_lit (l := 1) (h := 1) (by decide)) k_lf_huts (by decide)) (by decide)) x7.toInt (Int.le_refl _) (fun u0 u1 u2 hq g0 g1 g2 => ih u0 u1 u2 (ms_up hm hq) g0 g1 g2) hpost
        · skip
          refine s_z_J6_bitCount_0f7a4_0 (iv_w (iv_lta (l := 0) (h := 511) (r_nle c1) hx7 (iv_shl1 (l := 1) (h := 512) (iv_lit (l := 1) (h := 1) (by decide)) k_lf_huts (by decide)) (by decide)) (by decide)) (fun r3 hr3 => ?_)
          refine ⟨fun c4 => ?_, fun c4 => ?_⟩
          · skip
            exact s_wp_X7_fewestDams_9_85 k_a_next k_lf_huts k_lf_dams hx2 hx3 hx4 hx5 hx6 (iv_lta (l := 0) (h := 511) (r_nle c1) hx7 (iv_shl1 (l := 1) (h := 512) (iv_lit (l := 1) (h := 1) (by decide)) k_lf_huts (by decide)) (by decide)) x7.toInt (Int.le_refl _) (fun u0 u1 u2 hq g0 g1 g2 => ih u0 u1 u2 (ms_up hm hq) g0 g1 g2) hpost
          · skip
            refine s_wp_X7_reach_5_0 k_a_next hx2 (iv_lta (l := 0) (h := 511) (r_nle c1) hx7 (iv_shl1 (l := 1) (h := 512) (iv_lit (l := 1) (h := 1) (by decide)) k_lf_huts (by decide)) (by decide)) (fun r5 hr5 => ?_)
            refine ⟨fun c6 => ?_, fun c6 => ?_⟩
            · skip
              refine ⟨fun c7 => ?_, fun c7 => ?_⟩
              · skip
                exact (iv_emp (iv_ne (l := 1) (h := 0) c7 (iv_lit (l := 0) (h := 0) (by decide)) (iv_lit (l := 0) (h := 0) (by decide)) (by decide)) (by decide)).elim
              · skip
                refine s_z_J6_bitCount_0f7a4_0 (iv_w (iv_lta (l := 0) (h := 511) (r_nle c1) hx7 (iv_shl1 (l := 1) (h := 512) (iv_lit (l := 1) (h := 1) (by decide)) k_lf_huts (by decide)) (by decide)) (by decide)) (fun r8 hr8 => ?_)
                exact s_wp_X7_fewestDams_9_85 k_a_next k_lf_huts k_lf_dams hx2 hx3 hx4 (iv_w (iv_lta (l := 0) (h := 511) (r_nle c1) hx7 (iv_shl1 (l := 1) (h := 512) (iv_lit (l := 1) (h := 1) (by decide)) k_lf_huts (by decide)) (by decide)) (by decide)) hr8 (iv_lta (l := 0) (h := 511) (r_nle c1) hx7 (iv_shl1 (l := 1) (h := 512) (iv_lit (l := 1) (h := 1) (by decide)) k_lf_huts (by decide)) (by decide)) x7.toInt (Int.le_refl _) (fun u0 u1 u2 hq g0 g1 g2 => ih u0 u1 u2 (ms_up hm hq) g0 g1 g2) hpost
            · skip
              refine ⟨fun c9 => ?_, fun c9 => ?_⟩
              · skip
                exact s_wp_X7_fewestDams_9_85 k_a_next k_lf_huts k_lf_dams hx2 hx3 hx4 hx5 (iv_w (iv_ltb (l := 1) (h := 63) (r_nle c4) hr3 hx6 (by decide)) (by decide)) (iv_lta (l := 0) (h := 511) (r_nle c1) hx7 (iv_shl1 (l := 1) (h := 512) (iv_lit (l := 1) (h := 1) (by decide)) k_lf_huts (by decide)) (by decide)) x7.toInt (Int.le_refl _) (fun u0 u1 u2 hq g0 g1 g2 => ih u0 u1 u2 (ms_up hm hq) g0 g1 g2) hpost
              · skip
                exact (iv_emp (iv_eqa (l := 1) (h := 0) c9 (iv_lit (l := 1) (h := 1) (by decide)) (iv_lit (l := 0) (h := 0) (by decide)) (by decide)) (by decide)).elim
  exact loop _ _ _ _ (ms_init_up _ _) hx5 hx6 hx7
set_option maxRecDepth 20000 in
theorem s_wp_X7_fewestDams_9_0 {a_next : Nat → Int32} {lf_huts : Int32} {lf_dams : Int32} {x2 : Int32} {x3 : Int32} {post : Int32 → Prop} (k_a_next : ∀ j, iv 0 511 (a_next j)) (k_lf_huts : iv 1 9 lf_huts) (k_lf_dams : iv 0 511 lf_dams) (hx2 : iv 0 8 x2) (hx3 : iv 0 8 x3) (hpost : ∀ (r : Int32), iv (-1) 511 r → post r) : q_wp_X7_fewestDams_9_0 a_next lf_huts lf_dams x2 x3 post := by
  intro w1 ew1
  have hw1 := iv_eq ew1 (iv_or 9 (l := 0) (h := 511) (iv_or 9 (l := 0) (h := 511) k_lf_dams (iv_shl1 (l := 1) (h := 256) (iv_lit (l := 1) (h := 1) (by decide)) hx2 (by decide)) (by decide)) (iv_shl1 (l := 1) (h := 256) (iv_lit (l := 1) (h := 1) (by decide)) hx3 (by decide)) (by decide))
  intro w2 ew2
  have hw2 := iv_eq ew2 (iv_add (l := 2) (h := 10) k_lf_huts (iv_lit (l := 1) (h := 1) (by decide)) (by decide))
  exact s_wp_X7_fewestDams_9_28 k_a_next k_lf_huts k_lf_dams hx2 hx3 hw1 (iv_w (iv_lit (l := (-1)) (h := (-1)) (by decide)) (by decide)) (iv_w hw2 (by decide)) (iv_w (iv_lit (l := 0) (h := 0) (by decide)) (by decide)) hpost
-- wp_X7_together_9_2
set_option maxRecDepth 20000 in
theorem s_wp_X7_together_9_2_59 {P11 : Int32 → Int32 → Int32 → Prop} {a_walked : Nat → Int32} {lf_huts : Int32} {x3 : Int32} {x4 : Int32} {x5 : Int32} {x6 : Int32} {x7 : Int32} {x8 : Int32} {post : Int32 → Prop} (k_a_walked : ∀ j, iv 0 1000 (a_walked j)) (k_lf_huts : iv 1 9 lf_huts) (hx3 : iv 0 8 x3) (hx4 : iv 0 8 x4) (hx6 : iv (-1) 8 x6) (hx7 : iv 0 1000 x7) (hx8 : iv 0 8 x8) (m11 : Int) (hm11 : m11 ≤ x8.toInt) (hP11 : ∀ (x6 : Int32) (x7 : Int32) (x8 : Int32), m11 < x8.toInt → iv (-1) 8 x6 → iv 0 1000 x7 → iv 0 9 x8 → P11 x6 x7 x8) (hpost : ∀ (r : Int32), iv (-1) 1000 r → post r) : q_wp_X7_together_9_2_59 P11 a_walked lf_huts x3 x4 x5 x6 x7 x8 post := by
  intro w1 ew1
  have hw1 := iv_eq ew1 (iv_add (l := 1) (h := 9) hx8 (iv_lit (l := 1) (h := 1) (by decide)) (by decide))
  exact hP11 _ _ _ (ml_up hm11 (inc_lt ew1 hx8 (by decide))) hx6 hx7 (iv_w hw1 (by decide))
set_option maxRecDepth 20000 in
theorem s_wp_X7_together_9_2_11 {a_walked : Nat → Int32} {lf_huts : Int32} {x3 : Int32} {x4 : Int32} {x5 : Int32} {x6 : Int32} {x7 : Int32} {x8 : Int32} {post : Int32 → Prop} (k_a_walked : ∀ j, iv 0 1000 (a_walked j)) (k_lf_huts : iv 0 9 lf_huts) (hx3 : iv 0 8 x3) (hx4 : iv 0 8 x4) (hx6 : iv (-1) 8 x6) (hx7 : iv 0 1000 x7) (hx8 : iv 0 9 x8) (hpost : ∀ (r : Int32), iv (-1) 1000 r → post r) : q_wp_X7_together_9_2_11 a_walked lf_huts x3 x4 x5 x6 x7 x8 post := by
  intro P hP
  have loop : ∀ (n : Nat) (x6 : Int32) (x7 : Int32) (x8 : Int32), (9 - x8.toInt < (n : Int)) → (iv (-1) 8 x6) → (iv 0 1000 x7) → (iv 0 9 x8) → P x6 x7 x8 := by
    intro n
    induction n with
    | zero => intro x6 x7 x8 hm hx6 hx7 hx8; exact (ms0_up hm hx8).elim
    | succ n ih =>
      intro x6 x7 x8 hm hx6 hx7 hx8
      apply hP
      refine ⟨fun c1 => ?_, fun c1 => ?_⟩
      · skip
        refine ⟨fun c2 => ?_, fun c2 => ?_⟩
        · skip
          exact hpost _ (iv_w (iv_eqa (l := (-1)) (h := (-1)) c2 hx6 (iv_lit (l := (-1)) (h := (-1)) (by decide)) (by decide)) (by decide))
        · skip
          refine ⟨fun c3 => ?_, fun c3 => ?_⟩
          · skip
            exact hpost _ (iv_w (iv_ne (l := 0) (h := 8) c2 hx6 (iv_lit (l := (-1)) (h := (-1)) (by decide)) (by decide)) (by decide))
          · skip
            exact hpost _ (iv_w hx7 (by decide))
      · skip
        refine ⟨iv_in (iv_add (l := 0) (h := 80) (iv_mul (l := 0) (h := 72) hx3 (iv_lit (l := 9) (h := 9) (by decide)) (by decide)) (iv_lta (l := 0) (h := 8) (r_nle c1) hx8 k_lf_huts (by decide)) (by decide)) (by decide), ?_⟩
        refine ⟨iv_in (iv_add (l := 0) (h := 80) (iv_mul (l := 0) (h := 72) hx4 (iv_lit (l := 9) (h := 9) (by decide)) (by decide)) (iv_lta (l := 0) (h := 8) (r_nle c1) hx8 k_lf_huts (by decide)) (by decide)) (by decide), ?_⟩
        intro w4 ew4
        have hw4 := iv_eq ew4 (iv_max (l := 0) (h := 1000) (k_a_walked _) (k_a_walked _) (by decide))
        refine ⟨fun c5 => ?_, fun c5 => ?_⟩
        · skip
          exact s_wp_X7_together_9_2_59 k_a_walked (iv_ltb (l := 1) (h := 9) (r_nle c1) hx8 k_lf_huts (by decide)) hx3 hx4 hx6 hx7 (iv_lta (l := 0) (h := 8) (r_nle c1) hx8 k_lf_huts (by decide)) x8.toInt (Int.le_refl _) (fun u0 u1 u2 hq g0 g1 g2 => ih u0 u1 u2 (ms_up hm hq) g0 g1 g2) hpost
        · skip
          exact s_wp_X7_together_9_2_59 k_a_walked (iv_ltb (l := 1) (h := 9) (r_nle c1) hx8 k_lf_huts (by decide)) hx3 hx4 (iv_w (iv_lta (l := 0) (h := 8) (r_nle c1) hx8 k_lf_huts (by decide)) (by decide)) (iv_w (iv_lta (l := 0) (h := 999) (r_nle c5) hw4 hx7 (by decide)) (by decide)) (iv_lta (l := 0) (h := 8) (r_nle c1) hx8 k_lf_huts (by decide)) x8.toInt (Int.le_refl _) (fun u0 u1 u2 hq g0 g1 g2 => ih u0 u1 u2 (ms_up hm hq) g0 g1 g2) hpost
  exact loop _ _ _ _ (ms_init_up _ _) hx6 hx7 hx8
set_option maxRecDepth 20000 in
theorem s_wp_X7_together_9_2_0 {a_walked : Nat → Int32} {lf_huts : Int32} {x3 : Int32} {x4 : Int32} {x5 : Int32} {post : Int32 → Prop} (k_a_walked : ∀ j, iv 0 1000 (a_walked j)) (k_lf_huts : iv 0 9 lf_huts) (hx3 : iv 0 8 x3) (hx4 : iv 0 8 x4) (hpost : ∀ (r : Int32), iv (-1) 1000 r → post r) : q_wp_X7_together_9_2_0 a_walked lf_huts x3 x4 x5 post := by
  exact s_wp_X7_together_9_2_11 k_a_walked k_lf_huts hx3 hx4 (iv_w (iv_lit (l := (-1)) (h := (-1)) (by decide)) (by decide)) (iv_w (iv_lit (l := 1000) (h := 1000) (by decide)) (by decide)) (iv_w (iv_lit (l := 0) (h := 0) (by decide)) (by decide)) hpost
-- wp_X7_together_9_1
set_option maxRecDepth 20000 in
theorem s_wp_X7_together_9_1_59 {P11 : Int32 → Int32 → Int32 → Prop} {a_heard : Nat → Int32} {lf_huts : Int32} {x3 : Int32} {x4 : Int32} {x5 : Int32} {x6 : Int32} {x7 : Int32} {x8 : Int32} {post : Int32 → Prop} (k_a_heard : ∀ j, iv 0 1000 (a_heard j)) (k_lf_huts : iv 1 9 lf_huts) (hx3 : iv 0 8 x3) (hx4 : iv 0 8 x4) (hx6 : iv (-1) 8 x6) (hx7 : iv 0 1000 x7) (hx8 : iv 0 8 x8) (m11 : Int) (hm11 : m11 ≤ x8.toInt) (hP11 : ∀ (x6 : Int32) (x7 : Int32) (x8 : Int32), m11 < x8.toInt → iv (-1) 8 x6 → iv 0 1000 x7 → iv 0 9 x8 → P11 x6 x7 x8) (hpost : ∀ (r : Int32), iv (-1) 1000 r → post r) : q_wp_X7_together_9_1_59 P11 a_heard lf_huts x3 x4 x5 x6 x7 x8 post := by
  intro w1 ew1
  have hw1 := iv_eq ew1 (iv_add (l := 1) (h := 9) hx8 (iv_lit (l := 1) (h := 1) (by decide)) (by decide))
  exact hP11 _ _ _ (ml_up hm11 (inc_lt ew1 hx8 (by decide))) hx6 hx7 (iv_w hw1 (by decide))
set_option maxRecDepth 20000 in
theorem s_wp_X7_together_9_1_11 {a_heard : Nat → Int32} {lf_huts : Int32} {x3 : Int32} {x4 : Int32} {x5 : Int32} {x6 : Int32} {x7 : Int32} {x8 : Int32} {post : Int32 → Prop} (k_a_heard : ∀ j, iv 0 1000 (a_heard j)) (k_lf_huts : iv 1 9 lf_huts) (hx3 : iv 0 8 x3) (hx4 : iv 0 8 x4) (hx6 : iv (-1) 8 x6) (hx7 : iv 0 1000 x7) (hx8 : iv 0 9 x8) (hpost : ∀ (r : Int32), iv (-1) 1000 r → post r) : q_wp_X7_together_9_1_11 a_heard lf_huts x3 x4 x5 x6 x7 x8 post := by
  intro P hP
  have loop : ∀ (n : Nat) (x6 : Int32) (x7 : Int32) (x8 : Int32), (9 - x8.toInt < (n : Int)) → (iv (-1) 8 x6) → (iv 0 1000 x7) → (iv 0 9 x8) → P x6 x7 x8 := by
    intro n
    induction n with
    | zero => intro x6 x7 x8 hm hx6 hx7 hx8; exact (ms0_up hm hx8).elim
    | succ n ih =>
      intro x6 x7 x8 hm hx6 hx7 hx8
      apply hP
      refine ⟨fun c1 => ?_, fun c1 => ?_⟩
      · skip
        refine ⟨fun c2 => ?_, fun c2 => ?_⟩
        · skip
          exact hpost _ (iv_w (iv_eqa (l := (-1)) (h := (-1)) c2 hx6 (iv_lit (l := (-1)) (h := (-1)) (by decide)) (by decide)) (by decide))
        · skip
          refine ⟨fun c3 => ?_, fun c3 => ?_⟩
          · skip
            exact hpost _ (iv_w (iv_ne (l := 0) (h := 8) c2 hx6 (iv_lit (l := (-1)) (h := (-1)) (by decide)) (by decide)) (by decide))
          · skip
            exact hpost _ (iv_w hx7 (by decide))
      · skip
        refine ⟨iv_in (iv_add (l := 0) (h := 80) (iv_mul (l := 0) (h := 72) hx3 (iv_lit (l := 9) (h := 9) (by decide)) (by decide)) (iv_lta (l := 0) (h := 8) (r_nle c1) hx8 k_lf_huts (by decide)) (by decide)) (by decide), ?_⟩
        refine ⟨iv_in (iv_add (l := 0) (h := 80) (iv_mul (l := 0) (h := 72) hx4 (iv_lit (l := 9) (h := 9) (by decide)) (by decide)) (iv_lta (l := 0) (h := 8) (r_nle c1) hx8 k_lf_huts (by decide)) (by decide)) (by decide), ?_⟩
        intro w4 ew4
        have hw4 := iv_eq ew4 (iv_max (l := 0) (h := 1000) (k_a_heard _) (k_a_heard _) (by decide))
        refine ⟨fun c5 => ?_, fun c5 => ?_⟩
        · skip
          exact s_wp_X7_together_9_1_59 k_a_heard k_lf_huts hx3 hx4 hx6 hx7 (iv_lta (l := 0) (h := 8) (r_nle c1) hx8 k_lf_huts (by decide)) x8.toInt (Int.le_refl _) (fun u0 u1 u2 hq g0 g1 g2 => ih u0 u1 u2 (ms_up hm hq) g0 g1 g2) hpost
        · skip
          exact s_wp_X7_together_9_1_59 k_a_heard k_lf_huts hx3 hx4 (iv_w (iv_lta (l := 0) (h := 8) (r_nle c1) hx8 k_lf_huts (by decide)) (by decide)) (iv_w (iv_lta (l := 0) (h := 999) (r_nle c5) hw4 hx7 (by decide)) (by decide)) (iv_lta (l := 0) (h := 8) (r_nle c1) hx8 k_lf_huts (by decide)) x8.toInt (Int.le_refl _) (fun u0 u1 u2 hq g0 g1 g2 => ih u0 u1 u2 (ms_up hm hq) g0 g1 g2) hpost
  exact loop _ _ _ _ (ms_init_up _ _) hx6 hx7 hx8
set_option maxRecDepth 20000 in
theorem s_wp_X7_together_9_1_0 {a_heard : Nat → Int32} {lf_huts : Int32} {x3 : Int32} {x4 : Int32} {x5 : Int32} {post : Int32 → Prop} (k_a_heard : ∀ j, iv 0 1000 (a_heard j)) (k_lf_huts : iv 1 9 lf_huts) (hx3 : iv 0 8 x3) (hx4 : iv 0 8 x4) (hpost : ∀ (r : Int32), iv (-1) 1000 r → post r) : q_wp_X7_together_9_1_0 a_heard lf_huts x3 x4 x5 post := by
  exact s_wp_X7_together_9_1_11 k_a_heard k_lf_huts hx3 hx4 (iv_w (iv_lit (l := (-1)) (h := (-1)) (by decide)) (by decide)) (iv_w (iv_lit (l := 1000) (h := 1000) (by decide)) (by decide)) (iv_w (iv_lit (l := 0) (h := 0) (by decide)) (by decide)) hpost
end
