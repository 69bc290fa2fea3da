section
theorem inc_ltc {x v a c : Int32} (hx : x = a) (e : v = a + c) (hs : a.toInt < (a + c).toInt) : x.toInt < v.toInt := by rw [hx, e]; exact hs
theorem iv_is1 {x : Int32} (hx : iv 0 1 x) (hc : ¬ x = 0) : x = 1 := (iv_01 hx).elim (fun h => absurd h hc) id
theorem tb_all {t : List Int32} {l h : Int} (ht : t.all (fun x => decide (l ≤ x.toInt) && decide (x.toInt ≤ h)) = true) (h0 : l ≤ 0 ∧ 0 ≤ h) (j : Nat) : iv l h (t.getD j 0) := by
  rw [List.getD_eq_getElem?_getD]
  cases e : t[j]? with
  | none => exact h0
  | some x =>
    have := List.all_eq_true.mp ht x (List.mem_of_getElem? e)
    simp only [Bool.and_eq_true, decide_eq_true_eq] at this
    exact this
theorem tbi_0 (j : Nat) : iv 0 20 (tbf_0 j) := tb_all (by decide +kernel) (by decide) j
theorem tbi_1 (j : Nat) : iv 0 3 (tbf_1 j) := tb_all (by decide +kernel) (by decide) j
theorem tbi_2 (j : Nat) : iv 0 1 (tbf_2 j) := tb_all (by decide +kernel) (by decide) j
theorem tbi_3 (j : Nat) : iv 0 99 (tbf_3 j) := tb_all (by decide +kernel) (by decide) j
theorem tbe_0 {a l h : Int} {x : Int32} (hx : iv a a x) (hs : l ≤ (tbf_0 a.toNat).toInt ∧ (tbf_0 a.toNat).toInt ≤ h) : iv l h (tbf_0 x.toNatClampNeg) := by
  have e : x.toNatClampNeg = a.toNat := by
    have e2 : x.toNatClampNeg = x.toInt.toNat := rfl
    have := hx.1; have := hx.2
    rw [e2]; congr 1; omega
  rw [e]; exact hs
theorem tbe_1 {a l h : Int} {x : Int32} (hx : iv a a x) (hs : l ≤ (tbf_1 a.toNat).toInt ∧ (tbf_1 a.toNat).toInt ≤ h) : iv l h (tbf_1 x.toNatClampNeg) := by
  have e : x.toNatClampNeg = a.toNat := by
    have e2 : x.toNatClampNeg = x.toInt.toNat := rfl
    have := hx.1; have := hx.2
    rw [e2]; congr 1; omega
  rw [e]; exact hs
theorem tbe_2 {a l h : Int} {x : Int32} (hx : iv a a x) (hs : l ≤ (tbf_2 a.toNat).toInt ∧ (tbf_2 a.toNat).toInt ≤ h) : iv l h (tbf_2 x.toNatClampNeg) := by
  have e : x.toNatClampNeg = a.toNat := by
    have e2 : x.toNatClampNeg = x.toInt.toNat := rfl
    have := hx.1; have := hx.2
    rw [e2]; congr 1; omega
  rw [e]; exact hs
theorem tbe_3 {a l h : Int} {x : Int32} (hx : iv a a x) (hs : l ≤ (tbf_3 a.toNat).toInt ∧ (tbf_3 a.toNat).toInt ≤ h) : iv l h (tbf_3 x.toNatClampNeg) := by
  have e : x.toNatClampNeg = a.toNat := by
    have e2 : x.toNatClampNeg = x.toInt.toNat := rfl
    have := hx.1; have := hx.2
    rw [e2]; congr 1; omega
  rw [e]; exact hs
def rNF (x1 huts echoes singers deeds facts voices : Int32) : Prop := (x1.toInt = 0 → ¬ huts = 9) ∧ (x1.toInt = 6 → ¬ echoes = 4) ∧ (x1.toInt = 8 → ¬ singers = 6) ∧ (10 ≤ x1.toInt ∧ x1.toInt < 16 → ¬ deeds = 40) ∧ (x1.toInt = 16 ∨ x1.toInt = 17 → ¬ facts = 10) ∧ (x1.toInt = 18 → ¬ voices = 9)
def rNB (x1 : Int32) (nums : Nat → Int32) (n : Nat) : Prop := ∀ j, j < n → ¬ nums j < tbf_2 (x1.toNatClampNeg * 3 + j) ∧ nums j ≤ tbf_3 (x1.toNatClampNeg * 3 + j)
theorem rb_iv {n a b : Int32} {l h : Int} (hh : ¬ n < a ∧ n ≤ b) (hs : l ≤ a.toInt ∧ b.toInt ≤ h) : iv l h n := ⟨Int.le_trans hs.1 (r_nlt hh.1), Int.le_trans (r_le hh.2) hs.2⟩
theorem iv_cl {x : Int32} {l h : Int} {n : Nat} (hx : iv l h x) (hs : 0 ≤ l ∧ h < n) : x.toNatClampNeg < n := by
  have e2 : x.toNatClampNeg = x.toInt.toNat := rfl
  have := hx.1; have := hx.2; omega
end
section
-- z_J6_bitCount_0f7a4
set_option maxRecDepth 20000 in
theorem s_z_J6_bitCount_0f7a4_0 {x0 : Int32} {post : Int32 → Prop} (hx0 : iv (-1) 2147483647 x0) (hpost : ∀ (r : Int32), iv 0 63 r → post r) : q_z_J6_bitCount_0f7a4_0 x0 post := by
  intro w1 ew1
  have hw1 := iv_eq ew1 (iv_sub (l := (-1431655766)) (h := 2147483647) hx0 (iv_andr (l := 0) (h := 1431655765) (iv_lit (l := 1431655765) (h := 1431655765) (by decide)) (by decide)) (by decide))
  intro w2 ew2
  have hw2 := iv_eq ew2 (iv_add (l := 0) (h := 1717986918) (iv_andr (l := 0) (h := 858993459) (iv_lit (l := 858993459) (h := 858993459) (by decide)) (by decide)) (iv_andr (l := 0) (h := 858993459) (iv_lit (l := 858993459) (h := 858993459) (by decide)) (by decide)) (by decide))
  intro w3 ew3
  have hw3 := iv_eq ew3 (iv_andr (l := 0) (h := 252645135) (iv_lit (l := 252645135) (h := 252645135) (by decide)) (by decide))
  intro w4 ew4
  intro w5 ew5
  exact hpost _ (iv_andr (l := 0) (h := 63) (iv_lit (l := 63) (h := 63) (by decide)) (by decide))
-- z_X10_power
set_option maxRecDepth 20000 in
theorem s_z_X10_power_5 {x0 : Int32} {x1 : Int32} {x2 : Int64} {x4 : Int32} {post : Int64 → Prop} (hx0 : iv 0 10 x0) (hx1 : iv (-2147483648) 18 x1) (hx4 : iv 0 18 x4) (hpost : ∀ (r : Int64), post r) : q_z_X10_power_5 x0 x1 x2 x4 post := by
  intro P hP
  have loop : ∀ (n : Nat) (x2 : Int64) (x4 : Int32), (18 - x4.toInt < (n : Int)) → (iv 0 18 x4) → P x2 x4 := by
    intro n
    induction n with
    | zero => intro x2 x4 hm hx4; exact (ms0_up hm hx4).elim
    | succ n ih =>
      intro x2 x4 hm hx4
      apply hP
      refine ⟨fun c1 => ?_, fun c1 => ?_⟩
      · skip
        exact hpost _
      · skip
        intro w2 ew2
        intro w3 ew3
        have hw3 := iv_eq ew3 (iv_add (l := 1) (h := 18) (iv_lta (l := 0) (h := 17) (r_nle c1) hx4 hx1 (by decide)) (iv_lit (l := 1) (h := 1) (by decide)) (by decide))
        exact ih _ _ (ms_up hm (inc_lt ew3 (iv_lta (l := 0) (h := 17) (r_nle c1) hx4 hx1 (by decide)) (by decide))) (iv_w hw3 (by decide))
  exact loop _ _ _ (ms_init_up _ _) hx4
set_option maxRecDepth 20000 in
theorem s_z_X10_power_0 {x0 : Int32} {x1 : Int32} {post : Int64 → Prop} (hx0 : iv 0 10 x0) (hx1 : iv (-2147483648) 18 x1) (hpost : ∀ (r : Int64), post r) : q_z_X10_power_0 x0 x1 post := by
  exact s_z_X10_power_5 hx0 hx1 (iv_w (iv_lit (l := 0) (h := 0) (by decide)) (by decide)) hpost
-- wl_X2_earshot
set_option maxRecDepth 20000 in
theorem s_wl_X2_earshot_60 {P18 : Int32 → Int32 → Prop} {f_dams : Int32} {f_echoes : Int32} {a_echoFrom : Nat → Int32} {a_echoTo : Nat → Int32} {x1 : Int32} {x2 : Int32} {x3 : Int32} {post : Int32 → Prop} (k_f_dams : iv 0 511 f_dams) (k_f_echoes : iv 1 4 f_echoes) (k_a_echoFrom : ∀ j, iv 0 8 (a_echoFrom j)) (k_a_echoTo : ∀ j, iv 0 8 (a_echoTo j)) (hx1 : iv 0 8 x1) (hx2 : iv 0 511 x2) (hx3 : iv 0 3 x3) (m18 : Int) (hm18 : m18 ≤ x3.toInt) (hP18 : ∀ (x2 : Int32) (x3 : Int32), m18 < x3.toInt → iv 0 511 x2 → iv 0 4 x3 → P18 x2 x3) (hpost : ∀ (r : Int32), iv 0 511 r → post r) : q_wl_X2_earshot_60 P18 f_dams f_echoes a_echoFrom a_echoTo x1 x2 x3 post := by
  intro w1 ew1
  have hw1 := iv_eq ew1 (iv_add (l := 1) (h := 4) hx3 (iv_lit (l := 1) (h := 1) (by decide)) (by decide))
  exact hP18 _ _ (ml_up hm18 (inc_lt ew1 hx3 (by decide))) hx2 (iv_w hw1 (by decide))
set_option maxRecDepth 20000 in
theorem s_wl_X2_earshot_18 {f_dams : Int32} {f_echoes : Int32} {a_echoFrom : Nat → Int32} {a_echoTo : Nat → Int32} {x1 : Int32} {x2 : Int32} {x3 : Int32} {post : Int32 → Prop} (k_f_dams : iv 0 511 f_dams) (k_f_echoes : iv 0 4 f_echoes) (k_a_echoFrom : ∀ j, iv 0 8 (a_echoFrom j)) (k_a_echoTo : ∀ j, iv 0 8 (a_echoTo j)) (hx1 : iv 0 8 x1) (hx2 : iv 0 511 x2) (hx3 : iv 0 4 x3) (hpost : ∀ (r : Int32), iv 0 511 r → post r) : q_wl_X2_earshot_18 f_dams f_echoes a_echoFrom a_echoTo x1 x2 x3 post := by
  intro P hP
  have loop : ∀ (n : Nat) (x2 : Int32) (x3 : Int32), (4 - x3.toInt < (n : Int)) → (iv 0 511 x2) → (iv 0 4 x3) → P x2 x3 := by
    intro n
    induction n with
    | zero => intro x2 x3 hm hx2 hx3; exact (ms0_up hm hx3).elim
    | succ n ih =>
      intro x2 x3 hm hx2 hx3
      apply hP
      refine ⟨fun c1 => ?_, fun c1 => ?_⟩
      · skip
        exact hpost _ hx2
      · skip
        refine ⟨iv_in (iv_lta (l := 0) (h := 3) (r_nle c1) hx3 k_f_echoes (by decide)) (by decide), ?_⟩
        refine ⟨fun c2 => ?_, fun c2 => ?_⟩
        · skip
          exact s_wl_X2_earshot_60 k_f_dams (iv_ltb (l := 1) (h := 4) (r_nle c1) hx3 k_f_echoes (by decide)) k_a_echoFrom k_a_echoTo hx1 hx2 (iv_lta (l := 0) (h := 3) (r_nle c1) hx3 k_f_echoes (by decide)) x3.toInt (Int.le_refl _) (fun u0 u1 hq g0 g1 => ih u0 u1 (ms_up hm hq) g0 g1) hpost
        · skip
          refine ⟨iv_in (iv_lta (l := 0) (h := 3) (r_nle c1) hx3 k_f_echoes (by decide)) (by decide), ?_⟩
          refine ⟨fun c3 => ?_, fun c3 => ?_⟩
          · skip
            refine ⟨fun c4 => ?_, fun c4 => ?_⟩
            · skip
              exact (iv_emp (iv_ne (l := 1) (h := 0) c4 (iv_lit (l := 0) (h := 0) (by decide)) (iv_lit (l := 0) (h := 0) (by decide)) (by decide)) (by decide)).elim
            · skip
              refine ⟨iv_in (iv_lta (l := 0) (h := 3) (r_nle c1) hx3 k_f_echoes (by decide)) (by decide), ?_⟩
              intro w5 ew5
              have hw5 := iv_eq ew5 (iv_or 9 (l := 0) (h := 511) hx2 (iv_shl1 (l := 1) (h := 256) (iv_lit (l := 1) (h := 1) (by decide)) (k_a_echoTo _) (by decide)) (by decide))
              exact s_wl_X2_earshot_60 k_f_dams (iv_ltb (l := 1) (h := 4) (r_nle c1) hx3 k_f_echoes (by decide)) k_a_echoFrom k_a_echoTo hx1 hw5 (iv_lta (l := 0) (h := 3) (r_nle c1) hx3 k_f_echoes (by decide)) x3.toInt (Int.le_refl _) (fun u0 u1 hq g0 g1 => ih u0 u1 (ms_up hm hq) g0 g1) hpost
          · skip
            refine ⟨fun c6 => ?_, fun c6 => ?_⟩
            · skip
              exact s_wl_X2_earshot_60 k_f_dams (iv_ltb (l := 1) (h := 4) (r_nle c1) hx3 k_f_echoes (by decide)) k_a_echoFrom k_a_echoTo hx1 hx2 (iv_lta (l := 0) (h := 3) (r_nle c1) hx3 k_f_echoes (by decide)) x3.toInt (Int.le_refl _) (fun u0 u1 hq g0 g1 => ih u0 u1 (ms_up hm hq) g0 g1) hpost
            · skip
              exact (iv_emp (iv_eqa (l := 1) (h := 0) c6 (iv_lit (l := 1) (h := 1) (by decide)) (iv_lit (l := 0) (h := 0) (by decide)) (by decide)) (by decide)).elim
  exact loop _ _ _ (ms_init_up _ _) hx2 hx3
set_option maxRecDepth 20000 in
theorem s_wl_X2_earshot_15 {f_dams : Int32} {f_echoes : Int32} {a_echoFrom : Nat → Int32} {a_echoTo : Nat → Int32} {x1 : Int32} {y0 : Int32} {post : Int32 → Prop} (k_f_dams : iv 0 511 f_dams) (k_f_echoes : iv 0 4 f_echoes) (k_a_echoFrom : ∀ j, iv 0 8 (a_echoFrom j)) (k_a_echoTo : ∀ j, iv 0 8 (a_echoTo j)) (hx1 : iv 0 8 x1) (hy0 : iv 0 256 y0) (hpost : ∀ (r : Int32), iv 0 511 r → post r) : q_wl_X2_earshot_15 f_dams f_echoes a_echoFrom a_echoTo x1 y0 post := by
  exact s_wl_X2_earshot_18 k_f_dams k_f_echoes k_a_echoFrom k_a_echoTo hx1 (iv_w hy0 (by decide)) (iv_w (iv_lit (l := 0) (h := 0) (by decide)) (by decide)) hpost
set_option maxRecDepth 20000 in
theorem s_wl_X2_earshot_0 {f_dams : Int32} {f_echoes : Int32} {a_echoFrom : Nat → Int32} {a_echoTo : Nat → Int32} {x1 : Int32} {post : Int32 → Prop} (k_f_dams : iv 0 511 f_dams) (k_f_echoes : iv 0 4 f_echoes) (k_a_echoFrom : ∀ j, iv 0 8 (a_echoFrom j)) (k_a_echoTo : ∀ j, iv 0 8 (a_echoTo j)) (hx1 : iv 0 8 x1) (hpost : ∀ (r : Int32), iv 0 511 r → post r) : q_wl_X2_earshot_0 f_dams f_echoes a_echoFrom a_echoTo x1 post := by
  refine ⟨fun c1 => ?_, fun c1 => ?_⟩
  · skip
    refine ⟨fun c2 => ?_, fun c2 => ?_⟩
    · skip
      exact s_wl_X2_earshot_15 k_f_dams k_f_echoes k_a_echoFrom k_a_echoTo hx1 (iv_w (iv_shl1 (l := 1) (h := 256) (iv_lit (l := 1) (h := 1) (by decide)) hx1 (by decide)) (by decide)) hpost
    · skip
      exact (iv_emp (iv_ne (l := 1) (h := 0) c2 (iv_lit (l := 0) (h := 0) (by decide)) (iv_lit (l := 0) (h := 0) (by decide)) (by decide)) (by decide)).elim
  · skip
    refine ⟨fun c3 => ?_, fun c3 => ?_⟩
    · skip
      exact (iv_emp (iv_eqa (l := 1) (h := 0) c3 (iv_lit (l := 1) (h := 1) (by decide)) (iv_lit (l := 0) (h := 0) (by decide)) (by decide)) (by decide)).elim
    · skip
      exact s_wl_X2_earshot_15 k_f_dams k_f_echoes k_a_echoFrom k_a_echoTo hx1 (iv_w (iv_lit (l := 0) (h := 0) (by decide)) (by decide)) hpost
-- wl_X2_highest
set_option maxRecDepth 20000 in
theorem s_wl_X2_highest_42 {P4 : Int32 → Int32 → Prop} {f_huts : Int32} {a_heights : Nat → Int32} {x1 : Int32} {x2 : Int32} {x3 : Int32} {post : Int32 → Prop} (k_f_huts : iv 1 9 f_huts) (k_a_heights : ∀ j, iv 0 99 (a_heights j)) (hx1 : iv 1 511 x1) (hx2 : iv (-1) 8 x2) (hx3 : iv 0 8 x3) (m4 : Int) (hm4 : m4 ≤ x3.toInt) (hP4 : ∀ (x2 : Int32) (x3 : Int32), m4 < x3.toInt → iv (-1) 8 x2 → iv 0 9 x3 → P4 x2 x3) (hpost : ∀ (r : Int32), iv (-1) 8 r → post r) : q_wl_X2_highest_42 P4 f_huts a_heights x1 x2 x3 post := by
  intro w1 ew1
  have hw1 := iv_eq ew1 (iv_add (l := 1) (h := 9) hx3 (iv_lit (l := 1) (h := 1) (by decide)) (by decide))
  exact hP4 _ _ (ml_up hm4 (inc_lt ew1 hx3 (by decide))) hx2 (iv_w hw1 (by decide))
set_option maxRecDepth 20000 in
theorem s_wl_X2_highest_40 {P4 : Int32 → Int32 → Prop} {f_huts : Int32} {a_heights : Nat → Int32} {x1 : Int32} {x3 : Int32} {post : Int32 → Prop} (k_f_huts : iv 1 9 f_huts) (k_a_heights : ∀ j, iv 0 99 (a_heights j)) (hx1 : iv 1 511 x1) (hx3 : iv 0 8 x3) (m4 : Int) (hm4 : m4 ≤ x3.toInt) (hP4 : ∀ (x2 : Int32) (x3 : Int32), m4 < x3.toInt → iv (-1) 8 x2 → iv 0 9 x3 → P4 x2 x3) (hpost : ∀ (r : Int32), iv (-1) 8 r → post r) : q_wl_X2_highest_40 P4 f_huts a_heights x1 x3 post := by
  exact s_wl_X2_highest_42 k_f_huts k_a_heights hx1 (iv_w hx3 (by decide)) hx3 m4 hm4 hP4 hpost
set_option maxRecDepth 20000 in
theorem s_wl_X2_highest_4 {f_huts : Int32} {a_heights : Nat → Int32} {x1 : Int32} {x2 : Int32} {x3 : Int32} {post : Int32 → Prop} (k_f_huts : iv 1 9 f_huts) (k_a_heights : ∀ j, iv 0 99 (a_heights j)) (hx1 : iv 1 511 x1) (hx2 : iv (-1) 8 x2) (hx3 : iv 0 9 x3) (hpost : ∀ (r : Int32), iv (-1) 8 r → post r) : q_wl_X2_highest_4 f_huts a_heights x1 x2 x3 post := by
  intro P hP
  have loop : ∀ (n : Nat) (x2 : Int32) (x3 : Int32), (9 - x3.toInt < (n : Int)) → (iv (-1) 8 x2) → (iv 0 9 x3) → P x2 x3 := by
    intro n
    induction n with
    | zero => intro x2 x3 hm hx2 hx3; exact (ms0_up hm hx3).elim
    | succ n ih =>
      intro x2 x3 hm hx2 hx3
      apply hP
      refine ⟨fun c1 => ?_, fun c1 => ?_⟩
      · skip
        exact hpost _ hx2
      · skip
        refine ⟨fun c2 => ?_, fun c2 => ?_⟩
        · skip
          refine ⟨fun c3 => ?_, fun c3 => ?_⟩
          · skip
            exact s_wl_X2_highest_42 k_f_huts k_a_heights hx1 hx2 (iv_lta (l := 0) (h := 8) (r_nle c1) hx3 k_f_huts (by decide)) x3.toInt (Int.le_refl _) (fun u0 u1 hq g0 g1 => ih u0 u1 (ms_up hm hq) g0 g1) hpost
          · skip
            exact (iv_emp (iv_ne (l := 1) (h := 0) c3 (iv_lit (l := 0) (h := 0) (by decide)) (iv_lit (l := 0) (h := 0) (by decide)) (by decide)) (by decide)).elim
        · skip
          refine ⟨fun c4 => ?_, fun c4 => ?_⟩
          · skip
            exact (iv_emp (iv_eqa (l := 1) (h := 0) c4 (iv_lit (l := 1) (h := 1) (by decide)) (iv_lit (l := 0) (h := 0) (by decide)) (by decide)) (by decide)).elim
          · skip
            refine ⟨fun c5 => ?_, fun c5 => ?_⟩
            · skip
              exact s_wl_X2_highest_40 k_f_huts k_a_heights hx1 (iv_lta (l := 0) (h := 8) (r_nle c1) hx3 k_f_huts (by decide)) x3.toInt (Int.le_refl _) (fun u0 u1 hq g0 g1 => ih u0 u1 (ms_up hm hq) g0 g1) hpost
            · skip
              refine ⟨iv_in (iv_lta (l := 0) (h := 8) (r_nle c1) hx3 k_f_huts (by decide)) (by decide), ?_⟩
              refine ⟨iv_in (iv_ne (l := 0) (h := 8) c5 hx2 (iv_lit (l := (-1)) (h := (-1)) (by decide)) (by decide)) (by decide), ?_⟩
              refine ⟨fun c6 => ?_, fun c6 => ?_⟩
              · skip
                exact s_wl_X2_highest_42 k_f_huts k_a_heights hx1 (iv_w (iv_ne (l := 0) (h := 8) c5 hx2 (iv_lit (l := (-1)) (h := (-1)) (by decide)) (by decide)) (by decide)) (iv_lta (l := 0) (h := 8) (r_nle c1) hx3 k_f_huts (by decide)) x3.toInt (Int.le_refl _) (fun u0 u1 hq g0 g1 => ih u0 u1 (ms_up hm hq) g0 g1) hpost
              · skip
                exact s_wl_X2_highest_40 k_f_huts k_a_heights hx1 (iv_lta (l := 0) (h := 8) (r_nle c1) hx3 k_f_huts (by decide)) x3.toInt (Int.le_refl _) (fun u0 u1 hq g0 g1 => ih u0 u1 (ms_up hm hq) g0 g1) hpost
  exact loop _ _ _ (ms_init_up _ _) hx2 hx3
set_option maxRecDepth 20000 in
theorem s_wl_X2_highest_0 {f_huts : Int32} {a_heights : Nat → Int32} {x1 : Int32} {post : Int32 → Prop} (k_f_huts : iv 1 9 f_huts) (k_a_heights : ∀ j, iv 0 99 (a_heights j)) (hx1 : iv 1 511 x1) (hpost : ∀ (r : Int32), iv (-1) 8 r → post r) : q_wl_X2_highest_0 f_huts a_heights x1 post := by
  exact s_wl_X2_highest_4 k_f_huts k_a_heights hx1 (iv_w (iv_lit (l := (-1)) (h := (-1)) (by decide)) (by decide)) (iv_w (iv_lit (l := 0) (h := 0) (by decide)) (by decide)) hpost
-- wl_X2_look
set_option maxRecDepth 20000 in
theorem s_wl_X2_look_0 {f_huts : Int32} {f_singers : Int32} {f_villages : Int32} {f_dams : Int32} {f_echoes : Int32} {f_deep : Int32} {f_slide : Int32} {a_heights : Nat → Int32} {a_ladders : Nat → Int32} {a_minutes : Nat → Int32} {a_homes : Nat → Int32} {a_talls : Nat → Int32} {a_known : Nat → Int32} {x1 : Int32} {post : Int32 → Prop} (k_f_huts : iv 0 9 f_huts) (k_f_singers : iv 0 6 f_singers) (k_f_villages : iv 0 511 f_villages) (k_f_dams : iv 0 511 f_dams) (k_f_echoes : iv 0 4 f_echoes) (k_f_deep : iv 1 9 f_deep) (k_f_slide : iv 0 10 f_slide) (k_a_heights : ∀ j, iv 0 99 (a_heights j)) (k_a_ladders : ∀ j, iv 0 9 (a_ladders j)) (k_a_minutes : ∀ j, iv 0 9 (a_minutes j)) (k_a_homes : ∀ j, iv 0 8 (a_homes j)) (k_a_talls : ∀ j, iv 0 9 (a_talls j)) (k_a_known : ∀ j, iv 0 31 (a_known j)) (hpost : ∀ (r : Int32), iv (-1) 511 r → post r) : q_wl_X2_look_0 f_huts f_singers f_villages f_dams f_echoes f_deep f_slide a_heights a_ladders a_minutes a_homes a_talls a_known x1 post := by
  refine ⟨fun c1 => ?_, fun c1 => ?_⟩
  · skip
    exact hpost _ (iv_w (iv_lit (l := (-1)) (h := (-1)) (by decide)) (by decide))
  · skip
    refine ⟨fun c2 => ?_, fun c2 => ?_⟩
    · skip
      refine ⟨fun c3 => ?_, fun c3 => ?_⟩
      · skip
        refine ⟨fun c4 => ?_, fun c4 => ?_⟩
        · skip
          intro w5 ew5
          have hw5 := iv_eq ew5 (iv_rem (l := 0) (h := 9) (iv_leb (l := 10) (h := 59) (r_le c4) (iv_lit (l := 10) (h := 10) (by decide)) (iv_lta (l := 0) (h := 59) (r_lt c3) (iv_lta (l := 0) (h := 140) (r_lt c2) (iv_leb (l := 0) (h := 2147483647) (r_nlt c1) (iv_lit (l := 0) (h := 0) (by decide)) (iv_top x1) (by decide)) (iv_lit (l := 141) (h := 141) (by decide)) (by decide)) (iv_lit (l := 60) (h := 60) (by decide)) (by decide)) (by decide)) (iv_lit (l := 10) (h := 10) (by decide)) (by decide))
          refine ⟨fun c6 => ?_, fun c6 => ?_⟩
          · skip
            refine ⟨fun c7 => ?_, fun c7 => ?_⟩
            · skip
              exact (iv_emp (iv_lta (l := 0) (h := (-1)) (r_lt c7) hw5 (iv_lit (l := 0) (h := 0) (by decide)) (by decide)) (by decide)).elim
            · skip
              refine ⟨fun c8 => ?_, fun c8 => ?_⟩
              · skip
                refine ⟨fun c9 => ?_, fun c9 => ?_⟩
                · skip
                  exact (iv_emp (iv_ne (l := 1) (h := 0) c9 (iv_lit (l := 0) (h := 0) (by decide)) (iv_lit (l := 0) (h := 0) (by decide)) (by decide)) (by decide)).elim
                · skip
                  exact hpost _ (iv_w (iv_lit (l := (-1)) (h := (-1)) (by decide)) (by decide))
              · skip
                refine ⟨fun c10 => ?_, fun c10 => ?_⟩
                · skip
                  refine ⟨fun c11 => ?_, fun c11 => ?_⟩
                  · skip
                    refine ⟨fun c12 => ?_, fun c12 => ?_⟩
                    · skip
                      refine ⟨iv_in (iv_lta (l := 0) (h := 5) (r_nle c8) hw5 k_f_singers (by decide)) (by decide), ?_⟩
                      exact hpost _ (iv_w (k_a_known _) (by decide))
                    · skip
                      refine ⟨iv_in (iv_lta (l := 0) (h := 5) (r_nle c8) hw5 k_f_singers (by decide)) (by decide), ?_⟩
                      exact hpost _ (iv_w (k_a_talls _) (by decide))
                  · skip
                    refine ⟨iv_in (iv_lta (l := 0) (h := 5) (r_nle c8) hw5 k_f_singers (by decide)) (by decide), ?_⟩
                    exact hpost _ (iv_w (k_a_homes _) (by decide))
                · skip
                  exact (iv_emp (iv_eqa (l := 1) (h := 0) c10 (iv_lit (l := 1) (h := 1) (by decide)) (iv_lit (l := 0) (h := 0) (by decide)) (by decide)) (by decide)).elim
          · skip
            refine ⟨fun c13 => ?_, fun c13 => ?_⟩
            · skip
              exact (iv_emp (iv_lta (l := 0) (h := (-1)) (r_lt c13) hw5 (iv_lit (l := 0) (h := 0) (by decide)) (by decide)) (by decide)).elim
            · skip
              refine ⟨fun c14 => ?_, fun c14 => ?_⟩
              · skip
                refine ⟨fun c15 => ?_, fun c15 => ?_⟩
                · skip
                  exact (iv_emp (iv_ne (l := 1) (h := 0) c15 (iv_lit (l := 0) (h := 0) (by decide)) (iv_lit (l := 0) (h := 0) (by decide)) (by decide)) (by decide)).elim
                · skip
                  exact hpost _ (iv_w (iv_lit (l := (-1)) (h := (-1)) (by decide)) (by decide))
              · skip
                refine ⟨fun c16 => ?_, fun c16 => ?_⟩
                · skip
                  refine ⟨fun c17 => ?_, fun c17 => ?_⟩
                  · skip
                    refine ⟨iv_in (iv_lta (l := 0) (h := 8) (r_nle c14) hw5 k_f_huts (by decide)) (by decide), ?_⟩
                    exact hpost _ (iv_w (k_a_ladders _) (by decide))
                  · skip
                    refine ⟨iv_in (iv_lta (l := 0) (h := 8) (r_nle c14) hw5 k_f_huts (by decide)) (by decide), ?_⟩
                    exact hpost _ (iv_w (k_a_heights _) (by decide))
                · skip
                  exact (iv_emp (iv_eqa (l := 1) (h := 0) c16 (iv_lit (l := 1) (h := 1) (by decide)) (iv_lit (l := 0) (h := 0) (by decide)) (by decide)) (by decide)).elim
        · skip
          refine ⟨fun c18 => ?_, fun c18 => ?_, fun c18 => ?_, fun c18 => ?_, fun c18 => ?_, fun c18 => ?_, fun c18 => ?_, fun c18 => ?_⟩
          · skip
            exact hpost _ (iv_w (iv_lit (l := (-1)) (h := (-1)) (by decide)) (by decide))
          · skip
            exact hpost _ (iv_w k_f_huts (by decide))
          · skip
            exact hpost _ (iv_w k_f_singers (by decide))
          · skip
            exact hpost _ (iv_w k_f_villages (by decide))
          · skip
            exact hpost _ (iv_w k_f_dams (by decide))
          · skip
            exact hpost _ (iv_w k_f_echoes (by decide))
          · skip
            exact hpost _ (iv_w k_f_deep (by decide))
          · skip
            exact hpost _ (iv_w k_f_slide (by decide))
      · skip
        intro w19 ew19
        have hw19 := iv_eq ew19 (iv_div (l := 0) (h := 8) (iv_sub (l := 0) (h := 80) (iv_leb (l := 60) (h := 140) (r_nlt c3) (iv_lit (l := 60) (h := 60) (by decide)) (iv_lta (l := 0) (h := 140) (r_lt c2) (iv_leb (l := 0) (h := 2147483647) (r_nlt c1) (iv_lit (l := 0) (h := 0) (by decide)) (iv_top x1) (by decide)) (iv_lit (l := 141) (h := 141) (by decide)) (by decide)) (by decide)) (iv_lit (l := 60) (h := 60) (by decide)) (by decide)) (iv_lit (l := 9) (h := 9) (by decide)) (by decide))
        intro w20 ew20
        have hw20 := iv_eq ew20 (iv_rem (l := 0) (h := 8) (iv_sub (l := 0) (h := 80) (iv_leb (l := 60) (h := 140) (r_nlt c3) (iv_lit (l := 60) (h := 60) (by decide)) (iv_lta (l := 0) (h := 140) (r_lt c2) (iv_leb (l := 0) (h := 2147483647) (r_nlt c1) (iv_lit (l := 0) (h := 0) (by decide)) (iv_top x1) (by decide)) (iv_lit (l := 141) (h := 141) (by decide)) (by decide)) (by decide)) (iv_lit (l := 60) (h := 60) (by decide)) (by decide)) (iv_lit (l := 9) (h := 9) (by decide)) (by decide))
        refine ⟨fun c21 => ?_, fun c21 => ?_⟩
        · skip
          exact (iv_emp (iv_lta (l := 0) (h := (-1)) (r_lt c21) hw19 (iv_lit (l := 0) (h := 0) (by decide)) (by decide)) (by decide)).elim
        · skip
          refine ⟨fun c22 => ?_, fun c22 => ?_⟩
          · skip
            refine ⟨fun c23 => ?_, fun c23 => ?_⟩
            · skip
              exact hpost _ (iv_w (iv_lit (l := (-1)) (h := (-1)) (by decide)) (by decide))
            · skip
              exact (iv_emp (iv_ne (l := 1) (h := 0) c23 (iv_lit (l := 0) (h := 0) (by decide)) (iv_lit (l := 0) (h := 0) (by decide)) (by decide)) (by decide)).elim
          · skip
            refine ⟨fun c24 => ?_, fun c24 => ?_⟩
            · skip
              exact (iv_emp (iv_eqa (l := 1) (h := 0) c24 (iv_lit (l := 1) (h := 1) (by decide)) (iv_lit (l := 0) (h := 0) (by decide)) (by decide)) (by decide)).elim
            · skip
              refine ⟨fun c25 => ?_, fun c25 => ?_⟩
              · skip
                exact (iv_emp (iv_lta (l := 0) (h := (-1)) (r_lt c25) hw20 (iv_lit (l := 0) (h := 0) (by decide)) (by decide)) (by decide)).elim
              · skip
                refine ⟨fun c26 => ?_, fun c26 => ?_⟩
                · skip
                  refine ⟨fun c27 => ?_, fun c27 => ?_⟩
                  · skip
                    exact hpost _ (iv_w (iv_lit (l := (-1)) (h := (-1)) (by decide)) (by decide))
                  · skip
                    exact (iv_emp (iv_ne (l := 1) (h := 0) c27 (iv_lit (l := 0) (h := 0) (by decide)) (iv_lit (l := 0) (h := 0) (by decide)) (by decide)) (by decide)).elim
                · skip
                  refine ⟨fun c28 => ?_, fun c28 => ?_⟩
                  · skip
                    exact (iv_emp (iv_eqa (l := 1) (h := 0) c28 (iv_lit (l := 1) (h := 1) (by decide)) (iv_lit (l := 0) (h := 0) (by decide)) (by decide)) (by decide)).elim
                  · skip
                    refine ⟨iv_in (iv_add (l := 0) (h := 80) (iv_mul (l := 0) (h := 72) hw19 (iv_lit (l := 9) (h := 9) (by decide)) (by decide)) hw20 (by decide)) (by decide), ?_⟩
                    exact hpost _ (iv_w (k_a_minutes _) (by decide))
    · skip
      exact hpost _ (iv_w (iv_lit (l := (-1)) (h := (-1)) (by decide)) (by decide))
-- ws_X6_staysWithin
set_option maxRecDepth 20000 in
theorem s_ws_X6_staysWithin_2 {f_facts : Int32} {a_huts : Nat → Int32} {x1 : Int32} {x2 : Int32} {post : Int32 → Prop} (k_f_facts : iv 0 10 f_facts) (k_a_huts : ∀ j, iv 0 8 (a_huts j)) (hx1 : iv 0 9 x1) (hx2 : iv 0 10 x2) (hpost : ∀ (r : Int32), iv 0 1 r → post r) : q_ws_X6_staysWithin_2 f_facts a_huts x1 x2 post := by
  intro P hP
  have loop : ∀ (n : Nat) (x2 : Int32), (10 - x2.toInt < (n : Int)) → (iv 0 10 x2) → P x2 := by
    intro n
    induction n with
    | zero => intro x2 hm hx2; exact (ms0_up hm hx2).elim
    | succ n ih =>
      intro x2 hm hx2
      apply hP
      refine ⟨fun c1 => ?_, fun c1 => ?_⟩
      · skip
        exact hpost _ (iv_w (iv_lit (l := 1) (h := 1) (by decide)) (by decide))
      · skip
        refine ⟨iv_in (iv_lta (l := 0) (h := 9) (r_nle c1) hx2 k_f_facts (by decide)) (by decide), ?_⟩
        refine ⟨fun c2 => ?_, fun c2 => ?_⟩
        · skip
          intro w3 ew3
          have hw3 := iv_eq ew3 (iv_add (l := 1) (h := 10) (iv_lta (l := 0) (h := 9) (r_nle c1) hx2 k_f_facts (by decide)) (iv_lit (l := 1) (h := 1) (by decide)) (by decide))
          exact ih _ (ms_up hm (inc_lt ew3 (iv_lta (l := 0) (h := 9) (r_nle c1) hx2 k_f_facts (by decide)) (by decide))) (iv_w hw3 (by decide))
        · skip
          exact hpost _ (iv_w (iv_lit (l := 0) (h := 0) (by decide)) (by decide))
  exact loop _ _ (ms_init_up _ _) hx2
set_option maxRecDepth 20000 in
theorem s_ws_X6_staysWithin_0 {f_facts : Int32} {a_huts : Nat → Int32} {x1 : Int32} {post : Int32 → Prop} (k_f_facts : iv 0 10 f_facts) (k_a_huts : ∀ j, iv 0 8 (a_huts j)) (hx1 : iv 0 9 x1) (hpost : ∀ (r : Int32), iv 0 1 r → post r) : q_ws_X6_staysWithin_0 f_facts a_huts x1 post := by
  exact s_ws_X6_staysWithin_2 k_f_facts k_a_huts hx1 (iv_w (iv_lit (l := 0) (h := 0) (by decide)) (by decide)) hpost
-- wc_X0_longestFall
set_option maxRecDepth 20000 in
theorem s_wc_X0_longestFall_42 {P6 : Int32 → Int32 → Int32 → Prop} {f_voices : Int32} {a_heights : Nat → Int32} {x1 : Int32} {x3 : Int32} {y0 : Int32} {post : Int32 → Prop} (k_f_voices : iv 1 9 f_voices) (k_a_heights : ∀ j, iv 0 9 (a_heights j)) (hx1 : iv 0 2147483647 x1) (hx3 : iv 0 8 x3) (m6 : Int) (hm6 : m6 ≤ x3.toInt) (hP6 : ∀ (x1 : Int32) (x2 : Int32) (x3 : Int32), m6 < x3.toInt → iv 0 2147483647 x1 → iv 0 9 x3 → P6 x1 x2 x3) (hpost : ∀ (r : Int32), iv 0 2147483647 r → post r) : q_wc_X0_longestFall_42 P6 f_voices a_heights x1 x3 y0 post := by
  intro w1 ew1
  have hw1 := iv_eq ew1 (iv_max (l := 0) (h := 2147483647) hx1 (iv_top y0) (by decide))
  intro w2 ew2
  have hw2 := iv_eq ew2 (iv_add (l := 1) (h := 9) hx3 (iv_lit (l := 1) (h := 1) (by decide)) (by decide))
  exact hP6 _ _ _ (ml_up hm6 (inc_lt ew2 hx3 (by decide))) hw1 (iv_w hw2 (by decide))
set_option maxRecDepth 20000 in
theorem s_wc_X0_longestFall_41 {P6 : Int32 → Int32 → Int32 → Prop} {f_voices : Int32} {a_heights : Nat → Int32} {x1 : Int32} {x3 : Int32} {post : Int32 → Prop} (k_f_voices : iv 1 9 f_voices) (k_a_heights : ∀ j, iv 0 9 (a_heights j)) (hx1 : iv 0 2147483647 x1) (hx3 : iv 0 8 x3) (m6 : Int) (hm6 : m6 ≤ x3.toInt) (hP6 : ∀ (x1 : Int32) (x2 : Int32) (x3 : Int32), m6 < x3.toInt → iv 0 2147483647 x1 → iv 0 9 x3 → P6 x1 x2 x3) (hpost : ∀ (r : Int32), iv 0 2147483647 r → post r) : q_wc_X0_longestFall_41 P6 f_voices a_heights x1 x3 post := by
  exact s_wc_X0_longestFall_42 k_f_voices k_a_heights hx1 hx3 m6 hm6 hP6 hpost
set_option maxRecDepth 20000 in
theorem s_wc_X0_longestFall_6 {f_voices : Int32} {a_heights : Nat → Int32} {x1 : Int32} {x2 : Int32} {x3 : Int32} {post : Int32 → Prop} (k_f_voices : iv 0 9 f_voices) (k_a_heights : ∀ j, iv 0 9 (a_heights j)) (hx1 : iv 0 2147483647 x1) (hx3 : iv 0 9 x3) (hpost : ∀ (r : Int32), iv 0 2147483647 r → post r) : q_wc_X0_longestFall_6 f_voices a_heights x1 x2 x3 post := by
  intro P hP
  have loop : ∀ (n : Nat) (x1 : Int32) (x2 : Int32) (x3 : Int32), (9 - x3.toInt < (n : Int)) → (iv 0 2147483647 x1) → (iv 0 9 x3) → P x1 x2 x3 := by
    intro n
    induction n with
    | zero => intro x1 x2 x3 hm hx1 hx3; exact (ms0_up hm hx3).elim
    | succ n ih =>
      intro x1 x2 x3 hm hx1 hx3
      apply hP
      refine ⟨fun c1 => ?_, fun c1 => ?_⟩
      · skip
        exact hpost _ hx1
      · skip
        refine ⟨fun c2 => ?_, fun c2 => ?_⟩
        · skip
          exact s_wc_X0_longestFall_41 (iv_ltb (l := 1) (h := 9) (r_nle c1) hx3 k_f_voices (by decide)) k_a_heights hx1 (iv_w (iv_lea (l := 0) (h := 0) (r_le c2) (iv_lta (l := 0) (h := 8) (r_nle c1) hx3 k_f_voices (by decide)) (iv_lit (l := 0) (h := 0) (by decide)) (by decide)) (by decide)) x3.toInt (Int.le_refl _) (fun u0 u1 u2 hq g0 g1 => ih u0 u1 u2 (ms_up hm hq) g0 g1) hpost
        · skip
          refine ⟨iv_in (iv_ltb (l := 1) (h := 8) (r_nle c2) (iv_lit (l := 0) (h := 0) (by decide)) (iv_lta (l := 0) (h := 8) (r_nle c1) hx3 k_f_voices (by decide)) (by decide)) (by decide), ?_⟩
          refine ⟨iv_in (iv_sub (l := 0) (h := 7) (iv_ltb (l := 1) (h := 8) (r_nle c2) (iv_lit (l := 0) (h := 0) (by decide)) (iv_lta (l := 0) (h := 8) (r_nle c1) hx3 k_f_voices (by decide)) (by decide)) (iv_lit (l := 1) (h := 1) (by decide)) (by decide)) (by decide), ?_⟩
          refine ⟨fun c3 => ?_, fun c3 => ?_⟩
          · skip
            exact s_wc_X0_longestFall_41 (iv_ltb (l := 1) (h := 9) (r_nle c1) hx3 k_f_voices (by decide)) k_a_heights hx1 (iv_w (iv_ltb (l := 1) (h := 8) (r_nle c2) (iv_lit (l := 0) (h := 0) (by decide)) (iv_lta (l := 0) (h := 8) (r_nle c1) hx3 k_f_voices (by decide)) (by decide)) (by decide)) x3.toInt (Int.le_refl _) (fun u0 u1 u2 hq g0 g1 => ih u0 u1 u2 (ms_up hm hq) g0 g1) hpost
          · skip
            exact s_wc_X0_longestFall_42 (iv_ltb (l := 1) (h := 9) (r_nle c1) hx3 k_f_voices (by decide)) k_a_heights hx1 (iv_w (iv_ltb (l := 1) (h := 8) (r_nle c2) (iv_lit (l := 0) (h := 0) (by decide)) (iv_lta (l := 0) (h := 8) (r_nle c1) hx3 k_f_voices (by decide)) (by decide)) (by decide)) x3.toInt (Int.le_refl _) (fun u0 u1 u2 hq g0 g1 => ih u0 u1 u2 (ms_up hm hq) g0 g1) hpost
  exact loop _ _ _ _ (ms_init_up _ _) hx1 hx3
set_option maxRecDepth 20000 in
theorem s_wc_X0_longestFall_0 {f_voices : Int32} {a_heights : Nat → Int32} {post : Int32 → Prop} (k_f_voices : iv 0 9 f_voices) (k_a_heights : ∀ j, iv 0 9 (a_heights j)) (hpost : ∀ (r : Int32), iv 0 2147483647 r → post r) : q_wc_X0_longestFall_0 f_voices a_heights post := by
  exact s_wc_X0_longestFall_6 k_f_voices k_a_heights (iv_w (iv_lit (l := 0) (h := 0) (by decide)) (by decide)) (iv_w (iv_lit (l := 0) (h := 0) (by decide)) (by decide)) hpost
-- wc_X0_look
set_option maxRecDepth 20000 in
theorem s_wc_X0_look_56 {f_voices : Int32} {f_step : Int32} {a_parts : Nat → Int32} {a_heights : Nat → Int32} {x1 : Int32} {post : Int32 → Prop} (k_f_voices : iv 0 9 f_voices) (k_f_step : iv 0 9 f_step) (k_a_parts : ∀ j, iv 0 3 (a_parts j)) (k_a_heights : ∀ j, iv 0 9 (a_heights j)) (hpost : ∀ (r : Int32), iv (-1) 2147483647 r → post r) : q_wc_X0_look_56 f_voices f_step a_parts a_heights x1 post := by
  refine ⟨fun c1 => ?_, fun c1 => ?_⟩
  · skip
    exact hpost _ (iv_w (iv_lit (l := (-1)) (h := (-1)) (by decide)) (by decide))
  · skip
    refine ⟨fun c2 => ?_, fun c2 => ?_⟩
    · skip
      exact hpost _ (iv_w (iv_lit (l := (-1)) (h := (-1)) (by decide)) (by decide))
    · skip
      refine ⟨iv_in (iv_sub (l := 0) (h := 8) (iv_lta (l := 20) (h := 28) (r_nle c2) (iv_leb (l := 20) (h := 2147483647) (r_nlt c1) (iv_lit (l := 20) (h := 20) (by decide)) (iv_top x1) (by decide)) (iv_add (l := 20) (h := 29) (iv_lit (l := 20) (h := 20) (by decide)) k_f_voices (by decide)) (by decide)) (iv_lit (l := 20) (h := 20) (by decide)) (by decide)) (by decide), ?_⟩
      exact hpost _ (iv_w (k_a_heights _) (by decide))
set_option maxRecDepth 20000 in
theorem s_wc_X0_look_0 {f_voices : Int32} {f_step : Int32} {a_parts : Nat → Int32} {a_heights : Nat → Int32} {x1 : Int32} {post : Int32 → Prop} (k_f_voices : iv 0 9 f_voices) (k_f_step : iv 0 9 f_step) (k_a_parts : ∀ j, iv 0 3 (a_parts j)) (k_a_heights : ∀ j, iv 0 9 (a_heights j)) (hpost : ∀ (r : Int32), iv (-1) 2147483647 r → post r) : q_wc_X0_look_0 f_voices f_step a_parts a_heights x1 post := by
  refine ⟨fun c1 => ?_, fun c1 => ?_⟩
  · skip
    refine ⟨fun c2 => ?_, fun c2 => ?_⟩
    · skip
      refine ⟨fun c3 => ?_, fun c3 => ?_⟩
      · skip
        refine ⟨fun c4 => ?_, fun c4 => ?_⟩
        · skip
          exact s_wc_X0_look_56 k_f_voices k_f_step k_a_parts k_a_heights hpost
        · skip
          refine ⟨fun c5 => ?_, fun c5 => ?_⟩
          · skip
            exact s_wc_X0_look_56 k_f_voices k_f_step k_a_parts k_a_heights hpost
          · skip
            refine ⟨iv_in (iv_sub (l := 0) (h := 8) (iv_lta (l := 10) (h := 18) (r_nle c5) (iv_leb (l := 10) (h := 2147483647) (r_nlt c4) (iv_lit (l := 10) (h := 10) (by decide)) (iv_top x1) (by decide)) (iv_add (l := 10) (h := 19) (iv_lit (l := 10) (h := 10) (by decide)) k_f_voices (by decide)) (by decide)) (iv_lit (l := 10) (h := 10) (by decide)) (by decide)) (by decide), ?_⟩
            exact hpost _ (iv_w (k_a_parts _) (by decide))
      · skip
        refine s_wc_X0_longestFall_0 k_f_voices k_a_heights (fun r6 hr6 => ?_)
        exact hpost _ (iv_w hr6 (by decide))
    · skip
      exact hpost _ (iv_w k_f_step (by decide))
  · skip
    exact hpost _ (iv_w k_f_voices (by decide))
-- wll_X2_copyFrom_9
set_option maxRecDepth 20000 in
theorem s_wll_X2_copyFrom_9_0 {f_huts : Int32} {f_singers : Int32} {f_villages : Int32} {f_dams : Int32} {f_echoes : Int32} {f_deep : Int32} {f_slide : Int32} {a_heights : Nat → Int32} {a_ladders : Nat → Int32} {a_minutes : Nat → Int32} {a_echoFrom : Nat → Int32} {a_echoTo : Nat → Int32} {a_homes : Nat → Int32} {a_talls : Nat → Int32} {a_known : Nat → Int32} {of_huts : Int32} {of_singers : Int32} {of_villages : Int32} {of_dams : Int32} {of_echoes : Int32} {of_deep : Int32} {of_slide : Int32} {oa_heights : Nat → Int32} {oa_ladders : Nat → Int32} {oa_minutes : Nat → Int32} {oa_echoFrom : Nat → Int32} {oa_echoTo : Nat → Int32} {oa_homes : Nat → Int32} {oa_talls : Nat → Int32} {oa_known : Nat → Int32} {post : (Int32) → (Int32) → (Int32) → (Int32) → (Int32) → (Int32) → (Int32) → (Nat → Int32) → (Nat → Int32) → (Nat → Int32) → (Nat → Int32) → (Nat → Int32) → (Nat → Int32) → (Nat → Int32) → (Nat → Int32) → Prop} (k_f_huts : iv 0 9 f_huts) (k_f_singers : iv 0 6 f_singers) (k_f_villages : iv 0 511 f_villages) (k_f_dams : iv 0 511 f_dams) (k_f_echoes : iv 0 4 f_echoes) (k_f_deep : iv 1 9 f_deep) (k_f_slide : iv 0 10 f_slide) (k_a_heights : ∀ j, iv 0 99 (a_heights j)) (k_a_ladders : ∀ j, iv 0 9 (a_ladders j)) (k_a_minutes : ∀ j, iv 0 9 (a_minutes j)) (k_a_echoFrom : ∀ j, iv 0 8 (a_echoFrom j)) (k_a_echoTo : ∀ j, iv 0 8 (a_echoTo j)) (k_a_homes : ∀ j, iv 0 8 (a_homes j)) (k_a_talls : ∀ j, iv 0 9 (a_talls j)) (k_a_known : ∀ j, iv 0 31 (a_known j)) (k_of_huts : iv 0 9 of_huts) (k_of_singers : iv 0 6 of_singers) (k_of_villages : iv 0 511 of_villages) (k_of_dams : iv 0 511 of_dams) (k_of_echoes : iv 0 4 of_echoes) (k_of_deep : iv 1 9 of_deep) (k_of_slide : iv 0 10 of_slide) (k_oa_heights : ∀ j, iv 0 99 (oa_heights j)) (k_oa_ladders : ∀ j, iv 0 9 (oa_ladders j)) (k_oa_minutes : ∀ j, iv 0 9 (oa_minutes j)) (k_oa_echoFrom : ∀ j, iv 0 8 (oa_echoFrom j)) (k_oa_echoTo : ∀ j, iv 0 8 (oa_echoTo j)) (k_oa_homes : ∀ j, iv 0 8 (oa_homes j)) (k_oa_talls : ∀ j, iv 0 9 (oa_talls j)) (k_oa_known : ∀ j, iv 0 31 (oa_known j)) (hpost : ∀ (f_huts : Int32) (f_singers : Int32) (f_villages : Int32) (f_dams : Int32) (f_echoes : Int32) (f_deep : Int32) (f_slide : Int32) (a_heights : Nat → Int32) (a_ladders : Nat → Int32) (a_minutes : Nat → Int32) (a_echoFrom : Nat → Int32) (a_echoTo : Nat → Int32) (a_homes : Nat → Int32) (a_talls : Nat → Int32) (a_known : Nat → Int32), (iv 0 9 f_huts) → (iv 0 6 f_singers) → (iv 0 511 f_villages) → (iv 0 511 f_dams) → (iv 0 4 f_echoes) → (iv 1 9 f_deep) → (iv 0 10 f_slide) → (∀ j, iv 0 99 (a_heights j)) → (∀ j, iv 0 9 (a_ladders j)) → (∀ j, iv 0 9 (a_minutes j)) → (∀ j, iv 0 8 (a_echoFrom j)) → (∀ j, iv 0 8 (a_echoTo j)) → (∀ j, iv 0 8 (a_homes j)) → (∀ j, iv 0 9 (a_talls j)) → (∀ j, iv 0 31 (a_known j)) → post f_huts f_singers f_villages f_dams f_echoes f_deep f_slide a_heights a_ladders a_minutes a_echoFrom a_echoTo a_homes a_talls a_known) : q_wll_X2_copyFrom_9_0 f_huts f_singers f_villages f_dams f_echoes f_deep f_slide a_heights a_ladders a_minutes a_echoFrom a_echoTo a_homes a_talls a_known of_huts of_singers of_villages of_dams of_echoes of_deep of_slide oa_heights oa_ladders oa_minutes oa_echoFrom oa_echoTo oa_homes oa_talls oa_known post := by
  intro a1 ea1
  have k_a1 := iv_cpy ea1 k_oa_heights k_a_heights
  intro a2 ea2
  have k_a2 := iv_cpy ea2 k_oa_ladders k_a_ladders
  intro a3 ea3
  have k_a3 := iv_cpy ea3 k_oa_minutes k_a_minutes
  intro a4 ea4
  have k_a4 := iv_cpy ea4 k_oa_echoFrom k_a_echoFrom
  intro a5 ea5
  have k_a5 := iv_cpy ea5 k_oa_echoTo k_a_echoTo
  intro a6 ea6
  have k_a6 := iv_cpy ea6 k_oa_homes k_a_homes
  intro a7 ea7
  have k_a7 := iv_cpy ea7 k_oa_talls k_a_talls
  intro a8 ea8
  have k_a8 := iv_cpy ea8 k_oa_known k_a_known
  exact hpost _ _ _ _ _ _ _ _ _ _ _ _ _ _ _ k_of_huts k_of_singers k_of_villages k_of_dams k_of_echoes k_of_deep k_of_slide k_a1 k_a2 k_a3 k_a4 k_a5 k_a6 k_a7 k_a8
-- wvv_X1_copyFrom_4
set_option maxRecDepth 20000 in
theorem s_wvv_X1_copyFrom_4_0 {f_deeds : Int32} {a_kinds : Nat → Int32} {a_firsts : Nat → Int32} {a_seconds : Nat → Int32} {of_deeds : Int32} {oa_kinds : Nat → Int32} {oa_firsts : Nat → Int32} {oa_seconds : Nat → Int32} {post : (Int32) → (Nat → Int32) → (Nat → Int32) → (Nat → Int32) → Prop} (k_f_deeds : iv 0 40 f_deeds) (k_a_kinds : ∀ j, iv 0 5 (a_kinds j)) (k_a_firsts : ∀ j, iv 0 5 (a_firsts j)) (k_a_seconds : ∀ j, iv (-1) 8 (a_seconds j)) (k_of_deeds : iv 0 40 of_deeds) (k_oa_kinds : ∀ j, iv 0 5 (oa_kinds j)) (k_oa_firsts : ∀ j, iv 0 5 (oa_firsts j)) (k_oa_seconds : ∀ j, iv (-1) 8 (oa_seconds j)) (hpost : ∀ (f_deeds : Int32) (a_kinds : Nat → Int32) (a_firsts : Nat → Int32) (a_seconds : Nat → Int32), (iv 0 40 f_deeds) → (∀ j, iv 0 5 (a_kinds j)) → (∀ j, iv 0 5 (a_firsts j)) → (∀ j, iv (-1) 8 (a_seconds j)) → post f_deeds a_kinds a_firsts a_seconds) : q_wvv_X1_copyFrom_4_0 f_deeds a_kinds a_firsts a_seconds of_deeds oa_kinds oa_firsts oa_seconds post := by
  refine ⟨iv_nn k_of_deeds (by decide), ?_⟩
  refine ⟨iv_len (iv_lit (l := 0) (h := 0) (by decide)) k_of_deeds (by decide), ?_⟩
  refine ⟨iv_len (iv_lit (l := 0) (h := 0) (by decide)) k_of_deeds (by decide), ?_⟩
  intro a1 ea1
  have k_a1 := iv_cpy ea1 k_oa_kinds k_a_kinds
  refine ⟨iv_nn k_of_deeds (by decide), ?_⟩
  refine ⟨iv_len (iv_lit (l := 0) (h := 0) (by decide)) k_of_deeds (by decide), ?_⟩
  refine ⟨iv_len (iv_lit (l := 0) (h := 0) (by decide)) k_of_deeds (by decide), ?_⟩
  intro a2 ea2
  have k_a2 := iv_cpy ea2 k_oa_firsts k_a_firsts
  refine ⟨iv_nn k_of_deeds (by decide), ?_⟩
  refine ⟨iv_len (iv_lit (l := 0) (h := 0) (by decide)) k_of_deeds (by decide), ?_⟩
  refine ⟨iv_len (iv_lit (l := 0) (h := 0) (by decide)) k_of_deeds (by decide), ?_⟩
  intro a3 ea3
  have k_a3 := iv_cpy ea3 k_oa_seconds k_a_seconds
  exact hpost _ _ _ _ k_of_deeds k_a1 k_a2 k_a3
end
section
-- wss_X6_copyFrom_4
set_option maxRecDepth 20000 in
theorem s_wss_X6_copyFrom_4_0 {f_facts : Int32} {a_heard : Nat → Int32} {a_huts : Nat → Int32} {a_minutes : Nat → Int32} {of_facts : Int32} {oa_heard : Nat → Int32} {oa_huts : Nat → Int32} {oa_minutes : Nat → Int32} {post : (Int32) → (Nat → Int32) → (Nat → Int32) → (Nat → Int32) → Prop} (k_f_facts : iv 0 10 f_facts) (k_a_heard : ∀ j, iv 0 1 (a_heard j)) (k_a_huts : ∀ j, iv 0 8 (a_huts j)) (k_a_minutes : ∀ j, iv 0 60 (a_minutes j)) (k_of_facts : iv 0 10 of_facts) (k_oa_heard : ∀ j, iv 0 1 (oa_heard j)) (k_oa_huts : ∀ j, iv 0 8 (oa_huts j)) (k_oa_minutes : ∀ j, iv 0 60 (oa_minutes j)) (hpost : ∀ (f_facts : Int32) (a_heard : Nat → Int32) (a_huts : Nat → Int32) (a_minutes : Nat → Int32), (iv 0 10 f_facts) → (∀ j, iv 0 1 (a_heard j)) → (∀ j, iv 0 8 (a_huts j)) → (∀ j, iv 0 60 (a_minutes j)) → post f_facts a_heard a_huts a_minutes) : q_wss_X6_copyFrom_4_0 f_facts a_heard a_huts a_minutes of_facts oa_heard oa_huts oa_minutes post := by
  refine ⟨iv_nn k_of_facts (by decide), ?_⟩
  refine ⟨iv_len (iv_lit (l := 0) (h := 0) (by decide)) k_of_facts (by decide), ?_⟩
  refine ⟨iv_len (iv_lit (l := 0) (h := 0) (by decide)) k_of_facts (by decide), ?_⟩
  intro a1 ea1
  have k_a1 := iv_cpy ea1 k_oa_heard k_a_heard
  refine ⟨iv_nn k_of_facts (by decide), ?_⟩
  refine ⟨iv_len (iv_lit (l := 0) (h := 0) (by decide)) k_of_facts (by decide), ?_⟩
  refine ⟨iv_len (iv_lit (l := 0) (h := 0) (by decide)) k_of_facts (by decide), ?_⟩
  intro a2 ea2
  have k_a2 := iv_cpy ea2 k_oa_huts k_a_huts
  refine ⟨iv_nn k_of_facts (by decide), ?_⟩
  refine ⟨iv_len (iv_lit (l := 0) (h := 0) (by decide)) k_of_facts (by decide), ?_⟩
  refine ⟨iv_len (iv_lit (l := 0) (h := 0) (by decide)) k_of_facts (by decide), ?_⟩
  intro a3 ea3
  have k_a3 := iv_cpy ea3 k_oa_minutes k_a_minutes
  exact hpost _ _ _ _ k_of_facts k_a1 k_a2 k_a3
-- wn_J7_fill_53178_3
set_option maxRecDepth 20000 in
theorem s_wn_J7_fill_53178_3_5 {a_levels : Nat → Int32} {x1 : Int32} {x2 : Int32} {x3 : Int32} {post : (Nat → Int32) → Prop} (k_a_levels : ∀ j, iv (-9) 122 (a_levels j)) (hx1 : iv (-1) (-1) x1) (hx2 : iv 0 5 x2) (hx3 : iv 5 5 x3) (hpost : ∀ (a_levels : Nat → Int32), (∀ j, iv (-9) 122 (a_levels j)) → post a_levels) : q_wn_J7_fill_53178_3_5 a_levels x1 x2 x3 post := by
  intro P hP
  have loop : ∀ (n : Nat) (x2 : Int32) (a_levels : Nat → Int32), (5 - x2.toInt < (n : Int)) → (iv 0 5 x2) → (∀ j, iv (-9) 122 (a_levels j)) → P x2 a_levels := by
    intro n
    induction n with
    | zero => intro x2 a_levels hm hx2 k_a_levels; exact (ms0_up hm hx2).elim
    | succ n ih =>
      intro x2 a_levels hm hx2 k_a_levels
      apply hP
      refine ⟨fun c1 => ?_, fun c1 => ?_⟩
      · skip
        exact hpost _ k_a_levels
      · skip
        refine ⟨iv_in (iv_lta (l := 0) (h := 4) (r_nle c1) hx2 hx3 (by decide)) (by decide), ?_⟩
        intro a2 ea2
        have k_a2 := iv_upd ea2 k_a_levels (iv_w hx1 (by decide))
        intro w3 ew3
        have hw3 := iv_eq ew3 (iv_add (l := 1) (h := 5) (iv_lta (l := 0) (h := 4) (r_nle c1) hx2 hx3 (by decide)) (iv_lit (l := 1) (h := 1) (by decide)) (by decide))
        exact ih _ _ (ms_up hm (inc_lt ew3 (iv_lta (l := 0) (h := 4) (r_nle c1) hx2 hx3 (by decide)) (by decide))) (iv_w hw3 (by decide)) k_a2
  exact loop _ _ _ (ms_init_up _ _) hx2 k_a_levels
set_option maxRecDepth 20000 in
theorem s_wn_J7_fill_53178_3_0 {a_levels : Nat → Int32} {x1 : Int32} {post : (Nat → Int32) → Prop} (k_a_levels : ∀ j, iv (-9) 122 (a_levels j)) (hx1 : iv (-1) (-1) x1) (hpost : ∀ (a_levels : Nat → Int32), (∀ j, iv (-9) 122 (a_levels j)) → post a_levels) : q_wn_J7_fill_53178_3_0 a_levels x1 post := by
  exact s_wn_J7_fill_53178_3_5 k_a_levels hx1 (iv_w (iv_lit (l := 0) (h := 0) (by decide)) (by decide)) (iv_lit (l := 5) (h := 5) (by decide)) hpost
-- wn_J7_fill_53178_4
set_option maxRecDepth 20000 in
theorem s_wn_J7_fill_53178_4_5 {a_snow : Nat → Int32} {x1 : Int32} {x2 : Int32} {x3 : Int32} {post : (Nat → Int32) → Prop} (hx1 : iv 0 0 x1) (hx2 : iv 0 9 x2) (hx3 : iv 9 9 x3) (hpost : ∀ (a_snow : Nat → Int32), post a_snow) : q_wn_J7_fill_53178_4_5 a_snow x1 x2 x3 post := by
  intro P hP
  have loop : ∀ (n : Nat) (x2 : Int32) (a_snow : Nat → Int32), (9 - x2.toInt < (n : Int)) → (iv 0 9 x2) → P x2 a_snow := by
    intro n
    induction n with
    | zero => intro x2 a_snow hm hx2; exact (ms0_up hm hx2).elim
    | succ n ih =>
      intro x2 a_snow hm hx2
      apply hP
      refine ⟨fun c1 => ?_, fun c1 => ?_⟩
      · skip
        exact hpost _
      · skip
        refine ⟨iv_in (iv_lta (l := 0) (h := 8) (r_nle c1) hx2 hx3 (by decide)) (by decide), ?_⟩
        intro a2 ea2
        intro w3 ew3
        have hw3 := iv_eq ew3 (iv_add (l := 1) (h := 9) (iv_lta (l := 0) (h := 8) (r_nle c1) hx2 hx3 (by decide)) (iv_lit (l := 1) (h := 1) (by decide)) (by decide))
        exact ih _ _ (ms_up hm (inc_lt ew3 (iv_lta (l := 0) (h := 8) (r_nle c1) hx2 hx3 (by decide)) (by decide))) (iv_w hw3 (by decide))
  exact loop _ _ _ (ms_init_up _ _) hx2
set_option maxRecDepth 20000 in
theorem s_wn_J7_fill_53178_4_0 {a_snow : Nat → Int32} {x1 : Int32} {post : (Nat → Int32) → Prop} (hx1 : iv 0 0 x1) (hpost : ∀ (a_snow : Nat → Int32), post a_snow) : q_wn_J7_fill_53178_4_0 a_snow x1 post := by
  exact s_wn_J7_fill_53178_4_5 hx1 (iv_w (iv_lit (l := 0) (h := 0) (by decide)) (by decide)) (iv_lit (l := 9) (h := 9) (by decide)) hpost
-- wn_X3_start_6
set_option maxRecDepth 20000 in
theorem s_wn_X3_start_6_0 {f_minute : Int32} {f_avalanches : Int32} {f_begun : Int32} {f_climbed : Int32} {a_huts : Nat → Int32} {a_known : Nat → Int32} {a_levels : Nat → Int32} {a_snow : Nat → Int32} {la_homes : Nat → Int32} {la_known : Nat → Int32} {post : (Int32) → (Int32) → (Int32) → (Int32) → (Nat → Int32) → (Nat → Int32) → (Nat → Int32) → (Nat → Int32) → Prop} (k_f_begun : iv 0 31 f_begun) (k_f_climbed : iv 0 63 f_climbed) (k_a_huts : ∀ j, iv 0 8 (a_huts j)) (k_a_known : ∀ j, iv 0 31 (a_known j)) (k_a_levels : ∀ j, iv (-9) 122 (a_levels j)) (k_la_homes : ∀ j, iv 0 8 (la_homes j)) (k_la_known : ∀ j, iv 0 31 (la_known j)) (hpost : ∀ (f_minute : Int32) (f_avalanches : Int32) (f_begun : Int32) (f_climbed : Int32) (a_huts : Nat → Int32) (a_known : Nat → Int32) (a_levels : Nat → Int32) (a_snow : Nat → Int32), (iv 0 0 f_minute) → (iv 0 0 f_avalanches) → (iv 0 0 f_begun) → (iv 0 0 f_climbed) → (∀ j, iv 0 8 (a_huts j)) → (∀ j, iv 0 31 (a_known j)) → (∀ j, iv (-9) 122 (a_levels j)) → post f_minute f_avalanches f_begun f_climbed a_huts a_known a_levels a_snow) : q_wn_X3_start_6_0 f_minute f_avalanches f_begun f_climbed a_huts a_known a_levels a_snow la_homes la_known post := by
  intro a1 ea1
  have k_a1 := iv_cpy ea1 k_la_homes k_a_huts
  intro a2 ea2
  have k_a2 := iv_cpy ea2 k_la_known k_a_known
  refine s_wn_J7_fill_53178_3_0 k_a_levels (iv_lit (l := (-1)) (h := (-1)) (by decide)) (fun o3 k_o3 => ?_)
  refine s_wn_J7_fill_53178_4_0 (iv_lit (l := 0) (h := 0) (by decide)) (fun o4 => ?_)
  exact hpost _ _ _ _ _ _ _ _ (iv_lit (l := 0) (h := 0) (by decide)) (iv_lit (l := 0) (h := 0) (by decide)) (iv_lit (l := 0) (h := 0) (by decide)) (iv_lit (l := 0) (h := 0) (by decide)) k_a1 k_a2 k_o3
-- wn_X3_singersIn_6
set_option maxRecDepth 20000 in
theorem s_wn_X3_singersIn_6_35 {P5 : Int32 → Int32 → Prop} {a_huts : Nat → Int32} {lf_singers : Int32} {x2 : Int32} {x3 : Int32} {x4 : Int32} {post : Int32 → Prop} (k_a_huts : ∀ j, iv 0 8 (a_huts j)) (k_lf_singers : iv 1 6 lf_singers) (hx2 : iv 0 511 x2) (hx3 : iv 0 63 x3) (hx4 : iv 0 5 x4) (m5 : Int) (hm5 : m5 ≤ x4.toInt) (hP5 : ∀ (x3 : Int32) (x4 : Int32), m5 < x4.toInt → iv 0 63 x3 → iv 0 6 x4 → P5 x3 x4) (hpost : ∀ (r : Int32), iv 0 63 r → post r) : q_wn_X3_singersIn_6_35 P5 a_huts lf_singers x2 x3 x4 post := by
  intro w1 ew1
  have hw1 := iv_eq ew1 (iv_add (l := 1) (h := 6) hx4 (iv_lit (l := 1) (h := 1) (by decide)) (by decide))
  exact hP5 _ _ (ml_up hm5 (inc_lt ew1 hx4 (by decide))) hx3 (iv_w hw1 (by decide))
set_option maxRecDepth 20000 in
theorem s_wn_X3_singersIn_6_5 {a_huts : Nat → Int32} {lf_singers : Int32} {x2 : Int32} {x3 : Int32} {x4 : Int32} {post : Int32 → Prop} (k_a_huts : ∀ j, iv 0 8 (a_huts j)) (k_lf_singers : iv 0 6 lf_singers) (hx2 : iv 0 511 x2) (hx3 : iv 0 63 x3) (hx4 : iv 0 6 x4) (hpost : ∀ (r : Int32), iv 0 63 r → post r) : q_wn_X3_singersIn_6_5 a_huts lf_singers x2 x3 x4 post := by
  intro P hP
  have loop : ∀ (n : Nat) (x3 : Int32) (x4 : Int32), (6 - x4.toInt < (n : Int)) → (iv 0 63 x3) → (iv 0 6 x4) → P x3 x4 := by
    intro n
    induction n with
    | zero => intro x3 x4 hm hx3 hx4; exact (ms0_up hm hx4).elim
    | succ n ih =>
      intro x3 x4 hm hx3 hx4
      apply hP
      refine ⟨fun c1 => ?_, fun c1 => ?_⟩
      · skip
        exact hpost _ hx3
      · skip
        refine ⟨iv_in (iv_lta (l := 0) (h := 5) (r_nle c1) hx4 k_lf_singers (by decide)) (by decide), ?_⟩
        refine ⟨fun c2 => ?_, fun c2 => ?_⟩
        · skip
          refine ⟨fun c3 => ?_, fun c3 => ?_⟩
          · skip
            exact s_wn_X3_singersIn_6_35 k_a_huts (iv_ltb (l := 1) (h := 6) (r_nle c1) hx4 k_lf_singers (by decide)) hx2 hx3 (iv_lta (l := 0) (h := 5) (r_nle c1) hx4 k_lf_singers (by decide)) x4.toInt (Int.le_refl _) (fun u0 u1 hq g0 g1 => ih u0 u1 (ms_up hm hq) g0 g1) hpost
          · skip
            exact (iv_emp (iv_ne (l := 1) (h := 0) c3 (iv_lit (l := 0) (h := 0) (by decide)) (iv_lit (l := 0) (h := 0) (by decide)) (by decide)) (by decide)).elim
        · skip
          refine ⟨fun c4 => ?_, fun c4 => ?_⟩
          · skip
            exact (iv_emp (iv_eqa (l := 1) (h := 0) c4 (iv_lit (l := 1) (h := 1) (by decide)) (iv_lit (l := 0) (h := 0) (by decide)) (by decide)) (by decide)).elim
          · skip
            intro w5 ew5
            have hw5 := iv_eq ew5 (iv_or 6 (l := 0) (h := 63) hx3 (iv_shl1 (l := 1) (h := 32) (iv_lit (l := 1) (h := 1) (by decide)) (iv_lta (l := 0) (h := 5) (r_nle c1) hx4 k_lf_singers (by decide)) (by decide)) (by decide))
            exact s_wn_X3_singersIn_6_35 k_a_huts (iv_ltb (l := 1) (h := 6) (r_nle c1) hx4 k_lf_singers (by decide)) hx2 hw5 (iv_lta (l := 0) (h := 5) (r_nle c1) hx4 k_lf_singers (by decide)) x4.toInt (Int.le_refl _) (fun u0 u1 hq g0 g1 => ih u0 u1 (ms_up hm hq) g0 g1) hpost
  exact loop _ _ _ (ms_init_up _ _) hx3 hx4
set_option maxRecDepth 20000 in
theorem s_wn_X3_singersIn_6_0 {a_huts : Nat → Int32} {lf_singers : Int32} {x2 : Int32} {post : Int32 → Prop} (k_a_huts : ∀ j, iv 0 8 (a_huts j)) (k_lf_singers : iv 0 6 lf_singers) (hx2 : iv 0 511 x2) (hpost : ∀ (r : Int32), iv 0 63 r → post r) : q_wn_X3_singersIn_6_0 a_huts lf_singers x2 post := by
  exact s_wn_X3_singersIn_6_5 k_a_huts k_lf_singers hx2 (iv_w (iv_lit (l := 0) (h := 0) (by decide)) (by decide)) (iv_w (iv_lit (l := 0) (h := 0) (by decide)) (by decide)) hpost
-- wn_X3_raise_6
set_option maxRecDepth 20000 in
theorem s_wn_X3_raise_6_183 {P150 : Int32 → (Nat → Int32) → Prop} {f_avalanches : Int32} {f_begun : Int32} {f_climbed : Int32} {a_huts : Nat → Int32} {a_known : Nat → Int32} {a_levels : Nat → Int32} {a_snow : Nat → Int32} {lf_singers : Int32} {lf_dams : Int32} {lf_echoes : Int32} {la_heights : Nat → Int32} {la_ladders : Nat → Int32} {la_echoFrom : Nat → Int32} {la_echoTo : Nat → Int32} {la_talls : Nat → Int32} {x4 : Int32} {x7 : Int32} {x8 : Int32} {post : Int32 → (Int32) → (Int32) → (Nat → Int32) → (Nat → Int32) → (Nat → Int32) → Prop} (k_f_begun : iv 0 31 f_begun) (k_f_climbed : iv 0 63 f_climbed) (k_a_huts : ∀ j, iv 0 8 (a_huts j)) (k_a_known : ∀ j, iv 0 31 (a_known j)) (k_a_levels : ∀ j, iv (-9) 122 (a_levels j)) (k_lf_singers : iv 1 6 lf_singers) (k_lf_dams : iv 0 511 lf_dams) (k_lf_echoes : iv 0 4 lf_echoes) (k_la_heights : ∀ j, iv 0 99 (la_heights j)) (k_la_ladders : ∀ j, iv 0 9 (la_ladders j)) (k_la_echoFrom : ∀ j, iv 0 8 (la_echoFrom j)) (k_la_echoTo : ∀ j, iv 0 8 (la_echoTo j)) (k_la_talls : ∀ j, iv 0 9 (la_talls j)) (hx4 : iv 0 4 x4) (hx7 : iv 0 63 x7) (hx8 : iv 0 5 x8) (m150 : Int) (hm150 : m150 ≤ x8.toInt) (hP150 : ∀ (x8 : Int32) (a_known : Nat → Int32), m150 < x8.toInt → iv 0 6 x8 → (∀ j, iv 0 31 (a_known j)) → P150 x8 a_known) (hpost : ∀ (r : Int32) (f_avalanches : Int32) (f_begun : Int32) (a_known : Nat → Int32) (a_levels : Nat → Int32) (a_snow : Nat → Int32), iv 0 1 r → (iv 0 31 f_begun) → (∀ j, iv 0 31 (a_known j)) → (∀ j, iv (-9) 122 (a_levels j)) → post r f_avalanches f_begun a_known a_levels a_snow) : q_wn_X3_raise_6_183 P150 f_avalanches f_begun f_climbed a_huts a_known a_levels a_snow lf_singers lf_dams lf_echoes la_heights la_ladders la_echoFrom la_echoTo la_talls x4 x7 x8 post := by
  intro w1 ew1
  have hw1 := iv_eq ew1 (iv_add (l := 1) (h := 6) hx8 (iv_lit (l := 1) (h := 1) (by decide)) (by decide))
  exact hP150 _ _ (ml_up hm150 (inc_lt ew1 hx8 (by decide))) (iv_w hw1 (by decide)) k_a_known
set_option maxRecDepth 20000 in
theorem s_wn_X3_raise_6_150 {f_avalanches : Int32} {f_begun : Int32} {f_climbed : Int32} {a_huts : Nat → Int32} {a_known : Nat → Int32} {a_levels : Nat → Int32} {a_snow : Nat → Int32} {lf_singers : Int32} {lf_dams : Int32} {lf_echoes : Int32} {la_heights : Nat → Int32} {la_ladders : Nat → Int32} {la_echoFrom : Nat → Int32} {la_echoTo : Nat → Int32} {la_talls : Nat → Int32} {x4 : Int32} {x7 : Int32} {x8 : Int32} {post : Int32 → (Int32) → (Int32) → (Nat → Int32) → (Nat → Int32) → (Nat → Int32) → Prop} (k_f_begun : iv 0 31 f_begun) (k_f_climbed : iv 0 63 f_climbed) (k_a_huts : ∀ j, iv 0 8 (a_huts j)) (k_a_known : ∀ j, iv 0 31 (a_known j)) (k_a_levels : ∀ j, iv (-9) 122 (a_levels j)) (k_lf_singers : iv 1 6 lf_singers) (k_lf_dams : iv 0 511 lf_dams) (k_lf_echoes : iv 0 4 lf_echoes) (k_la_heights : ∀ j, iv 0 99 (la_heights j)) (k_la_ladders : ∀ j, iv 0 9 (la_ladders j)) (k_la_echoFrom : ∀ j, iv 0 8 (la_echoFrom j)) (k_la_echoTo : ∀ j, iv 0 8 (la_echoTo j)) (k_la_talls : ∀ j, iv 0 9 (la_talls j)) (hx4 : iv 0 4 x4) (hx7 : iv 0 63 x7) (hx8 : iv 0 6 x8) (hpost : ∀ (r : Int32) (f_avalanches : Int32) (f_begun : Int32) (a_known : Nat → Int32) (a_levels : Nat → Int32) (a_snow : Nat → Int32), iv 0 1 r → (iv 0 31 f_begun) → (∀ j, iv 0 31 (a_known j)) → (∀ j, iv (-9) 122 (a_levels j)) → post r f_avalanches f_begun a_known a_levels a_snow) : q_wn_X3_raise_6_150 f_avalanches f_begun f_climbed a_huts a_known a_levels a_snow lf_singers lf_dams lf_echoes la_heights la_ladders la_echoFrom la_echoTo la_talls x4 x7 x8 post := by
  intro P hP
  have loop : ∀ (n : Nat) (x8 : Int32) (a_known : Nat → Int32), (6 - x8.toInt < (n : Int)) → (iv 0 6 x8) → (∀ j, iv 0 31 (a_known j)) → P x8 a_known := by
    intro n
    induction n with
    | zero => intro x8 a_known hm hx8 k_a_known; exact (ms0_up hm hx8).elim
    | succ n ih =>
      intro x8 a_known hm hx8 k_a_known
      apply hP
      refine ⟨fun c1 => ?_, fun c1 => ?_⟩
      · skip
        exact hpost _ _ _ _ _ _ (iv_w (iv_lit (l := 1) (h := 1) (by decide)) (by decide)) k_f_begun k_a_known k_a_levels
      · skip
        refine ⟨fun c2 => ?_, fun c2 => ?_⟩
        · skip
          refine ⟨fun c3 => ?_, fun c3 => ?_⟩
          · skip
            exact s_wn_X3_raise_6_183 k_f_begun k_f_climbed k_a_huts k_a_known k_a_levels k_lf_singers k_lf_dams k_lf_echoes k_la_heights k_la_ladders k_la_echoFrom k_la_echoTo k_la_talls hx4 hx7 (iv_lta (l := 0) (h := 5) (r_nle c1) hx8 k_lf_singers (by decide)) x8.toInt (Int.le_refl _) (fun u0 u1 hq g0 g1 => ih u0 u1 (ms_up hm hq) g0 g1) hpost
          · skip
            exact (iv_emp (iv_ne (l := 1) (h := 0) c3 (iv_lit (l := 0) (h := 0) (by decide)) (iv_lit (l := 0) (h := 0) (by decide)) (by decide)) (by decide)).elim
        · skip
          refine ⟨fun c4 => ?_, fun c4 => ?_⟩
          · skip
            exact (iv_emp (iv_eqa (l := 1) (h := 0) c4 (iv_lit (l := 1) (h := 1) (by decide)) (iv_lit (l := 0) (h := 0) (by decide)) (by decide)) (by decide)).elim
          · skip
            refine ⟨iv_in (iv_lta (l := 0) (h := 5) (r_nle c1) hx8 k_lf_singers (by decide)) (by decide), ?_⟩
            intro w5 ew5
            have hw5 := iv_eq ew5 (iv_or 5 (l := 0) (h := 31) (k_a_known _) (iv_shl1 (l := 1) (h := 16) (iv_lit (l := 1) (h := 1) (by decide)) hx4 (by decide)) (by decide))
            refine ⟨iv_in (iv_lta (l := 0) (h := 5) (r_nle c1) hx8 k_lf_singers (by decide)) (by decide), ?_⟩
            intro a6 ea6
            have k_a6 := iv_upd ea6 k_a_known hw5
            exact s_wn_X3_raise_6_183 k_f_begun k_f_climbed k_a_huts k_a6 k_a_levels k_lf_singers k_lf_dams k_lf_echoes k_la_heights k_la_ladders k_la_echoFrom k_la_echoTo k_la_talls hx4 hx7 (iv_lta (l := 0) (h := 5) (r_nle c1) hx8 k_lf_singers (by decide)) x8.toInt (Int.le_refl _) (fun u0 u1 hq g0 g1 => ih u0 u1 (ms_up hm hq) g0 g1) hpost
  exact loop _ _ _ (ms_init_up _ _) hx8 k_a_known
set_option maxRecDepth 20000 in
theorem s_wn_X3_raise_6_112 {f_avalanches : Int32} {f_begun : Int32} {f_climbed : Int32} {a_huts : Nat → Int32} {a_known : Nat → Int32} {a_levels : Nat → Int32} {a_snow : Nat → Int32} {lf_singers : Int32} {lf_dams : Int32} {lf_echoes : Int32} {la_heights : Nat → Int32} {la_ladders : Nat → Int32} {la_echoFrom : Nat → Int32} {la_echoTo : Nat → Int32} {la_talls : Nat → Int32} {x4 : Int32} {x5 : Int32} {x6 : Int32} {post : Int32 → (Int32) → (Int32) → (Nat → Int32) → (Nat → Int32) → (Nat → Int32) → Prop} (k_f_begun : iv 0 31 f_begun) (k_f_climbed : iv 0 63 f_climbed) (k_a_huts : ∀ j, iv 0 8 (a_huts j)) (k_a_known : ∀ j, iv 0 31 (a_known j)) (k_a_levels : ∀ j, iv (-9) 122 (a_levels j)) (k_lf_singers : iv 1 6 lf_singers) (k_lf_dams : iv 0 511 lf_dams) (k_lf_echoes : iv 0 4 lf_echoes) (k_la_heights : ∀ j, iv 0 99 (la_heights j)) (k_la_ladders : ∀ j, iv 0 9 (la_ladders j)) (k_la_echoFrom : ∀ j, iv 0 8 (la_echoFrom j)) (k_la_echoTo : ∀ j, iv 0 8 (la_echoTo j)) (k_la_talls : ∀ j, iv 0 9 (la_talls j)) (hx4 : iv 0 4 x4) (hx5 : iv 0 8 x5) (hx6 : iv (-9) 108 x6) (hpost : ∀ (r : Int32) (f_avalanches : Int32) (f_begun : Int32) (a_known : Nat → Int32) (a_levels : Nat → Int32) (a_snow : Nat → Int32), iv 0 1 r → (iv 0 31 f_begun) → (∀ j, iv 0 31 (a_known j)) → (∀ j, iv (-9) 122 (a_levels j)) → post r f_avalanches f_begun a_known a_levels a_snow) : q_wn_X3_raise_6_112 f_avalanches f_begun f_climbed a_huts a_known a_levels a_snow lf_singers lf_dams lf_echoes la_heights la_ladders la_echoFrom la_echoTo la_talls x4 x5 x6 post := by
  intro w1 ew1
  have hw1 := iv_eq ew1 (iv_or 5 (l := 0) (h := 31) k_f_begun (iv_shl1 (l := 1) (h := 16) (iv_lit (l := 1) (h := 1) (by decide)) hx4 (by decide)) (by decide))
  refine ⟨iv_in hx4 (by decide), ?_⟩
  intro a2 ea2
  have k_a2 := iv_upd ea2 k_a_levels (iv_w hx6 (by decide))
  refine s_wl_X2_earshot_0 k_lf_dams k_lf_echoes k_la_echoFrom k_la_echoTo hx5 (fun r3 hr3 => ?_)
  refine s_wn_X3_singersIn_6_0 k_a_huts (iv_w k_lf_singers (by decide)) hr3 (fun r4 hr4 => ?_)
  exact s_wn_X3_raise_6_150 hw1 k_f_climbed k_a_huts k_a_known k_a2 k_lf_singers k_lf_dams k_lf_echoes k_la_heights k_la_ladders k_la_echoFrom k_la_echoTo k_la_talls hx4 hr4 (iv_w (iv_lit (l := 0) (h := 0) (by decide)) (by decide)) hpost
set_option maxRecDepth 20000 in
theorem s_wn_X3_raise_6_62 {f_avalanches : Int32} {f_begun : Int32} {f_climbed : Int32} {a_huts : Nat → Int32} {a_known : Nat → Int32} {a_levels : Nat → Int32} {a_snow : Nat → Int32} {lf_singers : Int32} {lf_dams : Int32} {lf_echoes : Int32} {la_heights : Nat → Int32} {la_ladders : Nat → Int32} {la_echoFrom : Nat → Int32} {la_echoTo : Nat → Int32} {la_talls : Nat → Int32} {x2 : Int32} {x3 : Int32} {x4 : Int32} {x5 : Int32} {y0 : Int32} {y1 : Int32} {post : Int32 → (Int32) → (Int32) → (Nat → Int32) → (Nat → Int32) → (Nat → Int32) → Prop} (k_f_begun : iv 0 31 f_begun) (k_f_climbed : iv 0 63 f_climbed) (k_a_huts : ∀ j, iv 0 8 (a_huts j)) (k_a_known : ∀ j, iv 0 31 (a_known j)) (k_a_levels : ∀ j, iv (-9) 122 (a_levels j)) (k_lf_singers : iv 1 6 lf_singers) (k_lf_dams : iv 0 511 lf_dams) (k_lf_echoes : iv 0 4 lf_echoes) (k_la_heights : ∀ j, iv 0 99 (la_heights j)) (k_la_ladders : ∀ j, iv 0 9 (la_ladders j)) (k_la_echoFrom : ∀ j, iv 0 8 (la_echoFrom j)) (k_la_echoTo : ∀ j, iv 0 8 (la_echoTo j)) (k_la_talls : ∀ j, iv 0 9 (la_talls j)) (hx2 : iv 0 5 x2) (hx3 : iv 0 5 x3) (hx4 : iv 0 4 x4) (hx5 : iv 0 8 x5) (hy0 : iv 0 1 y0) (hy1 : iv 0 1 y1) (hpost : ∀ (r : Int32) (f_avalanches : Int32) (f_begun : Int32) (a_known : Nat → Int32) (a_levels : Nat → Int32) (a_snow : Nat → Int32), iv 0 1 r → (iv 0 31 f_begun) → (∀ j, iv 0 31 (a_known j)) → (∀ j, iv (-9) 122 (a_levels j)) → post r f_avalanches f_begun a_known a_levels a_snow) : q_wn_X3_raise_6_62 f_avalanches f_begun f_climbed a_huts a_known a_levels a_snow lf_singers lf_dams lf_echoes la_heights la_ladders la_echoFrom la_echoTo la_talls x2 x3 x4 x5 y0 y1 post := by
  refine ⟨fun c1 => ?_, fun c1 => ?_⟩
  · skip
    refine ⟨iv_in hx3 (by decide), ?_⟩
    intro w2 ew2
    have hw2 := iv_eq ew2 (k_a_huts _)
    refine ⟨iv_in hw2 (by decide), ?_⟩
    refine ⟨iv_in hx3 (by decide), ?_⟩
    intro w3 ew3
    have hw3 := iv_eq ew3 (iv_sub (l := (-9)) (h := 99) (k_la_heights _) (k_la_talls _) (by decide))
    refine ⟨fun c4 => ?_, fun c4 => ?_⟩
    · skip
      refine ⟨fun c5 => ?_, fun c5 => ?_⟩
      · skip
        refine ⟨iv_in hx4 (by decide), ?_⟩
        refine ⟨fun c6 => ?_, fun c6 => ?_⟩
        · skip
          refine ⟨fun c7 => ?_, fun c7 => ?_⟩
          · skip
            refine ⟨fun c8 => ?_, fun c8 => ?_⟩
            · skip
              exact s_wn_X3_raise_6_112 k_f_begun k_f_climbed k_a_huts k_a_known k_a_levels k_lf_singers k_lf_dams k_lf_echoes k_la_heights k_la_ladders k_la_echoFrom k_la_echoTo k_la_talls hx4 hx5 (iv_w hw3 (by decide)) hpost
            · skip
              exact (iv_emp (iv_ne (l := 1) (h := 0) c8 (iv_lit (l := 0) (h := 0) (by decide)) (iv_lit (l := 0) (h := 0) (by decide)) (by decide)) (by decide)).elim
          · skip
            refine ⟨fun c9 => ?_, fun c9 => ?_⟩
            · skip
              refine ⟨fun c10 => ?_, fun c10 => ?_⟩
              · skip
                exact s_wn_X3_raise_6_112 k_f_begun k_f_climbed k_a_huts k_a_known k_a_levels k_lf_singers k_lf_dams k_lf_echoes k_la_heights k_la_ladders k_la_echoFrom k_la_echoTo k_la_talls hx4 hx5 (iv_w hw3 (by decide)) hpost
              · skip
                exact (iv_emp (iv_ne (l := 1) (h := 0) c10 (iv_lit (l := 0) (h := 0) (by decide)) (iv_lit (l := 0) (h := 0) (by decide)) (by decide)) (by decide)).elim
            · skip
              refine ⟨fun c11 => ?_, fun c11 => ?_⟩
              · skip
                exact (iv_emp (iv_eqa (l := 1) (h := 0) c11 (iv_lit (l := 1) (h := 1) (by decide)) (iv_lit (l := 0) (h := 0) (by decide)) (by decide)) (by decide)).elim
              · skip
                intro w12 ew12
                refine ⟨iv_in hx5 (by decide), ?_⟩
                intro w13 ew13
                refine ⟨iv_in hx5 (by decide), ?_⟩
                intro a14 ea14
                exact s_wn_X3_raise_6_112 k_f_begun k_f_climbed k_a_huts k_a_known k_a_levels k_lf_singers k_lf_dams k_lf_echoes k_la_heights k_la_ladders k_la_echoFrom k_la_echoTo k_la_talls hx4 hx5 (iv_w (iv_ltb (l := (-8)) (h := 99) (r_nle c9) (k_a_levels _) hw3 (by decide)) (by decide)) hpost
        · skip
          refine ⟨fun c15 => ?_, fun c15 => ?_⟩
          · skip
            refine ⟨fun c16 => ?_, fun c16 => ?_⟩
            · skip
              exact s_wn_X3_raise_6_112 k_f_begun k_f_climbed k_a_huts k_a_known k_a_levels k_lf_singers k_lf_dams k_lf_echoes k_la_heights k_la_ladders k_la_echoFrom k_la_echoTo k_la_talls hx4 hx5 (iv_w hw3 (by decide)) hpost
            · skip
              exact (iv_emp (iv_ne (l := 1) (h := 0) c16 (iv_lit (l := 0) (h := 0) (by decide)) (iv_lit (l := 0) (h := 0) (by decide)) (by decide)) (by decide)).elim
          · skip
            refine ⟨fun c17 => ?_, fun c17 => ?_⟩
            · skip
              exact (iv_emp (iv_eqa (l := 1) (h := 0) c17 (iv_lit (l := 1) (h := 1) (by decide)) (iv_lit (l := 0) (h := 0) (by decide)) (by decide)) (by decide)).elim
            · skip
              intro w18 ew18
              refine ⟨iv_in hx5 (by decide), ?_⟩
              intro w19 ew19
              refine ⟨iv_in hx5 (by decide), ?_⟩
              intro a20 ea20
              exact s_wn_X3_raise_6_112 k_f_begun k_f_climbed k_a_huts k_a_known k_a_levels k_lf_singers k_lf_dams k_lf_echoes k_la_heights k_la_ladders k_la_echoFrom k_la_echoTo k_la_talls hx4 hx5 (iv_w hw3 (by decide)) hpost
      · skip
        exact (iv_emp (iv_ne (l := 1) (h := 0) c5 (iv_lit (l := 0) (h := 0) (by decide)) (iv_lit (l := 0) (h := 0) (by decide)) (by decide)) (by decide)).elim
    · skip
      refine ⟨fun c21 => ?_, fun c21 => ?_⟩
      · skip
        exact (iv_emp (iv_eqa (l := 1) (h := 0) c21 (iv_lit (l := 1) (h := 1) (by decide)) (iv_lit (l := 0) (h := 0) (by decide)) (by decide)) (by decide)).elim
      · skip
        refine ⟨iv_in hw2 (by decide), ?_⟩
        refine ⟨iv_in hx4 (by decide), ?_⟩
        refine ⟨fun c22 => ?_, fun c22 => ?_⟩
        · skip
          refine ⟨fun c23 => ?_, fun c23 => ?_⟩
          · skip
            refine ⟨fun c24 => ?_, fun c24 => ?_⟩
            · skip
              exact s_wn_X3_raise_6_112 k_f_begun k_f_climbed k_a_huts k_a_known k_a_levels k_lf_singers k_lf_dams k_lf_echoes k_la_heights k_la_ladders k_la_echoFrom k_la_echoTo k_la_talls hx4 hx5 (iv_add (l := (-9)) (h := 108) hw3 (k_la_ladders _) (by decide)) hpost
            · skip
              exact (iv_emp (iv_ne (l := 1) (h := 0) c24 (iv_lit (l := 0) (h := 0) (by decide)) (iv_lit (l := 0) (h := 0) (by decide)) (by decide)) (by decide)).elim
          · skip
            refine ⟨fun c25 => ?_, fun c25 => ?_⟩
            · skip
              refine ⟨fun c26 => ?_, fun c26 => ?_⟩
              · skip
                exact s_wn_X3_raise_6_112 k_f_begun k_f_climbed k_a_huts k_a_known k_a_levels k_lf_singers k_lf_dams k_lf_echoes k_la_heights k_la_ladders k_la_echoFrom k_la_echoTo k_la_talls hx4 hx5 (iv_add (l := (-9)) (h := 108) hw3 (k_la_ladders _) (by decide)) hpost
              · skip
                exact (iv_emp (iv_ne (l := 1) (h := 0) c26 (iv_lit (l := 0) (h := 0) (by decide)) (iv_lit (l := 0) (h := 0) (by decide)) (by decide)) (by decide)).elim
            · skip
              refine ⟨fun c27 => ?_, fun c27 => ?_⟩
              · skip
                exact (iv_emp (iv_eqa (l := 1) (h := 0) c27 (iv_lit (l := 1) (h := 1) (by decide)) (iv_lit (l := 0) (h := 0) (by decide)) (by decide)) (by decide)).elim
              · skip
                intro w28 ew28
                refine ⟨iv_in hx5 (by decide), ?_⟩
                intro w29 ew29
                refine ⟨iv_in hx5 (by decide), ?_⟩
                intro a30 ea30
                exact s_wn_X3_raise_6_112 k_f_begun k_f_climbed k_a_huts k_a_known k_a_levels k_lf_singers k_lf_dams k_lf_echoes k_la_heights k_la_ladders k_la_echoFrom k_la_echoTo k_la_talls hx4 hx5 (iv_w (iv_ltb (l := (-8)) (h := 108) (r_nle c25) (k_a_levels _) (iv_add (l := (-9)) (h := 108) hw3 (k_la_ladders _) (by decide)) (by decide)) (by decide)) hpost
        · skip
          refine ⟨fun c31 => ?_, fun c31 => ?_⟩
          · skip
            refine ⟨fun c32 => ?_, fun c32 => ?_⟩
            · skip
              exact s_wn_X3_raise_6_112 k_f_begun k_f_climbed k_a_huts k_a_known k_a_levels k_lf_singers k_lf_dams k_lf_echoes k_la_heights k_la_ladders k_la_echoFrom k_la_echoTo k_la_talls hx4 hx5 (iv_add (l := (-9)) (h := 108) hw3 (k_la_ladders _) (by decide)) hpost
            · skip
              exact (iv_emp (iv_ne (l := 1) (h := 0) c32 (iv_lit (l := 0) (h := 0) (by decide)) (iv_lit (l := 0) (h := 0) (by decide)) (by decide)) (by decide)).elim
          · skip
            refine ⟨fun c33 => ?_, fun c33 => ?_⟩
            · skip
              exact (iv_emp (iv_eqa (l := 1) (h := 0) c33 (iv_lit (l := 1) (h := 1) (by decide)) (iv_lit (l := 0) (h := 0) (by decide)) (by decide)) (by decide)).elim
            · skip
              intro w34 ew34
              refine ⟨iv_in hx5 (by decide), ?_⟩
              intro w35 ew35
              refine ⟨iv_in hx5 (by decide), ?_⟩
              intro a36 ea36
              exact s_wn_X3_raise_6_112 k_f_begun k_f_climbed k_a_huts k_a_known k_a_levels k_lf_singers k_lf_dams k_lf_echoes k_la_heights k_la_ladders k_la_echoFrom k_la_echoTo k_la_talls hx4 hx5 (iv_add (l := (-9)) (h := 108) hw3 (k_la_ladders _) (by decide)) hpost
  · skip
    exact hpost _ _ _ _ _ _ (iv_w (iv_lit (l := 0) (h := 0) (by decide)) (by decide)) k_f_begun k_a_known k_a_levels
set_option maxRecDepth 20000 in
theorem s_wn_X3_raise_6_0 {f_avalanches : Int32} {f_begun : Int32} {f_climbed : Int32} {a_huts : Nat → Int32} {a_known : Nat → Int32} {a_levels : Nat → Int32} {a_snow : Nat → Int32} {lf_singers : Int32} {lf_dams : Int32} {lf_echoes : Int32} {la_heights : Nat → Int32} {la_ladders : Nat → Int32} {la_echoFrom : Nat → Int32} {la_echoTo : Nat → Int32} {la_talls : Nat → Int32} {x2 : Int32} {x3 : Int32} {x4 : Int32} {post : Int32 → (Int32) → (Int32) → (Nat → Int32) → (Nat → Int32) → (Nat → Int32) → Prop} (k_f_begun : iv 0 31 f_begun) (k_f_climbed : iv 0 63 f_climbed) (k_a_huts : ∀ j, iv 0 8 (a_huts j)) (k_a_known : ∀ j, iv 0 31 (a_known j)) (k_a_levels : ∀ j, iv (-9) 122 (a_levels j)) (k_lf_singers : iv 1 6 lf_singers) (k_lf_dams : iv 0 511 lf_dams) (k_lf_echoes : iv 0 4 lf_echoes) (k_la_heights : ∀ j, iv 0 99 (la_heights j)) (k_la_ladders : ∀ j, iv 0 9 (la_ladders j)) (k_la_echoFrom : ∀ j, iv 0 8 (la_echoFrom j)) (k_la_echoTo : ∀ j, iv 0 8 (la_echoTo j)) (k_la_talls : ∀ j, iv 0 9 (la_talls j)) (hx2 : iv 0 5 x2) (hx3 : iv 0 5 x3) (hx4 : iv (-1) 8 x4) (hpost : ∀ (r : Int32) (f_avalanches : Int32) (f_begun : Int32) (a_known : Nat → Int32) (a_levels : Nat → Int32) (a_snow : Nat → Int32), iv 0 1 r → (iv 0 31 f_begun) → (∀ j, iv 0 31 (a_known j)) → (∀ j, iv (-9) 122 (a_levels j)) → post r f_avalanches f_begun a_known a_levels a_snow) : q_wn_X3_raise_6_0 f_avalanches f_begun f_climbed a_huts a_known a_levels a_snow lf_singers lf_dams lf_echoes la_heights la_ladders la_echoFrom la_echoTo la_talls x2 x3 x4 post := by
  refine ⟨iv_in hx3 (by decide), ?_⟩
  intro w1 ew1
  have hw1 := iv_eq ew1 (k_a_huts _)
  refine ⟨fun c2 => ?_, fun c2 => ?_⟩
  · skip
    exact hpost _ _ _ _ _ _ (iv_w (iv_lit (l := 0) (h := 0) (by decide)) (by decide)) k_f_begun k_a_known k_a_levels
  · skip
    refine ⟨fun c3 => ?_, fun c3 => ?_⟩
    · skip
      exact hpost _ _ _ _ _ _ (iv_w (iv_lit (l := 0) (h := 0) (by decide)) (by decide)) k_f_begun k_a_known k_a_levels
    · skip
      refine ⟨iv_in hx3 (by decide), ?_⟩
      refine ⟨fun c4 => ?_, fun c4 => ?_⟩
      · skip
        refine ⟨fun c5 => ?_, fun c5 => ?_⟩
        · skip
          exact hpost _ _ _ _ _ _ (iv_w (iv_lit (l := 0) (h := 0) (by decide)) (by decide)) k_f_begun k_a_known k_a_levels
        · skip
          exact (iv_emp (iv_ne (l := 1) (h := 0) c5 (iv_lit (l := 0) (h := 0) (by decide)) (iv_lit (l := 0) (h := 0) (by decide)) (by decide)) (by decide)).elim
      · skip
        refine ⟨fun c6 => ?_, fun c6 => ?_⟩
        · skip
          exact (iv_emp (iv_eqa (l := 1) (h := 0) c6 (iv_lit (l := 1) (h := 1) (by decide)) (iv_lit (l := 0) (h := 0) (by decide)) (by decide)) (by decide)).elim
        · skip
          refine ⟨fun c7 => ?_, fun c7 => ?_⟩
          · skip
            refine ⟨fun c8 => ?_, fun c8 => ?_⟩
            · skip
              refine ⟨fun c9 => ?_, fun c9 => ?_⟩
              · skip
                refine ⟨fun c10 => ?_, fun c10 => ?_⟩
                · skip
                  exact s_wn_X3_raise_6_62 k_f_begun k_f_climbed k_a_huts k_a_known k_a_levels k_lf_singers k_lf_dams k_lf_echoes k_la_heights k_la_ladders k_la_echoFrom k_la_echoTo k_la_talls (iv_w (iv_ne (l := 1) (h := 5) c10 hx2 (iv_lit (l := 0) (h := 0) (by decide)) (by decide)) (by decide)) hx3 (iv_lta (l := 0) (h := 4) (r_nle c3) (iv_leb (l := 0) (h := 8) (r_nlt c2) (iv_lit (l := 0) (h := 0) (by decide)) hx4 (by decide)) (iv_lit (l := 5) (h := 5) (by decide)) (by decide)) hw1 (iv_w (iv_lit (l := 0) (h := 0) (by decide)) (by decide)) (iv_w (iv_lit (l := 0) (h := 0) (by decide)) (by decide)) hpost
                · skip
                  exact s_wn_X3_raise_6_62 k_f_begun k_f_climbed k_a_huts k_a_known k_a_levels k_lf_singers k_lf_dams k_lf_echoes k_la_heights k_la_ladders k_la_echoFrom k_la_echoTo k_la_talls (iv_w (iv_eqa (l := 0) (h := 0) c10 hx2 (iv_lit (l := 0) (h := 0) (by decide)) (by decide)) (by decide)) hx3 (iv_lta (l := 0) (h := 4) (r_nle c3) (iv_leb (l := 0) (h := 8) (r_nlt c2) (iv_lit (l := 0) (h := 0) (by decide)) hx4 (by decide)) (iv_lit (l := 5) (h := 5) (by decide)) (by decide)) hw1 (iv_w (iv_lit (l := 0) (h := 0) (by decide)) (by decide)) (iv_w (iv_lit (l := 1) (h := 1) (by decide)) (by decide)) hpost
              · skip
                refine ⟨fun c11 => ?_, fun c11 => ?_⟩
                · skip
                  exact s_wn_X3_raise_6_62 k_f_begun k_f_climbed k_a_huts k_a_known k_a_levels k_lf_singers k_lf_dams k_lf_echoes k_la_heights k_la_ladders k_la_echoFrom k_la_echoTo k_la_talls (iv_w (iv_ne (l := 1) (h := 5) c11 hx2 (iv_lit (l := 0) (h := 0) (by decide)) (by decide)) (by decide)) hx3 (iv_lta (l := 0) (h := 4) (r_nle c3) (iv_leb (l := 0) (h := 8) (r_nlt c2) (iv_lit (l := 0) (h := 0) (by decide)) hx4 (by decide)) (iv_lit (l := 5) (h := 5) (by decide)) (by decide)) hw1 (iv_w (iv_lit (l := 1) (h := 1) (by decide)) (by decide)) (iv_w (iv_lit (l := 0) (h := 0) (by decide)) (by decide)) hpost
                · skip
                  exact s_wn_X3_raise_6_62 k_f_begun k_f_climbed k_a_huts k_a_known k_a_levels k_lf_singers k_lf_dams k_lf_echoes k_la_heights k_la_ladders k_la_echoFrom k_la_echoTo k_la_talls (iv_w (iv_eqa (l := 0) (h := 0) c11 hx2 (iv_lit (l := 0) (h := 0) (by decide)) (by decide)) (by decide)) hx3 (iv_lta (l := 0) (h := 4) (r_nle c3) (iv_leb (l := 0) (h := 8) (r_nlt c2) (iv_lit (l := 0) (h := 0) (by decide)) hx4 (by decide)) (iv_lit (l := 5) (h := 5) (by decide)) (by decide)) hw1 (iv_w (iv_lit (l := 1) (h := 1) (by decide)) (by decide)) (iv_w (iv_lit (l := 1) (h := 1) (by decide)) (by decide)) hpost
            · skip
              exact (iv_emp (iv_ne (l := 1) (h := 0) c8 (iv_lit (l := 0) (h := 0) (by decide)) (iv_lit (l := 0) (h := 0) (by decide)) (by decide)) (by decide)).elim
          · skip
            refine ⟨fun c12 => ?_, fun c12 => ?_⟩
            · skip
              exact (iv_emp (iv_eqa (l := 1) (h := 0) c12 (iv_lit (l := 1) (h := 1) (by decide)) (iv_lit (l := 0) (h := 0) (by decide)) (by decide)) (by decide)).elim
            · skip
              exact hpost _ _ _ _ _ _ (iv_w (iv_lit (l := 0) (h := 0) (by decide)) (by decide)) k_f_begun k_a_known k_a_levels
-- wn_X3_walk_6
set_option maxRecDepth 20000 in
theorem s_wn_X3_walk_6_0 {f_minute : Int32} {f_climbed : Int32} {a_huts : Nat → Int32} {a_snow : Nat → Int32} {lf_huts : Int32} {lf_deep : Int32} {la_minutes : Nat → Int32} {x2 : Int32} {x3 : Int32} {post : Int32 → (Int32) → (Nat → Int32) → Prop} (k_f_climbed : iv 0 63 f_climbed) (k_a_huts : ∀ j, iv 0 8 (a_huts j)) (k_lf_huts : iv 0 9 lf_huts) (k_lf_deep : iv 1 9 lf_deep) (k_la_minutes : ∀ j, iv 0 9 (la_minutes j)) (hx2 : iv 0 5 x2) (hx3 : iv (-1) 8 x3) (hpost : ∀ (r : Int32) (f_minute : Int32) (a_huts : Nat → Int32), iv 0 1 r → (∀ j, iv 0 8 (a_huts j)) → post r f_minute a_huts) : q_wn_X3_walk_6_0 f_minute f_climbed a_huts a_snow lf_huts lf_deep la_minutes x2 x3 post := by
  refine ⟨iv_in hx2 (by decide), ?_⟩
  intro w1 ew1
  have hw1 := iv_eq ew1 (k_a_huts _)
  refine ⟨fun c2 => ?_, fun c2 => ?_⟩
  · skip
    refine ⟨fun c3 => ?_, fun c3 => ?_⟩
    · skip
      exact hpost _ _ _ (iv_w (iv_lit (l := 0) (h := 0) (by decide)) (by decide)) k_a_huts
    · skip
      exact (iv_emp (iv_ne (l := 1) (h := 0) c3 (iv_lit (l := 0) (h := 0) (by decide)) (iv_lit (l := 0) (h := 0) (by decide)) (by decide)) (by decide)).elim
  · skip
    refine ⟨fun c4 => ?_, fun c4 => ?_⟩
    · skip
      refine ⟨fun c5 => ?_, fun c5 => ?_⟩
      · skip
        exact hpost _ _ _ (iv_w (iv_lit (l := 0) (h := 0) (by decide)) (by decide)) k_a_huts
      · skip
        exact (iv_emp (iv_ne (l := 1) (h := 0) c5 (iv_lit (l := 0) (h := 0) (by decide)) (iv_lit (l := 0) (h := 0) (by decide)) (by decide)) (by decide)).elim
    · skip
      refine ⟨fun c6 => ?_, fun c6 => ?_⟩
      · skip
        exact (iv_emp (iv_eqa (l := 1) (h := 0) c6 (iv_lit (l := 1) (h := 1) (by decide)) (iv_lit (l := 0) (h := 0) (by decide)) (by decide)) (by decide)).elim
      · skip
        refine ⟨fun c7 => ?_, fun c7 => ?_⟩
        · skip
          refine ⟨fun c8 => ?_, fun c8 => ?_⟩
          · skip
            exact (iv_emp (iv_ne (l := 1) (h := 0) c8 (iv_lit (l := 0) (h := 0) (by decide)) (iv_lit (l := 0) (h := 0) (by decide)) (by decide)) (by decide)).elim
          · skip
            refine ⟨iv_in hw1 (by decide), ?_⟩
            refine ⟨fun c9 => ?_, fun c9 => ?_⟩
            · skip
              refine ⟨fun c10 => ?_, fun c10 => ?_⟩
              · skip
                exact (iv_emp (iv_ne (l := 1) (h := 0) c10 (iv_lit (l := 0) (h := 0) (by decide)) (iv_lit (l := 0) (h := 0) (by decide)) (by decide)) (by decide)).elim
              · skip
                refine ⟨iv_in (iv_leb (l := 0) (h := 8) (r_nlt c2) (iv_lit (l := 0) (h := 0) (by decide)) hx3 (by decide)) (by decide), ?_⟩
                refine ⟨fun c11 => ?_, fun c11 => ?_⟩
                · skip
                  refine ⟨fun c12 => ?_, fun c12 => ?_⟩
                  · skip
                    refine ⟨iv_in (iv_add (l := 0) (h := 80) (iv_mul (l := 0) (h := 72) hw1 (iv_lit (l := 9) (h := 9) (by decide)) (by decide)) (iv_leb (l := 0) (h := 8) (r_nlt c2) (iv_lit (l := 0) (h := 0) (by decide)) hx3 (by decide)) (by decide)) (by decide), ?_⟩
                    intro w13 ew13
                    have hw13 := iv_eq ew13 (k_la_minutes _)
                    refine ⟨fun c14 => ?_, fun c14 => ?_⟩
                    · skip
                      intro w15 ew15
                      refine ⟨iv_in hx2 (by decide), ?_⟩
                      intro a16 ea16
                      have k_a16 := iv_upd ea16 k_a_huts (iv_leb (l := 0) (h := 8) (r_nlt c2) (iv_lit (l := 0) (h := 0) (by decide)) hx3 (by decide))
                      exact hpost _ _ _ (iv_w (iv_lit (l := 1) (h := 1) (by decide)) (by decide)) k_a16
                    · skip
                      exact hpost _ _ _ (iv_w (iv_lit (l := 0) (h := 0) (by decide)) (by decide)) k_a_huts
                  · skip
                    exact (iv_emp (iv_ne (l := 1) (h := 0) c12 (iv_lit (l := 0) (h := 0) (by decide)) (iv_lit (l := 0) (h := 0) (by decide)) (by decide)) (by decide)).elim
                · skip
                  refine ⟨fun c17 => ?_, fun c17 => ?_⟩
                  · skip
                    exact (iv_emp (iv_eqa (l := 1) (h := 0) c17 (iv_lit (l := 1) (h := 1) (by decide)) (iv_lit (l := 0) (h := 0) (by decide)) (by decide)) (by decide)).elim
                  · skip
                    exact hpost _ _ _ (iv_w (iv_lit (l := 0) (h := 0) (by decide)) (by decide)) k_a_huts
            · skip
              refine ⟨fun c18 => ?_, fun c18 => ?_⟩
              · skip
                exact hpost _ _ _ (iv_w (iv_lit (l := 0) (h := 0) (by decide)) (by decide)) k_a_huts
              · skip
                exact (iv_emp (iv_eqa (l := 1) (h := 0) c18 (iv_lit (l := 1) (h := 1) (by decide)) (iv_lit (l := 0) (h := 0) (by decide)) (by decide)) (by decide)).elim
        · skip
          refine ⟨fun c19 => ?_, fun c19 => ?_⟩
          · skip
            exact hpost _ _ _ (iv_w (iv_lit (l := 0) (h := 0) (by decide)) (by decide)) k_a_huts
          · skip
            exact (iv_emp (iv_eqa (l := 1) (h := 0) c19 (iv_lit (l := 1) (h := 1) (by decide)) (iv_lit (l := 0) (h := 0) (by decide)) (by decide)) (by decide)).elim
-- wn_X3_play_6_15
set_option maxRecDepth 20000 in
theorem s_wn_X3_play_6_15_8 {f_minute : Int32} {f_avalanches : Int32} {f_begun : Int32} {f_climbed : Int32} {a_huts : Nat → Int32} {a_known : Nat → Int32} {a_levels : Nat → Int32} {a_snow : Nat → Int32} {lf_huts : Int32} {lf_singers : Int32} {lf_dams : Int32} {lf_echoes : Int32} {lf_deep : Int32} {la_heights : Nat → Int32} {la_ladders : Nat → Int32} {la_minutes : Nat → Int32} {la_echoFrom : Nat → Int32} {la_echoTo : Nat → Int32} {la_homes : Nat → Int32} {la_talls : Nat → Int32} {la_known : Nat → Int32} {vf_deeds : Int32} {va_kinds : Nat → Int32} {va_firsts : Nat → Int32} {va_seconds : Nat → Int32} {x3 : Int32} {x4 : Int32} {post : Int32 → (Int32) → (Int32) → (Int32) → (Int32) → (Nat → Int32) → (Nat → Int32) → (Nat → Int32) → (Nat → Int32) → Prop} (k_f_begun : iv 0 31 f_begun) (k_f_climbed : iv 0 63 f_climbed) (k_a_huts : ∀ j, iv 0 8 (a_huts j)) (k_a_known : ∀ j, iv 0 31 (a_known j)) (k_a_levels : ∀ j, iv (-9) 122 (a_levels j)) (k_lf_huts : iv 0 9 lf_huts) (k_lf_singers : iv 0 6 lf_singers) (k_lf_dams : iv 0 511 lf_dams) (k_lf_echoes : iv 0 4 lf_echoes) (k_lf_deep : iv 1 9 lf_deep) (k_la_heights : ∀ j, iv 0 99 (la_heights j)) (k_la_ladders : ∀ j, iv 0 9 (la_ladders j)) (k_la_minutes : ∀ j, iv 0 9 (la_minutes j)) (k_la_echoFrom : ∀ j, iv 0 8 (la_echoFrom j)) (k_la_echoTo : ∀ j, iv 0 8 (la_echoTo j)) (k_la_homes : ∀ j, iv 0 8 (la_homes j)) (k_la_talls : ∀ j, iv 0 9 (la_talls j)) (k_la_known : ∀ j, iv 0 31 (la_known j)) (k_vf_deeds : iv 0 40 vf_deeds) (k_va_kinds : ∀ j, iv 0 5 (va_kinds j)) (k_va_firsts : ∀ j, iv 0 5 (va_firsts j)) (k_va_seconds : ∀ j, iv (-1) 8 (va_seconds j)) (hx3 : iv 0 40 x3) (hx4 : iv 0 40 x4) (hpost : ∀ (r : Int32) (f_minute : Int32) (f_avalanches : Int32) (f_begun : Int32) (f_climbed : Int32) (a_huts : Nat → Int32) (a_known : Nat → Int32) (a_levels : Nat → Int32) (a_snow : Nat → Int32), iv 0 40 r → (iv 0 31 f_begun) → (iv 0 63 f_climbed) → (∀ j, iv 0 8 (a_huts j)) → (∀ j, iv 0 31 (a_known j)) → (∀ j, iv (-9) 122 (a_levels j)) → post r f_minute f_avalanches f_begun f_climbed a_huts a_known a_levels a_snow) : q_wn_X3_play_6_15_8 f_minute f_avalanches f_begun f_climbed a_huts a_known a_levels a_snow lf_huts lf_singers lf_dams lf_echoes lf_deep la_heights la_ladders la_minutes la_echoFrom la_echoTo la_homes la_talls la_known vf_deeds va_kinds va_firsts va_seconds x3 x4 post := by
  intro P hP
  have loop : ∀ (n : Nat) (x4 : Int32) (f_minute : Int32) (f_avalanches : Int32) (f_begun : Int32) (f_climbed : Int32) (a_huts : Nat → Int32) (a_known : Nat → Int32) (a_levels : Nat → Int32) (a_snow : Nat → Int32), (40 - x4.toInt < (n : Int)) → (iv 0 40 x4) → (iv 0 31 f_begun) → (iv 0 63 f_climbed) → (∀ j, iv 0 8 (a_huts j)) → (∀ j, iv 0 31 (a_known j)) → (∀ j, iv (-9) 122 (a_levels j)) → P x4 f_minute f_avalanches f_begun f_climbed a_huts a_known a_levels a_snow := by
    intro n
    induction n with
    | zero => intro x4 f_minute f_avalanches f_begun f_climbed a_huts a_known a_levels a_snow hm hx4 k_f_begun k_f_climbed k_a_huts k_a_known k_a_levels; exact (ms0_up hm hx4).elim
    | succ n ih =>
      intro x4 f_minute f_avalanches f_begun f_climbed a_huts a_known a_levels a_snow hm hx4 k_f_begun k_f_climbed k_a_huts k_a_known k_a_levels
      apply hP
      refine ⟨fun c1 => ?_, fun c1 => ?_⟩
      · skip
        exact hpost _ _ _ _ _ _ _ _ _ hx3 k_f_begun k_f_climbed k_a_huts k_a_known k_a_levels
      · skip
        refine ⟨fun c2 => ?_, fun c2 => ?_⟩
        · skip
          exact hpost _ _ _ _ _ _ _ _ _ (iv_w (iv_ltb (l := 1) (h := 40) (r_nle c1) hx4 hx3 (by decide)) (by decide)) k_f_begun k_f_climbed k_a_huts k_a_known k_a_levels
        · skip
          refine ⟨iv_in (iv_lta (l := 0) (h := 39) (r_nle c1) hx4 hx3 (by decide)) (by decide), ?_⟩
          refine ⟨iv_in (iv_lta (l := 0) (h := 39) (r_nle c1) hx4 hx3 (by decide)) (by decide), ?_⟩
          refine ⟨iv_in (iv_lta (l := 0) (h := 39) (r_nle c1) hx4 hx3 (by decide)) (by decide), ?_⟩
          refine ⟨fun c3 => ?_, fun c3 => ?_⟩
          · skip
            exact (iv_emp (iv_lta (l := 0) (h := (-1)) (r_lt c3) (k_va_firsts _) (iv_lit (l := 0) (h := 0) (by decide)) (by decide)) (by decide)).elim
          · skip
            refine ⟨fun c4 => ?_, fun c4 => ?_⟩
            · skip
              refine ⟨fun c5 => ?_, fun c5 => ?_⟩
              · skip
                exact (iv_emp (iv_ne (l := 1) (h := 0) c5 (iv_lit (l := 0) (h := 0) (by decide)) (iv_lit (l := 0) (h := 0) (by decide)) (by decide)) (by decide)).elim
              · skip
                refine ⟨fun c6 => ?_, fun c6 => ?_⟩
                · skip
                  exact (iv_emp (iv_ne (l := 1) (h := 0) c6 (iv_lit (l := 0) (h := 0) (by decide)) (iv_lit (l := 0) (h := 0) (by decide)) (by decide)) (by decide)).elim
                · skip
                  exact hpost _ _ _ _ _ _ _ _ _ (iv_w (iv_lta (l := 0) (h := 39) (r_nle c1) hx4 hx3 (by decide)) (by decide)) k_f_begun k_f_climbed k_a_huts k_a_known k_a_levels
            · skip
              refine ⟨fun c7 => ?_, fun c7 => ?_⟩
              · skip
                refine ⟨fun c8 => ?_, fun c8 => ?_, fun c8 => ?_, fun c8 => ?_⟩
                · skip
                  refine s_wn_X3_raise_6_0 k_f_begun k_f_climbed k_a_huts k_a_known k_a_levels (iv_ltb (l := 1) (h := 6) (r_nle c4) (k_va_firsts _) k_lf_singers (by decide)) k_lf_dams k_lf_echoes k_la_heights k_la_ladders k_la_echoFrom k_la_echoTo k_la_talls (k_va_kinds _) (k_va_firsts _) (k_va_seconds _) (fun r9 o10 o11 o12 o13 o14 hr9 k_o11 k_o12 k_o13 => ?_)
                  refine ⟨iv_nb hr9 (by decide), ?_⟩
                  refine ⟨fun c15 => ?_, fun c15 => ?_⟩
                  · skip
                    intro w16 ew16
                    have hw16 := iv_eq ew16 (iv_add (l := 1) (h := 40) (iv_lta (l := 0) (h := 39) (r_nle c1) hx4 hx3 (by decide)) (iv_lit (l := 1) (h := 1) (by decide)) (by decide))
                    exact ih _ _ _ _ _ _ _ _ _ (ms_up hm (inc_lt ew16 (iv_lta (l := 0) (h := 39) (r_nle c1) hx4 hx3 (by decide)) (by decide))) (iv_w hw16 (by decide)) k_o11 k_f_climbed k_a_huts k_o12 k_o13
                  · skip
                    exact hpost _ _ _ _ _ _ _ _ _ (iv_w (iv_lta (l := 0) (h := 39) (r_nle c1) hx4 hx3 (by decide)) (by decide)) k_o11 k_f_climbed k_a_huts k_o12 k_o13
                · skip
                  refine s_wn_X3_walk_6_0 k_f_climbed k_a_huts k_lf_huts k_lf_deep k_la_minutes (k_va_firsts _) (k_va_seconds _) (fun r17 o18 o19 hr17 k_o19 => ?_)
                  refine ⟨iv_nb hr17 (by decide), ?_⟩
                  refine ⟨fun c20 => ?_, fun c20 => ?_⟩
                  · skip
                    intro w21 ew21
                    have hw21 := iv_eq ew21 (iv_add (l := 1) (h := 40) (iv_lta (l := 0) (h := 39) (r_nle c1) hx4 hx3 (by decide)) (iv_lit (l := 1) (h := 1) (by decide)) (by decide))
                    exact ih _ _ _ _ _ _ _ _ _ (ms_up hm (inc_lt ew21 (iv_lta (l := 0) (h := 39) (r_nle c1) hx4 hx3 (by decide)) (by decide))) (iv_w hw21 (by decide)) k_f_begun k_f_climbed k_o19 k_a_known k_a_levels
                  · skip
                    exact hpost _ _ _ _ _ _ _ _ _ (iv_w (iv_lta (l := 0) (h := 39) (r_nle c1) hx4 hx3 (by decide)) (by decide)) k_f_begun k_f_climbed k_o19 k_a_known k_a_levels
                · skip
                  refine ⟨fun c22 => ?_, fun c22 => ?_⟩
                  · skip
                    refine ⟨fun c23 => ?_, fun c23 => ?_⟩
                    · skip
                      exact (iv_emp (iv_ne (l := 1) (h := 0) c23 (iv_lit (l := 0) (h := 0) (by decide)) (iv_lit (l := 0) (h := 0) (by decide)) (by decide)) (by decide)).elim
                    · skip
                      refine ⟨iv_in (k_va_firsts _) (by decide), ?_⟩
                      refine ⟨iv_in (k_a_huts _) (by decide), ?_⟩
                      refine ⟨fun c24 => ?_, fun c24 => ?_⟩
                      · skip
                        intro w25 ew25
                        have hw25 := iv_eq ew25 (iv_or 6 (l := 0) (h := 63) k_f_climbed (iv_shl1 (l := 1) (h := 32) (iv_lit (l := 1) (h := 1) (by decide)) (k_va_firsts _) (by decide)) (by decide))
                        refine ⟨iv_nb (iv_lit (l := 1) (h := 1) (by decide)) (by decide), ?_⟩
                        refine ⟨fun c26 => ?_, fun c26 => ?_⟩
                        · skip
                          intro w27 ew27
                          have hw27 := iv_eq ew27 (iv_add (l := 1) (h := 40) (iv_lta (l := 0) (h := 39) (r_nle c1) hx4 hx3 (by decide)) (iv_lit (l := 1) (h := 1) (by decide)) (by decide))
                          exact ih _ _ _ _ _ _ _ _ _ (ms_up hm (inc_lt ew27 (iv_lta (l := 0) (h := 39) (r_nle c1) hx4 hx3 (by decide)) (by decide))) (iv_w hw27 (by decide)) k_f_begun hw25 k_a_huts k_a_known k_a_levels
                        · skip
                          exact (iv_emp (iv_eqa (l := 1) (h := 0) c26 (iv_lit (l := 1) (h := 1) (by decide)) (iv_lit (l := 0) (h := 0) (by decide)) (by decide)) (by decide)).elim
                      · skip
                        refine ⟨iv_nb (iv_lit (l := 0) (h := 0) (by decide)) (by decide), ?_⟩
                        refine ⟨fun c28 => ?_, fun c28 => ?_⟩
                        · skip
                          exact (iv_emp (iv_ne (l := 1) (h := 0) c28 (iv_lit (l := 0) (h := 0) (by decide)) (iv_lit (l := 0) (h := 0) (by decide)) (by decide)) (by decide)).elim
                        · skip
                          exact hpost _ _ _ _ _ _ _ _ _ (iv_w (iv_lta (l := 0) (h := 39) (r_nle c1) hx4 hx3 (by decide)) (by decide)) k_f_begun k_f_climbed k_a_huts k_a_known k_a_levels
                  · skip
                    refine ⟨fun c29 => ?_, fun c29 => ?_⟩
                    · skip
                      refine ⟨iv_nb (iv_lit (l := 0) (h := 0) (by decide)) (by decide), ?_⟩
                      refine ⟨fun c30 => ?_, fun c30 => ?_⟩
                      · skip
                        exact (iv_emp (iv_ne (l := 1) (h := 0) c30 (iv_lit (l := 0) (h := 0) (by decide)) (iv_lit (l := 0) (h := 0) (by decide)) (by decide)) (by decide)).elim
                      · skip
                        exact hpost _ _ _ _ _ _ _ _ _ (iv_w (iv_lta (l := 0) (h := 39) (r_nle c1) hx4 hx3 (by decide)) (by decide)) k_f_begun k_f_climbed k_a_huts k_a_known k_a_levels
                    · skip
                      exact (iv_emp (iv_eqa (l := 1) (h := 0) c29 (iv_lit (l := 1) (h := 1) (by decide)) (iv_lit (l := 0) (h := 0) (by decide)) (by decide)) (by decide)).elim
                · skip
                  refine ⟨fun c31 => ?_, fun c31 => ?_⟩
                  · skip
                    refine ⟨fun c32 => ?_, fun c32 => ?_⟩
                    · skip
                      exact (iv_emp (iv_ne (l := 1) (h := 0) c32 (iv_lit (l := 0) (h := 0) (by decide)) (iv_lit (l := 0) (h := 0) (by decide)) (by decide)) (by decide)).elim
                    · skip
                      refine ⟨iv_nb (iv_lit (l := 0) (h := 0) (by decide)) (by decide), ?_⟩
                      refine ⟨fun c33 => ?_, fun c33 => ?_⟩
                      · skip
                        exact (iv_emp (iv_ne (l := 1) (h := 0) c33 (iv_lit (l := 0) (h := 0) (by decide)) (iv_lit (l := 0) (h := 0) (by decide)) (by decide)) (by decide)).elim
                      · skip
                        exact hpost _ _ _ _ _ _ _ _ _ (iv_w (iv_lta (l := 0) (h := 39) (r_nle c1) hx4 hx3 (by decide)) (by decide)) k_f_begun k_f_climbed k_a_huts k_a_known k_a_levels
                  · skip
                    refine ⟨fun c34 => ?_, fun c34 => ?_⟩
                    · skip
                      intro w35 ew35
                      have hw35 := iv_eq ew35 (iv_andl (l := 0) (h := 63) k_f_climbed (by decide))
                      refine ⟨iv_nb (iv_lit (l := 1) (h := 1) (by decide)) (by decide), ?_⟩
                      refine ⟨fun c36 => ?_, fun c36 => ?_⟩
                      · skip
                        intro w37 ew37
                        have hw37 := iv_eq ew37 (iv_add (l := 1) (h := 40) (iv_lta (l := 0) (h := 39) (r_nle c1) hx4 hx3 (by decide)) (iv_lit (l := 1) (h := 1) (by decide)) (by decide))
                        exact ih _ _ _ _ _ _ _ _ _ (ms_up hm (inc_lt ew37 (iv_lta (l := 0) (h := 39) (r_nle c1) hx4 hx3 (by decide)) (by decide))) (iv_w hw37 (by decide)) k_f_begun hw35 k_a_huts k_a_known k_a_levels
                      · skip
                        exact (iv_emp (iv_eqa (l := 1) (h := 0) c36 (iv_lit (l := 1) (h := 1) (by decide)) (iv_lit (l := 0) (h := 0) (by decide)) (by decide)) (by decide)).elim
                    · skip
                      exact (iv_emp (iv_eqa (l := 1) (h := 0) c34 (iv_lit (l := 1) (h := 1) (by decide)) (iv_lit (l := 0) (h := 0) (by decide)) (by decide)) (by decide)).elim
              · skip
                exact (iv_emp (iv_eqa (l := 1) (h := 0) c7 (iv_lit (l := 1) (h := 1) (by decide)) (iv_lit (l := 0) (h := 0) (by decide)) (by decide)) (by decide)).elim
  exact loop _ _ _ _ _ _ _ _ _ _ (ms_init_up _ _) hx4 k_f_begun k_f_climbed k_a_huts k_a_known k_a_levels
set_option maxRecDepth 20000 in
theorem s_wn_X3_play_6_15_0 {f_minute : Int32} {f_avalanches : Int32} {f_begun : Int32} {f_climbed : Int32} {a_huts : Nat → Int32} {a_known : Nat → Int32} {a_levels : Nat → Int32} {a_snow : Nat → Int32} {lf_huts : Int32} {lf_singers : Int32} {lf_dams : Int32} {lf_echoes : Int32} {lf_deep : Int32} {la_heights : Nat → Int32} {la_ladders : Nat → Int32} {la_minutes : Nat → Int32} {la_echoFrom : Nat → Int32} {la_echoTo : Nat → Int32} {la_homes : Nat → Int32} {la_talls : Nat → Int32} {la_known : Nat → Int32} {vf_deeds : Int32} {va_kinds : Nat → Int32} {va_firsts : Nat → Int32} {va_seconds : Nat → Int32} {x3 : Int32} {post : Int32 → (Int32) → (Int32) → (Int32) → (Int32) → (Nat → Int32) → (Nat → Int32) → (Nat → Int32) → (Nat → Int32) → Prop} (k_f_begun : iv 0 31 f_begun) (k_f_climbed : iv 0 63 f_climbed) (k_a_huts : ∀ j, iv 0 8 (a_huts j)) (k_a_known : ∀ j, iv 0 31 (a_known j)) (k_a_levels : ∀ j, iv (-9) 122 (a_levels j)) (k_lf_huts : iv 0 9 lf_huts) (k_lf_singers : iv 0 6 lf_singers) (k_lf_dams : iv 0 511 lf_dams) (k_lf_echoes : iv 0 4 lf_echoes) (k_lf_deep : iv 1 9 lf_deep) (k_la_heights : ∀ j, iv 0 99 (la_heights j)) (k_la_ladders : ∀ j, iv 0 9 (la_ladders j)) (k_la_minutes : ∀ j, iv 0 9 (la_minutes j)) (k_la_echoFrom : ∀ j, iv 0 8 (la_echoFrom j)) (k_la_echoTo : ∀ j, iv 0 8 (la_echoTo j)) (k_la_homes : ∀ j, iv 0 8 (la_homes j)) (k_la_talls : ∀ j, iv 0 9 (la_talls j)) (k_la_known : ∀ j, iv 0 31 (la_known j)) (k_vf_deeds : iv 0 40 vf_deeds) (k_va_kinds : ∀ j, iv 0 5 (va_kinds j)) (k_va_firsts : ∀ j, iv 0 5 (va_firsts j)) (k_va_seconds : ∀ j, iv (-1) 8 (va_seconds j)) (hx3 : iv 0 40 x3) (hpost : ∀ (r : Int32) (f_minute : Int32) (f_avalanches : Int32) (f_begun : Int32) (f_climbed : Int32) (a_huts : Nat → Int32) (a_known : Nat → Int32) (a_levels : Nat → Int32) (a_snow : Nat → Int32), iv 0 40 r → (iv 0 31 f_begun) → (iv 0 63 f_climbed) → (∀ j, iv 0 8 (a_huts j)) → (∀ j, iv 0 31 (a_known j)) → (∀ j, iv (-9) 122 (a_levels j)) → post r f_minute f_avalanches f_begun f_climbed a_huts a_known a_levels a_snow) : q_wn_X3_play_6_15_0 f_minute f_avalanches f_begun f_climbed a_huts a_known a_levels a_snow lf_huts lf_singers lf_dams lf_echoes lf_deep la_heights la_ladders la_minutes la_echoFrom la_echoTo la_homes la_talls la_known vf_deeds va_kinds va_firsts va_seconds x3 post := by
  refine s_wn_X3_start_6_0 k_f_begun k_f_climbed k_a_huts k_a_known k_a_levels k_la_homes k_la_known (fun o1 o2 o3 o4 o5 o6 o7 o8 k_o1 k_o2 k_o3 k_o4 k_o5 k_o6 k_o7 => ?_)
  exact s_wn_X3_play_6_15_8 (iv_w k_o3 (by decide)) (iv_w k_o4 (by decide)) k_o5 k_o6 k_o7 k_lf_huts k_lf_singers k_lf_dams k_lf_echoes k_lf_deep k_la_heights k_la_ladders k_la_minutes k_la_echoFrom k_la_echoTo k_la_homes k_la_talls k_la_known k_vf_deeds k_va_kinds k_va_firsts k_va_seconds hx3 (iv_w (iv_lit (l := 0) (h := 0) (by decide)) (by decide)) hpost
-- wn_X3_draw_6
set_option maxRecDepth 20000 in
theorem s_wn_X3_draw_6_93 {P13 : Int32 → (Int32) → (Int32) → (Int32) → (Int32) → (Int32) → (Nat → Int32) → (Nat → Int32) → (Nat → Int32) → (Nat → Int32) → Prop} {f_minute : Int32} {f_avalanches : Int32} {f_begun : Int32} {f_climbed : Int32} {f_seed : Int32} {a_huts : Nat → Int32} {a_known : Nat → Int32} {a_levels : Nat → Int32} {a_snow : Nat → Int32} {lf_huts : Int32} {lf_singers : Int32} {lf_dams : Int32} {lf_echoes : Int32} {lf_deep : Int32} {la_heights : Nat → Int32} {la_ladders : Nat → Int32} {la_minutes : Nat → Int32} {la_echoFrom : Nat → Int32} {la_echoTo : Nat → Int32} {la_homes : Nat → Int32} {la_talls : Nat → Int32} {la_known : Nat → Int32} {x3 : Int32} {x4 : Int32} {post : (Int32) → (Int32) → (Int32) → (Int32) → (Int32) → (Nat → Int32) → (Nat → Int32) → (Nat → Int32) → (Nat → Int32) → Prop} (k_f_begun : iv 0 31 f_begun) (k_f_climbed : iv 0 0 f_climbed) (k_a_huts : ∀ j, iv 0 8 (a_huts j)) (k_a_known : ∀ j, iv 0 31 (a_known j)) (k_a_levels : ∀ j, iv (-9) 122 (a_levels j)) (k_lf_huts : iv 0 9 lf_huts) (k_lf_singers : iv 1 6 lf_singers) (k_lf_dams : iv 0 511 lf_dams) (k_lf_echoes : iv 0 4 lf_echoes) (k_lf_deep : iv 1 9 lf_deep) (k_la_heights : ∀ j, iv 0 99 (la_heights j)) (k_la_ladders : ∀ j, iv 0 9 (la_ladders j)) (k_la_minutes : ∀ j, iv 0 9 (la_minutes j)) (k_la_echoFrom : ∀ j, iv 0 8 (la_echoFrom j)) (k_la_echoTo : ∀ j, iv 0 8 (la_echoTo j)) (k_la_homes : ∀ j, iv 0 8 (la_homes j)) (k_la_talls : ∀ j, iv 0 9 (la_talls j)) (k_la_known : ∀ j, iv 0 31 (la_known j)) (hx3 : iv 1 60 x3) (hx4 : iv 0 59 x4) (m13 : Int) (hm13 : m13 ≤ x4.toInt) (hP13 : ∀ (x4 : Int32) (f_minute : Int32) (f_avalanches : Int32) (f_begun : Int32) (f_climbed : Int32) (f_seed : Int32) (a_huts : Nat → Int32) (a_known : Nat → Int32) (a_levels : Nat → Int32) (a_snow : Nat → Int32), m13 < x4.toInt → iv 0 60 x4 → (iv 0 31 f_begun) → (iv 0 0 f_climbed) → (∀ j, iv 0 8 (a_huts j)) → (∀ j, iv 0 31 (a_known j)) → (∀ j, iv (-9) 122 (a_levels j)) → P13 x4 f_minute f_avalanches f_begun f_climbed f_seed a_huts a_known a_levels a_snow) (hpost : ∀ (f_minute : Int32) (f_avalanches : Int32) (f_begun : Int32) (f_climbed : Int32) (f_seed : Int32) (a_huts : Nat → Int32) (a_known : Nat → Int32) (a_levels : Nat → Int32) (a_snow : Nat → Int32), (iv 0 31 f_begun) → (iv 0 0 f_climbed) → (∀ j, iv 0 8 (a_huts j)) → (∀ j, iv 0 31 (a_known j)) → (∀ j, iv (-9) 122 (a_levels j)) → post f_minute f_avalanches f_begun f_climbed f_seed a_huts a_known a_levels a_snow) : q_wn_X3_draw_6_93 P13 f_minute f_avalanches f_begun f_climbed f_seed a_huts a_known a_levels a_snow lf_huts lf_singers lf_dams lf_echoes lf_deep la_heights la_ladders la_minutes la_echoFrom la_echoTo la_homes la_talls la_known x3 x4 post := by
  intro w1 ew1
  have hw1 := iv_eq ew1 (iv_add (l := 1) (h := 60) hx4 (iv_lit (l := 1) (h := 1) (by decide)) (by decide))
  exact hP13 _ _ _ _ _ _ _ _ _ _ (ml_up hm13 (inc_lt ew1 hx4 (by decide))) (iv_w hw1 (by decide)) k_f_begun k_f_climbed k_a_huts k_a_known k_a_levels
set_option maxRecDepth 20000 in
theorem s_wn_X3_draw_6_85 {P13 : Int32 → (Int32) → (Int32) → (Int32) → (Int32) → (Int32) → (Nat → Int32) → (Nat → Int32) → (Nat → Int32) → (Nat → Int32) → Prop} {f_minute : Int32} {f_avalanches : Int32} {f_begun : Int32} {f_climbed : Int32} {f_seed : Int32} {a_huts : Nat → Int32} {a_known : Nat → Int32} {a_levels : Nat → Int32} {a_snow : Nat → Int32} {lf_huts : Int32} {lf_singers : Int32} {lf_dams : Int32} {lf_echoes : Int32} {lf_deep : Int32} {la_heights : Nat → Int32} {la_ladders : Nat → Int32} {la_minutes : Nat → Int32} {la_echoFrom : Nat → Int32} {la_echoTo : Nat → Int32} {la_homes : Nat → Int32} {la_talls : Nat → Int32} {la_known : Nat → Int32} {x3 : Int32} {x4 : Int32} {x5 : Int32} {x6 : Int32} {y0 : Int32} {post : (Int32) → (Int32) → (Int32) → (Int32) → (Int32) → (Nat → Int32) → (Nat → Int32) → (Nat → Int32) → (Nat → Int32) → Prop} (k_f_begun : iv 0 31 f_begun) (k_f_climbed : iv 0 0 f_climbed) (k_a_huts : ∀ j, iv 0 8 (a_huts j)) (k_a_known : ∀ j, iv 0 31 (a_known j)) (k_a_levels : ∀ j, iv (-9) 122 (a_levels j)) (k_lf_huts : iv 0 9 lf_huts) (k_lf_singers : iv 1 6 lf_singers) (k_lf_dams : iv 0 511 lf_dams) (k_lf_echoes : iv 0 4 lf_echoes) (k_lf_deep : iv 1 9 lf_deep) (k_la_heights : ∀ j, iv 0 99 (la_heights j)) (k_la_ladders : ∀ j, iv 0 9 (la_ladders j)) (k_la_minutes : ∀ j, iv 0 9 (la_minutes j)) (k_la_echoFrom : ∀ j, iv 0 8 (la_echoFrom j)) (k_la_echoTo : ∀ j, iv 0 8 (la_echoTo j)) (k_la_homes : ∀ j, iv 0 8 (la_homes j)) (k_la_talls : ∀ j, iv 0 9 (la_talls j)) (k_la_known : ∀ j, iv 0 31 (la_known j)) (hx3 : iv 1 60 x3) (hx4 : iv 0 59 x4) (hx5 : iv 0 5 x5) (hx6 : iv 0 4 x6) (hy0 : iv 0 1 y0) (m13 : Int) (hm13 : m13 ≤ x4.toInt) (hP13 : ∀ (x4 : Int32) (f_minute : Int32) (f_avalanches : Int32) (f_begun : Int32) (f_climbed : Int32) (f_seed : Int32) (a_huts : Nat → Int32) (a_known : Nat → Int32) (a_levels : Nat → Int32) (a_snow : Nat → Int32), m13 < x4.toInt → iv 0 60 x4 → (iv 0 31 f_begun) → (iv 0 0 f_climbed) → (∀ j, iv 0 8 (a_huts j)) → (∀ j, iv 0 31 (a_known j)) → (∀ j, iv (-9) 122 (a_levels j)) → P13 x4 f_minute f_avalanches f_begun f_climbed f_seed a_huts a_known a_levels a_snow) (hpost : ∀ (f_minute : Int32) (f_avalanches : Int32) (f_begun : Int32) (f_climbed : Int32) (f_seed : Int32) (a_huts : Nat → Int32) (a_known : Nat → Int32) (a_levels : Nat → Int32) (a_snow : Nat → Int32), (iv 0 31 f_begun) → (iv 0 0 f_climbed) → (∀ j, iv 0 8 (a_huts j)) → (∀ j, iv 0 31 (a_known j)) → (∀ j, iv (-9) 122 (a_levels j)) → post f_minute f_avalanches f_begun f_climbed f_seed a_huts a_known a_levels a_snow) : q_wn_X3_draw_6_85 P13 f_minute f_avalanches f_begun f_climbed f_seed a_huts a_known a_levels a_snow lf_huts lf_singers lf_dams lf_echoes lf_deep la_heights la_ladders la_minutes la_echoFrom la_echoTo la_homes la_talls la_known x3 x4 x5 x6 y0 post := by
  refine ⟨fun c1 => ?_, fun c1 => ?_⟩
  · skip
    exact (iv_emp (iv_lta (l := 0) (h := (-1)) (r_lt c1) hx5 (iv_lit (l := 0) (h := 0) (by decide)) (by decide)) (by decide)).elim
  · skip
    refine ⟨fun c2 => ?_, fun c2 => ?_⟩
    · skip
      refine ⟨fun c3 => ?_, fun c3 => ?_⟩
      · skip
        exact (iv_emp (iv_ne (l := 1) (h := 0) c3 (iv_lit (l := 0) (h := 0) (by decide)) (iv_lit (l := 0) (h := 0) (by decide)) (by decide)) (by decide)).elim
      · skip
        exact s_wn_X3_draw_6_93 k_f_begun k_f_climbed k_a_huts k_a_known k_a_levels k_lf_huts (iv_w (iv_lea (l := 1) (h := 5) (r_le c2) k_lf_singers hx5 (by decide)) (by decide)) k_lf_dams k_lf_echoes k_lf_deep k_la_heights k_la_ladders k_la_minutes k_la_echoFrom k_la_echoTo k_la_homes k_la_talls k_la_known hx3 hx4 m13 hm13 hP13 hpost
    · skip
      refine ⟨fun c4 => ?_, fun c4 => ?_⟩
      · skip
        refine ⟨fun c5 => ?_, fun c5 => ?_, fun c5 => ?_, fun c5 => ?_⟩
        · skip
          refine s_wn_X3_raise_6_0 k_f_begun (iv_w k_f_climbed (by decide)) k_a_huts k_a_known k_a_levels k_lf_singers k_lf_dams k_lf_echoes k_la_heights k_la_ladders k_la_echoFrom k_la_echoTo k_la_talls (iv_w hy0 (by decide)) hx5 (iv_w hx6 (by decide)) (fun r6 o7 o8 o9 o10 o11 hr6 k_o8 k_o9 k_o10 => ?_)
          refine ⟨iv_nb hr6 (by decide), ?_⟩
          exact s_wn_X3_draw_6_93 k_o8 k_f_climbed k_a_huts k_o9 k_o10 k_lf_huts k_lf_singers k_lf_dams k_lf_echoes k_lf_deep k_la_heights k_la_ladders k_la_minutes k_la_echoFrom k_la_echoTo k_la_homes k_la_talls k_la_known hx3 hx4 m13 hm13 hP13 hpost
        · skip
          exact (iv_emp (iv_eqa (l := 3) (h := 1) c5 hy0 (iv_lit (l := 3) (h := 3) (by decide)) (by decide)) (by decide)).elim
        · skip
          exact (iv_emp (iv_eqa (l := 4) (h := 1) c5 hy0 (iv_lit (l := 4) (h := 4) (by decide)) (by decide)) (by decide)).elim
        · skip
          exact (iv_emp (iv_eqa (l := 5) (h := 1) c5 hy0 (iv_lit (l := 5) (h := 5) (by decide)) (by decide)) (by decide)).elim
      · skip
        exact (iv_emp (iv_eqa (l := 1) (h := 0) c4 (iv_lit (l := 1) (h := 1) (by decide)) (iv_lit (l := 0) (h := 0) (by decide)) (by decide)) (by decide)).elim
set_option maxRecDepth 20000 in
theorem s_wn_X3_draw_6_13 {f_minute : Int32} {f_avalanches : Int32} {f_begun : Int32} {f_climbed : Int32} {f_seed : Int32} {a_huts : Nat → Int32} {a_known : Nat → Int32} {a_levels : Nat → Int32} {a_snow : Nat → Int32} {lf_huts : Int32} {lf_singers : Int32} {lf_dams : Int32} {lf_echoes : Int32} {lf_deep : Int32} {la_heights : Nat → Int32} {la_ladders : Nat → Int32} {la_minutes : Nat → Int32} {la_echoFrom : Nat → Int32} {la_echoTo : Nat → Int32} {la_homes : Nat → Int32} {la_talls : Nat → Int32} {la_known : Nat → Int32} {x3 : Int32} {x4 : Int32} {post : (Int32) → (Int32) → (Int32) → (Int32) → (Int32) → (Nat → Int32) → (Nat → Int32) → (Nat → Int32) → (Nat → Int32) → Prop} (k_f_begun : iv 0 31 f_begun) (k_f_climbed : iv 0 0 f_climbed) (k_a_huts : ∀ j, iv 0 8 (a_huts j)) (k_a_known : ∀ j, iv 0 31 (a_known j)) (k_a_levels : ∀ j, iv (-9) 122 (a_levels j)) (k_lf_huts : iv 0 9 lf_huts) (k_lf_singers : iv 1 6 lf_singers) (k_lf_dams : iv 0 511 lf_dams) (k_lf_echoes : iv 0 4 lf_echoes) (k_lf_deep : iv 1 9 lf_deep) (k_la_heights : ∀ j, iv 0 99 (la_heights j)) (k_la_ladders : ∀ j, iv 0 9 (la_ladders j)) (k_la_minutes : ∀ j, iv 0 9 (la_minutes j)) (k_la_echoFrom : ∀ j, iv 0 8 (la_echoFrom j)) (k_la_echoTo : ∀ j, iv 0 8 (la_echoTo j)) (k_la_homes : ∀ j, iv 0 8 (la_homes j)) (k_la_talls : ∀ j, iv 0 9 (la_talls j)) (k_la_known : ∀ j, iv 0 31 (la_known j)) (hx3 : iv 0 60 x3) (hx4 : iv 0 60 x4) (hpost : ∀ (f_minute : Int32) (f_avalanches : Int32) (f_begun : Int32) (f_climbed : Int32) (f_seed : Int32) (a_huts : Nat → Int32) (a_known : Nat → Int32) (a_levels : Nat → Int32) (a_snow : Nat → Int32), (iv 0 31 f_begun) → (iv 0 0 f_climbed) → (∀ j, iv 0 8 (a_huts j)) → (∀ j, iv 0 31 (a_known j)) → (∀ j, iv (-9) 122 (a_levels j)) → post f_minute f_avalanches f_begun f_climbed f_seed a_huts a_known a_levels a_snow) : q_wn_X3_draw_6_13 f_minute f_avalanches f_begun f_climbed f_seed a_huts a_known a_levels a_snow lf_huts lf_singers lf_dams lf_echoes lf_deep la_heights la_ladders la_minutes la_echoFrom la_echoTo la_homes la_talls la_known x3 x4 post := by
  intro P hP
  have loop : ∀ (n : Nat) (x4 : Int32) (f_minute : Int32) (f_avalanches : Int32) (f_begun : Int32) (f_climbed : Int32) (f_seed : Int32) (a_huts : Nat → Int32) (a_known : Nat → Int32) (a_levels : Nat → Int32) (a_snow : Nat → Int32), (60 - x4.toInt < (n : Int)) → (iv 0 60 x4) → (iv 0 31 f_begun) → (iv 0 0 f_climbed) → (∀ j, iv 0 8 (a_huts j)) → (∀ j, iv 0 31 (a_known j)) → (∀ j, iv (-9) 122 (a_levels j)) → P x4 f_minute f_avalanches f_begun f_climbed f_seed a_huts a_known a_levels a_snow := by
    intro n
    induction n with
    | zero => intro x4 f_minute f_avalanches f_begun f_climbed f_seed a_huts a_known a_levels a_snow hm hx4 k_f_begun k_f_climbed k_a_huts k_a_known k_a_levels; exact (ms0_up hm hx4).elim
    | succ n ih =>
      intro x4 f_minute f_avalanches f_begun f_climbed f_seed a_huts a_known a_levels a_snow hm hx4 k_f_begun k_f_climbed k_a_huts k_a_known k_a_levels
      apply hP
      refine ⟨fun c1 => ?_, fun c1 => ?_⟩
      · skip
        exact hpost _ _ _ _ _ _ _ _ _ k_f_begun k_f_climbed k_a_huts k_a_known k_a_levels
      · skip
        intro w2 ew2
        refine ⟨fun c3 => ?_, fun c3 => ?_⟩
        · skip
          exact (iv_emp (iv_lea (l := 1) (h := 0) (r_le c3) k_lf_singers (iv_lit (l := 0) (h := 0) (by decide)) (by decide)) (by decide)).elim
        · skip
          refine ⟨iv_ne0 k_lf_singers (by decide), ?_⟩
          intro w4 ew4
          refine ⟨fun c5 => ?_, fun c5 => ?_⟩
          · skip
            exact (iv_emp (iv_lea (l := 8) (h := 0) (r_le c5) (iv_lit (l := 8) (h := 8) (by decide)) (iv_lit (l := 0) (h := 0) (by decide)) (by decide)) (by decide)).elim
          · skip
            refine ⟨iv_ne0 (iv_lit (l := 8) (h := 8) (by decide)) (by decide), ?_⟩
            refine ⟨fun c6 => ?_, fun c6 => ?_⟩
            · skip
              intro w7 ew7
              refine ⟨fun c8 => ?_, fun c8 => ?_⟩
              · skip
                exact (iv_emp (iv_lea (l := 5) (h := 0) (r_le c8) (iv_lit (l := 5) (h := 5) (by decide)) (iv_lit (l := 0) (h := 0) (by decide)) (by decide)) (by decide)).elim
              · skip
                refine ⟨iv_ne0 (iv_lit (l := 5) (h := 5) (by decide)) (by decide), ?_⟩
                refine ⟨fun c9 => ?_, fun c9 => ?_⟩
                · skip
                  refine ⟨fun c10 => ?_, fun c10 => ?_⟩
                  · skip
                    exact s_wn_X3_draw_6_85 k_f_begun k_f_climbed k_a_huts k_a_known k_a_levels k_lf_huts k_lf_singers k_lf_dams k_lf_echoes k_lf_deep k_la_heights k_la_ladders k_la_minutes k_la_echoFrom k_la_echoTo k_la_homes k_la_talls k_la_known (iv_ltb (l := 1) (h := 60) (r_nle c1) hx4 hx3 (by decide)) (iv_lta (l := 0) (h := 59) (r_nle c1) hx4 hx3 (by decide)) (iv_rem (l := 0) (h := 5) (iv_ushr16 _) k_lf_singers (by decide)) (iv_rem (l := 0) (h := 4) (iv_ushr16 _) (iv_lit (l := 5) (h := 5) (by decide)) (by decide)) (iv_w (iv_lit (l := 0) (h := 0) (by decide)) (by decide)) x4.toInt (Int.le_refl _) (fun u0 u1 u2 u3 u4 u5 u6 u7 u8 u9 hq g0 g1 g2 g3 g4 g5 => ih u0 u1 u2 u3 u4 u5 u6 u7 u8 u9 (ms_up hm hq) g0 g1 g2 g3 g4 g5) hpost
                  · skip
                    exact (iv_emp (iv_ne (l := 1) (h := 0) c10 (iv_lit (l := 0) (h := 0) (by decide)) (iv_lit (l := 0) (h := 0) (by decide)) (by decide)) (by decide)).elim
                · skip
                  refine ⟨fun c11 => ?_, fun c11 => ?_⟩
                  · skip
                    exact (iv_emp (iv_eqa (l := 1) (h := 0) c11 (iv_lit (l := 1) (h := 1) (by decide)) (iv_lit (l := 0) (h := 0) (by decide)) (by decide)) (by decide)).elim
                  · skip
                    exact s_wn_X3_draw_6_85 k_f_begun k_f_climbed k_a_huts k_a_known k_a_levels k_lf_huts k_lf_singers k_lf_dams k_lf_echoes k_lf_deep k_la_heights k_la_ladders k_la_minutes k_la_echoFrom k_la_echoTo k_la_homes k_la_talls k_la_known (iv_ltb (l := 1) (h := 60) (r_nle c1) hx4 hx3 (by decide)) (iv_lta (l := 0) (h := 59) (r_nle c1) hx4 hx3 (by decide)) (iv_rem (l := 0) (h := 5) (iv_ushr16 _) k_lf_singers (by decide)) (iv_rem (l := 0) (h := 4) (iv_ushr16 _) (iv_lit (l := 5) (h := 5) (by decide)) (by decide)) (iv_w (iv_lit (l := 1) (h := 1) (by decide)) (by decide)) x4.toInt (Int.le_refl _) (fun u0 u1 u2 u3 u4 u5 u6 u7 u8 u9 hq g0 g1 g2 g3 g4 g5 => ih u0 u1 u2 u3 u4 u5 u6 u7 u8 u9 (ms_up hm hq) g0 g1 g2 g3 g4 g5) hpost
            · skip
              intro w12 ew12
              refine ⟨fun c13 => ?_, fun c13 => ?_⟩
              · skip
                refine ⟨fun c14 => ?_, fun c14 => ?_⟩
                · skip
                  exact (iv_emp (iv_lta (l := 0) (h := (-1)) (r_lt c14) (iv_rem (l := 0) (h := 5) (iv_ushr16 _) k_lf_singers (by decide)) (iv_lit (l := 0) (h := 0) (by decide)) (by decide)) (by decide)).elim
                · skip
                  refine ⟨fun c15 => ?_, fun c15 => ?_⟩
                  · skip
                    refine ⟨fun c16 => ?_, fun c16 => ?_⟩
                    · skip
                      exact (iv_emp (iv_ne (l := 1) (h := 0) c16 (iv_lit (l := 0) (h := 0) (by decide)) (iv_lit (l := 0) (h := 0) (by decide)) (by decide)) (by decide)).elim
                    · skip
                      exact s_wn_X3_draw_6_93 k_f_begun k_f_climbed k_a_huts k_a_known k_a_levels (iv_w (iv_lea (l := 0) (h := 0) (r_le c13) k_lf_huts (iv_lit (l := 0) (h := 0) (by decide)) (by decide)) (by decide)) (iv_w (iv_lea (l := 1) (h := 5) (r_le c15) k_lf_singers (iv_rem (l := 0) (h := 5) (iv_ushr16 _) k_lf_singers (by decide)) (by decide)) (by decide)) k_lf_dams k_lf_echoes k_lf_deep k_la_heights k_la_ladders k_la_minutes k_la_echoFrom k_la_echoTo k_la_homes k_la_talls k_la_known (iv_ltb (l := 1) (h := 60) (r_nle c1) hx4 hx3 (by decide)) (iv_lta (l := 0) (h := 59) (r_nle c1) hx4 hx3 (by decide)) x4.toInt (Int.le_refl _) (fun u0 u1 u2 u3 u4 u5 u6 u7 u8 u9 hq g0 g1 g2 g3 g4 g5 => ih u0 u1 u2 u3 u4 u5 u6 u7 u8 u9 (ms_up hm hq) g0 g1 g2 g3 g4 g5) hpost
                  · skip
                    refine ⟨fun c17 => ?_, fun c17 => ?_⟩
                    · skip
                      refine ⟨fun c18 => ?_, fun c18 => ?_, fun c18 => ?_, fun c18 => ?_⟩
                      · skip
                        exact (iv_sw c18 (iv_lit (l := 3) (h := 3) (by decide)) (by decide)).elim
                      · skip
                        refine s_wn_X3_walk_6_0 (iv_w k_f_climbed (by decide)) k_a_huts (iv_w (iv_lea (l := 0) (h := 0) (r_le c13) k_lf_huts (iv_lit (l := 0) (h := 0) (by decide)) (by decide)) (by decide)) k_lf_deep k_la_minutes (iv_rem (l := 0) (h := 5) (iv_ushr16 _) k_lf_singers (by decide)) (iv_w (iv_lit (l := 0) (h := 0) (by decide)) (by decide)) (fun r19 o20 o21 hr19 k_o21 => ?_)
                        refine ⟨iv_nb hr19 (by decide), ?_⟩
                        exact s_wn_X3_draw_6_93 k_f_begun k_f_climbed k_o21 k_a_known k_a_levels (iv_w (iv_lea (l := 0) (h := 0) (r_le c13) k_lf_huts (iv_lit (l := 0) (h := 0) (by decide)) (by decide)) (by decide)) k_lf_singers k_lf_dams k_lf_echoes k_lf_deep k_la_heights k_la_ladders k_la_minutes k_la_echoFrom k_la_echoTo k_la_homes k_la_talls k_la_known (iv_ltb (l := 1) (h := 60) (r_nle c1) hx4 hx3 (by decide)) (iv_lta (l := 0) (h := 59) (r_nle c1) hx4 hx3 (by decide)) x4.toInt (Int.le_refl _) (fun u0 u1 u2 u3 u4 u5 u6 u7 u8 u9 hq g0 g1 g2 g3 g4 g5 => ih u0 u1 u2 u3 u4 u5 u6 u7 u8 u9 (ms_up hm hq) g0 g1 g2 g3 g4 g5) hpost
                      · skip
                        exact (iv_emp (iv_eqa (l := 4) (h := 3) c18 (iv_lit (l := 3) (h := 3) (by decide)) (iv_lit (l := 4) (h := 4) (by decide)) (by decide)) (by decide)).elim
                      · skip
                        exact (iv_emp (iv_eqa (l := 5) (h := 3) c18 (iv_lit (l := 3) (h := 3) (by decide)) (iv_lit (l := 5) (h := 5) (by decide)) (by decide)) (by decide)).elim
                    · skip
                      exact (iv_emp (iv_eqa (l := 1) (h := 0) c17 (iv_lit (l := 1) (h := 1) (by decide)) (iv_lit (l := 0) (h := 0) (by decide)) (by decide)) (by decide)).elim
              · skip
                refine ⟨iv_ne0 (iv_ltb (l := 1) (h := 9) (r_nle c13) (iv_lit (l := 0) (h := 0) (by decide)) k_lf_huts (by decide)) (by decide), ?_⟩
                refine ⟨fun c22 => ?_, fun c22 => ?_⟩
                · skip
                  exact (iv_emp (iv_lta (l := 0) (h := (-1)) (r_lt c22) (iv_rem (l := 0) (h := 5) (iv_ushr16 _) k_lf_singers (by decide)) (iv_lit (l := 0) (h := 0) (by decide)) (by decide)) (by decide)).elim
                · skip
                  refine ⟨fun c23 => ?_, fun c23 => ?_⟩
                  · skip
                    refine ⟨fun c24 => ?_, fun c24 => ?_⟩
                    · skip
                      exact (iv_emp (iv_ne (l := 1) (h := 0) c24 (iv_lit (l := 0) (h := 0) (by decide)) (iv_lit (l := 0) (h := 0) (by decide)) (by decide)) (by decide)).elim
                    · skip
                      exact s_wn_X3_draw_6_93 k_f_begun k_f_climbed k_a_huts k_a_known k_a_levels (iv_w (iv_ltb (l := 1) (h := 9) (r_nle c13) (iv_lit (l := 0) (h := 0) (by decide)) k_lf_huts (by decide)) (by decide)) (iv_w (iv_lea (l := 1) (h := 5) (r_le c23) k_lf_singers (iv_rem (l := 0) (h := 5) (iv_ushr16 _) k_lf_singers (by decide)) (by decide)) (by decide)) k_lf_dams k_lf_echoes k_lf_deep k_la_heights k_la_ladders k_la_minutes k_la_echoFrom k_la_echoTo k_la_homes k_la_talls k_la_known (iv_ltb (l := 1) (h := 60) (r_nle c1) hx4 hx3 (by decide)) (iv_lta (l := 0) (h := 59) (r_nle c1) hx4 hx3 (by decide)) x4.toInt (Int.le_refl _) (fun u0 u1 u2 u3 u4 u5 u6 u7 u8 u9 hq g0 g1 g2 g3 g4 g5 => ih u0 u1 u2 u3 u4 u5 u6 u7 u8 u9 (ms_up hm hq) g0 g1 g2 g3 g4 g5) hpost
                  · skip
                    refine ⟨fun c25 => ?_, fun c25 => ?_⟩
                    · skip
                      refine ⟨fun c26 => ?_, fun c26 => ?_, fun c26 => ?_, fun c26 => ?_⟩
                      · skip
                        exact (iv_sw c26 (iv_lit (l := 3) (h := 3) (by decide)) (by decide)).elim
                      · skip
                        refine s_wn_X3_walk_6_0 (iv_w k_f_climbed (by decide)) k_a_huts (iv_w (iv_ltb (l := 1) (h := 9) (r_nle c13) (iv_lit (l := 0) (h := 0) (by decide)) k_lf_huts (by decide)) (by decide)) k_lf_deep k_la_minutes (iv_rem (l := 0) (h := 5) (iv_ushr16 _) k_lf_singers (by decide)) (iv_w (iv_rem (l := 0) (h := 8) (iv_ushr16 _) (iv_ltb (l := 1) (h := 9) (r_nle c13) (iv_lit (l := 0) (h := 0) (by decide)) k_lf_huts (by decide)) (by decide)) (by decide)) (fun r27 o28 o29 hr27 k_o29 => ?_)
                        refine ⟨iv_nb hr27 (by decide), ?_⟩
                        exact s_wn_X3_draw_6_93 k_f_begun k_f_climbed k_o29 k_a_known k_a_levels (iv_w (iv_ltb (l := 1) (h := 9) (r_nle c13) (iv_lit (l := 0) (h := 0) (by decide)) k_lf_huts (by decide)) (by decide)) k_lf_singers k_lf_dams k_lf_echoes k_lf_deep k_la_heights k_la_ladders k_la_minutes k_la_echoFrom k_la_echoTo k_la_homes k_la_talls k_la_known (iv_ltb (l := 1) (h := 60) (r_nle c1) hx4 hx3 (by decide)) (iv_lta (l := 0) (h := 59) (r_nle c1) hx4 hx3 (by decide)) x4.toInt (Int.le_refl _) (fun u0 u1 u2 u3 u4 u5 u6 u7 u8 u9 hq g0 g1 g2 g3 g4 g5 => ih u0 u1 u2 u3 u4 u5 u6 u7 u8 u9 (ms_up hm hq) g0 g1 g2 g3 g4 g5) hpost
                      · skip
                        exact (iv_emp (iv_eqa (l := 4) (h := 3) c26 (iv_lit (l := 3) (h := 3) (by decide)) (iv_lit (l := 4) (h := 4) (by decide)) (by decide)) (by decide)).elim
                      · skip
                        exact (iv_emp (iv_eqa (l := 5) (h := 3) c26 (iv_lit (l := 3) (h := 3) (by decide)) (iv_lit (l := 5) (h := 5) (by decide)) (by decide)) (by decide)).elim
                    · skip
                      exact (iv_emp (iv_eqa (l := 1) (h := 0) c25 (iv_lit (l := 1) (h := 1) (by decide)) (iv_lit (l := 0) (h := 0) (by decide)) (by decide)) (by decide)).elim
  exact loop _ _ _ _ _ _ _ _ _ _ _ (ms_init_up _ _) hx4 k_f_begun k_f_climbed k_a_huts k_a_known k_a_levels
set_option maxRecDepth 20000 in
theorem s_wn_X3_draw_6_0 {f_minute : Int32} {f_avalanches : Int32} {f_begun : Int32} {f_climbed : Int32} {f_seed : Int32} {a_huts : Nat → Int32} {a_known : Nat → Int32} {a_levels : Nat → Int32} {a_snow : Nat → Int32} {lf_huts : Int32} {lf_singers : Int32} {lf_dams : Int32} {lf_echoes : Int32} {lf_deep : Int32} {la_heights : Nat → Int32} {la_ladders : Nat → Int32} {la_minutes : Nat → Int32} {la_echoFrom : Nat → Int32} {la_echoTo : Nat → Int32} {la_homes : Nat → Int32} {la_talls : Nat → Int32} {la_known : Nat → Int32} {x2 : Int32} {x3 : Int32} {post : (Int32) → (Int32) → (Int32) → (Int32) → (Int32) → (Nat → Int32) → (Nat → Int32) → (Nat → Int32) → (Nat → Int32) → Prop} (k_f_begun : iv 0 31 f_begun) (k_f_climbed : iv 0 63 f_climbed) (k_a_huts : ∀ j, iv 0 8 (a_huts j)) (k_a_known : ∀ j, iv 0 31 (a_known j)) (k_a_levels : ∀ j, iv (-9) 122 (a_levels j)) (k_lf_huts : iv 0 9 lf_huts) (k_lf_singers : iv 1 6 lf_singers) (k_lf_dams : iv 0 511 lf_dams) (k_lf_echoes : iv 0 4 lf_echoes) (k_lf_deep : iv 1 9 lf_deep) (k_la_heights : ∀ j, iv 0 99 (la_heights j)) (k_la_ladders : ∀ j, iv 0 9 (la_ladders j)) (k_la_minutes : ∀ j, iv 0 9 (la_minutes j)) (k_la_echoFrom : ∀ j, iv 0 8 (la_echoFrom j)) (k_la_echoTo : ∀ j, iv 0 8 (la_echoTo j)) (k_la_homes : ∀ j, iv 0 8 (la_homes j)) (k_la_talls : ∀ j, iv 0 9 (la_talls j)) (k_la_known : ∀ j, iv 0 31 (la_known j)) (hx3 : iv 0 60 x3) (hpost : ∀ (f_minute : Int32) (f_avalanches : Int32) (f_begun : Int32) (f_climbed : Int32) (f_seed : Int32) (a_huts : Nat → Int32) (a_known : Nat → Int32) (a_levels : Nat → Int32) (a_snow : Nat → Int32), (iv 0 31 f_begun) → (iv 0 0 f_climbed) → (∀ j, iv 0 8 (a_huts j)) → (∀ j, iv 0 31 (a_known j)) → (∀ j, iv (-9) 122 (a_levels j)) → post f_minute f_avalanches f_begun f_climbed f_seed a_huts a_known a_levels a_snow) : q_wn_X3_draw_6_0 f_minute f_avalanches f_begun f_climbed f_seed a_huts a_known a_levels a_snow lf_huts lf_singers lf_dams lf_echoes lf_deep la_heights la_ladders la_minutes la_echoFrom la_echoTo la_homes la_talls la_known x2 x3 post := by
  refine s_wn_X3_start_6_0 k_f_begun k_f_climbed k_a_huts k_a_known k_a_levels k_la_homes k_la_known (fun o1 o2 o3 o4 o5 o6 o7 o8 k_o1 k_o2 k_o3 k_o4 k_o5 k_o6 k_o7 => ?_)
  exact s_wn_X3_draw_6_13 (iv_w k_o3 (by decide)) k_o4 k_o5 k_o6 k_o7 k_lf_huts k_lf_singers k_lf_dams k_lf_echoes k_lf_deep k_la_heights k_la_ladders k_la_minutes k_la_echoFrom k_la_echoTo k_la_homes k_la_talls k_la_known hx3 (iv_w (iv_lit (l := 0) (h := 0) (by decide)) (by decide)) hpost
-- wn_X3_knowers_6
set_option maxRecDepth 20000 in
theorem s_wn_X3_knowers_6_35 {P5 : Int32 → Int32 → Prop} {a_known : Nat → Int32} {lf_singers : Int32} {x2 : Int32} {x3 : Int32} {x4 : Int32} {post : Int32 → Prop} (k_a_known : ∀ j, iv 0 31 (a_known j)) (k_lf_singers : iv 1 6 lf_singers) (hx2 : iv 0 4 x2) (hx3 : iv 0 63 x3) (hx4 : iv 0 5 x4) (m5 : Int) (hm5 : m5 ≤ x4.toInt) (hP5 : ∀ (x3 : Int32) (x4 : Int32), m5 < x4.toInt → iv 0 63 x3 → iv 0 6 x4 → P5 x3 x4) (hpost : ∀ (r : Int32), iv 0 63 r → post r) : q_wn_X3_knowers_6_35 P5 a_known lf_singers x2 x3 x4 post := by
  intro w1 ew1
  have hw1 := iv_eq ew1 (iv_add (l := 1) (h := 6) hx4 (iv_lit (l := 1) (h := 1) (by decide)) (by decide))
  exact hP5 _ _ (ml_up hm5 (inc_lt ew1 hx4 (by decide))) hx3 (iv_w hw1 (by decide))
set_option maxRecDepth 20000 in
theorem s_wn_X3_knowers_6_5 {a_known : Nat → Int32} {lf_singers : Int32} {x2 : Int32} {x3 : Int32} {x4 : Int32} {post : Int32 → Prop} (k_a_known : ∀ j, iv 0 31 (a_known j)) (k_lf_singers : iv 0 6 lf_singers) (hx2 : iv 0 4 x2) (hx3 : iv 0 63 x3) (hx4 : iv 0 6 x4) (hpost : ∀ (r : Int32), iv 0 63 r → post r) : q_wn_X3_knowers_6_5 a_known lf_singers x2 x3 x4 post := by
  intro P hP
  have loop : ∀ (n : Nat) (x3 : Int32) (x4 : Int32), (6 - x4.toInt < (n : Int)) → (iv 0 63 x3) → (iv 0 6 x4) → P x3 x4 := by
    intro n
    induction n with
    | zero => intro x3 x4 hm hx3 hx4; exact (ms0_up hm hx4).elim
    | succ n ih =>
      intro x3 x4 hm hx3 hx4
      apply hP
      refine ⟨fun c1 => ?_, fun c1 => ?_⟩
      · skip
        exact hpost _ hx3
      · skip
        refine ⟨iv_in (iv_lta (l := 0) (h := 5) (r_nle c1) hx4 k_lf_singers (by decide)) (by decide), ?_⟩
        refine ⟨fun c2 => ?_, fun c2 => ?_⟩
        · skip
          refine ⟨fun c3 => ?_, fun c3 => ?_⟩
          · skip
            exact s_wn_X3_knowers_6_35 k_a_known (iv_ltb (l := 1) (h := 6) (r_nle c1) hx4 k_lf_singers (by decide)) hx2 hx3 (iv_lta (l := 0) (h := 5) (r_nle c1) hx4 k_lf_singers (by decide)) x4.toInt (Int.le_refl _) (fun u0 u1 hq g0 g1 => ih u0 u1 (ms_up hm hq) g0 g1) hpost
          · skip
            exact (iv_emp (iv_ne (l := 1) (h := 0) c3 (iv_lit (l := 0) (h := 0) (by decide)) (iv_lit (l := 0) (h := 0) (by decide)) (by decide)) (by decide)).elim
        · skip
          refine ⟨fun c4 => ?_, fun c4 => ?_⟩
          · skip
            exact (iv_emp (iv_eqa (l := 1) (h := 0) c4 (iv_lit (l := 1) (h := 1) (by decide)) (iv_lit (l := 0) (h := 0) (by decide)) (by decide)) (by decide)).elim
          · skip
            intro w5 ew5
            have hw5 := iv_eq ew5 (iv_or 6 (l := 0) (h := 63) hx3 (iv_shl1 (l := 1) (h := 32) (iv_lit (l := 1) (h := 1) (by decide)) (iv_lta (l := 0) (h := 5) (r_nle c1) hx4 k_lf_singers (by decide)) (by decide)) (by decide))
            exact s_wn_X3_knowers_6_35 k_a_known (iv_ltb (l := 1) (h := 6) (r_nle c1) hx4 k_lf_singers (by decide)) hx2 hw5 (iv_lta (l := 0) (h := 5) (r_nle c1) hx4 k_lf_singers (by decide)) x4.toInt (Int.le_refl _) (fun u0 u1 hq g0 g1 => ih u0 u1 (ms_up hm hq) g0 g1) hpost
  exact loop _ _ _ (ms_init_up _ _) hx3 hx4
set_option maxRecDepth 20000 in
theorem s_wn_X3_knowers_6_0 {a_known : Nat → Int32} {lf_singers : Int32} {x2 : Int32} {post : Int32 → Prop} (k_a_known : ∀ j, iv 0 31 (a_known j)) (k_lf_singers : iv 0 6 lf_singers) (hx2 : iv 0 4 x2) (hpost : ∀ (r : Int32), iv 0 63 r → post r) : q_wn_X3_knowers_6_0 a_known lf_singers x2 post := by
  exact s_wn_X3_knowers_6_5 k_a_known k_lf_singers hx2 (iv_w (iv_lit (l := 0) (h := 0) (by decide)) (by decide)) (iv_w (iv_lit (l := 0) (h := 0) (by decide)) (by decide)) hpost
-- wn_X3_openWays_6
set_option maxRecDepth 20000 in
theorem s_wn_X3_openWays_6_71 {P2 : Int32 → (Nat → Int32) → Prop} {P19 : Int32 → (Nat → Int32) → Prop} {a_snow : Nat → Int32} {a_open : Nat → Int32} {lf_huts : Int32} {lf_deep : Int32} {la_minutes : Nat → Int32} {x2 : Int32} {x3 : Int32} {post : (Nat → Int32) → Prop} (k_a_open : ∀ j, iv 0 511 (a_open j)) (k_lf_huts : iv 1 9 lf_huts) (k_lf_deep : iv 1 9 lf_deep) (k_la_minutes : ∀ j, iv 0 9 (la_minutes j)) (hx2 : iv 0 8 x2) (hx3 : iv 0 8 x3) (m2 : Int) (hm2 : m2 ≤ x2.toInt) (hP2 : ∀ (x2 : Int32) (a_open : Nat → Int32), m2 < x2.toInt → iv 0 9 x2 → (∀ j, iv 0 511 (a_open j)) → P2 x2 a_open) (m19 : Int) (hm19 : m19 ≤ x3.toInt) (hP19 : ∀ (x3 : Int32) (a_open : Nat → Int32), m19 < x3.toInt → iv 0 9 x3 → (∀ j, iv 0 511 (a_open j)) → P19 x3 a_open) (hpost : ∀ (a_open : Nat → Int32), (∀ j, iv 0 511 (a_open j)) → post a_open) : q_wn_X3_openWays_6_71 P2 P19 a_snow a_open lf_huts lf_deep la_minutes x2 x3 post := by
  intro w1 ew1
  have hw1 := iv_eq ew1 (iv_add (l := 1) (h := 9) hx3 (iv_lit (l := 1) (h := 1) (by decide)) (by decide))
  exact hP19 _ _ (ml_up hm19 (inc_lt ew1 hx3 (by decide))) (iv_w hw1 (by decide)) k_a_open
set_option maxRecDepth 20000 in
theorem s_wn_X3_openWays_6_19 {P2 : Int32 → (Nat → Int32) → Prop} {a_snow : Nat → Int32} {a_open : Nat → Int32} {lf_huts : Int32} {lf_deep : Int32} {la_minutes : Nat → Int32} {x2 : Int32} {x3 : Int32} {post : (Nat → Int32) → Prop} (k_a_open : ∀ j, iv 0 511 (a_open j)) (k_lf_huts : iv 1 9 lf_huts) (k_lf_deep : iv 1 9 lf_deep) (k_la_minutes : ∀ j, iv 0 9 (la_minutes j)) (hx2 : iv 0 8 x2) (hx3 : iv 0 9 x3) (m2 : Int) (hm2 : m2 ≤ x2.toInt) (hP2 : ∀ (x2 : Int32) (a_open : Nat → Int32), m2 < x2.toInt → iv 0 9 x2 → (∀ j, iv 0 511 (a_open j)) → P2 x2 a_open) (hpost : ∀ (a_open : Nat → Int32), (∀ j, iv 0 511 (a_open j)) → post a_open) : q_wn_X3_openWays_6_19 P2 a_snow a_open lf_huts lf_deep la_minutes x2 x3 post := by
  intro P hP
  have loop : ∀ (n : Nat) (x3 : Int32) (a_open : Nat → Int32), (9 - x3.toInt < (n : Int)) → (iv 0 9 x3) → (∀ j, iv 0 511 (a_open j)) → P x3 a_open := by
    intro n
    induction n with
    | zero => intro x3 a_open hm hx3 k_a_open; exact (ms0_up hm hx3).elim
    | succ n ih =>
      intro x3 a_open hm hx3 k_a_open
      apply hP
      refine ⟨fun c1 => ?_, fun c1 => ?_⟩
      · skip
        intro w2 ew2
        have hw2 := iv_eq ew2 (iv_add (l := 1) (h := 9) hx2 (iv_lit (l := 1) (h := 1) (by decide)) (by decide))
        exact hP2 _ _ (ml_up hm2 (inc_lt ew2 hx2 (by decide))) (iv_w hw2 (by decide)) k_a_open
      · skip
        refine ⟨iv_in (iv_add (l := 0) (h := 80) (iv_mul (l := 0) (h := 72) hx2 (iv_lit (l := 9) (h := 9) (by decide)) (by decide)) (iv_lta (l := 0) (h := 8) (r_nle c1) hx3 k_lf_huts (by decide)) (by decide)) (by decide), ?_⟩
        refine ⟨fun c3 => ?_, fun c3 => ?_⟩
        · skip
          exact s_wn_X3_openWays_6_71 k_a_open k_lf_huts k_lf_deep k_la_minutes hx2 (iv_lta (l := 0) (h := 8) (r_nle c1) hx3 k_lf_huts (by decide)) m2 hm2 hP2 x3.toInt (Int.le_refl _) (fun u0 u1 hq g0 g1 => ih u0 u1 (ms_up hm hq) g0 g1) hpost
        · skip
          refine ⟨iv_in hx2 (by decide), ?_⟩
          refine ⟨fun c4 => ?_, fun c4 => ?_⟩
          · skip
            refine ⟨fun c5 => ?_, fun c5 => ?_⟩
            · skip
              exact (iv_emp (iv_ne (l := 1) (h := 0) c5 (iv_lit (l := 0) (h := 0) (by decide)) (iv_lit (l := 0) (h := 0) (by decide)) (by decide)) (by decide)).elim
            · skip
              refine ⟨iv_in (iv_lta (l := 0) (h := 8) (r_nle c1) hx3 k_lf_huts (by decide)) (by decide), ?_⟩
              refine ⟨fun c6 => ?_, fun c6 => ?_⟩
              · skip
                refine ⟨fun c7 => ?_, fun c7 => ?_⟩
                · skip
                  exact (iv_emp (iv_ne (l := 1) (h := 0) c7 (iv_lit (l := 0) (h := 0) (by decide)) (iv_lit (l := 0) (h := 0) (by decide)) (by decide)) (by decide)).elim
                · skip
                  refine ⟨iv_in hx2 (by decide), ?_⟩
                  intro w8 ew8
                  have hw8 := iv_eq ew8 (iv_or 9 (l := 0) (h := 511) (k_a_open _) (iv_shl1 (l := 1) (h := 256) (iv_lit (l := 1) (h := 1) (by decide)) (iv_lta (l := 0) (h := 8) (r_nle c1) hx3 k_lf_huts (by decide)) (by decide)) (by decide))
                  refine ⟨iv_in hx2 (by decide), ?_⟩
                  intro a9 ea9
                  have k_a9 := iv_upd ea9 k_a_open hw8
                  exact s_wn_X3_openWays_6_71 k_a9 k_lf_huts k_lf_deep k_la_minutes hx2 (iv_lta (l := 0) (h := 8) (r_nle c1) hx3 k_lf_huts (by decide)) m2 hm2 hP2 x3.toInt (Int.le_refl _) (fun u0 u1 hq g0 g1 => ih u0 u1 (ms_up hm hq) g0 g1) hpost
              · skip
                refine ⟨fun c10 => ?_, fun c10 => ?_⟩
                · skip
                  exact s_wn_X3_openWays_6_71 k_a_open k_lf_huts k_lf_deep k_la_minutes hx2 (iv_lta (l := 0) (h := 8) (r_nle c1) hx3 k_lf_huts (by decide)) m2 hm2 hP2 x3.toInt (Int.le_refl _) (fun u0 u1 hq g0 g1 => ih u0 u1 (ms_up hm hq) g0 g1) hpost
                · skip
                  exact (iv_emp (iv_eqa (l := 1) (h := 0) c10 (iv_lit (l := 1) (h := 1) (by decide)) (iv_lit (l := 0) (h := 0) (by decide)) (by decide)) (by decide)).elim
          · skip
            refine ⟨fun c11 => ?_, fun c11 => ?_⟩
            · skip
              exact s_wn_X3_openWays_6_71 k_a_open k_lf_huts k_lf_deep k_la_minutes hx2 (iv_lta (l := 0) (h := 8) (r_nle c1) hx3 k_lf_huts (by decide)) m2 hm2 hP2 x3.toInt (Int.le_refl _) (fun u0 u1 hq g0 g1 => ih u0 u1 (ms_up hm hq) g0 g1) hpost
            · skip
              exact (iv_emp (iv_eqa (l := 1) (h := 0) c11 (iv_lit (l := 1) (h := 1) (by decide)) (iv_lit (l := 0) (h := 0) (by decide)) (by decide)) (by decide)).elim
  exact loop _ _ _ (ms_init_up _ _) hx3 k_a_open
set_option maxRecDepth 20000 in
theorem s_wn_X3_openWays_6_2 {a_snow : Nat → Int32} {a_open : Nat → Int32} {lf_huts : Int32} {lf_deep : Int32} {la_minutes : Nat → Int32} {x2 : Int32} {post : (Nat → Int32) → Prop} (k_a_open : ∀ j, iv 0 511 (a_open j)) (k_lf_huts : iv 0 9 lf_huts) (k_lf_deep : iv 1 9 lf_deep) (k_la_minutes : ∀ j, iv 0 9 (la_minutes j)) (hx2 : iv 0 9 x2) (hpost : ∀ (a_open : Nat → Int32), (∀ j, iv 0 511 (a_open j)) → post a_open) : q_wn_X3_openWays_6_2 a_snow a_open lf_huts lf_deep la_minutes x2 post := by
  intro P hP
  have loop : ∀ (n : Nat) (x2 : Int32) (a_open : Nat → Int32), (9 - x2.toInt < (n : Int)) → (iv 0 9 x2) → (∀ j, iv 0 511 (a_open j)) → P x2 a_open := by
    intro n
    induction n with
    | zero => intro x2 a_open hm hx2 k_a_open; exact (ms0_up hm hx2).elim
    | succ n ih =>
      intro x2 a_open hm hx2 k_a_open
      apply hP
      refine ⟨fun c1 => ?_, fun c1 => ?_⟩
      · skip
        exact hpost _ k_a_open
      · skip
        refine ⟨iv_in (iv_lta (l := 0) (h := 8) (r_nle c1) hx2 k_lf_huts (by decide)) (by decide), ?_⟩
        intro a2 ea2
        have k_a2 := iv_upd ea2 k_a_open (iv_w (iv_lit (l := 0) (h := 0) (by decide)) (by decide))
        exact s_wn_X3_openWays_6_19 k_a2 (iv_ltb (l := 1) (h := 9) (r_nle c1) hx2 k_lf_huts (by decide)) k_lf_deep k_la_minutes (iv_lta (l := 0) (h := 8) (r_nle c1) hx2 k_lf_huts (by decide)) (iv_w (iv_lit (l := 0) (h := 0) (by decide)) (by decide)) x2.toInt (Int.le_refl _) (fun u0 u1 hq g0 g1 => ih u0 u1 (ms_up hm hq) g0 g1) hpost
  exact loop _ _ _ (ms_init_up _ _) hx2 k_a_open
set_option maxRecDepth 20000 in
theorem s_wn_X3_openWays_6_0 {a_snow : Nat → Int32} {a_open : Nat → Int32} {lf_huts : Int32} {lf_deep : Int32} {la_minutes : Nat → Int32} {post : (Nat → Int32) → Prop} (k_a_open : ∀ j, iv 0 511 (a_open j)) (k_lf_huts : iv 0 9 lf_huts) (k_lf_deep : iv 1 9 lf_deep) (k_la_minutes : ∀ j, iv 0 9 (la_minutes j)) (hpost : ∀ (a_open : Nat → Int32), (∀ j, iv 0 511 (a_open j)) → post a_open) : q_wn_X3_openWays_6_0 a_snow a_open lf_huts lf_deep la_minutes post := by
  exact s_wn_X3_openWays_6_2 k_a_open k_lf_huts k_lf_deep k_la_minutes (iv_w (iv_lit (l := 0) (h := 0) (by decide)) (by decide)) hpost
end
section
-- wn_X7_reach_5
set_option maxRecDepth 20000 in
theorem s_wn_X7_reach_5_49 {P7 : Int32 → Int32 → Prop} {P20 : Int32 → Int32 → Prop} {a_open : Nat → Int32} {x2 : Int32} {x3 : Int32} {x4 : Int32} {x5 : Int32} {x6 : Int32} {post : Int32 → Prop} (k_a_open : ∀ j, iv 0 511 (a_open j)) (hx2 : iv 0 0 x2) (hx3 : iv 0 511 x3) (hx4 : iv 0 8 x4) (hx5 : iv 0 511 x5) (hx6 : iv 0 8 x6) (m7 : Int) (hm7 : m7 ≤ x4.toInt) (hP7 : ∀ (x3 : Int32) (x4 : Int32), m7 < x4.toInt → iv 0 511 x3 → iv 0 9 x4 → P7 x3 x4) (m20 : Int) (hm20 : m20 ≤ x6.toInt) (hP20 : ∀ (x5 : Int32) (x6 : Int32), m20 < x6.toInt → iv 0 511 x5 → iv 0 9 x6 → P20 x5 x6) (hpost : ∀ (r : Int32), iv 0 511 r → post r) : q_wn_X7_reach_5_49 P7 P20 a_open x2 x3 x4 x5 x6 post := by
  intro w1 ew1
  have hw1 := iv_eq ew1 (iv_add (l := 1) (h := 9) hx6 (iv_lit (l := 1) (h := 1) (by decide)) (by decide))
  exact hP20 _ _ (ml_up hm20 (inc_lt ew1 hx6 (by decide))) hx5 (iv_w hw1 (by decide))
set_option maxRecDepth 20000 in
theorem s_wn_X7_reach_5_20 {P7 : Int32 → Int32 → Prop} {a_open : Nat → Int32} {x2 : Int32} {x3 : Int32} {x4 : Int32} {x5 : Int32} {x6 : Int32} {post : Int32 → Prop} (k_a_open : ∀ j, iv 0 511 (a_open j)) (hx2 : iv 0 0 x2) (hx3 : iv 0 511 x3) (hx4 : iv 0 8 x4) (hx5 : iv 0 511 x5) (hx6 : iv 0 9 x6) (m7 : Int) (hm7 : m7 ≤ x4.toInt) (hP7 : ∀ (x3 : Int32) (x4 : Int32), m7 < x4.toInt → iv 0 511 x3 → iv 0 9 x4 → P7 x3 x4) (hpost : ∀ (r : Int32), iv 0 511 r → post r) : q_wn_X7_reach_5_20 P7 a_open x2 x3 x4 x5 x6 post := by
  intro P hP
  have loop : ∀ (n : Nat) (x5 : Int32) (x6 : Int32), (9 - x6.toInt < (n : Int)) → (iv 0 511 x5) → (iv 0 9 x6) → P x5 x6 := by
    intro n
    induction n with
    | zero => intro x5 x6 hm hx5 hx6; exact (ms0_up hm hx6).elim
    | succ n ih =>
      intro x5 x6 hm hx5 hx6
      apply hP
      refine ⟨fun c1 => ?_, fun c1 => ?_⟩
      · skip
        refine ⟨fun c2 => ?_, fun c2 => ?_⟩
        · skip
          intro w3 ew3
          have hw3 := iv_eq ew3 (iv_add (l := 1) (h := 9) hx4 (iv_lit (l := 1) (h := 1) (by decide)) (by decide))
          exact hP7 _ _ (ml_up hm7 (inc_lt ew3 hx4 (by decide))) hx5 (iv_w hw3 (by decide))
        · skip
          exact hpost _ hx3
      · skip
        refine ⟨fun c4 => ?_, fun c4 => ?_⟩
        · skip
          refine ⟨fun c5 => ?_, fun c5 => ?_⟩
          · skip
            exact s_wn_X7_reach_5_49 k_a_open hx2 hx3 hx4 hx5 (iv_lta (l := 0) (h := 8) (r_nle c1) hx6 (iv_lit (l := 9) (h := 9) (by decide)) (by decide)) m7 hm7 hP7 x6.toInt (Int.le_refl _) (fun u0 u1 hq g0 g1 => ih u0 u1 (ms_up hm hq) g0 g1) hpost
          · skip
            exact (iv_emp (iv_ne (l := 1) (h := 0) c5 (iv_lit (l := 0) (h := 0) (by decide)) (iv_lit (l := 0) (h := 0) (by decide)) (by decide)) (by decide)).elim
        · skip
          refine ⟨fun c6 => ?_, fun c6 => ?_⟩
          · skip
            exact (iv_emp (iv_eqa (l := 1) (h := 0) c6 (iv_lit (l := 1) (h := 1) (by decide)) (iv_lit (l := 0) (h := 0) (by decide)) (by decide)) (by decide)).elim
          · skip
            refine ⟨iv_in (iv_lta (l := 0) (h := 8) (r_nle c1) hx6 (iv_lit (l := 9) (h := 9) (by decide)) (by decide)) (by decide), ?_⟩
            intro w7 ew7
            have hw7 := iv_eq ew7 (iv_or 9 (l := 0) (h := 511) hx5 (iv_andl (l := 0) (h := 511) (k_a_open _) (by decide)) (by decide))
            exact s_wn_X7_reach_5_49 k_a_open hx2 hx3 hx4 hw7 (iv_lta (l := 0) (h := 8) (r_nle c1) hx6 (iv_lit (l := 9) (h := 9) (by decide)) (by decide)) m7 hm7 hP7 x6.toInt (Int.le_refl _) (fun u0 u1 hq g0 g1 => ih u0 u1 (ms_up hm hq) g0 g1) hpost
  exact loop _ _ _ (ms_init_up _ _) hx5 hx6
set_option maxRecDepth 20000 in
theorem s_wn_X7_reach_5_7 {a_open : Nat → Int32} {x2 : Int32} {x3 : Int32} {x4 : Int32} {post : Int32 → Prop} (k_a_open : ∀ j, iv 0 511 (a_open j)) (hx2 : iv 0 0 x2) (hx3 : iv 0 511 x3) (hx4 : iv 0 9 x4) (hpost : ∀ (r : Int32), iv 0 511 r → post r) : q_wn_X7_reach_5_7 a_open x2 x3 x4 post := by
  intro P hP
  have loop : ∀ (n : Nat) (x3 : Int32) (x4 : Int32), (9 - x4.toInt < (n : Int)) → (iv 0 511 x3) → (iv 0 9 x4) → P x3 x4 := by
    intro n
    induction n with
    | zero => intro x3 x4 hm hx3 hx4; exact (ms0_up hm hx4).elim
    | succ n ih =>
      intro x3 x4 hm hx3 hx4
      apply hP
      refine ⟨fun c1 => ?_, fun c1 => ?_⟩
      · skip
        exact hpost _ hx3
      · skip
        exact s_wn_X7_reach_5_20 k_a_open hx2 hx3 (iv_lta (l := 0) (h := 8) (r_nle c1) hx4 (iv_lit (l := 9) (h := 9) (by decide)) (by decide)) hx3 (iv_w (iv_lit (l := 0) (h := 0) (by decide)) (by decide)) x4.toInt (Int.le_refl _) (fun u0 u1 hq g0 g1 => ih u0 u1 (ms_up hm hq) g0 g1) hpost
  exact loop _ _ _ (ms_init_up _ _) hx3 hx4
set_option maxRecDepth 20000 in
theorem s_wn_X7_reach_5_0 {a_open : Nat → Int32} {x0 : Int32} {x2 : Int32} {post : Int32 → Prop} (k_a_open : ∀ j, iv 0 511 (a_open j)) (hx0 : iv 0 8 x0) (hx2 : iv 0 0 x2) (hpost : ∀ (r : Int32), iv 0 511 r → post r) : q_wn_X7_reach_5_0 a_open x0 x2 post := by
  intro w1 ew1
  have hw1 := iv_eq ew1 (iv_shl1 (l := 1) (h := 256) (iv_lit (l := 1) (h := 1) (by decide)) hx0 (by decide))
  exact s_wn_X7_reach_5_7 k_a_open hx2 (iv_w hw1 (by decide)) (iv_w (iv_lit (l := 0) (h := 0) (by decide)) (by decide)) hpost
-- wn_X3_lowest_6
set_option maxRecDepth 20000 in
theorem s_wn_X3_lowest_6_71 {P23 : Int32 → Int32 → Prop} {a_huts : Nat → Int32} {a_open : Nat → Int32} {lf_huts : Int32} {lf_dams : Int32} {la_heights : Nat → Int32} {la_talls : Nat → Int32} {x2 : Int32} {x3 : Int32} {x4 : Int32} {x5 : Int32} {post : Int32 → Prop} (k_a_huts : ∀ j, iv 0 8 (a_huts j)) (k_a_open : ∀ j, iv 0 511 (a_open j)) (k_lf_huts : iv 1 9 lf_huts) (k_lf_dams : iv 0 511 lf_dams) (k_la_heights : ∀ j, iv 0 99 (la_heights j)) (k_la_talls : ∀ j, iv 0 9 (la_talls j)) (hx2 : iv 0 5 x2) (hx3 : iv 0 511 x3) (hx4 : iv (-9) 1000 x4) (hx5 : iv 0 8 x5) (m23 : Int) (hm23 : m23 ≤ x5.toInt) (hP23 : ∀ (x4 : Int32) (x5 : Int32), m23 < x5.toInt → iv (-9) 1000 x4 → iv 0 9 x5 → P23 x4 x5) (hpost : ∀ (r : Int32), iv (-9) 1000 r → post r) : q_wn_X3_lowest_6_71 P23 a_huts a_open lf_huts lf_dams la_heights la_talls x2 x3 x4 x5 post := by
  intro w1 ew1
  have hw1 := iv_eq ew1 (iv_add (l := 1) (h := 9) hx5 (iv_lit (l := 1) (h := 1) (by decide)) (by decide))
  exact hP23 _ _ (ml_up hm23 (inc_lt ew1 hx5 (by decide))) hx4 (iv_w hw1 (by decide))
set_option maxRecDepth 20000 in
theorem s_wn_X3_lowest_6_23 {a_huts : Nat → Int32} {a_open : Nat → Int32} {lf_huts : Int32} {lf_dams : Int32} {la_heights : Nat → Int32} {la_talls : Nat → Int32} {x2 : Int32} {x3 : Int32} {x4 : Int32} {x5 : Int32} {post : Int32 → Prop} (k_a_huts : ∀ j, iv 0 8 (a_huts j)) (k_a_open : ∀ j, iv 0 511 (a_open j)) (k_lf_huts : iv 0 9 lf_huts) (k_lf_dams : iv 0 511 lf_dams) (k_la_heights : ∀ j, iv 0 99 (la_heights j)) (k_la_talls : ∀ j, iv 0 9 (la_talls j)) (hx2 : iv 0 5 x2) (hx3 : iv 0 511 x3) (hx4 : iv (-9) 1000 x4) (hx5 : iv 0 9 x5) (hpost : ∀ (r : Int32), iv (-9) 1000 r → post r) : q_wn_X3_lowest_6_23 a_huts a_open lf_huts lf_dams la_heights la_talls x2 x3 x4 x5 post := by
  intro P hP
  have loop : ∀ (n : Nat) (x4 : Int32) (x5 : Int32), (9 - x5.toInt < (n : Int)) → (iv (-9) 1000 x4) → (iv 0 9 x5) → P x4 x5 := by
    intro n
    induction n with
    | zero => intro x4 x5 hm hx4 hx5; exact (ms0_up hm hx5).elim
    | succ n ih =>
      intro x4 x5 hm hx4 hx5
      apply hP
      refine ⟨fun c1 => ?_, fun c1 => ?_⟩
      · skip
        exact hpost _ hx4
      · skip
        refine ⟨fun c2 => ?_, fun c2 => ?_⟩
        · skip
          refine ⟨fun c3 => ?_, fun c3 => ?_⟩
          · skip
            exact s_wn_X3_lowest_6_71 k_a_huts k_a_open (iv_ltb (l := 1) (h := 9) (r_nle c1) hx5 k_lf_huts (by decide)) k_lf_dams k_la_heights k_la_talls hx2 hx3 hx4 (iv_lta (l := 0) (h := 8) (r_nle c1) hx5 k_lf_huts (by decide)) x5.toInt (Int.le_refl _) (fun u0 u1 hq g0 g1 => ih u0 u1 (ms_up hm hq) g0 g1) hpost
          · skip
            exact (iv_emp (iv_ne (l := 1) (h := 0) c3 (iv_lit (l := 0) (h := 0) (by decide)) (iv_lit (l := 0) (h := 0) (by decide)) (by decide)) (by decide)).elim
        · skip
          refine ⟨fun c4 => ?_, fun c4 => ?_⟩
          · skip
            exact (iv_emp (iv_eqa (l := 1) (h := 0) c4 (iv_lit (l := 1) (h := 1) (by decide)) (iv_lit (l := 0) (h := 0) (by decide)) (by decide)) (by decide)).elim
          · skip
            refine ⟨fun c5 => ?_, fun c5 => ?_⟩
            · skip
              refine ⟨fun c6 => ?_, fun c6 => ?_⟩
              · skip
                exact (iv_emp (iv_ne (l := 1) (h := 0) c6 (iv_lit (l := 0) (h := 0) (by decide)) (iv_lit (l := 0) (h := 0) (by decide)) (by decide)) (by decide)).elim
              · skip
                refine ⟨iv_in (iv_lta (l := 0) (h := 8) (r_nle c1) hx5 k_lf_huts (by decide)) (by decide), ?_⟩
                refine ⟨iv_in hx2 (by decide), ?_⟩
                intro w7 ew7
                have hw7 := iv_eq ew7 (iv_min (l := (-9)) (h := 99) hx4 (iv_sub (l := (-9)) (h := 99) (k_la_heights _) (k_la_talls _) (by decide)) (by decide))
                exact s_wn_X3_lowest_6_71 k_a_huts k_a_open (iv_ltb (l := 1) (h := 9) (r_nle c1) hx5 k_lf_huts (by decide)) k_lf_dams k_la_heights k_la_talls hx2 hx3 (iv_w hw7 (by decide)) (iv_lta (l := 0) (h := 8) (r_nle c1) hx5 k_lf_huts (by decide)) x5.toInt (Int.le_refl _) (fun u0 u1 hq g0 g1 => ih u0 u1 (ms_up hm hq) g0 g1) hpost
            · skip
              refine ⟨fun c8 => ?_, fun c8 => ?_⟩
              · skip
                exact s_wn_X3_lowest_6_71 k_a_huts k_a_open (iv_ltb (l := 1) (h := 9) (r_nle c1) hx5 k_lf_huts (by decide)) k_lf_dams k_la_heights k_la_talls hx2 hx3 hx4 (iv_lta (l := 0) (h := 8) (r_nle c1) hx5 k_lf_huts (by decide)) x5.toInt (Int.le_refl _) (fun u0 u1 hq g0 g1 => ih u0 u1 (ms_up hm hq) g0 g1) hpost
              · skip
                exact (iv_emp (iv_eqa (l := 1) (h := 0) c8 (iv_lit (l := 1) (h := 1) (by decide)) (iv_lit (l := 0) (h := 0) (by decide)) (by decide)) (by decide)).elim
  exact loop _ _ _ (ms_init_up _ _) hx4 hx5
set_option maxRecDepth 20000 in
theorem s_wn_X3_lowest_6_0 {a_huts : Nat → Int32} {a_open : Nat → Int32} {lf_huts : Int32} {lf_dams : Int32} {la_heights : Nat → Int32} {la_talls : Nat → Int32} {x2 : Int32} {post : Int32 → Prop} (k_a_huts : ∀ j, iv 0 8 (a_huts j)) (k_a_open : ∀ j, iv 0 511 (a_open j)) (k_lf_huts : iv 0 9 lf_huts) (k_lf_dams : iv 0 511 lf_dams) (k_la_heights : ∀ j, iv 0 99 (la_heights j)) (k_la_talls : ∀ j, iv 0 9 (la_talls j)) (hx2 : iv 0 5 x2) (hpost : ∀ (r : Int32), iv (-9) 1000 r → post r) : q_wn_X3_lowest_6_0 a_huts a_open lf_huts lf_dams la_heights la_talls x2 post := by
  refine ⟨iv_in hx2 (by decide), ?_⟩
  refine s_wn_X7_reach_5_0 k_a_open (k_a_huts _) (iv_lit (l := 0) (h := 0) (by decide)) (fun r1 hr1 => ?_)
  exact s_wn_X3_lowest_6_23 k_a_huts k_a_open k_lf_huts k_lf_dams k_la_heights k_la_talls hx2 hr1 (iv_w (iv_lit (l := 1000) (h := 1000) (by decide)) (by decide)) (iv_w (iv_lit (l := 0) (h := 0) (by decide)) (by decide)) hpost
-- wn_X3_doneFor_6
set_option maxRecDepth 20000 in
theorem s_wn_X3_doneFor_6_72 {P12 : Int32 → Int32 → Prop} {P31 : Int32 → Int32 → Prop} {f_begun : Int32} {a_huts : Nat → Int32} {a_known : Nat → Int32} {a_levels : Nat → Int32} {a_snow : Nat → Int32} {a_open : Nat → Int32} {lf_huts : Int32} {lf_singers : Int32} {lf_dams : Int32} {lf_deep : Int32} {la_heights : Nat → Int32} {la_minutes : Nat → Int32} {la_talls : Nat → Int32} {x2 : Int32} {x3 : Int32} {x4 : Int32} {x5 : Int32} {post : Int32 → (Nat → Int32) → Prop} (k_f_begun : iv 0 31 f_begun) (k_a_huts : ∀ j, iv 0 8 (a_huts j)) (k_a_known : ∀ j, iv 0 31 (a_known j)) (k_a_levels : ∀ j, iv (-9) 122 (a_levels j)) (k_a_open : ∀ j, iv 0 511 (a_open j)) (k_lf_huts : iv 0 9 lf_huts) (k_lf_singers : iv 1 6 lf_singers) (k_lf_dams : iv 0 511 lf_dams) (k_lf_deep : iv 1 9 lf_deep) (k_la_heights : ∀ j, iv 0 99 (la_heights j)) (k_la_minutes : ∀ j, iv 0 9 (la_minutes j)) (k_la_talls : ∀ j, iv 0 9 (la_talls j)) (hx2 : iv 0 31 x2) (hx3 : iv 0 5 x3) (hx4 : iv (-9) 1000 x4) (hx5 : iv 0 4 x5) (m12 : Int) (hm12 : m12 ≤ x3.toInt) (hP12 : ∀ (x2 : Int32) (x3 : Int32), m12 < x3.toInt → iv 0 31 x2 → iv 0 6 x3 → P12 x2 x3) (m31 : Int) (hm31 : m31 ≤ x5.toInt) (hP31 : ∀ (x2 : Int32) (x5 : Int32), m31 < x5.toInt → iv 0 31 x2 → iv 0 5 x5 → P31 x2 x5) (hpost : ∀ (r : Int32) (a_open : Nat → Int32), iv 0 31 r → (∀ j, iv 0 511 (a_open j)) → post r a_open) : q_wn_X3_doneFor_6_72 P12 P31 f_begun a_huts a_known a_levels a_snow a_open lf_huts lf_singers lf_dams lf_deep la_heights la_minutes la_talls x2 x3 x4 x5 post := by
  intro w1 ew1
  have hw1 := iv_eq ew1 (iv_add (l := 1) (h := 5) hx5 (iv_lit (l := 1) (h := 1) (by decide)) (by decide))
  exact hP31 _ _ (ml_up hm31 (inc_lt ew1 hx5 (by decide))) hx2 (iv_w hw1 (by decide))
set_option maxRecDepth 20000 in
theorem s_wn_X3_doneFor_6_31 {P12 : Int32 → Int32 → Prop} {f_begun : Int32} {a_huts : Nat → Int32} {a_known : Nat → Int32} {a_levels : Nat → Int32} {a_snow : Nat → Int32} {a_open : Nat → Int32} {lf_huts : Int32} {lf_singers : Int32} {lf_dams : Int32} {lf_deep : Int32} {la_heights : Nat → Int32} {la_minutes : Nat → Int32} {la_talls : Nat → Int32} {x2 : Int32} {x3 : Int32} {x4 : Int32} {x5 : Int32} {post : Int32 → (Nat → Int32) → Prop} (k_f_begun : iv 0 31 f_begun) (k_a_huts : ∀ j, iv 0 8 (a_huts j)) (k_a_known : ∀ j, iv 0 31 (a_known j)) (k_a_levels : ∀ j, iv (-9) 122 (a_levels j)) (k_a_open : ∀ j, iv 0 511 (a_open j)) (k_lf_huts : iv 0 9 lf_huts) (k_lf_singers : iv 1 6 lf_singers) (k_lf_dams : iv 0 511 lf_dams) (k_lf_deep : iv 1 9 lf_deep) (k_la_heights : ∀ j, iv 0 99 (la_heights j)) (k_la_minutes : ∀ j, iv 0 9 (la_minutes j)) (k_la_talls : ∀ j, iv 0 9 (la_talls j)) (hx2 : iv 0 31 x2) (hx3 : iv 0 5 x3) (hx4 : iv (-9) 1000 x4) (hx5 : iv 0 5 x5) (m12 : Int) (hm12 : m12 ≤ x3.toInt) (hP12 : ∀ (x2 : Int32) (x3 : Int32), m12 < x3.toInt → iv 0 31 x2 → iv 0 6 x3 → P12 x2 x3) (hpost : ∀ (r : Int32) (a_open : Nat → Int32), iv 0 31 r → (∀ j, iv 0 511 (a_open j)) → post r a_open) : q_wn_X3_doneFor_6_31 P12 f_begun a_huts a_known a_levels a_snow a_open lf_huts lf_singers lf_dams lf_deep la_heights la_minutes la_talls x2 x3 x4 x5 post := by
  intro P hP
  have loop : ∀ (n : Nat) (x2 : Int32) (x5 : Int32), (5 - x5.toInt < (n : Int)) → (iv 0 31 x2) → (iv 0 5 x5) → P x2 x5 := by
    intro n
    induction n with
    | zero => intro x2 x5 hm hx2 hx5; exact (ms0_up hm hx5).elim
    | succ n ih =>
      intro x2 x5 hm hx2 hx5
      apply hP
      refine ⟨fun c1 => ?_, fun c1 => ?_⟩
      · skip
        intro w2 ew2
        have hw2 := iv_eq ew2 (iv_add (l := 1) (h := 6) hx3 (iv_lit (l := 1) (h := 1) (by decide)) (by decide))
        exact hP12 _ _ (ml_up hm12 (inc_lt ew2 hx3 (by decide))) hx2 (iv_w hw2 (by decide))
      · skip
        refine ⟨iv_in hx3 (by decide), ?_⟩
        refine ⟨fun c3 => ?_, fun c3 => ?_⟩
        · skip
          refine ⟨fun c4 => ?_, fun c4 => ?_⟩
          · skip
            exact s_wn_X3_doneFor_6_72 k_f_begun k_a_huts k_a_known k_a_levels k_a_open k_lf_huts k_lf_singers k_lf_dams k_lf_deep k_la_heights k_la_minutes k_la_talls hx2 hx3 hx4 (iv_lta (l := 0) (h := 4) (r_nle c1) hx5 (iv_lit (l := 5) (h := 5) (by decide)) (by decide)) m12 hm12 hP12 x5.toInt (Int.le_refl _) (fun u0 u1 hq g0 g1 => ih u0 u1 (ms_up hm hq) g0 g1) hpost
          · skip
            exact (iv_emp (iv_ne (l := 1) (h := 0) c4 (iv_lit (l := 0) (h := 0) (by decide)) (iv_lit (l := 0) (h := 0) (by decide)) (by decide)) (by decide)).elim
        · skip
          refine ⟨fun c5 => ?_, fun c5 => ?_⟩
          · skip
            exact (iv_emp (iv_eqa (l := 1) (h := 0) c5 (iv_lit (l := 1) (h := 1) (by decide)) (iv_lit (l := 0) (h := 0) (by decide)) (by decide)) (by decide)).elim
          · skip
            refine ⟨iv_in (iv_lta (l := 0) (h := 4) (r_nle c1) hx5 (iv_lit (l := 5) (h := 5) (by decide)) (by decide)) (by decide), ?_⟩
            refine ⟨fun c6 => ?_, fun c6 => ?_⟩
            · skip
              exact s_wn_X3_doneFor_6_72 k_f_begun k_a_huts k_a_known k_a_levels k_a_open k_lf_huts k_lf_singers k_lf_dams k_lf_deep k_la_heights k_la_minutes k_la_talls hx2 hx3 hx4 (iv_lta (l := 0) (h := 4) (r_nle c1) hx5 (iv_lit (l := 5) (h := 5) (by decide)) (by decide)) m12 hm12 hP12 x5.toInt (Int.le_refl _) (fun u0 u1 hq g0 g1 => ih u0 u1 (ms_up hm hq) g0 g1) hpost
            · skip
              intro w7 ew7
              have hw7 := iv_eq ew7 (iv_andl (l := 0) (h := 31) hx2 (by decide))
              exact s_wn_X3_doneFor_6_72 k_f_begun k_a_huts k_a_known k_a_levels k_a_open k_lf_huts k_lf_singers k_lf_dams k_lf_deep k_la_heights k_la_minutes k_la_talls hw7 hx3 (iv_w (iv_lta (l := (-9)) (h := 121) (r_nle c6) hx4 (k_a_levels _) (by decide)) (by decide)) (iv_lta (l := 0) (h := 4) (r_nle c1) hx5 (iv_lit (l := 5) (h := 5) (by decide)) (by decide)) m12 hm12 hP12 x5.toInt (Int.le_refl _) (fun u0 u1 hq g0 g1 => ih u0 u1 (ms_up hm hq) g0 g1) hpost
  exact loop _ _ _ (ms_init_up _ _) hx2 hx5
set_option maxRecDepth 20000 in
theorem s_wn_X3_doneFor_6_12 {f_begun : Int32} {a_huts : Nat → Int32} {a_known : Nat → Int32} {a_levels : Nat → Int32} {a_snow : Nat → Int32} {a_open : Nat → Int32} {lf_huts : Int32} {lf_singers : Int32} {lf_dams : Int32} {lf_deep : Int32} {la_heights : Nat → Int32} {la_minutes : Nat → Int32} {la_talls : Nat → Int32} {x2 : Int32} {x3 : Int32} {post : Int32 → (Nat → Int32) → Prop} (k_f_begun : iv 0 31 f_begun) (k_a_huts : ∀ j, iv 0 8 (a_huts j)) (k_a_known : ∀ j, iv 0 31 (a_known j)) (k_a_levels : ∀ j, iv (-9) 122 (a_levels j)) (k_a_open : ∀ j, iv 0 511 (a_open j)) (k_lf_huts : iv 0 9 lf_huts) (k_lf_singers : iv 0 6 lf_singers) (k_lf_dams : iv 0 511 lf_dams) (k_lf_deep : iv 1 9 lf_deep) (k_la_heights : ∀ j, iv 0 99 (la_heights j)) (k_la_minutes : ∀ j, iv 0 9 (la_minutes j)) (k_la_talls : ∀ j, iv 0 9 (la_talls j)) (hx2 : iv 0 31 x2) (hx3 : iv 0 6 x3) (hpost : ∀ (r : Int32) (a_open : Nat → Int32), iv 0 31 r → (∀ j, iv 0 511 (a_open j)) → post r a_open) : q_wn_X3_doneFor_6_12 f_begun a_huts a_known a_levels a_snow a_open lf_huts lf_singers lf_dams lf_deep la_heights la_minutes la_talls x2 x3 post := by
  intro P hP
  have loop : ∀ (n : Nat) (x2 : Int32) (x3 : Int32), (6 - x3.toInt < (n : Int)) → (iv 0 31 x2) → (iv 0 6 x3) → P x2 x3 := by
    intro n
    induction n with
    | zero => intro x2 x3 hm hx2 hx3; exact (ms0_up hm hx3).elim
    | succ n ih =>
      intro x2 x3 hm hx2 hx3
      apply hP
      refine ⟨fun c1 => ?_, fun c1 => ?_⟩
      · skip
        exact hpost _ _ hx2 k_a_open
      · skip
        refine s_wn_X3_lowest_6_0 k_a_huts k_a_open k_lf_huts k_lf_dams k_la_heights k_la_talls (iv_lta (l := 0) (h := 5) (r_nle c1) hx3 k_lf_singers (by decide)) (fun r2 hr2 => ?_)
        exact s_wn_X3_doneFor_6_31 k_f_begun k_a_huts k_a_known k_a_levels k_a_open k_lf_huts (iv_ltb (l := 1) (h := 6) (r_nle c1) hx3 k_lf_singers (by decide)) k_lf_dams k_lf_deep k_la_heights k_la_minutes k_la_talls hx2 (iv_lta (l := 0) (h := 5) (r_nle c1) hx3 k_lf_singers (by decide)) hr2 (iv_w (iv_lit (l := 0) (h := 0) (by decide)) (by decide)) x3.toInt (Int.le_refl _) (fun u0 u1 hq g0 g1 => ih u0 u1 (ms_up hm hq) g0 g1) hpost
  exact loop _ _ _ (ms_init_up _ _) hx2 hx3
set_option maxRecDepth 20000 in
theorem s_wn_X3_doneFor_6_0 {f_begun : Int32} {a_huts : Nat → Int32} {a_known : Nat → Int32} {a_levels : Nat → Int32} {a_snow : Nat → Int32} {a_open : Nat → Int32} {lf_huts : Int32} {lf_singers : Int32} {lf_dams : Int32} {lf_deep : Int32} {la_heights : Nat → Int32} {la_minutes : Nat → Int32} {la_talls : Nat → Int32} {post : Int32 → (Nat → Int32) → Prop} (k_f_begun : iv 0 31 f_begun) (k_a_huts : ∀ j, iv 0 8 (a_huts j)) (k_a_known : ∀ j, iv 0 31 (a_known j)) (k_a_levels : ∀ j, iv (-9) 122 (a_levels j)) (k_a_open : ∀ j, iv 0 511 (a_open j)) (k_lf_huts : iv 0 9 lf_huts) (k_lf_singers : iv 0 6 lf_singers) (k_lf_dams : iv 0 511 lf_dams) (k_lf_deep : iv 1 9 lf_deep) (k_la_heights : ∀ j, iv 0 99 (la_heights j)) (k_la_minutes : ∀ j, iv 0 9 (la_minutes j)) (k_la_talls : ∀ j, iv 0 9 (la_talls j)) (hpost : ∀ (r : Int32) (a_open : Nat → Int32), iv 0 31 r → (∀ j, iv 0 511 (a_open j)) → post r a_open) : q_wn_X3_doneFor_6_0 f_begun a_huts a_known a_levels a_snow a_open lf_huts lf_singers lf_dams lf_deep la_heights la_minutes la_talls post := by
  refine s_wn_X3_openWays_6_0 k_a_open k_lf_huts k_lf_deep k_la_minutes (fun o1 k_o1 => ?_)
  exact s_wn_X3_doneFor_6_12 k_f_begun k_a_huts k_a_known k_a_levels k_o1 k_lf_huts k_lf_singers k_lf_dams k_lf_deep k_la_heights k_la_minutes k_la_talls k_f_begun (iv_w (iv_lit (l := 0) (h := 0) (by decide)) (by decide)) hpost
-- wn_X3_seers_6
set_option maxRecDepth 20000 in
theorem s_wn_X3_seers_6_34 {P4 : Int32 → Int32 → Prop} {f_begun : Int32} {a_known : Nat → Int32} {lf_singers : Int32} {x2 : Int32} {x3 : Int32} {post : Int32 → Prop} (k_f_begun : iv 0 31 f_begun) (k_a_known : ∀ j, iv 0 31 (a_known j)) (k_lf_singers : iv 1 6 lf_singers) (hx2 : iv 0 63 x2) (hx3 : iv 0 5 x3) (m4 : Int) (hm4 : m4 ≤ x3.toInt) (hP4 : ∀ (x2 : Int32) (x3 : Int32), m4 < x3.toInt → iv 0 63 x2 → iv 0 6 x3 → P4 x2 x3) (hpost : ∀ (r : Int32), iv 0 63 r → post r) : q_wn_X3_seers_6_34 P4 f_begun a_known lf_singers x2 x3 post := by
  intro w1 ew1
  have hw1 := iv_eq ew1 (iv_add (l := 1) (h := 6) hx3 (iv_lit (l := 1) (h := 1) (by decide)) (by decide))
  exact hP4 _ _ (ml_up hm4 (inc_lt ew1 hx3 (by decide))) hx2 (iv_w hw1 (by decide))
set_option maxRecDepth 20000 in
theorem s_wn_X3_seers_6_4 {f_begun : Int32} {a_known : Nat → Int32} {lf_singers : Int32} {x2 : Int32} {x3 : Int32} {post : Int32 → Prop} (k_f_begun : iv 0 31 f_begun) (k_a_known : ∀ j, iv 0 31 (a_known j)) (k_lf_singers : iv 0 6 lf_singers) (hx2 : iv 0 63 x2) (hx3 : iv 0 6 x3) (hpost : ∀ (r : Int32), iv 0 63 r → post r) : q_wn_X3_seers_6_4 f_begun a_known lf_singers x2 x3 post := by
  intro P hP
  have loop : ∀ (n : Nat) (x2 : Int32) (x3 : Int32), (6 - x3.toInt < (n : Int)) → (iv 0 63 x2) → (iv 0 6 x3) → P x2 x3 := by
    intro n
    induction n with
    | zero => intro x2 x3 hm hx2 hx3; exact (ms0_up hm hx3).elim
    | succ n ih =>
      intro x2 x3 hm hx2 hx3
      apply hP
      refine ⟨fun c1 => ?_, fun c1 => ?_⟩
      · skip
        exact hpost _ hx2
      · skip
        refine ⟨iv_in (iv_lta (l := 0) (h := 5) (r_nle c1) hx3 k_lf_singers (by decide)) (by decide), ?_⟩
        refine ⟨fun c2 => ?_, fun c2 => ?_⟩
        · skip
          exact s_wn_X3_seers_6_34 k_f_begun k_a_known (iv_ltb (l := 1) (h := 6) (r_nle c1) hx3 k_lf_singers (by decide)) hx2 (iv_lta (l := 0) (h := 5) (r_nle c1) hx3 k_lf_singers (by decide)) x3.toInt (Int.le_refl _) (fun u0 u1 hq g0 g1 => ih u0 u1 (ms_up hm hq) g0 g1) hpost
        · skip
          intro w3 ew3
          have hw3 := iv_eq ew3 (iv_or 6 (l := 0) (h := 63) hx2 (iv_shl1 (l := 1) (h := 32) (iv_lit (l := 1) (h := 1) (by decide)) (iv_lta (l := 0) (h := 5) (r_nle c1) hx3 k_lf_singers (by decide)) (by decide)) (by decide))
          exact s_wn_X3_seers_6_34 k_f_begun k_a_known (iv_ltb (l := 1) (h := 6) (r_nle c1) hx3 k_lf_singers (by decide)) hw3 (iv_lta (l := 0) (h := 5) (r_nle c1) hx3 k_lf_singers (by decide)) x3.toInt (Int.le_refl _) (fun u0 u1 hq g0 g1 => ih u0 u1 (ms_up hm hq) g0 g1) hpost
  exact loop _ _ _ (ms_init_up _ _) hx2 hx3
set_option maxRecDepth 20000 in
theorem s_wn_X3_seers_6_0 {f_begun : Int32} {a_known : Nat → Int32} {lf_singers : Int32} {post : Int32 → Prop} (k_f_begun : iv 0 31 f_begun) (k_a_known : ∀ j, iv 0 31 (a_known j)) (k_lf_singers : iv 0 6 lf_singers) (hpost : ∀ (r : Int32), iv 0 63 r → post r) : q_wn_X3_seers_6_0 f_begun a_known lf_singers post := by
  exact s_wn_X3_seers_6_4 k_f_begun k_a_known k_lf_singers (iv_w (iv_lit (l := 0) (h := 0) (by decide)) (by decide)) (iv_w (iv_lit (l := 0) (h := 0) (by decide)) (by decide)) hpost
-- wn_X3_look_6
set_option maxRecDepth 20000 in
theorem s_wn_X3_look_6_135 {f_minute : Int32} {f_avalanches : Int32} {f_begun : Int32} {f_climbed : Int32} {a_huts : Nat → Int32} {a_known : Nat → Int32} {a_levels : Nat → Int32} {a_snow : Nat → Int32} {a_open : Nat → Int32} {lf_huts : Int32} {lf_singers : Int32} {lf_dams : Int32} {lf_deep : Int32} {la_heights : Nat → Int32} {la_ladders : Nat → Int32} {la_minutes : Nat → Int32} {la_talls : Nat → Int32} {x2 : Int32} {x3 : Int32} {post : Int32 → (Nat → Int32) → Prop} (k_f_begun : iv 0 31 f_begun) (k_f_climbed : iv 0 63 f_climbed) (k_a_huts : ∀ j, iv 0 8 (a_huts j)) (k_a_known : ∀ j, iv 0 31 (a_known j)) (k_a_levels : ∀ j, iv (-9) 122 (a_levels j)) (k_a_open : ∀ j, iv 0 511 (a_open j)) (k_lf_huts : iv 0 9 lf_huts) (k_lf_singers : iv 0 6 lf_singers) (k_lf_dams : iv 0 511 lf_dams) (k_lf_deep : iv 1 9 lf_deep) (k_la_heights : ∀ j, iv 0 99 (la_heights j)) (k_la_ladders : ∀ j, iv 0 9 (la_ladders j)) (k_la_minutes : ∀ j, iv 0 9 (la_minutes j)) (k_la_talls : ∀ j, iv 0 9 (la_talls j)) (hx2 : iv 0 79 x2) (hx3 : iv 0 9 x3) (hpost : ∀ (r : Int32) (a_open : Nat → Int32), (∀ j, iv 0 511 (a_open j)) → post r a_open) : q_wn_X3_look_6_135 f_minute f_avalanches f_begun f_climbed a_huts a_known a_levels a_snow a_open lf_huts lf_singers lf_dams lf_deep la_heights la_ladders la_minutes la_talls x2 x3 post := by
  refine ⟨fun c1 => ?_, fun c1 => ?_⟩
  · skip
    exact (iv_emp (iv_lta (l := 0) (h := (-1)) (r_lt c1) hx3 (iv_lit (l := 0) (h := 0) (by decide)) (by decide)) (by decide)).elim
  · skip
    refine ⟨fun c2 => ?_, fun c2 => ?_⟩
    · skip
      refine ⟨fun c3 => ?_, fun c3 => ?_⟩
      · skip
        exact hpost _ _ k_a_open
      · skip
        exact (iv_emp (iv_ne (l := 1) (h := 0) c3 (iv_lit (l := 0) (h := 0) (by decide)) (iv_lit (l := 0) (h := 0) (by decide)) (by decide)) (by decide)).elim
    · skip
      refine ⟨fun c4 => ?_, fun c4 => ?_⟩
      · skip
        exact (iv_emp (iv_eqa (l := 1) (h := 0) c4 (iv_lit (l := 1) (h := 1) (by decide)) (iv_lit (l := 0) (h := 0) (by decide)) (by decide)) (by decide)).elim
      · skip
        refine ⟨fun c5 => ?_, fun c5 => ?_, fun c5 => ?_, fun c5 => ?_⟩
        · skip
          refine ⟨iv_in (iv_lta (l := 0) (h := 5) (r_nle c2) hx3 k_lf_singers (by decide)) (by decide), ?_⟩
          intro w6 ew6
          have hw6 := iv_eq ew6 (k_a_huts _)
          refine ⟨iv_in hw6 (by decide), ?_⟩
          refine ⟨iv_in (iv_lta (l := 0) (h := 5) (r_nle c2) hx3 k_lf_singers (by decide)) (by decide), ?_⟩
          intro w7 ew7
          have hw7 := iv_eq ew7 (iv_sub (l := (-9)) (h := 99) (k_la_heights _) (k_la_talls _) (by decide))
          refine ⟨fun c8 => ?_, fun c8 => ?_⟩
          · skip
            refine ⟨fun c9 => ?_, fun c9 => ?_⟩
            · skip
              exact hpost _ _ k_a_open
            · skip
              exact (iv_emp (iv_ne (l := 1) (h := 0) c9 (iv_lit (l := 0) (h := 0) (by decide)) (iv_lit (l := 0) (h := 0) (by decide)) (by decide)) (by decide)).elim
          · skip
            refine ⟨fun c10 => ?_, fun c10 => ?_⟩
            · skip
              exact (iv_emp (iv_eqa (l := 1) (h := 0) c10 (iv_lit (l := 1) (h := 1) (by decide)) (iv_lit (l := 0) (h := 0) (by decide)) (by decide)) (by decide)).elim
            · skip
              refine ⟨iv_in hw6 (by decide), ?_⟩
              exact hpost _ _ k_a_open
        · skip
          refine ⟨iv_in (iv_lta (l := 0) (h := 5) (r_nle c2) hx3 k_lf_singers (by decide)) (by decide), ?_⟩
          exact hpost _ _ k_a_open
        · skip
          refine ⟨iv_in (iv_lta (l := 0) (h := 5) (r_nle c2) hx3 k_lf_singers (by decide)) (by decide), ?_⟩
          exact hpost _ _ k_a_open
        · skip
          refine ⟨fun c11 => ?_, fun c11 => ?_⟩
          · skip
            refine ⟨fun c12 => ?_, fun c12 => ?_⟩
            · skip
              exact hpost _ _ k_a_open
            · skip
              exact (iv_emp (iv_ne (l := 1) (h := 0) c12 (iv_lit (l := 0) (h := 0) (by decide)) (iv_lit (l := 0) (h := 0) (by decide)) (by decide)) (by decide)).elim
          · skip
            refine ⟨fun c13 => ?_, fun c13 => ?_⟩
            · skip
              exact (iv_emp (iv_eqa (l := 1) (h := 0) c13 (iv_lit (l := 1) (h := 1) (by decide)) (iv_lit (l := 0) (h := 0) (by decide)) (by decide)) (by decide)).elim
            · skip
              exact hpost _ _ k_a_open
set_option maxRecDepth 20000 in
theorem s_wn_X3_look_6_0 {f_minute : Int32} {f_avalanches : Int32} {f_begun : Int32} {f_climbed : Int32} {a_huts : Nat → Int32} {a_known : Nat → Int32} {a_levels : Nat → Int32} {a_snow : Nat → Int32} {a_open : Nat → Int32} {lf_huts : Int32} {lf_singers : Int32} {lf_dams : Int32} {lf_deep : Int32} {la_heights : Nat → Int32} {la_ladders : Nat → Int32} {la_minutes : Nat → Int32} {la_talls : Nat → Int32} {x2 : Int32} {post : Int32 → (Nat → Int32) → Prop} (k_f_begun : iv 0 31 f_begun) (k_f_climbed : iv 0 63 f_climbed) (k_a_huts : ∀ j, iv 0 8 (a_huts j)) (k_a_known : ∀ j, iv 0 31 (a_known j)) (k_a_levels : ∀ j, iv (-9) 122 (a_levels j)) (k_a_open : ∀ j, iv 0 511 (a_open j)) (k_lf_huts : iv 0 9 lf_huts) (k_lf_singers : iv 0 6 lf_singers) (k_lf_dams : iv 0 511 lf_dams) (k_lf_deep : iv 1 9 lf_deep) (k_la_heights : ∀ j, iv 0 99 (la_heights j)) (k_la_ladders : ∀ j, iv 0 9 (la_ladders j)) (k_la_minutes : ∀ j, iv 0 9 (la_minutes j)) (k_la_talls : ∀ j, iv 0 9 (la_talls j)) (hpost : ∀ (r : Int32) (a_open : Nat → Int32), (∀ j, iv 0 511 (a_open j)) → post r a_open) : q_wn_X3_look_6_0 f_minute f_avalanches f_begun f_climbed a_huts a_known a_levels a_snow a_open lf_huts lf_singers lf_dams lf_deep la_heights la_ladders la_minutes la_talls x2 post := by
  refine ⟨fun c1 => ?_, fun c1 => ?_⟩
  · skip
    exact hpost _ _ k_a_open
  · skip
    refine ⟨fun c2 => ?_, fun c2 => ?_⟩
    · skip
      intro w3 ew3
      have hw3 := iv_eq ew3 (iv_rem (l := 0) (h := 9) (iv_lea (l := 0) (h := 79) (r_le c2) (iv_leb (l := 0) (h := 2147483647) (r_nlt c1) (iv_lit (l := 0) (h := 0) (by decide)) (iv_top x2) (by decide)) (iv_lit (l := 79) (h := 79) (by decide)) (by decide)) (iv_lit (l := 10) (h := 10) (by decide)) (by decide))
      refine ⟨fun c4 => ?_, fun c4 => ?_, fun c4 => ?_, fun c4 => ?_, fun c4 => ?_, fun c4 => ?_, fun c4 => ?_, fun c4 => ?_, fun c4 => ?_⟩
      · skip
        exact (iv_sw c4 (iv_div (l := 0) (h := 7) (iv_lea (l := 0) (h := 79) (r_le c2) (iv_leb (l := 0) (h := 2147483647) (r_nlt c1) (iv_lit (l := 0) (h := 0) (by decide)) (iv_top x2) (by decide)) (iv_lit (l := 79) (h := 79) (by decide)) (by decide)) (iv_lit (l := 10) (h := 10) (by decide)) (by decide)) (by decide)).elim
      · skip
        refine ⟨fun c5 => ?_, fun c5 => ?_, fun c5 => ?_, fun c5 => ?_, fun c5 => ?_, fun c5 => ?_⟩
        · skip
          exact hpost _ _ k_a_open
        · skip
          exact hpost _ _ k_a_open
        · skip
          exact hpost _ _ k_a_open
        · skip
          refine s_wn_X3_seers_6_0 k_f_begun k_a_known k_lf_singers (fun r6 hr6 => ?_)
          exact hpost _ _ k_a_open
        · skip
          exact hpost _ _ k_a_open
        · skip
          refine s_wn_X3_doneFor_6_0 k_f_begun k_a_huts k_a_known k_a_levels k_a_open k_lf_huts k_lf_singers k_lf_dams k_lf_deep k_la_heights k_la_minutes k_la_talls (fun r7 o8 hr7 k_o8 => ?_)
          exact hpost _ _ k_o8
      · skip
        refine ⟨fun c9 => ?_, fun c9 => ?_⟩
        · skip
          exact hpost _ _ k_a_open
        · skip
          refine ⟨iv_in (iv_lta (l := 0) (h := 4) (r_nle c9) hw3 (iv_lit (l := 5) (h := 5) (by decide)) (by decide)) (by decide), ?_⟩
          exact hpost _ _ k_a_open
      · skip
        refine ⟨fun c10 => ?_, fun c10 => ?_⟩
        · skip
          exact hpost _ _ k_a_open
        · skip
          refine s_wn_X3_knowers_6_0 k_a_known k_lf_singers (iv_lta (l := 0) (h := 4) (r_nle c10) hw3 (iv_lit (l := 5) (h := 5) (by decide)) (by decide)) (fun r11 hr11 => ?_)
          refine s_z_J6_bitCount_0f7a4_0 (iv_w hr11 (by decide)) (fun r12 hr12 => ?_)
          exact hpost _ _ k_a_open
      · skip
        exact s_wn_X3_look_6_135 k_f_begun k_f_climbed k_a_huts k_a_known k_a_levels k_a_open k_lf_huts k_lf_singers k_lf_dams k_lf_deep k_la_heights k_la_ladders k_la_minutes k_la_talls (iv_lea (l := 0) (h := 79) (r_le c2) (iv_leb (l := 0) (h := 2147483647) (r_nlt c1) (iv_lit (l := 0) (h := 0) (by decide)) (iv_top x2) (by decide)) (iv_lit (l := 79) (h := 79) (by decide)) (by decide)) hw3 hpost
      · skip
        exact s_wn_X3_look_6_135 k_f_begun k_f_climbed k_a_huts k_a_known k_a_levels k_a_open k_lf_huts k_lf_singers k_lf_dams k_lf_deep k_la_heights k_la_ladders k_la_minutes k_la_talls (iv_lea (l := 0) (h := 79) (r_le c2) (iv_leb (l := 0) (h := 2147483647) (r_nlt c1) (iv_lit (l := 0) (h := 0) (by decide)) (iv_top x2) (by decide)) (iv_lit (l := 79) (h := 79) (by decide)) (by decide)) hw3 hpost
      · skip
        exact s_wn_X3_look_6_135 k_f_begun k_f_climbed k_a_huts k_a_known k_a_levels k_a_open k_lf_huts k_lf_singers k_lf_dams k_lf_deep k_la_heights k_la_ladders k_la_minutes k_la_talls (iv_lea (l := 0) (h := 79) (r_le c2) (iv_leb (l := 0) (h := 2147483647) (r_nlt c1) (iv_lit (l := 0) (h := 0) (by decide)) (iv_top x2) (by decide)) (iv_lit (l := 79) (h := 79) (by decide)) (by decide)) hw3 hpost
      · skip
        exact s_wn_X3_look_6_135 k_f_begun k_f_climbed k_a_huts k_a_known k_a_levels k_a_open k_lf_huts k_lf_singers k_lf_dams k_lf_deep k_la_heights k_la_ladders k_la_minutes k_la_talls (iv_lea (l := 0) (h := 79) (r_le c2) (iv_leb (l := 0) (h := 2147483647) (r_nlt c1) (iv_lit (l := 0) (h := 0) (by decide)) (iv_top x2) (by decide)) (iv_lit (l := 79) (h := 79) (by decide)) (by decide)) hw3 hpost
      · skip
        refine ⟨fun c13 => ?_, fun c13 => ?_⟩
        · skip
          exact (iv_emp (iv_lta (l := 0) (h := (-1)) (r_lt c13) hw3 (iv_lit (l := 0) (h := 0) (by decide)) (by decide)) (by decide)).elim
        · skip
          refine ⟨fun c14 => ?_, fun c14 => ?_⟩
          · skip
            refine ⟨fun c15 => ?_, fun c15 => ?_⟩
            · skip
              exact hpost _ _ k_a_open
            · skip
              exact (iv_emp (iv_ne (l := 1) (h := 0) c15 (iv_lit (l := 0) (h := 0) (by decide)) (iv_lit (l := 0) (h := 0) (by decide)) (by decide)) (by decide)).elim
          · skip
            refine ⟨fun c16 => ?_, fun c16 => ?_⟩
            · skip
              exact (iv_emp (iv_eqa (l := 1) (h := 0) c16 (iv_lit (l := 1) (h := 1) (by decide)) (iv_lit (l := 0) (h := 0) (by decide)) (by decide)) (by decide)).elim
            · skip
              refine ⟨iv_in (iv_lta (l := 0) (h := 8) (r_nle c14) hw3 k_lf_huts (by decide)) (by decide), ?_⟩
              exact hpost _ _ k_a_open
    · skip
      exact hpost _ _ k_a_open
-- wn_X3_highestOf_6
set_option maxRecDepth 20000 in
theorem s_wn_X3_highestOf_6_52 {P10 : Int32 → Int32 → Int32 → Prop} {f_climbed : Int32} {a_huts : Nat → Int32} {lf_singers : Int32} {la_heights : Nat → Int32} {la_ladders : Nat → Int32} {la_talls : Nat → Int32} {x2 : Int32} {x3 : Int32} {x4 : Int32} {x5 : Int32} {post : Int32 → Prop} (k_f_climbed : iv 0 63 f_climbed) (k_a_huts : ∀ j, iv 0 8 (a_huts j)) (k_lf_singers : iv 1 6 lf_singers) (k_la_heights : ∀ j, iv 0 99 (la_heights j)) (k_la_ladders : ∀ j, iv 0 9 (la_ladders j)) (k_la_talls : ∀ j, iv 0 9 (la_talls j)) (hx2 : iv 1 2147483647 x2) (hx3 : iv 0 5 x3) (hx4 : iv (-1000) 108 x4) (hx5 : iv 0 5 x5) (m10 : Int) (hm10 : m10 ≤ x5.toInt) (hP10 : ∀ (x3 : Int32) (x4 : Int32) (x5 : Int32), m10 < x5.toInt → iv 0 5 x3 → iv (-1000) 108 x4 → iv 0 6 x5 → P10 x3 x4 x5) (hpost : ∀ (r : Int32), iv 0 5 r → post r) : q_wn_X3_highestOf_6_52 P10 f_climbed a_huts lf_singers la_heights la_ladders la_talls x2 x3 x4 x5 post := by
  intro w1 ew1
  have hw1 := iv_eq ew1 (iv_add (l := 1) (h := 6) hx5 (iv_lit (l := 1) (h := 1) (by decide)) (by decide))
  exact hP10 _ _ _ (ml_up hm10 (inc_lt ew1 hx5 (by decide))) hx3 hx4 (iv_w hw1 (by decide))
set_option maxRecDepth 20000 in
theorem s_wn_X3_highestOf_6_10 {f_climbed : Int32} {a_huts : Nat → Int32} {lf_singers : Int32} {la_heights : Nat → Int32} {la_ladders : Nat → Int32} {la_talls : Nat → Int32} {x2 : Int32} {x3 : Int32} {x4 : Int32} {x5 : Int32} {post : Int32 → Prop} (k_f_climbed : iv 0 63 f_climbed) (k_a_huts : ∀ j, iv 0 8 (a_huts j)) (k_lf_singers : iv 0 6 lf_singers) (k_la_heights : ∀ j, iv 0 99 (la_heights j)) (k_la_ladders : ∀ j, iv 0 9 (la_ladders j)) (k_la_talls : ∀ j, iv 0 9 (la_talls j)) (hx2 : iv 1 2147483647 x2) (hx3 : iv 0 5 x3) (hx4 : iv (-1000) 108 x4) (hx5 : iv 0 6 x5) (hpost : ∀ (r : Int32), iv 0 5 r → post r) : q_wn_X3_highestOf_6_10 f_climbed a_huts lf_singers la_heights la_ladders la_talls x2 x3 x4 x5 post := by
  intro P hP
  have loop : ∀ (n : Nat) (x3 : Int32) (x4 : Int32) (x5 : Int32), (6 - x5.toInt < (n : Int)) → (iv 0 5 x3) → (iv (-1000) 108 x4) → (iv 0 6 x5) → P x3 x4 x5 := by
    intro n
    induction n with
    | zero => intro x3 x4 x5 hm hx3 hx4 hx5; exact (ms0_up hm hx5).elim
    | succ n ih =>
      intro x3 x4 x5 hm hx3 hx4 hx5
      apply hP
      refine ⟨fun c1 => ?_, fun c1 => ?_⟩
      · skip
        exact hpost _ hx3
      · skip
        refine ⟨fun c2 => ?_, fun c2 => ?_⟩
        · skip
          refine ⟨fun c3 => ?_, fun c3 => ?_⟩
          · skip
            exact s_wn_X3_highestOf_6_52 k_f_climbed k_a_huts (iv_ltb (l := 1) (h := 6) (r_nle c1) hx5 k_lf_singers (by decide)) k_la_heights k_la_ladders k_la_talls hx2 hx3 hx4 (iv_lta (l := 0) (h := 5) (r_nle c1) hx5 k_lf_singers (by decide)) x5.toInt (Int.le_refl _) (fun u0 u1 u2 hq g0 g1 g2 => ih u0 u1 u2 (ms_up hm hq) g0 g1 g2) hpost
          · skip
            exact (iv_emp (iv_ne (l := 1) (h := 0) c3 (iv_lit (l := 0) (h := 0) (by decide)) (iv_lit (l := 0) (h := 0) (by decide)) (by decide)) (by decide)).elim
        · skip
          refine ⟨fun c4 => ?_, fun c4 => ?_⟩
          · skip
            exact (iv_emp (iv_eqa (l := 1) (h := 0) c4 (iv_lit (l := 1) (h := 1) (by decide)) (iv_lit (l := 0) (h := 0) (by decide)) (by decide)) (by decide)).elim
          · skip
            refine ⟨iv_in (iv_lta (l := 0) (h := 5) (r_nle c1) hx5 k_lf_singers (by decide)) (by decide), ?_⟩
            intro w5 ew5
            have hw5 := iv_eq ew5 (k_a_huts _)
            refine ⟨iv_in hw5 (by decide), ?_⟩
            refine ⟨iv_in (iv_lta (l := 0) (h := 5) (r_nle c1) hx5 k_lf_singers (by decide)) (by decide), ?_⟩
            intro w6 ew6
            have hw6 := iv_eq ew6 (iv_sub (l := (-9)) (h := 99) (k_la_heights _) (k_la_talls _) (by decide))
            refine ⟨fun c7 => ?_, fun c7 => ?_⟩
            · skip
              refine ⟨fun c8 => ?_, fun c8 => ?_⟩
              · skip
                refine ⟨fun c9 => ?_, fun c9 => ?_⟩
                · skip
                  exact s_wn_X3_highestOf_6_52 k_f_climbed k_a_huts (iv_ltb (l := 1) (h := 6) (r_nle c1) hx5 k_lf_singers (by decide)) k_la_heights k_la_ladders k_la_talls hx2 hx3 (iv_w (iv_leb (l := (-9)) (h := 108) (r_le c9) hw6 hx4 (by decide)) (by decide)) (iv_lta (l := 0) (h := 5) (r_nle c1) hx5 k_lf_singers (by decide)) x5.toInt (Int.le_refl _) (fun u0 u1 u2 hq g0 g1 g2 => ih u0 u1 u2 (ms_up hm hq) g0 g1 g2) hpost
                · skip
                  refine ⟨iv_in (iv_lta (l := 0) (h := 5) (r_nle c1) hx5 k_lf_singers (by decide)) (by decide), ?_⟩
                  intro w10 ew10
                  have hw10 := iv_eq ew10 (k_a_huts _)
                  refine ⟨iv_in hw10 (by decide), ?_⟩
                  refine ⟨iv_in (iv_lta (l := 0) (h := 5) (r_nle c1) hx5 k_lf_singers (by decide)) (by decide), ?_⟩
                  intro w11 ew11
                  have hw11 := iv_eq ew11 (iv_sub (l := (-9)) (h := 99) (k_la_heights _) (k_la_talls _) (by decide))
                  refine ⟨fun c12 => ?_, fun c12 => ?_⟩
                  · skip
                    refine ⟨fun c13 => ?_, fun c13 => ?_⟩
                    · skip
                      exact s_wn_X3_highestOf_6_52 k_f_climbed k_a_huts (iv_ltb (l := 1) (h := 6) (r_nle c1) hx5 k_lf_singers (by decide)) k_la_heights k_la_ladders k_la_talls hx2 (iv_lta (l := 0) (h := 5) (r_nle c1) hx5 k_lf_singers (by decide)) (iv_w hw11 (by decide)) (iv_lta (l := 0) (h := 5) (r_nle c1) hx5 k_lf_singers (by decide)) x5.toInt (Int.le_refl _) (fun u0 u1 u2 hq g0 g1 g2 => ih u0 u1 u2 (ms_up hm hq) g0 g1 g2) hpost
                    · skip
                      exact (iv_emp (iv_ne (l := 1) (h := 0) c13 (iv_lit (l := 0) (h := 0) (by decide)) (iv_lit (l := 0) (h := 0) (by decide)) (by decide)) (by decide)).elim
                  · skip
                    exact (iv_emp (iv_ne (l := 1) (h := 0) c12 (iv_eqa (l := 0) (h := 0) c7 (iv_andr (l := 0) (h := 1) (iv_lit (l := 1) (h := 1) (by decide)) (by decide)) (iv_lit (l := 0) (h := 0) (by decide)) (by decide)) (iv_lit (l := 0) (h := 0) (by decide)) (by decide)) (by decide)).elim
              · skip
                exact (iv_emp (iv_ne (l := 1) (h := 0) c8 (iv_lit (l := 0) (h := 0) (by decide)) (iv_lit (l := 0) (h := 0) (by decide)) (by decide)) (by decide)).elim
            · skip
              refine ⟨fun c14 => ?_, fun c14 => ?_⟩
              · skip
                exact (iv_emp (iv_eqa (l := 1) (h := 0) c14 (iv_lit (l := 1) (h := 1) (by decide)) (iv_lit (l := 0) (h := 0) (by decide)) (by decide)) (by decide)).elim
              · skip
                refine ⟨iv_in hw5 (by decide), ?_⟩
                refine ⟨fun c15 => ?_, fun c15 => ?_⟩
                · skip
                  exact s_wn_X3_highestOf_6_52 k_f_climbed k_a_huts (iv_ltb (l := 1) (h := 6) (r_nle c1) hx5 k_lf_singers (by decide)) k_la_heights k_la_ladders k_la_talls hx2 hx3 (iv_w (iv_leb (l := (-9)) (h := 108) (r_le c15) (iv_add (l := (-9)) (h := 108) hw6 (k_la_ladders _) (by decide)) hx4 (by decide)) (by decide)) (iv_lta (l := 0) (h := 5) (r_nle c1) hx5 k_lf_singers (by decide)) x5.toInt (Int.le_refl _) (fun u0 u1 u2 hq g0 g1 g2 => ih u0 u1 u2 (ms_up hm hq) g0 g1 g2) hpost
                · skip
                  refine ⟨iv_in (iv_lta (l := 0) (h := 5) (r_nle c1) hx5 k_lf_singers (by decide)) (by decide), ?_⟩
                  intro w16 ew16
                  have hw16 := iv_eq ew16 (k_a_huts _)
                  refine ⟨iv_in hw16 (by decide), ?_⟩
                  refine ⟨iv_in (iv_lta (l := 0) (h := 5) (r_nle c1) hx5 k_lf_singers (by decide)) (by decide), ?_⟩
                  intro w17 ew17
                  have hw17 := iv_eq ew17 (iv_sub (l := (-9)) (h := 99) (k_la_heights _) (k_la_talls _) (by decide))
                  refine ⟨fun c18 => ?_, fun c18 => ?_⟩
                  · skip
                    exact (iv_emp (iv_eqa (l := 1) (h := 0) c18 (iv_ne (l := 1) (h := 1) c7 (iv_andr (l := 0) (h := 1) (iv_lit (l := 1) (h := 1) (by decide)) (by decide)) (iv_lit (l := 0) (h := 0) (by decide)) (by decide)) (iv_lit (l := 0) (h := 0) (by decide)) (by decide)) (by decide)).elim
                  · skip
                    refine ⟨fun c19 => ?_, fun c19 => ?_⟩
                    · skip
                      exact (iv_emp (iv_eqa (l := 1) (h := 0) c19 (iv_lit (l := 1) (h := 1) (by decide)) (iv_lit (l := 0) (h := 0) (by decide)) (by decide)) (by decide)).elim
                    · skip
                      refine ⟨iv_in hw16 (by decide), ?_⟩
                      exact s_wn_X3_highestOf_6_52 k_f_climbed k_a_huts (iv_ltb (l := 1) (h := 6) (r_nle c1) hx5 k_lf_singers (by decide)) k_la_heights k_la_ladders k_la_talls hx2 (iv_lta (l := 0) (h := 5) (r_nle c1) hx5 k_lf_singers (by decide)) (iv_w (iv_add (l := (-9)) (h := 108) hw17 (k_la_ladders _) (by decide)) (by decide)) (iv_lta (l := 0) (h := 5) (r_nle c1) hx5 k_lf_singers (by decide)) x5.toInt (Int.le_refl _) (fun u0 u1 u2 hq g0 g1 g2 => ih u0 u1 u2 (ms_up hm hq) g0 g1 g2) hpost
  exact loop _ _ _ _ (ms_init_up _ _) hx3 hx4 hx5
set_option maxRecDepth 20000 in
theorem s_wn_X3_highestOf_6_0 {f_climbed : Int32} {a_huts : Nat → Int32} {lf_singers : Int32} {la_heights : Nat → Int32} {la_ladders : Nat → Int32} {la_talls : Nat → Int32} {x2 : Int32} {post : Int32 → Prop} (k_f_climbed : iv 0 63 f_climbed) (k_a_huts : ∀ j, iv 0 8 (a_huts j)) (k_lf_singers : iv 0 6 lf_singers) (k_la_heights : ∀ j, iv 0 99 (la_heights j)) (k_la_ladders : ∀ j, iv 0 9 (la_ladders j)) (k_la_talls : ∀ j, iv 0 9 (la_talls j)) (hx2 : iv 1 2147483647 x2) (hpost : ∀ (r : Int32), iv 0 5 r → post r) : q_wn_X3_highestOf_6_0 f_climbed a_huts lf_singers la_heights la_ladders la_talls x2 post := by
  exact s_wn_X3_highestOf_6_10 k_f_climbed k_a_huts k_lf_singers k_la_heights k_la_ladders k_la_talls hx2 (iv_w (iv_lit (l := 0) (h := 0) (by decide)) (by decide)) (iv_w (iv_lit (l := (-1000)) (h := (-1000)) (by decide)) (by decide)) (iv_w (iv_lit (l := 0) (h := 0) (by decide)) (by decide)) hpost
-- wn_X3_spreads_6
set_option maxRecDepth 20000 in
theorem s_wn_X3_spreads_6_144 {f_begun : Int32} {f_climbed : Int32} {a_huts : Nat → Int32} {a_known : Nat → Int32} {a_levels : Nat → Int32} {lf_singers : Int32} {lf_dams : Int32} {lf_echoes : Int32} {la_heights : Nat → Int32} {la_ladders : Nat → Int32} {la_echoFrom : Nat → Int32} {la_echoTo : Nat → Int32} {la_talls : Nat → Int32} {x4 : Int32} {post : Int32 → Prop} (k_f_begun : iv 0 31 f_begun) (k_f_climbed : iv 0 63 f_climbed) (k_a_huts : ∀ j, iv 0 8 (a_huts j)) (k_a_known : ∀ j, iv 0 31 (a_known j)) (k_a_levels : ∀ j, iv (-9) 122 (a_levels j)) (k_lf_singers : iv 0 6 lf_singers) (k_lf_dams : iv 0 511 lf_dams) (k_lf_echoes : iv 0 4 lf_echoes) (k_la_heights : ∀ j, iv 0 99 (la_heights j)) (k_la_ladders : ∀ j, iv 0 9 (la_ladders j)) (k_la_echoFrom : ∀ j, iv 0 8 (la_echoFrom j)) (k_la_echoTo : ∀ j, iv 0 8 (la_echoTo j)) (k_la_talls : ∀ j, iv 0 9 (la_talls j)) (hx4 : iv 0 63 x4) (hpost : ∀ (r : Int32), iv 0 1 r → post r) : q_wn_X3_spreads_6_144 f_begun f_climbed a_huts a_known a_levels lf_singers lf_dams lf_echoes la_heights la_ladders la_echoFrom la_echoTo la_talls x4 post := by
  refine s_z_J6_bitCount_0f7a4_0 (iv_w hx4 (by decide)) (fun r1 hr1 => ?_)
  refine ⟨fun c2 => ?_, fun c2 => ?_⟩
  · skip
    exact hpost _ (iv_w (iv_lit (l := 0) (h := 0) (by decide)) (by decide))
  · skip
    exact hpost _ (iv_w (iv_lit (l := 1) (h := 1) (by decide)) (by decide))
set_option maxRecDepth 20000 in
theorem s_wn_X3_spreads_6_39 {f_begun : Int32} {f_climbed : Int32} {a_huts : Nat → Int32} {a_known : Nat → Int32} {a_levels : Nat → Int32} {lf_singers : Int32} {lf_dams : Int32} {lf_echoes : Int32} {la_heights : Nat → Int32} {la_ladders : Nat → Int32} {la_echoFrom : Nat → Int32} {la_echoTo : Nat → Int32} {la_talls : Nat → Int32} {x4 : Int32} {x5 : Int32} {x6 : Int32} {x7 : Int32} {post : Int32 → Prop} (k_f_begun : iv 0 31 f_begun) (k_f_climbed : iv 0 63 f_climbed) (k_a_huts : ∀ j, iv 0 8 (a_huts j)) (k_a_known : ∀ j, iv 0 31 (a_known j)) (k_a_levels : ∀ j, iv (-9) 122 (a_levels j)) (k_lf_singers : iv 0 6 lf_singers) (k_lf_dams : iv 0 511 lf_dams) (k_lf_echoes : iv 0 4 lf_echoes) (k_la_heights : ∀ j, iv 0 99 (la_heights j)) (k_la_ladders : ∀ j, iv 0 9 (la_ladders j)) (k_la_echoFrom : ∀ j, iv 0 8 (la_echoFrom j)) (k_la_echoTo : ∀ j, iv 0 8 (la_echoTo j)) (k_la_talls : ∀ j, iv 0 9 (la_talls j)) (hx4 : iv 0 63 x4) (hx5 : iv (-9) 1000 x5) (hx6 : iv 0 2147483647 x6) (hx7 : iv 0 6 x7) (hpost : ∀ (r : Int32), iv 0 1 r → post r) : q_wn_X3_spreads_6_39 f_begun f_climbed a_huts a_known a_levels lf_singers lf_dams lf_echoes la_heights la_ladders la_echoFrom la_echoTo la_talls x4 x5 x6 x7 post := by
  intro P hP
  have loop : ∀ (n : Nat) (x4 : Int32) (x5 : Int32) (x6 : Int32) (x7 : Int32), (6 - x7.toInt < (n : Int)) → (iv 0 63 x4) → (iv (-9) 1000 x5) → (iv 0 2147483647 x6) → (iv 0 6 x7) → P x4 x5 x6 x7 := by
    intro n
    induction n with
    | zero => intro x4 x5 x6 x7 hm hx4 hx5 hx6 hx7; exact (ms0_up hm hx7).elim
    | succ n ih =>
      intro x4 x5 x6 x7 hm hx4 hx5 hx6 hx7
      apply hP
      refine ⟨fun c1 => ?_, fun c1 => ?_⟩
      · skip
        exact s_wn_X3_spreads_6_144 k_f_begun k_f_climbed k_a_huts k_a_known k_a_levels k_lf_singers k_lf_dams k_lf_echoes k_la_heights k_la_ladders k_la_echoFrom k_la_echoTo k_la_talls hx4 hpost
      · skip
        refine ⟨fun c2 => ?_, fun c2 => ?_⟩
        · skip
          exact s_wn_X3_spreads_6_144 k_f_begun k_f_climbed k_a_huts k_a_known k_a_levels k_lf_singers k_lf_dams k_lf_echoes k_la_heights k_la_ladders k_la_echoFrom k_la_echoTo k_la_talls hx4 hpost
        · skip
          refine s_wn_X3_highestOf_6_0 k_f_climbed k_a_huts k_lf_singers k_la_heights k_la_ladders k_la_talls (iv_ne (l := 1) (h := 2147483647) c2 hx6 (iv_lit (l := 0) (h := 0) (by decide)) (by decide)) (fun r3 hr3 => ?_)
          refine ⟨iv_in hr3 (by decide), ?_⟩
          intro w4 ew4
          have hw4 := iv_eq ew4 (k_a_huts _)
          refine ⟨iv_in hw4 (by decide), ?_⟩
          refine ⟨iv_in hr3 (by decide), ?_⟩
          intro w5 ew5
          have hw5 := iv_eq ew5 (iv_sub (l := (-9)) (h := 99) (k_la_heights _) (k_la_talls _) (by decide))
          refine ⟨fun c6 => ?_, fun c6 => ?_⟩
          · skip
            refine ⟨fun c7 => ?_, fun c7 => ?_⟩
            · skip
              refine ⟨fun c8 => ?_, fun c8 => ?_⟩
              · skip
                refine ⟨fun c9 => ?_, fun c9 => ?_⟩
                · skip
                  exact hpost _ (iv_w (iv_lit (l := 0) (h := 0) (by decide)) (by decide))
                · skip
                  exact (iv_emp (iv_ne (l := 1) (h := 0) c9 (iv_lit (l := 0) (h := 0) (by decide)) (iv_lit (l := 0) (h := 0) (by decide)) (by decide)) (by decide)).elim
              · skip
                refine ⟨fun c10 => ?_, fun c10 => ?_⟩
                · skip
                  exact (iv_emp (iv_eqa (l := 1) (h := 0) c10 (iv_lit (l := 1) (h := 1) (by decide)) (iv_lit (l := 0) (h := 0) (by decide)) (by decide)) (by decide)).elim
                · skip
                  refine ⟨fun c11 => ?_, fun c11 => ?_⟩
                  · skip
                    exact hpost _ (iv_w (iv_lit (l := 0) (h := 0) (by decide)) (by decide))
                  · skip
                    refine ⟨iv_in hr3 (by decide), ?_⟩
                    refine ⟨fun c12 => ?_, fun c12 => ?_⟩
                    · skip
                      refine ⟨fun c13 => ?_, fun c13 => ?_⟩
                      · skip
                        refine ⟨iv_in hr3 (by decide), ?_⟩
                        refine s_wl_X2_earshot_0 k_lf_dams k_lf_echoes k_la_echoFrom k_la_echoTo (k_a_huts _) (fun r14 hr14 => ?_)
                        refine s_wn_X3_singersIn_6_0 k_a_huts k_lf_singers hr14 (fun r15 hr15 => ?_)
                        intro w16 ew16
                        have hw16 := iv_eq ew16 (iv_or 6 (l := 0) (h := 63) hx4 hr15 (by decide))
                        intro w17 ew17
                        have hw17 := iv_eq ew17 (iv_andl (l := 0) (h := 2147483647) (iv_ne (l := 1) (h := 2147483647) c2 hx6 (iv_lit (l := 0) (h := 0) (by decide)) (by decide)) (by decide))
                        intro w18 ew18
                        have hw18 := iv_eq ew18 (iv_add (l := 1) (h := 6) (iv_lta (l := 0) (h := 5) (r_nle c1) hx7 (iv_lit (l := 6) (h := 6) (by decide)) (by decide)) (iv_lit (l := 1) (h := 1) (by decide)) (by decide))
                        exact ih _ _ _ _ (ms_up hm (inc_lt ew18 (iv_lta (l := 0) (h := 5) (r_nle c1) hx7 (iv_lit (l := 6) (h := 6) (by decide)) (by decide)) (by decide))) hw16 (iv_w hw5 (by decide)) hw17 (iv_w hw18 (by decide))
                      · skip
                        exact (iv_emp (iv_ne (l := 1) (h := 0) c13 (iv_lit (l := 0) (h := 0) (by decide)) (iv_lit (l := 0) (h := 0) (by decide)) (by decide)) (by decide)).elim
                    · skip
                      refine ⟨fun c19 => ?_, fun c19 => ?_⟩
                      · skip
                        exact (iv_emp (iv_eqa (l := 1) (h := 0) c19 (iv_lit (l := 1) (h := 1) (by decide)) (iv_lit (l := 0) (h := 0) (by decide)) (by decide)) (by decide)).elim
                      · skip
                        exact hpost _ (iv_w (iv_lit (l := 0) (h := 0) (by decide)) (by decide))
            · skip
              exact (iv_emp (iv_ne (l := 1) (h := 0) c7 (iv_lit (l := 0) (h := 0) (by decide)) (iv_lit (l := 0) (h := 0) (by decide)) (by decide)) (by decide)).elim
          · skip
            refine ⟨fun c20 => ?_, fun c20 => ?_⟩
            · skip
              exact (iv_emp (iv_eqa (l := 1) (h := 0) c20 (iv_lit (l := 1) (h := 1) (by decide)) (iv_lit (l := 0) (h := 0) (by decide)) (by decide)) (by decide)).elim
            · skip
              refine ⟨iv_in hw4 (by decide), ?_⟩
              refine ⟨fun c21 => ?_, fun c21 => ?_⟩
              · skip
                refine ⟨fun c22 => ?_, fun c22 => ?_⟩
                · skip
                  exact hpost _ (iv_w (iv_lit (l := 0) (h := 0) (by decide)) (by decide))
                · skip
                  exact (iv_emp (iv_ne (l := 1) (h := 0) c22 (iv_lit (l := 0) (h := 0) (by decide)) (iv_lit (l := 0) (h := 0) (by decide)) (by decide)) (by decide)).elim
              · skip
                refine ⟨fun c23 => ?_, fun c23 => ?_⟩
                · skip
                  exact (iv_emp (iv_eqa (l := 1) (h := 0) c23 (iv_lit (l := 1) (h := 1) (by decide)) (iv_lit (l := 0) (h := 0) (by decide)) (by decide)) (by decide)).elim
                · skip
                  refine ⟨fun c24 => ?_, fun c24 => ?_⟩
                  · skip
                    exact hpost _ (iv_w (iv_lit (l := 0) (h := 0) (by decide)) (by decide))
                  · skip
                    refine ⟨iv_in hr3 (by decide), ?_⟩
                    refine ⟨fun c25 => ?_, fun c25 => ?_⟩
                    · skip
                      refine ⟨fun c26 => ?_, fun c26 => ?_⟩
                      · skip
                        refine ⟨iv_in hr3 (by decide), ?_⟩
                        refine s_wl_X2_earshot_0 k_lf_dams k_lf_echoes k_la_echoFrom k_la_echoTo (k_a_huts _) (fun r27 hr27 => ?_)
                        refine s_wn_X3_singersIn_6_0 k_a_huts k_lf_singers hr27 (fun r28 hr28 => ?_)
                        intro w29 ew29
                        have hw29 := iv_eq ew29 (iv_or 6 (l := 0) (h := 63) hx4 hr28 (by decide))
                        intro w30 ew30
                        have hw30 := iv_eq ew30 (iv_andl (l := 0) (h := 2147483647) (iv_ne (l := 1) (h := 2147483647) c2 hx6 (iv_lit (l := 0) (h := 0) (by decide)) (by decide)) (by decide))
                        intro w31 ew31
                        have hw31 := iv_eq ew31 (iv_add (l := 1) (h := 6) (iv_lta (l := 0) (h := 5) (r_nle c1) hx7 (iv_lit (l := 6) (h := 6) (by decide)) (by decide)) (iv_lit (l := 1) (h := 1) (by decide)) (by decide))
                        exact ih _ _ _ _ (ms_up hm (inc_lt ew31 (iv_lta (l := 0) (h := 5) (r_nle c1) hx7 (iv_lit (l := 6) (h := 6) (by decide)) (by decide)) (by decide))) hw29 (iv_w (iv_add (l := (-9)) (h := 108) hw5 (k_la_ladders _) (by decide)) (by decide)) hw30 (iv_w hw31 (by decide))
                      · skip
                        exact (iv_emp (iv_ne (l := 1) (h := 0) c26 (iv_lit (l := 0) (h := 0) (by decide)) (iv_lit (l := 0) (h := 0) (by decide)) (by decide)) (by decide)).elim
                    · skip
                      refine ⟨fun c32 => ?_, fun c32 => ?_⟩
                      · skip
                        exact (iv_emp (iv_eqa (l := 1) (h := 0) c32 (iv_lit (l := 1) (h := 1) (by decide)) (iv_lit (l := 0) (h := 0) (by decide)) (by decide)) (by decide)).elim
                      · skip
                        exact hpost _ (iv_w (iv_lit (l := 0) (h := 0) (by decide)) (by decide))
  exact loop _ _ _ _ _ (ms_init_up _ _) hx4 hx5 hx6 hx7
set_option maxRecDepth 20000 in
theorem s_wn_X3_spreads_6_31 {f_begun : Int32} {f_climbed : Int32} {a_huts : Nat → Int32} {a_known : Nat → Int32} {a_levels : Nat → Int32} {lf_singers : Int32} {lf_dams : Int32} {lf_echoes : Int32} {la_heights : Nat → Int32} {la_ladders : Nat → Int32} {la_echoFrom : Nat → Int32} {la_echoTo : Nat → Int32} {la_talls : Nat → Int32} {x3 : Int32} {x4 : Int32} {y0 : Int32} {post : Int32 → Prop} (k_f_begun : iv 0 31 f_begun) (k_f_climbed : iv 0 63 f_climbed) (k_a_huts : ∀ j, iv 0 8 (a_huts j)) (k_a_known : ∀ j, iv 0 31 (a_known j)) (k_a_levels : ∀ j, iv (-9) 122 (a_levels j)) (k_lf_singers : iv 0 6 lf_singers) (k_lf_dams : iv 0 511 lf_dams) (k_lf_echoes : iv 0 4 lf_echoes) (k_la_heights : ∀ j, iv 0 99 (la_heights j)) (k_la_ladders : ∀ j, iv 0 9 (la_ladders j)) (k_la_echoFrom : ∀ j, iv 0 8 (la_echoFrom j)) (k_la_echoTo : ∀ j, iv 0 8 (la_echoTo j)) (k_la_talls : ∀ j, iv 0 9 (la_talls j)) (hx3 : iv 0 63 x3) (hx4 : iv 0 63 x4) (hy0 : iv (-9) 1000 y0) (hpost : ∀ (r : Int32), iv 0 1 r → post r) : q_wn_X3_spreads_6_31 f_begun f_climbed a_huts a_known a_levels lf_singers lf_dams lf_echoes la_heights la_ladders la_echoFrom la_echoTo la_talls x3 x4 y0 post := by
  exact s_wn_X3_spreads_6_39 k_f_begun k_f_climbed k_a_huts k_a_known k_a_levels k_lf_singers k_lf_dams k_lf_echoes k_la_heights k_la_ladders k_la_echoFrom k_la_echoTo k_la_talls hx4 hy0 (iv_w hx3 (by decide)) (iv_w (iv_lit (l := 0) (h := 0) (by decide)) (by decide)) hpost
set_option maxRecDepth 20000 in
theorem s_wn_X3_spreads_6_0 {f_begun : Int32} {f_climbed : Int32} {a_huts : Nat → Int32} {a_known : Nat → Int32} {a_levels : Nat → Int32} {lf_singers : Int32} {lf_dams : Int32} {lf_echoes : Int32} {la_heights : Nat → Int32} {la_ladders : Nat → Int32} {la_echoFrom : Nat → Int32} {la_echoTo : Nat → Int32} {la_talls : Nat → Int32} {x2 : Int32} {x3 : Int32} {post : Int32 → Prop} (k_f_begun : iv 0 31 f_begun) (k_f_climbed : iv 0 63 f_climbed) (k_a_huts : ∀ j, iv 0 8 (a_huts j)) (k_a_known : ∀ j, iv 0 31 (a_known j)) (k_a_levels : ∀ j, iv (-9) 122 (a_levels j)) (k_lf_singers : iv 0 6 lf_singers) (k_lf_dams : iv 0 511 lf_dams) (k_lf_echoes : iv 0 4 lf_echoes) (k_la_heights : ∀ j, iv 0 99 (la_heights j)) (k_la_ladders : ∀ j, iv 0 9 (la_ladders j)) (k_la_echoFrom : ∀ j, iv 0 8 (la_echoFrom j)) (k_la_echoTo : ∀ j, iv 0 8 (la_echoTo j)) (k_la_talls : ∀ j, iv 0 9 (la_talls j)) (hx2 : iv 0 4 x2) (hx3 : iv 0 63 x3) (hpost : ∀ (r : Int32), iv 0 1 r → post r) : q_wn_X3_spreads_6_0 f_begun f_climbed a_huts a_known a_levels lf_singers lf_dams lf_echoes la_heights la_ladders la_echoFrom la_echoTo la_talls x2 x3 post := by
  refine s_wn_X3_knowers_6_0 k_a_known k_lf_singers hx2 (fun r1 hr1 => ?_)
  refine ⟨fun c2 => ?_, fun c2 => ?_⟩
  · skip
    refine ⟨fun c3 => ?_, fun c3 => ?_⟩
    · skip
      exact s_wn_X3_spreads_6_31 k_f_begun k_f_climbed k_a_huts k_a_known k_a_levels k_lf_singers k_lf_dams k_lf_echoes k_la_heights k_la_ladders k_la_echoFrom k_la_echoTo k_la_talls hx3 hr1 (iv_w (iv_lit (l := 1000) (h := 1000) (by decide)) (by decide)) hpost
    · skip
      exact (iv_emp (iv_ne (l := 1) (h := 0) c3 (iv_lit (l := 0) (h := 0) (by decide)) (iv_lit (l := 0) (h := 0) (by decide)) (by decide)) (by decide)).elim
  · skip
    refine ⟨fun c4 => ?_, fun c4 => ?_⟩
    · skip
      exact (iv_emp (iv_eqa (l := 1) (h := 0) c4 (iv_lit (l := 1) (h := 1) (by decide)) (iv_lit (l := 0) (h := 0) (by decide)) (by decide)) (by decide)).elim
    · skip
      refine ⟨iv_in hx2 (by decide), ?_⟩
      exact s_wn_X3_spreads_6_31 k_f_begun k_f_climbed k_a_huts k_a_known k_a_levels k_lf_singers k_lf_dams k_lf_echoes k_la_heights k_la_ladders k_la_echoFrom k_la_echoTo k_la_talls hx3 hr1 (iv_w (k_a_levels _) (by decide)) hpost
-- wn_X3_fewestTimes_6
set_option maxRecDepth 20000 in
theorem s_wn_X3_fewestTimes_6_48 {P5 : Int32 → Int32 → Prop} {f_begun : Int32} {f_climbed : Int32} {a_huts : Nat → Int32} {a_known : Nat → Int32} {a_levels : Nat → Int32} {lf_singers : Int32} {lf_dams : Int32} {lf_echoes : Int32} {la_heights : Nat → Int32} {la_ladders : Nat → Int32} {la_echoFrom : Nat → Int32} {la_echoTo : Nat → Int32} {la_talls : Nat → Int32} {x2 : Int32} {x3 : Int32} {x4 : Int32} {post : Int32 → Prop} (k_f_begun : iv 0 31 f_begun) (k_f_climbed : iv 0 63 f_climbed) (k_a_huts : ∀ j, iv 0 8 (a_huts j)) (k_a_known : ∀ j, iv 0 31 (a_known j)) (k_a_levels : ∀ j, iv (-9) 122 (a_levels j)) (k_lf_singers : iv 0 6 lf_singers) (k_lf_dams : iv 0 511 lf_dams) (k_lf_echoes : iv 0 4 lf_echoes) (k_la_heights : ∀ j, iv 0 99 (la_heights j)) (k_la_ladders : ∀ j, iv 0 9 (la_ladders j)) (k_la_echoFrom : ∀ j, iv 0 8 (la_echoFrom j)) (k_la_echoTo : ∀ j, iv 0 8 (la_echoTo j)) (k_la_talls : ∀ j, iv 0 9 (la_talls j)) (hx2 : iv 0 4 x2) (hx3 : iv (-1) 63 x3) (hx4 : iv 0 63 x4) (m5 : Int) (hm5 : m5 ≤ x4.toInt) (hP5 : ∀ (x3 : Int32) (x4 : Int32), m5 < x4.toInt → iv (-1) 63 x3 → iv 0 64 x4 → P5 x3 x4) (hpost : ∀ (r : Int32), iv (-1) 63 r → post r) : q_wn_X3_fewestTimes_6_48 P5 f_begun f_climbed a_huts a_known a_levels lf_singers lf_dams lf_echoes la_heights la_ladders la_echoFrom la_echoTo la_talls x2 x3 x4 post := by
  intro w1 ew1
  have hw1 := iv_eq ew1 (iv_add (l := 1) (h := 64) hx4 (iv_lit (l := 1) (h := 1) (by decide)) (by decide))
  exact hP5 _ _ (ml_up hm5 (inc_lt ew1 hx4 (by decide))) hx3 (iv_w hw1 (by decide))
set_option maxRecDepth 20000 in
theorem s_wn_X3_fewestTimes_6_34 {P5 : Int32 → Int32 → Prop} {f_begun : Int32} {f_climbed : Int32} {a_huts : Nat → Int32} {a_known : Nat → Int32} {a_levels : Nat → Int32} {lf_singers : Int32} {lf_dams : Int32} {lf_echoes : Int32} {la_heights : Nat → Int32} {la_ladders : Nat → Int32} {la_echoFrom : Nat → Int32} {la_echoTo : Nat → Int32} {la_talls : Nat → Int32} {x2 : Int32} {x3 : Int32} {x4 : Int32} {x5 : Int32} {post : Int32 → Prop} (k_f_begun : iv 0 31 f_begun) (k_f_climbed : iv 0 63 f_climbed) (k_a_huts : ∀ j, iv 0 8 (a_huts j)) (k_a_known : ∀ j, iv 0 31 (a_known j)) (k_a_levels : ∀ j, iv (-9) 122 (a_levels j)) (k_lf_singers : iv 0 6 lf_singers) (k_lf_dams : iv 0 511 lf_dams) (k_lf_echoes : iv 0 4 lf_echoes) (k_la_heights : ∀ j, iv 0 99 (la_heights j)) (k_la_ladders : ∀ j, iv 0 9 (la_ladders j)) (k_la_echoFrom : ∀ j, iv 0 8 (la_echoFrom j)) (k_la_echoTo : ∀ j, iv 0 8 (la_echoTo j)) (k_la_talls : ∀ j, iv 0 9 (la_talls j)) (hx2 : iv 0 4 x2) (hx3 : iv (-1) 63 x3) (hx4 : iv 0 63 x4) (hx5 : iv 0 63 x5) (m5 : Int) (hm5 : m5 ≤ x4.toInt) (hP5 : ∀ (x3 : Int32) (x4 : Int32), m5 < x4.toInt → iv (-1) 63 x3 → iv 0 64 x4 → P5 x3 x4) (hpost : ∀ (r : Int32), iv (-1) 63 r → post r) : q_wn_X3_fewestTimes_6_34 P5 f_begun f_climbed a_huts a_known a_levels lf_singers lf_dams lf_echoes la_heights la_ladders la_echoFrom la_echoTo la_talls x2 x3 x4 x5 post := by
  refine s_wn_X3_spreads_6_0 k_f_begun k_f_climbed k_a_huts k_a_known k_a_levels k_lf_singers k_lf_dams k_lf_echoes k_la_heights k_la_ladders k_la_echoFrom k_la_echoTo k_la_talls hx2 hx4 (fun r1 hr1 => ?_)
  refine ⟨fun c2 => ?_, fun c2 => ?_⟩
  · skip
    exact s_wn_X3_fewestTimes_6_48 k_f_begun k_f_climbed k_a_huts k_a_known k_a_levels k_lf_singers k_lf_dams k_lf_echoes k_la_heights k_la_ladders k_la_echoFrom k_la_echoTo k_la_talls hx2 hx3 hx4 m5 hm5 hP5 hpost
  · skip
    exact s_wn_X3_fewestTimes_6_48 k_f_begun k_f_climbed k_a_huts k_a_known k_a_levels k_lf_singers k_lf_dams k_lf_echoes k_la_heights k_la_ladders k_la_echoFrom k_la_echoTo k_la_talls hx2 (iv_w hx5 (by decide)) hx4 m5 hm5 hP5 hpost
set_option maxRecDepth 20000 in
theorem s_wn_X3_fewestTimes_6_5 {f_begun : Int32} {f_climbed : Int32} {a_huts : Nat → Int32} {a_known : Nat → Int32} {a_levels : Nat → Int32} {lf_singers : Int32} {lf_dams : Int32} {lf_echoes : Int32} {la_heights : Nat → Int32} {la_ladders : Nat → Int32} {la_echoFrom : Nat → Int32} {la_echoTo : Nat → Int32} {la_talls : Nat → Int32} {x2 : Int32} {x3 : Int32} {x4 : Int32} {post : Int32 → Prop} (k_f_begun : iv 0 31 f_begun) (k_f_climbed : iv 0 63 f_climbed) (k_a_huts : ∀ j, iv 0 8 (a_huts j)) (k_a_known : ∀ j, iv 0 31 (a_known j)) (k_a_levels : ∀ j, iv (-9) 122 (a_levels j)) (k_lf_singers : iv 0 6 lf_singers) (k_lf_dams : iv 0 511 lf_dams) (k_lf_echoes : iv 0 4 lf_echoes) (k_la_heights : ∀ j, iv 0 99 (la_heights j)) (k_la_ladders : ∀ j, iv 0 9 (la_ladders j)) (k_la_echoFrom : ∀ j, iv 0 8 (la_echoFrom j)) (k_la_echoTo : ∀ j, iv 0 8 (la_echoTo j)) (k_la_talls : ∀ j, iv 0 9 (la_talls j)) (hx2 : iv 0 4 x2) (hx3 : iv (-1) 63 x3) (hx4 : iv 0 64 x4) (hpost : ∀ (r : Int32), iv (-1) 63 r → post r) : q_wn_X3_fewestTimes_6_5 f_begun f_climbed a_huts a_known a_levels lf_singers lf_dams lf_echoes la_heights la_ladders la_echoFrom la_echoTo la_talls x2 x3 x4 post := by
  intro P hP
  have loop : ∀ (n : Nat) (x3 : Int32) (x4 : Int32), (64 - x4.toInt < (n : Int)) → (iv (-1) 63 x3) → (iv 0 64 x4) → P x3 x4 := by
    intro n
    induction n with
    | zero => intro x3 x4 hm hx3 hx4; exact (ms0_up hm hx4).elim
    | succ n ih =>
      intro x3 x4 hm hx3 hx4
      apply hP
      refine ⟨fun c1 => ?_, fun c1 => ?_⟩
      · skip
        exact hpost _ hx3
      · skip
        refine s_z_J6_bitCount_0f7a4_0 (iv_w (iv_lta (l := 0) (h := 63) (r_nle c1) hx4 (iv_shl1 (l := 1) (h := 64) (iv_lit (l := 1) (h := 1) (by decide)) k_lf_singers (by decide)) (by decide)) (by decide)) (fun r2 hr2 => ?_)
        refine ⟨fun c3 => ?_, fun c3 => ?_⟩
        · skip
          exact s_wn_X3_fewestTimes_6_34 k_f_begun k_f_climbed k_a_huts k_a_known k_a_levels k_lf_singers k_lf_dams k_lf_echoes k_la_heights k_la_ladders k_la_echoFrom k_la_echoTo k_la_talls hx2 (iv_w (iv_eqa (l := (-1)) (h := (-1)) c3 hx3 (iv_lit (l := (-1)) (h := (-1)) (by decide)) (by decide)) (by decide)) (iv_lta (l := 0) (h := 63) (r_nle c1) hx4 (iv_shl1 (l := 1) (h := 64) (iv_lit (l := 1) (h := 1) (by decide)) k_lf_singers (by decide)) (by decide)) hr2 x4.toInt (Int.le_refl _) (fun u0 u1 hq g0 g1 => ih u0 u1 (ms_up hm hq) g0 g1) hpost
        · skip
          refine ⟨fun c4 => ?_, fun c4 => ?_⟩
          · skip
            exact s_wn_X3_fewestTimes_6_48 k_f_begun k_f_climbed k_a_huts k_a_known k_a_levels k_lf_singers k_lf_dams k_lf_echoes k_la_heights k_la_ladders k_la_echoFrom k_la_echoTo k_la_talls hx2 (iv_w (iv_ne (l := 0) (h := 63) c3 hx3 (iv_lit (l := (-1)) (h := (-1)) (by decide)) (by decide)) (by decide)) (iv_lta (l := 0) (h := 63) (r_nle c1) hx4 (iv_shl1 (l := 1) (h := 64) (iv_lit (l := 1) (h := 1) (by decide)) k_lf_singers (by decide)) (by decide)) x4.toInt (Int.le_refl _) (fun u0 u1 hq g0 g1 => ih u0 u1 (ms_up hm hq) g0 g1) hpost
          · skip
            exact s_wn_X3_fewestTimes_6_34 k_f_begun k_f_climbed k_a_huts k_a_known k_a_levels k_lf_singers k_lf_dams k_lf_echoes k_la_heights k_la_ladders k_la_echoFrom k_la_echoTo k_la_talls hx2 (iv_w (iv_ltb (l := 1) (h := 63) (r_nle c4) hr2 (iv_ne (l := 0) (h := 63) c3 hx3 (iv_lit (l := (-1)) (h := (-1)) (by decide)) (by decide)) (by decide)) (by decide)) (iv_lta (l := 0) (h := 63) (r_nle c1) hx4 (iv_shl1 (l := 1) (h := 64) (iv_lit (l := 1) (h := 1) (by decide)) k_lf_singers (by decide)) (by decide)) (iv_w (iv_lta (l := 0) (h := 62) (r_nle c4) hr2 (iv_ne (l := 0) (h := 63) c3 hx3 (iv_lit (l := (-1)) (h := (-1)) (by decide)) (by decide)) (by decide)) (by decide)) x4.toInt (Int.le_refl _) (fun u0 u1 hq g0 g1 => ih u0 u1 (ms_up hm hq) g0 g1) hpost
  exact loop _ _ _ (ms_init_up _ _) hx3 hx4
set_option maxRecDepth 20000 in
theorem s_wn_X3_fewestTimes_6_0 {f_begun : Int32} {f_climbed : Int32} {a_huts : Nat → Int32} {a_known : Nat → Int32} {a_levels : Nat → Int32} {lf_singers : Int32} {lf_dams : Int32} {lf_echoes : Int32} {la_heights : Nat → Int32} {la_ladders : Nat → Int32} {la_echoFrom : Nat → Int32} {la_echoTo : Nat → Int32} {la_talls : Nat → Int32} {x2 : Int32} {post : Int32 → Prop} (k_f_begun : iv 0 31 f_begun) (k_f_climbed : iv 0 63 f_climbed) (k_a_huts : ∀ j, iv 0 8 (a_huts j)) (k_a_known : ∀ j, iv 0 31 (a_known j)) (k_a_levels : ∀ j, iv (-9) 122 (a_levels j)) (k_lf_singers : iv 0 6 lf_singers) (k_lf_dams : iv 0 511 lf_dams) (k_lf_echoes : iv 0 4 lf_echoes) (k_la_heights : ∀ j, iv 0 99 (la_heights j)) (k_la_ladders : ∀ j, iv 0 9 (la_ladders j)) (k_la_echoFrom : ∀ j, iv 0 8 (la_echoFrom j)) (k_la_echoTo : ∀ j, iv 0 8 (la_echoTo j)) (k_la_talls : ∀ j, iv 0 9 (la_talls j)) (hx2 : iv 0 4 x2) (hpost : ∀ (r : Int32), iv (-1) 63 r → post r) : q_wn_X3_fewestTimes_6_0 f_begun f_climbed a_huts a_known a_levels lf_singers lf_dams lf_echoes la_heights la_ladders la_echoFrom la_echoTo la_talls x2 post := by
  exact s_wn_X3_fewestTimes_6_5 k_f_begun k_f_climbed k_a_huts k_a_known k_a_levels k_lf_singers k_lf_dams k_lf_echoes k_la_heights k_la_ladders k_la_echoFrom k_la_echoTo k_la_talls hx2 (iv_w (iv_lit (l := (-1)) (h := (-1)) (by decide)) (by decide)) (iv_w (iv_lit (l := 0) (h := 0) (by decide)) (by decide)) hpost
-- wp_J7_fill_53178_1
set_option maxRecDepth 20000 in
theorem s_wp_J7_fill_53178_1_5 {a_heard : Nat → Int32} {x1 : Int32} {x2 : Int32} {x3 : Int32} {post : (Nat → Int32) → Prop} (k_a_heard : ∀ j, iv 0 1000 (a_heard j)) (hx1 : iv 1000 1000 x1) (hx2 : iv 0 81 x2) (hx3 : iv 81 81 x3) (hpost : ∀ (a_heard : Nat → Int32), (∀ j, iv 0 1000 (a_heard j)) → post a_heard) : q_wp_J7_fill_53178_1_5 a_heard x1 x2 x3 post := by
  intro P hP
  have loop : ∀ (n : Nat) (x2 : Int32) (a_heard : Nat → Int32), (81 - x2.toInt < (n : Int)) → (iv 0 81 x2) → (∀ j, iv 0 1000 (a_heard j)) → P x2 a_heard := by
    intro n
    induction n with
    | zero => intro x2 a_heard hm hx2 k_a_heard; exact (ms0_up hm hx2).elim
    | succ n ih =>
      intro x2 a_heard hm hx2 k_a_heard
      apply hP
      refine ⟨fun c1 => ?_, fun c1 => ?_⟩
      · skip
        exact hpost _ k_a_heard
      · skip
        refine ⟨iv_in (iv_lta (l := 0) (h := 80) (r_nle c1) hx2 hx3 (by decide)) (by decide), ?_⟩
        intro a2 ea2
        have k_a2 := iv_upd ea2 k_a_heard (iv_w hx1 (by decide))
        intro w3 ew3
        have hw3 := iv_eq ew3 (iv_add (l := 1) (h := 81) (iv_lta (l := 0) (h := 80) (r_nle c1) hx2 hx3 (by decide)) (iv_lit (l := 1) (h := 1) (by decide)) (by decide))
        exact ih _ _ (ms_up hm (inc_lt ew3 (iv_lta (l := 0) (h := 80) (r_nle c1) hx2 hx3 (by decide)) (by decide))) (iv_w hw3 (by decide)) k_a2
  exact loop _ _ _ (ms_init_up _ _) hx2 k_a_heard
set_option maxRecDepth 20000 in
theorem s_wp_J7_fill_53178_1_0 {a_heard : Nat → Int32} {x1 : Int32} {post : (Nat → Int32) → Prop} (k_a_heard : ∀ j, iv 0 1000 (a_heard j)) (hx1 : iv 1000 1000 x1) (hpost : ∀ (a_heard : Nat → Int32), (∀ j, iv 0 1000 (a_heard j)) → post a_heard) : q_wp_J7_fill_53178_1_0 a_heard x1 post := by
  exact s_wp_J7_fill_53178_1_5 k_a_heard hx1 (iv_w (iv_lit (l := 0) (h := 0) (by decide)) (by decide)) (iv_lit (l := 81) (h := 81) (by decide)) hpost
-- wp_X7_shorten_1
set_option maxRecDepth 20000 in
theorem s_wp_X7_shorten_1_80 {P2 : Int32 → (Nat → Int32) → Prop} {P9 : Int32 → (Nat → Int32) → Prop} {P27 : Int32 → (Nat → Int32) → Prop} {a_heard : Nat → Int32} {x1 : Int32} {x2 : Int32} {x3 : Int32} {x4 : Int32} {x5 : Int32} {post : (Nat → Int32) → Prop} (k_a_heard : ∀ j, iv 0 1000 (a_heard j)) (hx1 : iv 1 9 x1) (hx2 : iv 0 8 x2) (hx3 : iv 0 8 x3) (hx4 : iv 0 999 x4) (hx5 : iv 0 8 x5) (m2 : Int) (hm2 : m2 ≤ x2.toInt) (hP2 : ∀ (x2 : Int32) (a_heard : Nat → Int32), m2 < x2.toInt → iv 0 9 x2 → (∀ j, iv 0 1000 (a_heard j)) → P2 x2 a_heard) (m9 : Int) (hm9 : m9 ≤ x3.toInt) (hP9 : ∀ (x3 : Int32) (a_heard : Nat → Int32), m9 < x3.toInt → iv 0 9 x3 → (∀ j, iv 0 1000 (a_heard j)) → P9 x3 a_heard) (m27 : Int) (hm27 : m27 ≤ x5.toInt) (hP27 : ∀ (x5 : Int32) (a_heard : Nat → Int32), m27 < x5.toInt → iv 0 9 x5 → (∀ j, iv 0 1000 (a_heard j)) → P27 x5 a_heard) (hpost : ∀ (a_heard : Nat → Int32), (∀ j, iv 0 1000 (a_heard j)) → post a_heard) : q_wp_X7_shorten_1_80 P2 P9 P27 a_heard x1 x2 x3 x4 x5 post := by
  intro w1 ew1
  have hw1 := iv_eq ew1 (iv_add (l := 1) (h := 9) hx5 (iv_lit (l := 1) (h := 1) (by decide)) (by decide))
  exact hP27 _ _ (ml_up hm27 (inc_lt ew1 hx5 (by decide))) (iv_w hw1 (by decide)) k_a_heard
set_option maxRecDepth 20000 in
theorem s_wp_X7_shorten_1_86 {P2 : Int32 → (Nat → Int32) → Prop} {P9 : Int32 → (Nat → Int32) → Prop} {a_heard : Nat → Int32} {x1 : Int32} {x2 : Int32} {x3 : Int32} {post : (Nat → Int32) → Prop} (k_a_heard : ∀ j, iv 0 1000 (a_heard j)) (hx1 : iv 1 9 x1) (hx2 : iv 0 8 x2) (hx3 : iv 0 8 x3) (m2 : Int) (hm2 : m2 ≤ x2.toInt) (hP2 : ∀ (x2 : Int32) (a_heard : Nat → Int32), m2 < x2.toInt → iv 0 9 x2 → (∀ j, iv 0 1000 (a_heard j)) → P2 x2 a_heard) (m9 : Int) (hm9 : m9 ≤ x3.toInt) (hP9 : ∀ (x3 : Int32) (a_heard : Nat → Int32), m9 < x3.toInt → iv 0 9 x3 → (∀ j, iv 0 1000 (a_heard j)) → P9 x3 a_heard) (hpost : ∀ (a_heard : Nat → Int32), (∀ j, iv 0 1000 (a_heard j)) → post a_heard) : q_wp_X7_shorten_1_86 P2 P9 a_heard x1 x2 x3 post := by
  intro w1 ew1
  have hw1 := iv_eq ew1 (iv_add (l := 1) (h := 9) hx3 (iv_lit (l := 1) (h := 1) (by decide)) (by decide))
  exact hP9 _ _ (ml_up hm9 (inc_lt ew1 hx3 (by decide))) (iv_w hw1 (by decide)) k_a_heard
set_option maxRecDepth 20000 in
theorem s_wp_X7_shorten_1_27 {P2 : Int32 → (Nat → Int32) → Prop} {P9 : Int32 → (Nat → Int32) → Prop} {a_heard : Nat → Int32} {x1 : Int32} {x2 : Int32} {x3 : Int32} {x4 : Int32} {x5 : Int32} {post : (Nat → Int32) → Prop} (k_a_heard : ∀ j, iv 0 1000 (a_heard j)) (hx1 : iv 1 9 x1) (hx2 : iv 0 8 x2) (hx3 : iv 0 8 x3) (hx4 : iv 0 1000 x4) (hx5 : iv 0 9 x5) (m2 : Int) (hm2 : m2 ≤ x2.toInt) (hP2 : ∀ (x2 : Int32) (a_heard : Nat → Int32), m2 < x2.toInt → iv 0 9 x2 → (∀ j, iv 0 1000 (a_heard j)) → P2 x2 a_heard) (m9 : Int) (hm9 : m9 ≤ x3.toInt) (hP9 : ∀ (x3 : Int32) (a_heard : Nat → Int32), m9 < x3.toInt → iv 0 9 x3 → (∀ j, iv 0 1000 (a_heard j)) → P9 x3 a_heard) (hpost : ∀ (a_heard : Nat → Int32), (∀ j, iv 0 1000 (a_heard j)) → post a_heard) : q_wp_X7_shorten_1_27 P2 P9 a_heard x1 x2 x3 x4 x5 post := by
  intro P hP
  have loop : ∀ (n : Nat) (x5 : Int32) (a_heard : Nat → Int32), (9 - x5.toInt < (n : Int)) → (iv 0 9 x5) → (∀ j, iv 0 1000 (a_heard j)) → P x5 a_heard := by
    intro n
    induction n with
    | zero => intro x5 a_heard hm hx5 k_a_heard; exact (ms0_up hm hx5).elim
    | succ n ih =>
      intro x5 a_heard hm hx5 k_a_heard
      apply hP
      refine ⟨fun c1 => ?_, fun c1 => ?_⟩
      · skip
        exact s_wp_X7_shorten_1_86 k_a_heard hx1 hx2 hx3 m2 hm2 hP2 m9 hm9 hP9 hpost
      · skip
        refine ⟨fun c2 => ?_, fun c2 => ?_⟩
        · skip
          exact s_wp_X7_shorten_1_86 k_a_heard hx1 hx2 hx3 m2 hm2 hP2 m9 hm9 hP9 hpost
        · skip
          refine ⟨iv_in (iv_add (l := 0) (h := 80) (iv_mul (l := 0) (h := 72) hx2 (iv_lit (l := 9) (h := 9) (by decide)) (by decide)) (iv_lta (l := 0) (h := 8) (r_nle c1) hx5 hx1 (by decide)) (by decide)) (by decide), ?_⟩
          intro w3 ew3
          have hw3 := iv_eq ew3 (iv_add (l := 0) (h := 1999) (iv_lta (l := 0) (h := 999) (r_nle c2) hx4 (iv_lit (l := 1000) (h := 1000) (by decide)) (by decide)) (k_a_heard _) (by decide))
          refine ⟨iv_in (iv_add (l := 0) (h := 80) (iv_mul (l := 0) (h := 72) hx3 (iv_lit (l := 9) (h := 9) (by decide)) (by decide)) (iv_lta (l := 0) (h := 8) (r_nle c1) hx5 hx1 (by decide)) (by decide)) (by decide), ?_⟩
          refine ⟨fun c4 => ?_, fun c4 => ?_⟩
          · skip
            exact s_wp_X7_shorten_1_80 k_a_heard hx1 hx2 hx3 (iv_lta (l := 0) (h := 999) (r_nle c2) hx4 (iv_lit (l := 1000) (h := 1000) (by decide)) (by decide)) (iv_lta (l := 0) (h := 8) (r_nle c1) hx5 hx1 (by decide)) m2 hm2 hP2 m9 hm9 hP9 x5.toInt (Int.le_refl _) (fun u0 u1 hq g0 g1 => ih u0 u1 (ms_up hm hq) g0 g1) hpost
          · skip
            refine ⟨iv_in (iv_add (l := 0) (h := 80) (iv_mul (l := 0) (h := 72) hx3 (iv_lit (l := 9) (h := 9) (by decide)) (by decide)) (iv_lta (l := 0) (h := 8) (r_nle c1) hx5 hx1 (by decide)) (by decide)) (by decide), ?_⟩
            intro a5 ea5
            have k_a5 := iv_upd ea5 k_a_heard (iv_w (iv_lta (l := 0) (h := 999) (r_nle c4) hw3 (k_a_heard _) (by decide)) (by decide))
            exact s_wp_X7_shorten_1_80 k_a5 hx1 hx2 hx3 (iv_lta (l := 0) (h := 999) (r_nle c2) hx4 (iv_lit (l := 1000) (h := 1000) (by decide)) (by decide)) (iv_lta (l := 0) (h := 8) (r_nle c1) hx5 hx1 (by decide)) m2 hm2 hP2 m9 hm9 hP9 x5.toInt (Int.le_refl _) (fun u0 u1 hq g0 g1 => ih u0 u1 (ms_up hm hq) g0 g1) hpost
  exact loop _ _ _ (ms_init_up _ _) hx5 k_a_heard
set_option maxRecDepth 20000 in
theorem s_wp_X7_shorten_1_9 {P2 : Int32 → (Nat → Int32) → Prop} {a_heard : Nat → Int32} {x1 : Int32} {x2 : Int32} {x3 : Int32} {post : (Nat → Int32) → Prop} (k_a_heard : ∀ j, iv 0 1000 (a_heard j)) (hx1 : iv 1 9 x1) (hx2 : iv 0 8 x2) (hx3 : iv 0 9 x3) (m2 : Int) (hm2 : m2 ≤ x2.toInt) (hP2 : ∀ (x2 : Int32) (a_heard : Nat → Int32), m2 < x2.toInt → iv 0 9 x2 → (∀ j, iv 0 1000 (a_heard j)) → P2 x2 a_heard) (hpost : ∀ (a_heard : Nat → Int32), (∀ j, iv 0 1000 (a_heard j)) → post a_heard) : q_wp_X7_shorten_1_9 P2 a_heard x1 x2 x3 post := by
  intro P hP
  have loop : ∀ (n : Nat) (x3 : Int32) (a_heard : Nat → Int32), (9 - x3.toInt < (n : Int)) → (iv 0 9 x3) → (∀ j, iv 0 1000 (a_heard j)) → P x3 a_heard := by
    intro n
    induction n with
    | zero => intro x3 a_heard hm hx3 k_a_heard; exact (ms0_up hm hx3).elim
    | succ n ih =>
      intro x3 a_heard hm hx3 k_a_heard
      apply hP
      refine ⟨fun c1 => ?_, fun c1 => ?_⟩
      · skip
        intro w2 ew2
        have hw2 := iv_eq ew2 (iv_add (l := 1) (h := 9) hx2 (iv_lit (l := 1) (h := 1) (by decide)) (by decide))
        exact hP2 _ _ (ml_up hm2 (inc_lt ew2 hx2 (by decide))) (iv_w hw2 (by decide)) k_a_heard
      · skip
        refine ⟨iv_in (iv_add (l := 0) (h := 80) (iv_mul (l := 0) (h := 72) (iv_lta (l := 0) (h := 8) (r_nle c1) hx3 hx1 (by decide)) (iv_lit (l := 9) (h := 9) (by decide)) (by decide)) hx2 (by decide)) (by decide), ?_⟩
        intro w3 ew3
        have hw3 := iv_eq ew3 (k_a_heard _)
        exact s_wp_X7_shorten_1_27 k_a_heard hx1 hx2 (iv_lta (l := 0) (h := 8) (r_nle c1) hx3 hx1 (by decide)) hw3 (iv_w (iv_lit (l := 0) (h := 0) (by decide)) (by decide)) m2 hm2 hP2 x3.toInt (Int.le_refl _) (fun u0 u1 hq g0 g1 => ih u0 u1 (ms_up hm hq) g0 g1) hpost
  exact loop _ _ _ (ms_init_up _ _) hx3 k_a_heard
set_option maxRecDepth 20000 in
theorem s_wp_X7_shorten_1_2 {a_heard : Nat → Int32} {x1 : Int32} {x2 : Int32} {post : (Nat → Int32) → Prop} (k_a_heard : ∀ j, iv 0 1000 (a_heard j)) (hx1 : iv 0 9 x1) (hx2 : iv 0 9 x2) (hpost : ∀ (a_heard : Nat → Int32), (∀ j, iv 0 1000 (a_heard j)) → post a_heard) : q_wp_X7_shorten_1_2 a_heard x1 x2 post := by
  intro P hP
  have loop : ∀ (n : Nat) (x2 : Int32) (a_heard : Nat → Int32), (9 - x2.toInt < (n : Int)) → (iv 0 9 x2) → (∀ j, iv 0 1000 (a_heard j)) → P x2 a_heard := by
    intro n
    induction n with
    | zero => intro x2 a_heard hm hx2 k_a_heard; exact (ms0_up hm hx2).elim
    | succ n ih =>
      intro x2 a_heard hm hx2 k_a_heard
      apply hP
      refine ⟨fun c1 => ?_, fun c1 => ?_⟩
      · skip
        exact hpost _ k_a_heard
      · skip
        exact s_wp_X7_shorten_1_9 k_a_heard (iv_ltb (l := 1) (h := 9) (r_nle c1) hx2 hx1 (by decide)) (iv_lta (l := 0) (h := 8) (r_nle c1) hx2 hx1 (by decide)) (iv_w (iv_lit (l := 0) (h := 0) (by decide)) (by decide)) x2.toInt (Int.le_refl _) (fun u0 u1 hq g0 g1 => ih u0 u1 (ms_up hm hq) g0 g1) hpost
  exact loop _ _ _ (ms_init_up _ _) hx2 k_a_heard
set_option maxRecDepth 20000 in
theorem s_wp_X7_shorten_1_0 {a_heard : Nat → Int32} {x1 : Int32} {post : (Nat → Int32) → Prop} (k_a_heard : ∀ j, iv 0 1000 (a_heard j)) (hx1 : iv 0 9 x1) (hpost : ∀ (a_heard : Nat → Int32), (∀ j, iv 0 1000 (a_heard j)) → post a_heard) : q_wp_X7_shorten_1_0 a_heard x1 post := by
  exact s_wp_X7_shorten_1_2 k_a_heard hx1 (iv_w (iv_lit (l := 0) (h := 0) (by decide)) (by decide)) hpost
end
section
-- wp_X7_markAtOnce
set_option maxRecDepth 20000 in
theorem s_wp_X7_markAtOnce_28 {P2 : Int32 → (Nat → Int32) → Prop} {a_heard : Nat → Int32} {x1 : Int32} {x2 : Int32} {x3 : Int32} {post : (Nat → Int32) → Prop} (k_a_heard : ∀ j, iv 0 1000 (a_heard j)) (hx1 : iv 0 8 x1) (hx2 : iv 0 511 x2) (hx3 : iv 0 8 x3) (m2 : Int) (hm2 : m2 ≤ x3.toInt) (hP2 : ∀ (x3 : Int32) (a_heard : Nat → Int32), m2 < x3.toInt → iv 0 9 x3 → (∀ j, iv 0 1000 (a_heard j)) → P2 x3 a_heard) (hpost : ∀ (a_heard : Nat → Int32), (∀ j, iv 0 1000 (a_heard j)) → post a_heard) : q_wp_X7_markAtOnce_28 P2 a_heard x1 x2 x3 post := by
  intro w1 ew1
  have hw1 := iv_eq ew1 (iv_add (l := 1) (h := 9) hx3 (iv_lit (l := 1) (h := 1) (by decide)) (by decide))
  exact hP2 _ _ (ml_up hm2 (inc_lt ew1 hx3 (by decide))) (iv_w hw1 (by decide)) k_a_heard
set_option maxRecDepth 20000 in
theorem s_wp_X7_markAtOnce_2 {a_heard : Nat → Int32} {x1 : Int32} {x2 : Int32} {x3 : Int32} {post : (Nat → Int32) → Prop} (k_a_heard : ∀ j, iv 0 1000 (a_heard j)) (hx1 : iv 0 8 x1) (hx2 : iv 0 511 x2) (hx3 : iv 0 9 x3) (hpost : ∀ (a_heard : Nat → Int32), (∀ j, iv 0 1000 (a_heard j)) → post a_heard) : q_wp_X7_markAtOnce_2 a_heard x1 x2 x3 post := by
  intro P hP
  have loop : ∀ (n : Nat) (x3 : Int32) (a_heard : Nat → Int32), (9 - x3.toInt < (n : Int)) → (iv 0 9 x3) → (∀ j, iv 0 1000 (a_heard j)) → P x3 a_heard := by
    intro n
    induction n with
    | zero => intro x3 a_heard hm hx3 k_a_heard; exact (ms0_up hm hx3).elim
    | succ n ih =>
      intro x3 a_heard hm hx3 k_a_heard
      apply hP
      refine ⟨fun c1 => ?_, fun c1 => ?_⟩
      · skip
        exact hpost _ k_a_heard
      · skip
        refine ⟨fun c2 => ?_, fun c2 => ?_⟩
        · skip
          refine ⟨fun c3 => ?_, fun c3 => ?_⟩
          · skip
            exact s_wp_X7_markAtOnce_28 k_a_heard hx1 hx2 (iv_lta (l := 0) (h := 8) (r_nle c1) hx3 (iv_lit (l := 9) (h := 9) (by decide)) (by decide)) x3.toInt (Int.le_refl _) (fun u0 u1 hq g0 g1 => ih u0 u1 (ms_up hm hq) g0 g1) hpost
          · skip
            exact (iv_emp (iv_ne (l := 1) (h := 0) c3 (iv_lit (l := 0) (h := 0) (by decide)) (iv_lit (l := 0) (h := 0) (by decide)) (by decide)) (by decide)).elim
        · skip
          refine ⟨fun c4 => ?_, fun c4 => ?_⟩
          · skip
            exact (iv_emp (iv_eqa (l := 1) (h := 0) c4 (iv_lit (l := 1) (h := 1) (by decide)) (iv_lit (l := 0) (h := 0) (by decide)) (by decide)) (by decide)).elim
          · skip
            refine ⟨iv_in (iv_add (l := 0) (h := 80) (iv_mul (l := 0) (h := 72) hx1 (iv_lit (l := 9) (h := 9) (by decide)) (by decide)) (iv_lta (l := 0) (h := 8) (r_nle c1) hx3 (iv_lit (l := 9) (h := 9) (by decide)) (by decide)) (by decide)) (by decide), ?_⟩
            intro a5 ea5
            have k_a5 := iv_upd ea5 k_a_heard (iv_w (iv_lit (l := 0) (h := 0) (by decide)) (by decide))
            exact s_wp_X7_markAtOnce_28 k_a5 hx1 hx2 (iv_lta (l := 0) (h := 8) (r_nle c1) hx3 (iv_lit (l := 9) (h := 9) (by decide)) (by decide)) x3.toInt (Int.le_refl _) (fun u0 u1 hq g0 g1 => ih u0 u1 (ms_up hm hq) g0 g1) hpost
  exact loop _ _ _ (ms_init_up _ _) hx3 k_a_heard
set_option maxRecDepth 20000 in
theorem s_wp_X7_markAtOnce_0 {a_heard : Nat → Int32} {x1 : Int32} {x2 : Int32} {post : (Nat → Int32) → Prop} (k_a_heard : ∀ j, iv 0 1000 (a_heard j)) (hx1 : iv 0 8 x1) (hx2 : iv 0 511 x2) (hpost : ∀ (a_heard : Nat → Int32), (∀ j, iv 0 1000 (a_heard j)) → post a_heard) : q_wp_X7_markAtOnce_0 a_heard x1 x2 post := by
  exact s_wp_X7_markAtOnce_2 k_a_heard hx1 hx2 (iv_w (iv_lit (l := 0) (h := 0) (by decide)) (by decide)) hpost
-- wp_X7_hear_9
set_option maxRecDepth 20000 in
theorem s_wp_X7_hear_9_61 {P12 : Int32 → (Nat → Int32) → Prop} {P22 : Int32 → (Nat → Int32) → Prop} {a_heard : Nat → Int32} {lf_huts : Int32} {lf_dams : Int32} {lf_echoes : Int32} {la_heights : Nat → Int32} {la_minutes : Nat → Int32} {la_echoFrom : Nat → Int32} {la_echoTo : Nat → Int32} {x2 : Int32} {x3 : Int32} {post : (Nat → Int32) → Prop} (k_a_heard : ∀ j, iv 0 1000 (a_heard j)) (k_lf_huts : iv 1 9 lf_huts) (k_lf_dams : iv 0 511 lf_dams) (k_lf_echoes : iv 0 4 lf_echoes) (k_la_heights : ∀ j, iv 0 99 (la_heights j)) (k_la_minutes : ∀ j, iv 0 9 (la_minutes j)) (k_la_echoFrom : ∀ j, iv 0 8 (la_echoFrom j)) (k_la_echoTo : ∀ j, iv 0 8 (la_echoTo j)) (hx2 : iv 0 8 x2) (hx3 : iv 0 8 x3) (m12 : Int) (hm12 : m12 ≤ x2.toInt) (hP12 : ∀ (x2 : Int32) (a_heard : Nat → Int32), m12 < x2.toInt → iv 0 9 x2 → (∀ j, iv 0 1000 (a_heard j)) → P12 x2 a_heard) (m22 : Int) (hm22 : m22 ≤ x3.toInt) (hP22 : ∀ (x3 : Int32) (a_heard : Nat → Int32), m22 < x3.toInt → iv 0 9 x3 → (∀ j, iv 0 1000 (a_heard j)) → P22 x3 a_heard) (hpost : ∀ (a_heard : Nat → Int32), (∀ j, iv 0 1000 (a_heard j)) → post a_heard) : q_wp_X7_hear_9_61 P12 P22 a_heard lf_huts lf_dams lf_echoes la_heights la_minutes la_echoFrom la_echoTo x2 x3 post := by
  intro w1 ew1
  have hw1 := iv_eq ew1 (iv_add (l := 1) (h := 9) hx3 (iv_lit (l := 1) (h := 1) (by decide)) (by decide))
  exact hP22 _ _ (ml_up hm22 (inc_lt ew1 hx3 (by decide))) (iv_w hw1 (by decide)) k_a_heard
set_option maxRecDepth 20000 in
theorem s_wp_X7_hear_9_85 {P12 : Int32 → (Nat → Int32) → Prop} {a_heard : Nat → Int32} {lf_huts : Int32} {lf_dams : Int32} {lf_echoes : Int32} {la_heights : Nat → Int32} {la_minutes : Nat → Int32} {la_echoFrom : Nat → Int32} {la_echoTo : Nat → Int32} {x2 : Int32} {post : (Nat → Int32) → Prop} (k_a_heard : ∀ j, iv 0 1000 (a_heard j)) (k_lf_huts : iv 1 9 lf_huts) (k_lf_dams : iv 0 511 lf_dams) (k_lf_echoes : iv 0 4 lf_echoes) (k_la_heights : ∀ j, iv 0 99 (la_heights j)) (k_la_minutes : ∀ j, iv 0 9 (la_minutes j)) (k_la_echoFrom : ∀ j, iv 0 8 (la_echoFrom j)) (k_la_echoTo : ∀ j, iv 0 8 (la_echoTo j)) (hx2 : iv 0 8 x2) (m12 : Int) (hm12 : m12 ≤ x2.toInt) (hP12 : ∀ (x2 : Int32) (a_heard : Nat → Int32), m12 < x2.toInt → iv 0 9 x2 → (∀ j, iv 0 1000 (a_heard j)) → P12 x2 a_heard) (hpost : ∀ (a_heard : Nat → Int32), (∀ j, iv 0 1000 (a_heard j)) → post a_heard) : q_wp_X7_hear_9_85 P12 a_heard lf_huts lf_dams lf_echoes la_heights la_minutes la_echoFrom la_echoTo x2 post := by
  intro w1 ew1
  have hw1 := iv_eq ew1 (iv_add (l := 1) (h := 9) hx2 (iv_lit (l := 1) (h := 1) (by decide)) (by decide))
  exact hP12 _ _ (ml_up hm12 (inc_lt ew1 hx2 (by decide))) (iv_w hw1 (by decide)) k_a_heard
set_option maxRecDepth 20000 in
theorem s_wp_X7_hear_9_22 {P12 : Int32 → (Nat → Int32) → Prop} {a_heard : Nat → Int32} {lf_huts : Int32} {lf_dams : Int32} {lf_echoes : Int32} {la_heights : Nat → Int32} {la_minutes : Nat → Int32} {la_echoFrom : Nat → Int32} {la_echoTo : Nat → Int32} {x2 : Int32} {x3 : Int32} {post : (Nat → Int32) → Prop} (k_a_heard : ∀ j, iv 0 1000 (a_heard j)) (k_lf_huts : iv 1 9 lf_huts) (k_lf_dams : iv 0 511 lf_dams) (k_lf_echoes : iv 0 4 lf_echoes) (k_la_heights : ∀ j, iv 0 99 (la_heights j)) (k_la_minutes : ∀ j, iv 0 9 (la_minutes j)) (k_la_echoFrom : ∀ j, iv 0 8 (la_echoFrom j)) (k_la_echoTo : ∀ j, iv 0 8 (la_echoTo j)) (hx2 : iv 0 8 x2) (hx3 : iv 0 9 x3) (m12 : Int) (hm12 : m12 ≤ x2.toInt) (hP12 : ∀ (x2 : Int32) (a_heard : Nat → Int32), m12 < x2.toInt → iv 0 9 x2 → (∀ j, iv 0 1000 (a_heard j)) → P12 x2 a_heard) (hpost : ∀ (a_heard : Nat → Int32), (∀ j, iv 0 1000 (a_heard j)) → post a_heard) : q_wp_X7_hear_9_22 P12 a_heard lf_huts lf_dams lf_echoes la_heights la_minutes la_echoFrom la_echoTo x2 x3 post := by
  intro P hP
  have loop : ∀ (n : Nat) (x3 : Int32) (a_heard : Nat → Int32), (9 - x3.toInt < (n : Int)) → (iv 0 9 x3) → (∀ j, iv 0 1000 (a_heard j)) → P x3 a_heard := by
    intro n
    induction n with
    | zero => intro x3 a_heard hm hx3 k_a_heard; exact (ms0_up hm hx3).elim
    | succ n ih =>
      intro x3 a_heard hm hx3 k_a_heard
      apply hP
      refine ⟨fun c1 => ?_, fun c1 => ?_⟩
      · skip
        refine ⟨fun c2 => ?_, fun c2 => ?_⟩
        · skip
          refine ⟨fun c3 => ?_, fun c3 => ?_⟩
          · skip
            exact (iv_emp (iv_ne (l := 1) (h := 0) c3 (iv_lit (l := 0) (h := 0) (by decide)) (iv_lit (l := 0) (h := 0) (by decide)) (by decide)) (by decide)).elim
          · skip
            refine s_wl_X2_earshot_0 k_lf_dams k_lf_echoes k_la_echoFrom k_la_echoTo hx2 (fun r4 hr4 => ?_)
            refine s_wp_X7_markAtOnce_0 k_a_heard hx2 hr4 (fun o5 k_o5 => ?_)
            exact s_wp_X7_hear_9_85 k_o5 k_lf_huts k_lf_dams k_lf_echoes k_la_heights k_la_minutes k_la_echoFrom k_la_echoTo hx2 m12 hm12 hP12 hpost
        · skip
          refine ⟨fun c6 => ?_, fun c6 => ?_⟩
          · skip
            exact s_wp_X7_hear_9_85 k_a_heard k_lf_huts k_lf_dams k_lf_echoes k_la_heights k_la_minutes k_la_echoFrom k_la_echoTo hx2 m12 hm12 hP12 hpost
          · skip
            exact (iv_emp (iv_eqa (l := 1) (h := 0) c6 (iv_lit (l := 1) (h := 1) (by decide)) (iv_lit (l := 0) (h := 0) (by decide)) (by decide)) (by decide)).elim
      · skip
        refine ⟨iv_in (iv_add (l := 0) (h := 80) (iv_mul (l := 0) (h := 72) hx2 (iv_lit (l := 9) (h := 9) (by decide)) (by decide)) (iv_lta (l := 0) (h := 8) (r_nle c1) hx3 k_lf_huts (by decide)) (by decide)) (by decide), ?_⟩
        refine ⟨fun c7 => ?_, fun c7 => ?_⟩
        · skip
          refine ⟨fun c8 => ?_, fun c8 => ?_⟩
          · skip
            exact s_wp_X7_hear_9_61 k_a_heard k_lf_huts k_lf_dams k_lf_echoes k_la_heights k_la_minutes k_la_echoFrom k_la_echoTo hx2 (iv_lta (l := 0) (h := 8) (r_nle c1) hx3 k_lf_huts (by decide)) m12 hm12 hP12 x3.toInt (Int.le_refl _) (fun u0 u1 hq g0 g1 => ih u0 u1 (ms_up hm hq) g0 g1) hpost
          · skip
            exact (iv_emp (iv_ne (l := 1) (h := 0) c8 (iv_lit (l := 0) (h := 0) (by decide)) (iv_lit (l := 0) (h := 0) (by decide)) (by decide)) (by decide)).elim
        · skip
          refine ⟨iv_in (iv_lta (l := 0) (h := 8) (r_nle c1) hx3 k_lf_huts (by decide)) (by decide), ?_⟩
          refine ⟨iv_in hx2 (by decide), ?_⟩
          refine ⟨fun c9 => ?_, fun c9 => ?_⟩
          · skip
            refine ⟨fun c10 => ?_, fun c10 => ?_⟩
            · skip
              exact s_wp_X7_hear_9_61 k_a_heard k_lf_huts k_lf_dams k_lf_echoes k_la_heights k_la_minutes k_la_echoFrom k_la_echoTo hx2 (iv_lta (l := 0) (h := 8) (r_nle c1) hx3 k_lf_huts (by decide)) m12 hm12 hP12 x3.toInt (Int.le_refl _) (fun u0 u1 hq g0 g1 => ih u0 u1 (ms_up hm hq) g0 g1) hpost
            · skip
              exact (iv_emp (iv_ne (l := 1) (h := 0) c10 (iv_lit (l := 0) (h := 0) (by decide)) (iv_lit (l := 0) (h := 0) (by decide)) (by decide)) (by decide)).elim
          · skip
            refine ⟨fun c11 => ?_, fun c11 => ?_⟩
            · skip
              refine ⟨fun c12 => ?_, fun c12 => ?_⟩
              · skip
                exact (iv_emp (iv_ne (l := 1) (h := 0) c12 (iv_lit (l := 0) (h := 0) (by decide)) (iv_lit (l := 0) (h := 0) (by decide)) (by decide)) (by decide)).elim
              · skip
                refine ⟨fun c13 => ?_, fun c13 => ?_⟩
                · skip
                  refine ⟨fun c14 => ?_, fun c14 => ?_⟩
                  · skip
                    exact (iv_emp (iv_ne (l := 1) (h := 0) c14 (iv_lit (l := 0) (h := 0) (by decide)) (iv_lit (l := 0) (h := 0) (by decide)) (by decide)) (by decide)).elim
                  · skip
                    refine ⟨fun c15 => ?_, fun c15 => ?_⟩
                    · skip
                      exact (iv_emp (iv_eqa (l := 1) (h := 0) c15 (iv_lit (l := 1) (h := 1) (by decide)) (iv_lit (l := 0) (h := 0) (by decide)) (by decide)) (by decide)).elim
                    · skip
                      refine ⟨iv_in (iv_add (l := 0) (h := 80) (iv_mul (l := 0) (h := 72) hx2 (iv_lit (l := 9) (h := 9) (by decide)) (by decide)) (iv_lta (l := 0) (h := 8) (r_nle c1) hx3 k_lf_huts (by decide)) (by decide)) (by decide), ?_⟩
                      intro w16 ew16
                      have hw16 := iv_eq ew16 (iv_ltb (l := 1) (h := 9) (r_nle c7) (iv_lit (l := 0) (h := 0) (by decide)) (k_la_minutes _) (by decide))
                      refine ⟨iv_in (iv_add (l := 0) (h := 80) (iv_mul (l := 0) (h := 72) hx2 (iv_lit (l := 9) (h := 9) (by decide)) (by decide)) (iv_lta (l := 0) (h := 8) (r_nle c1) hx3 k_lf_huts (by decide)) (by decide)) (by decide), ?_⟩
                      intro a17 ea17
                      have k_a17 := iv_upd ea17 k_a_heard (iv_w hw16 (by decide))
                      exact s_wp_X7_hear_9_61 k_a17 k_lf_huts k_lf_dams k_lf_echoes k_la_heights k_la_minutes k_la_echoFrom k_la_echoTo hx2 (iv_lta (l := 0) (h := 8) (r_nle c1) hx3 k_lf_huts (by decide)) m12 hm12 hP12 x3.toInt (Int.le_refl _) (fun u0 u1 hq g0 g1 => ih u0 u1 (ms_up hm hq) g0 g1) hpost
                · skip
                  refine ⟨fun c18 => ?_, fun c18 => ?_⟩
                  · skip
                    refine ⟨fun c19 => ?_, fun c19 => ?_⟩
                    · skip
                      exact s_wp_X7_hear_9_61 k_a_heard k_lf_huts k_lf_dams k_lf_echoes k_la_heights k_la_minutes k_la_echoFrom k_la_echoTo hx2 (iv_lta (l := 0) (h := 8) (r_nle c1) hx3 k_lf_huts (by decide)) m12 hm12 hP12 x3.toInt (Int.le_refl _) (fun u0 u1 hq g0 g1 => ih u0 u1 (ms_up hm hq) g0 g1) hpost
                    · skip
                      exact (iv_emp (iv_ne (l := 1) (h := 0) c19 (iv_lit (l := 0) (h := 0) (by decide)) (iv_lit (l := 0) (h := 0) (by decide)) (by decide)) (by decide)).elim
                  · skip
                    exact (iv_emp (iv_eqa (l := 1) (h := 0) c18 (iv_lit (l := 1) (h := 1) (by decide)) (iv_lit (l := 0) (h := 0) (by decide)) (by decide)) (by decide)).elim
            · skip
              refine ⟨fun c20 => ?_, fun c20 => ?_⟩
              · skip
                refine ⟨fun c21 => ?_, fun c21 => ?_⟩
                · skip
                  exact s_wp_X7_hear_9_61 k_a_heard k_lf_huts k_lf_dams k_lf_echoes k_la_heights k_la_minutes k_la_echoFrom k_la_echoTo hx2 (iv_lta (l := 0) (h := 8) (r_nle c1) hx3 k_lf_huts (by decide)) m12 hm12 hP12 x3.toInt (Int.le_refl _) (fun u0 u1 hq g0 g1 => ih u0 u1 (ms_up hm hq) g0 g1) hpost
                · skip
                  exact (iv_emp (iv_ne (l := 1) (h := 0) c21 (iv_lit (l := 0) (h := 0) (by decide)) (iv_lit (l := 0) (h := 0) (by decide)) (by decide)) (by decide)).elim
              · skip
                exact (iv_emp (iv_eqa (l := 1) (h := 0) c20 (iv_lit (l := 1) (h := 1) (by decide)) (iv_lit (l := 0) (h := 0) (by decide)) (by decide)) (by decide)).elim
  exact loop _ _ _ (ms_init_up _ _) hx3 k_a_heard
set_option maxRecDepth 20000 in
theorem s_wp_X7_hear_9_12 {a_heard : Nat → Int32} {lf_huts : Int32} {lf_dams : Int32} {lf_echoes : Int32} {la_heights : Nat → Int32} {la_minutes : Nat → Int32} {la_echoFrom : Nat → Int32} {la_echoTo : Nat → Int32} {x2 : Int32} {post : (Nat → Int32) → Prop} (k_a_heard : ∀ j, iv 0 1000 (a_heard j)) (k_lf_huts : iv 0 9 lf_huts) (k_lf_dams : iv 0 511 lf_dams) (k_lf_echoes : iv 0 4 lf_echoes) (k_la_heights : ∀ j, iv 0 99 (la_heights j)) (k_la_minutes : ∀ j, iv 0 9 (la_minutes j)) (k_la_echoFrom : ∀ j, iv 0 8 (la_echoFrom j)) (k_la_echoTo : ∀ j, iv 0 8 (la_echoTo j)) (hx2 : iv 0 9 x2) (hpost : ∀ (a_heard : Nat → Int32), (∀ j, iv 0 1000 (a_heard j)) → post a_heard) : q_wp_X7_hear_9_12 a_heard lf_huts lf_dams lf_echoes la_heights la_minutes la_echoFrom la_echoTo x2 post := by
  intro P hP
  have loop : ∀ (n : Nat) (x2 : Int32) (a_heard : Nat → Int32), (9 - x2.toInt < (n : Int)) → (iv 0 9 x2) → (∀ j, iv 0 1000 (a_heard j)) → P x2 a_heard := by
    intro n
    induction n with
    | zero => intro x2 a_heard hm hx2 k_a_heard; exact (ms0_up hm hx2).elim
    | succ n ih =>
      intro x2 a_heard hm hx2 k_a_heard
      apply hP
      refine ⟨fun c1 => ?_, fun c1 => ?_⟩
      · skip
        refine s_wp_X7_shorten_1_0 k_a_heard k_lf_huts (fun o2 k_o2 => ?_)
        exact hpost _ k_o2
      · skip
        exact s_wp_X7_hear_9_22 k_a_heard (iv_ltb (l := 1) (h := 9) (r_nle c1) hx2 k_lf_huts (by decide)) k_lf_dams k_lf_echoes k_la_heights k_la_minutes k_la_echoFrom k_la_echoTo (iv_lta (l := 0) (h := 8) (r_nle c1) hx2 k_lf_huts (by decide)) (iv_w (iv_lit (l := 0) (h := 0) (by decide)) (by decide)) x2.toInt (Int.le_refl _) (fun u0 u1 hq g0 g1 => ih u0 u1 (ms_up hm hq) g0 g1) hpost
  exact loop _ _ _ (ms_init_up _ _) hx2 k_a_heard
set_option maxRecDepth 20000 in
theorem s_wp_X7_hear_9_0 {a_heard : Nat → Int32} {lf_huts : Int32} {lf_dams : Int32} {lf_echoes : Int32} {la_heights : Nat → Int32} {la_minutes : Nat → Int32} {la_echoFrom : Nat → Int32} {la_echoTo : Nat → Int32} {post : (Nat → Int32) → Prop} (k_a_heard : ∀ j, iv 0 1000 (a_heard j)) (k_lf_huts : iv 0 9 lf_huts) (k_lf_dams : iv 0 511 lf_dams) (k_lf_echoes : iv 0 4 lf_echoes) (k_la_heights : ∀ j, iv 0 99 (la_heights j)) (k_la_minutes : ∀ j, iv 0 9 (la_minutes j)) (k_la_echoFrom : ∀ j, iv 0 8 (la_echoFrom j)) (k_la_echoTo : ∀ j, iv 0 8 (la_echoTo j)) (hpost : ∀ (a_heard : Nat → Int32), (∀ j, iv 0 1000 (a_heard j)) → post a_heard) : q_wp_X7_hear_9_0 a_heard lf_huts lf_dams lf_echoes la_heights la_minutes la_echoFrom la_echoTo post := by
  refine s_wp_J7_fill_53178_1_0 k_a_heard (iv_lit (l := 1000) (h := 1000) (by decide)) (fun o1 k_o1 => ?_)
  exact s_wp_X7_hear_9_12 k_o1 k_lf_huts k_lf_dams k_lf_echoes k_la_heights k_la_minutes k_la_echoFrom k_la_echoTo (iv_w (iv_lit (l := 0) (h := 0) (by decide)) (by decide)) hpost
-- wp_J7_fill_53178_2
set_option maxRecDepth 20000 in
theorem s_wp_J7_fill_53178_2_5 {a_walked : Nat → Int32} {x1 : Int32} {x2 : Int32} {x3 : Int32} {post : (Nat → Int32) → Prop} (k_a_walked : ∀ j, iv 0 1000 (a_walked j)) (hx1 : iv 1000 1000 x1) (hx2 : iv 0 81 x2) (hx3 : iv 81 81 x3) (hpost : ∀ (a_walked : Nat → Int32), (∀ j, iv 0 1000 (a_walked j)) → post a_walked) : q_wp_J7_fill_53178_2_5 a_walked x1 x2 x3 post := by
  intro P hP
  have loop : ∀ (n : Nat) (x2 : Int32) (a_walked : Nat → Int32), (81 - x2.toInt < (n : Int)) → (iv 0 81 x2) → (∀ j, iv 0 1000 (a_walked j)) → P x2 a_walked := by
    intro n
    induction n with
    | zero => intro x2 a_walked hm hx2 k_a_walked; exact (ms0_up hm hx2).elim
    | succ n ih =>
      intro x2 a_walked hm hx2 k_a_walked
      apply hP
      refine ⟨fun c1 => ?_, fun c1 => ?_⟩
      · skip
        exact hpost _ k_a_walked
      · skip
        refine ⟨iv_in (iv_lta (l := 0) (h := 80) (r_nle c1) hx2 hx3 (by decide)) (by decide), ?_⟩
        intro a2 ea2
        have k_a2 := iv_upd ea2 k_a_walked (iv_w hx1 (by decide))
        intro w3 ew3
        have hw3 := iv_eq ew3 (iv_add (l := 1) (h := 81) (iv_lta (l := 0) (h := 80) (r_nle c1) hx2 hx3 (by decide)) (iv_lit (l := 1) (h := 1) (by decide)) (by decide))
        exact ih _ _ (ms_up hm (inc_lt ew3 (iv_lta (l := 0) (h := 80) (r_nle c1) hx2 hx3 (by decide)) (by decide))) (iv_w hw3 (by decide)) k_a2
  exact loop _ _ _ (ms_init_up _ _) hx2 k_a_walked
set_option maxRecDepth 20000 in
theorem s_wp_J7_fill_53178_2_0 {a_walked : Nat → Int32} {x1 : Int32} {post : (Nat → Int32) → Prop} (k_a_walked : ∀ j, iv 0 1000 (a_walked j)) (hx1 : iv 1000 1000 x1) (hpost : ∀ (a_walked : Nat → Int32), (∀ j, iv 0 1000 (a_walked j)) → post a_walked) : q_wp_J7_fill_53178_2_0 a_walked x1 post := by
  exact s_wp_J7_fill_53178_2_5 k_a_walked hx1 (iv_w (iv_lit (l := 0) (h := 0) (by decide)) (by decide)) (iv_lit (l := 81) (h := 81) (by decide)) hpost
-- wp_X7_shorten_2
set_option maxRecDepth 20000 in
theorem s_wp_X7_shorten_2_80 {P2 : Int32 → (Nat → Int32) → Prop} {P9 : Int32 → (Nat → Int32) → Prop} {P27 : Int32 → (Nat → Int32) → Prop} {a_walked : Nat → Int32} {x1 : Int32} {x2 : Int32} {x3 : Int32} {x4 : Int32} {x5 : Int32} {post : (Nat → Int32) → Prop} (k_a_walked : ∀ j, iv 0 1000 (a_walked j)) (hx1 : iv 1 9 x1) (hx2 : iv 0 8 x2) (hx3 : iv 0 8 x3) (hx4 : iv 0 999 x4) (hx5 : iv 0 8 x5) (m2 : Int) (hm2 : m2 ≤ x2.toInt) (hP2 : ∀ (x2 : Int32) (a_walked : Nat → Int32), m2 < x2.toInt → iv 0 9 x2 → (∀ j, iv 0 1000 (a_walked j)) → P2 x2 a_walked) (m9 : Int) (hm9 : m9 ≤ x3.toInt) (hP9 : ∀ (x3 : Int32) (a_walked : Nat → Int32), m9 < x3.toInt → iv 0 9 x3 → (∀ j, iv 0 1000 (a_walked j)) → P9 x3 a_walked) (m27 : Int) (hm27 : m27 ≤ x5.toInt) (hP27 : ∀ (x5 : Int32) (a_walked : Nat → Int32), m27 < x5.toInt → iv 0 9 x5 → (∀ j, iv 0 1000 (a_walked j)) → P27 x5 a_walked) (hpost : ∀ (a_walked : Nat → Int32), (∀ j, iv 0 1000 (a_walked j)) → post a_walked) : q_wp_X7_shorten_2_80 P2 P9 P27 a_walked x1 x2 x3 x4 x5 post := by
  intro w1 ew1
  have hw1 := iv_eq ew1 (iv_add (l := 1) (h := 9) hx5 (iv_lit (l := 1) (h := 1) (by decide)) (by decide))
  exact hP27 _ _ (ml_up hm27 (inc_lt ew1 hx5 (by decide))) (iv_w hw1 (by decide)) k_a_walked
set_option maxRecDepth 20000 in
theorem s_wp_X7_shorten_2_86 {P2 : Int32 → (Nat → Int32) → Prop} {P9 : Int32 → (Nat → Int32) → Prop} {a_walked : Nat → Int32} {x1 : Int32} {x2 : Int32} {x3 : Int32} {post : (Nat → Int32) → Prop} (k_a_walked : ∀ j, iv 0 1000 (a_walked j)) (hx1 : iv 1 9 x1) (hx2 : iv 0 8 x2) (hx3 : iv 0 8 x3) (m2 : Int) (hm2 : m2 ≤ x2.toInt) (hP2 : ∀ (x2 : Int32) (a_walked : Nat → Int32), m2 < x2.toInt → iv 0 9 x2 → (∀ j, iv 0 1000 (a_walked j)) → P2 x2 a_walked) (m9 : Int) (hm9 : m9 ≤ x3.toInt) (hP9 : ∀ (x3 : Int32) (a_walked : Nat → Int32), m9 < x3.toInt → iv 0 9 x3 → (∀ j, iv 0 1000 (a_walked j)) → P9 x3 a_walked) (hpost : ∀ (a_walked : Nat → Int32), (∀ j, iv 0 1000 (a_walked j)) → post a_walked) : q_wp_X7_shorten_2_86 P2 P9 a_walked x1 x2 x3 post := by
  intro w1 ew1
  have hw1 := iv_eq ew1 (iv_add (l := 1) (h := 9) hx3 (iv_lit (l := 1) (h := 1) (by decide)) (by decide))
  exact hP9 _ _ (ml_up hm9 (inc_lt ew1 hx3 (by decide))) (iv_w hw1 (by decide)) k_a_walked
set_option maxRecDepth 20000 in
theorem s_wp_X7_shorten_2_27 {P2 : Int32 → (Nat → Int32) → Prop} {P9 : Int32 → (Nat → Int32) → Prop} {a_walked : Nat → Int32} {x1 : Int32} {x2 : Int32} {x3 : Int32} {x4 : Int32} {x5 : Int32} {post : (Nat → Int32) → Prop} (k_a_walked : ∀ j, iv 0 1000 (a_walked j)) (hx1 : iv 1 9 x1) (hx2 : iv 0 8 x2) (hx3 : iv 0 8 x3) (hx4 : iv 0 1000 x4) (hx5 : iv 0 9 x5) (m2 : Int) (hm2 : m2 ≤ x2.toInt) (hP2 : ∀ (x2 : Int32) (a_walked : Nat → Int32), m2 < x2.toInt → iv 0 9 x2 → (∀ j, iv 0 1000 (a_walked j)) → P2 x2 a_walked) (m9 : Int) (hm9 : m9 ≤ x3.toInt) (hP9 : ∀ (x3 : Int32) (a_walked : Nat → Int32), m9 < x3.toInt → iv 0 9 x3 → (∀ j, iv 0 1000 (a_walked j)) → P9 x3 a_walked) (hpost : ∀ (a_walked : Nat → Int32), (∀ j, iv 0 1000 (a_walked j)) → post a_walked) : q_wp_X7_shorten_2_27 P2 P9 a_walked x1 x2 x3 x4 x5 post := by
  intro P hP
  have loop : ∀ (n : Nat) (x5 : Int32) (a_walked : Nat → Int32), (9 - x5.toInt < (n : Int)) → (iv 0 9 x5) → (∀ j, iv 0 1000 (a_walked j)) → P x5 a_walked := by
    intro n
    induction n with
    | zero => intro x5 a_walked hm hx5 k_a_walked; exact (ms0_up hm hx5).elim
    | succ n ih =>
      intro x5 a_walked hm hx5 k_a_walked
      apply hP
      refine ⟨fun c1 => ?_, fun c1 => ?_⟩
      · skip
        exact s_wp_X7_shorten_2_86 k_a_walked hx1 hx2 hx3 m2 hm2 hP2 m9 hm9 hP9 hpost
      · skip
        refine ⟨fun c2 => ?_, fun c2 => ?_⟩
        · skip
          exact s_wp_X7_shorten_2_86 k_a_walked hx1 hx2 hx3 m2 hm2 hP2 m9 hm9 hP9 hpost
        · skip
          refine ⟨iv_in (iv_add (l := 0) (h := 80) (iv_mul (l := 0) (h := 72) hx2 (iv_lit (l := 9) (h := 9) (by decide)) (by decide)) (iv_lta (l := 0) (h := 8) (r_nle c1) hx5 hx1 (by decide)) (by decide)) (by decide), ?_⟩
          intro w3 ew3
          have hw3 := iv_eq ew3 (iv_add (l := 0) (h := 1999) (iv_lta (l := 0) (h := 999) (r_nle c2) hx4 (iv_lit (l := 1000) (h := 1000) (by decide)) (by decide)) (k_a_walked _) (by decide))
          refine ⟨iv_in (iv_add (l := 0) (h := 80) (iv_mul (l := 0) (h := 72) hx3 (iv_lit (l := 9) (h := 9) (by decide)) (by decide)) (iv_lta (l := 0) (h := 8) (r_nle c1) hx5 hx1 (by decide)) (by decide)) (by decide), ?_⟩
          refine ⟨fun c4 => ?_, fun c4 => ?_⟩
          · skip
            exact s_wp_X7_shorten_2_80 k_a_walked hx1 hx2 hx3 (iv_lta (l := 0) (h := 999) (r_nle c2) hx4 (iv_lit (l := 1000) (h := 1000) (by decide)) (by decide)) (iv_lta (l := 0) (h := 8) (r_nle c1) hx5 hx1 (by decide)) m2 hm2 hP2 m9 hm9 hP9 x5.toInt (Int.le_refl _) (fun u0 u1 hq g0 g1 => ih u0 u1 (ms_up hm hq) g0 g1) hpost
          · skip
            refine ⟨iv_in (iv_add (l := 0) (h := 80) (iv_mul (l := 0) (h := 72) hx3 (iv_lit (l := 9) (h := 9) (by decide)) (by decide)) (iv_lta (l := 0) (h := 8) (r_nle c1) hx5 hx1 (by decide)) (by decide)) (by decide), ?_⟩
            intro a5 ea5
            have k_a5 := iv_upd ea5 k_a_walked (iv_w (iv_lta (l := 0) (h := 999) (r_nle c4) hw3 (k_a_walked _) (by decide)) (by decide))
            exact s_wp_X7_shorten_2_80 k_a5 hx1 hx2 hx3 (iv_lta (l := 0) (h := 999) (r_nle c2) hx4 (iv_lit (l := 1000) (h := 1000) (by decide)) (by decide)) (iv_lta (l := 0) (h := 8) (r_nle c1) hx5 hx1 (by decide)) m2 hm2 hP2 m9 hm9 hP9 x5.toInt (Int.le_refl _) (fun u0 u1 hq g0 g1 => ih u0 u1 (ms_up hm hq) g0 g1) hpost
  exact loop _ _ _ (ms_init_up _ _) hx5 k_a_walked
set_option maxRecDepth 20000 in
theorem s_wp_X7_shorten_2_9 {P2 : Int32 → (Nat → Int32) → Prop} {a_walked : Nat → Int32} {x1 : Int32} {x2 : Int32} {x3 : Int32} {post : (Nat → Int32) → Prop} (k_a_walked : ∀ j, iv 0 1000 (a_walked j)) (hx1 : iv 1 9 x1) (hx2 : iv 0 8 x2) (hx3 : iv 0 9 x3) (m2 : Int) (hm2 : m2 ≤ x2.toInt) (hP2 : ∀ (x2 : Int32) (a_walked : Nat → Int32), m2 < x2.toInt → iv 0 9 x2 → (∀ j, iv 0 1000 (a_walked j)) → P2 x2 a_walked) (hpost : ∀ (a_walked : Nat → Int32), (∀ j, iv 0 1000 (a_walked j)) → post a_walked) : q_wp_X7_shorten_2_9 P2 a_walked x1 x2 x3 post := by
  intro P hP
  have loop : ∀ (n : Nat) (x3 : Int32) (a_walked : Nat → Int32), (9 - x3.toInt < (n : Int)) → (iv 0 9 x3) → (∀ j, iv 0 1000 (a_walked j)) → P x3 a_walked := by
    intro n
    induction n with
    | zero => intro x3 a_walked hm hx3 k_a_walked; exact (ms0_up hm hx3).elim
    | succ n ih =>
      intro x3 a_walked hm hx3 k_a_walked
      apply hP
      refine ⟨fun c1 => ?_, fun c1 => ?_⟩
      · skip
        intro w2 ew2
        have hw2 := iv_eq ew2 (iv_add (l := 1) (h := 9) hx2 (iv_lit (l := 1) (h := 1) (by decide)) (by decide))
        exact hP2 _ _ (ml_up hm2 (inc_lt ew2 hx2 (by decide))) (iv_w hw2 (by decide)) k_a_walked
      · skip
        refine ⟨iv_in (iv_add (l := 0) (h := 80) (iv_mul (l := 0) (h := 72) (iv_lta (l := 0) (h := 8) (r_nle c1) hx3 hx1 (by decide)) (iv_lit (l := 9) (h := 9) (by decide)) (by decide)) hx2 (by decide)) (by decide), ?_⟩
        intro w3 ew3
        have hw3 := iv_eq ew3 (k_a_walked _)
        exact s_wp_X7_shorten_2_27 k_a_walked hx1 hx2 (iv_lta (l := 0) (h := 8) (r_nle c1) hx3 hx1 (by decide)) hw3 (iv_w (iv_lit (l := 0) (h := 0) (by decide)) (by decide)) m2 hm2 hP2 x3.toInt (Int.le_refl _) (fun u0 u1 hq g0 g1 => ih u0 u1 (ms_up hm hq) g0 g1) hpost
  exact loop _ _ _ (ms_init_up _ _) hx3 k_a_walked
set_option maxRecDepth 20000 in
theorem s_wp_X7_shorten_2_2 {a_walked : Nat → Int32} {x1 : Int32} {x2 : Int32} {post : (Nat → Int32) → Prop} (k_a_walked : ∀ j, iv 0 1000 (a_walked j)) (hx1 : iv 0 9 x1) (hx2 : iv 0 9 x2) (hpost : ∀ (a_walked : Nat → Int32), (∀ j, iv 0 1000 (a_walked j)) → post a_walked) : q_wp_X7_shorten_2_2 a_walked x1 x2 post := by
  intro P hP
  have loop : ∀ (n : Nat) (x2 : Int32) (a_walked : Nat → Int32), (9 - x2.toInt < (n : Int)) → (iv 0 9 x2) → (∀ j, iv 0 1000 (a_walked j)) → P x2 a_walked := by
    intro n
    induction n with
    | zero => intro x2 a_walked hm hx2 k_a_walked; exact (ms0_up hm hx2).elim
    | succ n ih =>
      intro x2 a_walked hm hx2 k_a_walked
      apply hP
      refine ⟨fun c1 => ?_, fun c1 => ?_⟩
      · skip
        exact hpost _ k_a_walked
      · skip
        exact s_wp_X7_shorten_2_9 k_a_walked (iv_ltb (l := 1) (h := 9) (r_nle c1) hx2 hx1 (by decide)) (iv_lta (l := 0) (h := 8) (r_nle c1) hx2 hx1 (by decide)) (iv_w (iv_lit (l := 0) (h := 0) (by decide)) (by decide)) x2.toInt (Int.le_refl _) (fun u0 u1 hq g0 g1 => ih u0 u1 (ms_up hm hq) g0 g1) hpost
  exact loop _ _ _ (ms_init_up _ _) hx2 k_a_walked
set_option maxRecDepth 20000 in
theorem s_wp_X7_shorten_2_0 {a_walked : Nat → Int32} {x1 : Int32} {post : (Nat → Int32) → Prop} (k_a_walked : ∀ j, iv 0 1000 (a_walked j)) (hx1 : iv 0 9 x1) (hpost : ∀ (a_walked : Nat → Int32), (∀ j, iv 0 1000 (a_walked j)) → post a_walked) : q_wp_X7_shorten_2_0 a_walked x1 post := by
  exact s_wp_X7_shorten_2_2 k_a_walked hx1 (iv_w (iv_lit (l := 0) (h := 0) (by decide)) (by decide)) hpost
-- wp_X7_walk_9
set_option maxRecDepth 20000 in
theorem s_wp_X7_walk_9_61 {P12 : Int32 → (Nat → Int32) → Prop} {P22 : Int32 → (Nat → Int32) → Prop} {a_walked : Nat → Int32} {lf_huts : Int32} {la_minutes : Nat → Int32} {x2 : Int32} {x3 : Int32} {post : (Nat → Int32) → Prop} (k_a_walked : ∀ j, iv 0 1000 (a_walked j)) (k_lf_huts : iv 1 9 lf_huts) (k_la_minutes : ∀ j, iv 0 9 (la_minutes j)) (hx2 : iv 0 8 x2) (hx3 : iv 0 8 x3) (m12 : Int) (hm12 : m12 ≤ x2.toInt) (hP12 : ∀ (x2 : Int32) (a_walked : Nat → Int32), m12 < x2.toInt → iv 0 9 x2 → (∀ j, iv 0 1000 (a_walked j)) → P12 x2 a_walked) (m22 : Int) (hm22 : m22 ≤ x3.toInt) (hP22 : ∀ (x3 : Int32) (a_walked : Nat → Int32), m22 < x3.toInt → iv 0 9 x3 → (∀ j, iv 0 1000 (a_walked j)) → P22 x3 a_walked) (hpost : ∀ (a_walked : Nat → Int32), (∀ j, iv 0 1000 (a_walked j)) → post a_walked) : q_wp_X7_walk_9_61 P12 P22 a_walked lf_huts la_minutes x2 x3 post := by
  intro w1 ew1
  have hw1 := iv_eq ew1 (iv_add (l := 1) (h := 9) hx3 (iv_lit (l := 1) (h := 1) (by decide)) (by decide))
  exact hP22 _ _ (ml_up hm22 (inc_lt ew1 hx3 (by decide))) (iv_w hw1 (by decide)) k_a_walked
set_option maxRecDepth 20000 in
theorem s_wp_X7_walk_9_22 {P12 : Int32 → (Nat → Int32) → Prop} {a_walked : Nat → Int32} {lf_huts : Int32} {la_minutes : Nat → Int32} {x2 : Int32} {x3 : Int32} {post : (Nat → Int32) → Prop} (k_a_walked : ∀ j, iv 0 1000 (a_walked j)) (k_lf_huts : iv 1 9 lf_huts) (k_la_minutes : ∀ j, iv 0 9 (la_minutes j)) (hx2 : iv 0 8 x2) (hx3 : iv 0 9 x3) (m12 : Int) (hm12 : m12 ≤ x2.toInt) (hP12 : ∀ (x2 : Int32) (a_walked : Nat → Int32), m12 < x2.toInt → iv 0 9 x2 → (∀ j, iv 0 1000 (a_walked j)) → P12 x2 a_walked) (hpost : ∀ (a_walked : Nat → Int32), (∀ j, iv 0 1000 (a_walked j)) → post a_walked) : q_wp_X7_walk_9_22 P12 a_walked lf_huts la_minutes x2 x3 post := by
  intro P hP
  have loop : ∀ (n : Nat) (x3 : Int32) (a_walked : Nat → Int32), (9 - x3.toInt < (n : Int)) → (iv 0 9 x3) → (∀ j, iv 0 1000 (a_walked j)) → P x3 a_walked := by
    intro n
    induction n with
    | zero => intro x3 a_walked hm hx3 k_a_walked; exact (ms0_up hm hx3).elim
    | succ n ih =>
      intro x3 a_walked hm hx3 k_a_walked
      apply hP
      refine ⟨fun c1 => ?_, fun c1 => ?_⟩
      · skip
        refine ⟨iv_in (iv_add (l := 0) (h := 80) (iv_mul (l := 0) (h := 72) hx2 (iv_lit (l := 9) (h := 9) (by decide)) (by decide)) hx2 (by decide)) (by decide), ?_⟩
        intro a2 ea2
        have k_a2 := iv_upd ea2 k_a_walked (iv_w (iv_lit (l := 0) (h := 0) (by decide)) (by decide))
        intro w3 ew3
        have hw3 := iv_eq ew3 (iv_add (l := 1) (h := 9) hx2 (iv_lit (l := 1) (h := 1) (by decide)) (by decide))
        exact hP12 _ _ (ml_up hm12 (inc_lt ew3 hx2 (by decide))) (iv_w hw3 (by decide)) k_a2
      · skip
        refine ⟨iv_in (iv_add (l := 0) (h := 80) (iv_mul (l := 0) (h := 72) hx2 (iv_lit (l := 9) (h := 9) (by decide)) (by decide)) (iv_lta (l := 0) (h := 8) (r_nle c1) hx3 k_lf_huts (by decide)) (by decide)) (by decide), ?_⟩
        intro w4 ew4
        have hw4 := iv_eq ew4 (k_la_minutes _)
        refine ⟨fun c5 => ?_, fun c5 => ?_⟩
        · skip
          exact s_wp_X7_walk_9_61 k_a_walked k_lf_huts k_la_minutes hx2 (iv_lta (l := 0) (h := 8) (r_nle c1) hx3 k_lf_huts (by decide)) m12 hm12 hP12 x3.toInt (Int.le_refl _) (fun u0 u1 hq g0 g1 => ih u0 u1 (ms_up hm hq) g0 g1) hpost
        · skip
          refine ⟨iv_in (iv_add (l := 0) (h := 80) (iv_mul (l := 0) (h := 72) hx2 (iv_lit (l := 9) (h := 9) (by decide)) (by decide)) (iv_lta (l := 0) (h := 8) (r_nle c1) hx3 k_lf_huts (by decide)) (by decide)) (by decide), ?_⟩
          intro a6 ea6
          have k_a6 := iv_upd ea6 k_a_walked (iv_w (iv_ltb (l := 1) (h := 9) (r_nle c5) (iv_lit (l := 0) (h := 0) (by decide)) hw4 (by decide)) (by decide))
          exact s_wp_X7_walk_9_61 k_a6 k_lf_huts k_la_minutes hx2 (iv_lta (l := 0) (h := 8) (r_nle c1) hx3 k_lf_huts (by decide)) m12 hm12 hP12 x3.toInt (Int.le_refl _) (fun u0 u1 hq g0 g1 => ih u0 u1 (ms_up hm hq) g0 g1) hpost
  exact loop _ _ _ (ms_init_up _ _) hx3 k_a_walked
set_option maxRecDepth 20000 in
theorem s_wp_X7_walk_9_12 {a_walked : Nat → Int32} {lf_huts : Int32} {la_minutes : Nat → Int32} {x2 : Int32} {post : (Nat → Int32) → Prop} (k_a_walked : ∀ j, iv 0 1000 (a_walked j)) (k_lf_huts : iv 0 9 lf_huts) (k_la_minutes : ∀ j, iv 0 9 (la_minutes j)) (hx2 : iv 0 9 x2) (hpost : ∀ (a_walked : Nat → Int32), (∀ j, iv 0 1000 (a_walked j)) → post a_walked) : q_wp_X7_walk_9_12 a_walked lf_huts la_minutes x2 post := by
  intro P hP
  have loop : ∀ (n : Nat) (x2 : Int32) (a_walked : Nat → Int32), (9 - x2.toInt < (n : Int)) → (iv 0 9 x2) → (∀ j, iv 0 1000 (a_walked j)) → P x2 a_walked := by
    intro n
    induction n with
    | zero => intro x2 a_walked hm hx2 k_a_walked; exact (ms0_up hm hx2).elim
    | succ n ih =>
      intro x2 a_walked hm hx2 k_a_walked
      apply hP
      refine ⟨fun c1 => ?_, fun c1 => ?_⟩
      · skip
        refine s_wp_X7_shorten_2_0 k_a_walked k_lf_huts (fun o2 k_o2 => ?_)
        exact hpost _ k_o2
      · skip
        exact s_wp_X7_walk_9_22 k_a_walked (iv_ltb (l := 1) (h := 9) (r_nle c1) hx2 k_lf_huts (by decide)) k_la_minutes (iv_lta (l := 0) (h := 8) (r_nle c1) hx2 k_lf_huts (by decide)) (iv_w (iv_lit (l := 0) (h := 0) (by decide)) (by decide)) x2.toInt (Int.le_refl _) (fun u0 u1 hq g0 g1 => ih u0 u1 (ms_up hm hq) g0 g1) hpost
  exact loop _ _ _ (ms_init_up _ _) hx2 k_a_walked
set_option maxRecDepth 20000 in
theorem s_wp_X7_walk_9_0 {a_walked : Nat → Int32} {lf_huts : Int32} {la_minutes : Nat → Int32} {post : (Nat → Int32) → Prop} (k_a_walked : ∀ j, iv 0 1000 (a_walked j)) (k_lf_huts : iv 0 9 lf_huts) (k_la_minutes : ∀ j, iv 0 9 (la_minutes j)) (hpost : ∀ (a_walked : Nat → Int32), (∀ j, iv 0 1000 (a_walked j)) → post a_walked) : q_wp_X7_walk_9_0 a_walked lf_huts la_minutes post := by
  refine s_wp_J7_fill_53178_2_0 k_a_walked (iv_lit (l := 1000) (h := 1000) (by decide)) (fun o1 k_o1 => ?_)
  exact s_wp_X7_walk_9_12 k_o1 k_lf_huts k_la_minutes (iv_w (iv_lit (l := 0) (h := 0) (by decide)) (by decide)) hpost
-- wp_X7_link_9
set_option maxRecDepth 20000 in
theorem s_wp_X7_link_9_64 {P2 : Int32 → (Nat → Int32) → Prop} {P35 : Int32 → (Nat → Int32) → Prop} {a_next : Nat → Int32} {lf_huts : Int32} {lf_dams : Int32} {lf_echoes : Int32} {la_heights : Nat → Int32} {la_minutes : Nat → Int32} {la_echoFrom : Nat → Int32} {la_echoTo : Nat → Int32} {x2 : Int32} {x3 : Int32} {post : (Nat → Int32) → Prop} (k_a_next : ∀ j, iv 0 511 (a_next j)) (k_lf_huts : iv 1 9 lf_huts) (k_lf_dams : iv 0 511 lf_dams) (k_lf_echoes : iv 0 4 lf_echoes) (k_la_heights : ∀ j, iv 0 99 (la_heights j)) (k_la_minutes : ∀ j, iv 0 9 (la_minutes j)) (k_la_echoFrom : ∀ j, iv 0 8 (la_echoFrom j)) (k_la_echoTo : ∀ j, iv 0 8 (la_echoTo j)) (hx2 : iv 0 8 x2) (hx3 : iv 0 8 x3) (m2 : Int) (hm2 : m2 ≤ x2.toInt) (hP2 : ∀ (x2 : Int32) (a_next : Nat → Int32), m2 < x2.toInt → iv 0 9 x2 → (∀ j, iv 0 511 (a_next j)) → P2 x2 a_next) (m35 : Int) (hm35 : m35 ≤ x3.toInt) (hP35 : ∀ (x3 : Int32) (a_next : Nat → Int32), m35 < x3.toInt → iv 0 9 x3 → (∀ j, iv 0 511 (a_next j)) → P35 x3 a_next) (hpost : ∀ (a_next : Nat → Int32), (∀ j, iv 0 511 (a_next j)) → post a_next) : q_wp_X7_link_9_64 P2 P35 a_next lf_huts lf_dams lf_echoes la_heights la_minutes la_echoFrom la_echoTo x2 x3 post := by
  intro w1 ew1
  have hw1 := iv_eq ew1 (iv_add (l := 1) (h := 9) hx3 (iv_lit (l := 1) (h := 1) (by decide)) (by decide))
  exact hP35 _ _ (ml_up hm35 (inc_lt ew1 hx3 (by decide))) (iv_w hw1 (by decide)) k_a_next
set_option maxRecDepth 20000 in
theorem s_wp_X7_link_9_35 {P2 : Int32 → (Nat → Int32) → Prop} {a_next : Nat → Int32} {lf_huts : Int32} {lf_dams : Int32} {lf_echoes : Int32} {la_heights : Nat → Int32} {la_minutes : Nat → Int32} {la_echoFrom : Nat → Int32} {la_echoTo : Nat → Int32} {x2 : Int32} {x3 : Int32} {post : (Nat → Int32) → Prop} (k_a_next : ∀ j, iv 0 511 (a_next j)) (k_lf_huts : iv 1 9 lf_huts) (k_lf_dams : iv 0 511 lf_dams) (k_lf_echoes : iv 0 4 lf_echoes) (k_la_heights : ∀ j, iv 0 99 (la_heights j)) (k_la_minutes : ∀ j, iv 0 9 (la_minutes j)) (k_la_echoFrom : ∀ j, iv 0 8 (la_echoFrom j)) (k_la_echoTo : ∀ j, iv 0 8 (la_echoTo j)) (hx2 : iv 0 8 x2) (hx3 : iv 0 9 x3) (m2 : Int) (hm2 : m2 ≤ x2.toInt) (hP2 : ∀ (x2 : Int32) (a_next : Nat → Int32), m2 < x2.toInt → iv 0 9 x2 → (∀ j, iv 0 511 (a_next j)) → P2 x2 a_next) (hpost : ∀ (a_next : Nat → Int32), (∀ j, iv 0 511 (a_next j)) → post a_next) : q_wp_X7_link_9_35 P2 a_next lf_huts lf_dams lf_echoes la_heights la_minutes la_echoFrom la_echoTo x2 x3 post := by
  intro P hP
  have loop : ∀ (n : Nat) (x3 : Int32) (a_next : Nat → Int32), (9 - x3.toInt < (n : Int)) → (iv 0 9 x3) → (∀ j, iv 0 511 (a_next j)) → P x3 a_next := by
    intro n
    induction n with
    | zero => intro x3 a_next hm hx3 k_a_next; exact (ms0_up hm hx3).elim
    | succ n ih =>
      intro x3 a_next hm hx3 k_a_next
      apply hP
      refine ⟨fun c1 => ?_, fun c1 => ?_⟩
      · skip
        intro w2 ew2
        have hw2 := iv_eq ew2 (iv_add (l := 1) (h := 9) hx2 (iv_lit (l := 1) (h := 1) (by decide)) (by decide))
        exact hP2 _ _ (ml_up hm2 (inc_lt ew2 hx2 (by decide))) (iv_w hw2 (by decide)) k_a_next
      · skip
        refine ⟨iv_in (iv_add (l := 0) (h := 80) (iv_mul (l := 0) (h := 72) hx2 (iv_lit (l := 9) (h := 9) (by decide)) (by decide)) (iv_lta (l := 0) (h := 8) (r_nle c1) hx3 k_lf_huts (by decide)) (by decide)) (by decide), ?_⟩
        refine ⟨fun c3 => ?_, fun c3 => ?_⟩
        · skip
          refine ⟨fun c4 => ?_, fun c4 => ?_⟩
          · skip
            exact s_wp_X7_link_9_64 k_a_next k_lf_huts k_lf_dams k_lf_echoes k_la_heights k_la_minutes k_la_echoFrom k_la_echoTo hx2 (iv_lta (l := 0) (h := 8) (r_nle c1) hx3 k_lf_huts (by decide)) m2 hm2 hP2 x3.toInt (Int.le_refl _) (fun u0 u1 hq g0 g1 => ih u0 u1 (ms_up hm hq) g0 g1) hpost
          · skip
            exact (iv_emp (iv_ne (l := 1) (h := 0) c4 (iv_lit (l := 0) (h := 0) (by decide)) (iv_lit (l := 0) (h := 0) (by decide)) (by decide)) (by decide)).elim
        · skip
          refine ⟨iv_in (iv_lta (l := 0) (h := 8) (r_nle c1) hx3 k_lf_huts (by decide)) (by decide), ?_⟩
          refine ⟨iv_in hx2 (by decide), ?_⟩
          refine ⟨fun c5 => ?_, fun c5 => ?_⟩
          · skip
            refine ⟨fun c6 => ?_, fun c6 => ?_⟩
            · skip
              exact s_wp_X7_link_9_64 k_a_next k_lf_huts k_lf_dams k_lf_echoes k_la_heights k_la_minutes k_la_echoFrom k_la_echoTo hx2 (iv_lta (l := 0) (h := 8) (r_nle c1) hx3 k_lf_huts (by decide)) m2 hm2 hP2 x3.toInt (Int.le_refl _) (fun u0 u1 hq g0 g1 => ih u0 u1 (ms_up hm hq) g0 g1) hpost
            · skip
              exact (iv_emp (iv_ne (l := 1) (h := 0) c6 (iv_lit (l := 0) (h := 0) (by decide)) (iv_lit (l := 0) (h := 0) (by decide)) (by decide)) (by decide)).elim
          · skip
            refine ⟨fun c7 => ?_, fun c7 => ?_⟩
            · skip
              refine ⟨fun c8 => ?_, fun c8 => ?_⟩
              · skip
                exact (iv_emp (iv_ne (l := 1) (h := 0) c8 (iv_lit (l := 0) (h := 0) (by decide)) (iv_lit (l := 0) (h := 0) (by decide)) (by decide)) (by decide)).elim
              · skip
                refine ⟨fun c9 => ?_, fun c9 => ?_⟩
                · skip
                  refine ⟨fun c10 => ?_, fun c10 => ?_⟩
                  · skip
                    exact (iv_emp (iv_ne (l := 1) (h := 0) c10 (iv_lit (l := 0) (h := 0) (by decide)) (iv_lit (l := 0) (h := 0) (by decide)) (by decide)) (by decide)).elim
                  · skip
                    refine ⟨fun c11 => ?_, fun c11 => ?_⟩
                    · skip
                      exact (iv_emp (iv_eqa (l := 1) (h := 0) c11 (iv_lit (l := 1) (h := 1) (by decide)) (iv_lit (l := 0) (h := 0) (by decide)) (by decide)) (by decide)).elim
                    · skip
                      refine ⟨iv_in hx2 (by decide), ?_⟩
                      intro w12 ew12
                      have hw12 := iv_eq ew12 (iv_or 9 (l := 0) (h := 511) (k_a_next _) (iv_shl1 (l := 1) (h := 256) (iv_lit (l := 1) (h := 1) (by decide)) (iv_lta (l := 0) (h := 8) (r_nle c1) hx3 k_lf_huts (by decide)) (by decide)) (by decide))
                      refine ⟨iv_in hx2 (by decide), ?_⟩
                      intro a13 ea13
                      have k_a13 := iv_upd ea13 k_a_next hw12
                      exact s_wp_X7_link_9_64 k_a13 k_lf_huts k_lf_dams k_lf_echoes k_la_heights k_la_minutes k_la_echoFrom k_la_echoTo hx2 (iv_lta (l := 0) (h := 8) (r_nle c1) hx3 k_lf_huts (by decide)) m2 hm2 hP2 x3.toInt (Int.le_refl _) (fun u0 u1 hq g0 g1 => ih u0 u1 (ms_up hm hq) g0 g1) hpost
                · skip
                  refine ⟨fun c14 => ?_, fun c14 => ?_⟩
                  · skip
                    refine ⟨fun c15 => ?_, fun c15 => ?_⟩
                    · skip
                      exact s_wp_X7_link_9_64 k_a_next k_lf_huts k_lf_dams k_lf_echoes k_la_heights k_la_minutes k_la_echoFrom k_la_echoTo hx2 (iv_lta (l := 0) (h := 8) (r_nle c1) hx3 k_lf_huts (by decide)) m2 hm2 hP2 x3.toInt (Int.le_refl _) (fun u0 u1 hq g0 g1 => ih u0 u1 (ms_up hm hq) g0 g1) hpost
                    · skip
                      exact (iv_emp (iv_ne (l := 1) (h := 0) c15 (iv_lit (l := 0) (h := 0) (by decide)) (iv_lit (l := 0) (h := 0) (by decide)) (by decide)) (by decide)).elim
                  · skip
                    exact (iv_emp (iv_eqa (l := 1) (h := 0) c14 (iv_lit (l := 1) (h := 1) (by decide)) (iv_lit (l := 0) (h := 0) (by decide)) (by decide)) (by decide)).elim
            · skip
              refine ⟨fun c16 => ?_, fun c16 => ?_⟩
              · skip
                refine ⟨fun c17 => ?_, fun c17 => ?_⟩
                · skip
                  exact s_wp_X7_link_9_64 k_a_next k_lf_huts k_lf_dams k_lf_echoes k_la_heights k_la_minutes k_la_echoFrom k_la_echoTo hx2 (iv_lta (l := 0) (h := 8) (r_nle c1) hx3 k_lf_huts (by decide)) m2 hm2 hP2 x3.toInt (Int.le_refl _) (fun u0 u1 hq g0 g1 => ih u0 u1 (ms_up hm hq) g0 g1) hpost
                · skip
                  exact (iv_emp (iv_ne (l := 1) (h := 0) c17 (iv_lit (l := 0) (h := 0) (by decide)) (iv_lit (l := 0) (h := 0) (by decide)) (by decide)) (by decide)).elim
              · skip
                exact (iv_emp (iv_eqa (l := 1) (h := 0) c16 (iv_lit (l := 1) (h := 1) (by decide)) (iv_lit (l := 0) (h := 0) (by decide)) (by decide)) (by decide)).elim
  exact loop _ _ _ (ms_init_up _ _) hx3 k_a_next
set_option maxRecDepth 20000 in
theorem s_wp_X7_link_9_32 {P2 : Int32 → (Nat → Int32) → Prop} {a_next : Nat → Int32} {lf_huts : Int32} {lf_dams : Int32} {lf_echoes : Int32} {la_heights : Nat → Int32} {la_minutes : Nat → Int32} {la_echoFrom : Nat → Int32} {la_echoTo : Nat → Int32} {x2 : Int32} {y0 : Int32} {y1 : Int32} {post : (Nat → Int32) → Prop} (k_a_next : ∀ j, iv 0 511 (a_next j)) (k_lf_huts : iv 1 9 lf_huts) (k_lf_dams : iv 0 511 lf_dams) (k_lf_echoes : iv 0 4 lf_echoes) (k_la_heights : ∀ j, iv 0 99 (la_heights j)) (k_la_minutes : ∀ j, iv 0 9 (la_minutes j)) (k_la_echoFrom : ∀ j, iv 0 8 (la_echoFrom j)) (k_la_echoTo : ∀ j, iv 0 8 (la_echoTo j)) (hx2 : iv 0 8 x2) (hy0 : iv 0 8 y0) (hy1 : iv 0 511 y1) (m2 : Int) (hm2 : m2 ≤ x2.toInt) (hP2 : ∀ (x2 : Int32) (a_next : Nat → Int32), m2 < x2.toInt → iv 0 9 x2 → (∀ j, iv 0 511 (a_next j)) → P2 x2 a_next) (hpost : ∀ (a_next : Nat → Int32), (∀ j, iv 0 511 (a_next j)) → post a_next) : q_wp_X7_link_9_32 P2 a_next lf_huts lf_dams lf_echoes la_heights la_minutes la_echoFrom la_echoTo x2 y0 y1 post := by
  refine ⟨iv_in hy0 (by decide), ?_⟩
  intro a1 ea1
  have k_a1 := iv_upd ea1 k_a_next hy1
  exact s_wp_X7_link_9_35 k_a1 k_lf_huts k_lf_dams k_lf_echoes k_la_heights k_la_minutes k_la_echoFrom k_la_echoTo hx2 (iv_w (iv_lit (l := 0) (h := 0) (by decide)) (by decide)) m2 hm2 hP2 hpost
set_option maxRecDepth 20000 in
theorem s_wp_X7_link_9_2 {a_next : Nat → Int32} {lf_huts : Int32} {lf_dams : Int32} {lf_echoes : Int32} {la_heights : Nat → Int32} {la_minutes : Nat → Int32} {la_echoFrom : Nat → Int32} {la_echoTo : Nat → Int32} {x2 : Int32} {post : (Nat → Int32) → Prop} (k_a_next : ∀ j, iv 0 511 (a_next j)) (k_lf_huts : iv 1 9 lf_huts) (k_lf_dams : iv 0 511 lf_dams) (k_lf_echoes : iv 0 4 lf_echoes) (k_la_heights : ∀ j, iv 0 99 (la_heights j)) (k_la_minutes : ∀ j, iv 0 9 (la_minutes j)) (k_la_echoFrom : ∀ j, iv 0 8 (la_echoFrom j)) (k_la_echoTo : ∀ j, iv 0 8 (la_echoTo j)) (hx2 : iv 0 9 x2) (hpost : ∀ (a_next : Nat → Int32), (∀ j, iv 0 511 (a_next j)) → post a_next) : q_wp_X7_link_9_2 a_next lf_huts lf_dams lf_echoes la_heights la_minutes la_echoFrom la_echoTo x2 post := by
  intro P hP
  have loop : ∀ (n : Nat) (x2 : Int32) (a_next : Nat → Int32), (9 - x2.toInt < (n : Int)) → (iv 0 9 x2) → (∀ j, iv 0 511 (a_next j)) → P x2 a_next := by
    intro n
    induction n with
    | zero => intro x2 a_next hm hx2 k_a_next; exact (ms0_up hm hx2).elim
    | succ n ih =>
      intro x2 a_next hm hx2 k_a_next
      apply hP
      refine ⟨fun c1 => ?_, fun c1 => ?_⟩
      · skip
        exact hpost _ k_a_next
      · skip
        refine ⟨fun c2 => ?_, fun c2 => ?_⟩
        · skip
          refine ⟨fun c3 => ?_, fun c3 => ?_⟩
          · skip
            refine s_wl_X2_earshot_0 k_lf_dams k_lf_echoes k_la_echoFrom k_la_echoTo (iv_lta (l := 0) (h := 8) (r_nle c1) hx2 k_lf_huts (by decide)) (fun r4 hr4 => ?_)
            exact s_wp_X7_link_9_32 k_a_next k_lf_huts k_lf_dams k_lf_echoes k_la_heights k_la_minutes k_la_echoFrom k_la_echoTo (iv_lta (l := 0) (h := 8) (r_nle c1) hx2 k_lf_huts (by decide)) (iv_lta (l := 0) (h := 8) (r_nle c1) hx2 k_lf_huts (by decide)) hr4 x2.toInt (Int.le_refl _) (fun u0 u1 hq g0 g1 => ih u0 u1 (ms_up hm hq) g0 g1) hpost
          · skip
            exact (iv_emp (iv_ne (l := 1) (h := 0) c3 (iv_lit (l := 0) (h := 0) (by decide)) (iv_lit (l := 0) (h := 0) (by decide)) (by decide)) (by decide)).elim
        · skip
          refine ⟨fun c5 => ?_, fun c5 => ?_⟩
          · skip
            exact (iv_emp (iv_eqa (l := 1) (h := 0) c5 (iv_lit (l := 1) (h := 1) (by decide)) (iv_lit (l := 0) (h := 0) (by decide)) (by decide)) (by decide)).elim
          · skip
            exact s_wp_X7_link_9_32 k_a_next k_lf_huts k_lf_dams k_lf_echoes k_la_heights k_la_minutes k_la_echoFrom k_la_echoTo (iv_lta (l := 0) (h := 8) (r_nle c1) hx2 k_lf_huts (by decide)) (iv_lta (l := 0) (h := 8) (r_nle c1) hx2 k_lf_huts (by decide)) (iv_w (iv_lit (l := 0) (h := 0) (by decide)) (by decide)) x2.toInt (Int.le_refl _) (fun u0 u1 hq g0 g1 => ih u0 u1 (ms_up hm hq) g0 g1) hpost
  exact loop _ _ _ (ms_init_up _ _) hx2 k_a_next
set_option maxRecDepth 20000 in
theorem s_wp_X7_link_9_0 {a_next : Nat → Int32} {lf_huts : Int32} {lf_dams : Int32} {lf_echoes : Int32} {la_heights : Nat → Int32} {la_minutes : Nat → Int32} {la_echoFrom : Nat → Int32} {la_echoTo : Nat → Int32} {post : (Nat → Int32) → Prop} (k_a_next : ∀ j, iv 0 511 (a_next j)) (k_lf_huts : iv 1 9 lf_huts) (k_lf_dams : iv 0 511 lf_dams) (k_lf_echoes : iv 0 4 lf_echoes) (k_la_heights : ∀ j, iv 0 99 (la_heights j)) (k_la_minutes : ∀ j, iv 0 9 (la_minutes j)) (k_la_echoFrom : ∀ j, iv 0 8 (la_echoFrom j)) (k_la_echoTo : ∀ j, iv 0 8 (la_echoTo j)) (hpost : ∀ (a_next : Nat → Int32), (∀ j, iv 0 511 (a_next j)) → post a_next) : q_wp_X7_link_9_0 a_next lf_huts lf_dams lf_echoes la_heights la_minutes la_echoFrom la_echoTo post := by
  exact s_wp_X7_link_9_2 k_a_next k_lf_huts k_lf_dams k_lf_echoes k_la_heights k_la_minutes k_la_echoFrom k_la_echoTo (iv_w (iv_lit (l := 0) (h := 0) (by decide)) (by decide)) hpost
-- wp_X7_lastVillage_9
set_option maxRecDepth 20000 in
theorem s_wp_X7_lastVillage_9_52 {P5 : Int32 → Int32 → Prop} {a_heard : Nat → Int32} {lf_huts : Int32} {lf_villages : Int32} {lf_dams : Int32} {x2 : Int32} {x3 : Int32} {x4 : Int32} {post : Int32 → Prop} (k_a_heard : ∀ j, iv 0 1000 (a_heard j)) (k_lf_huts : iv 1 9 lf_huts) (k_lf_villages : iv 0 511 lf_villages) (k_lf_dams : iv 0 511 lf_dams) (hx2 : iv 0 8 x2) (hx3 : iv 0 1000 x3) (hx4 : iv 0 8 x4) (m5 : Int) (hm5 : m5 ≤ x4.toInt) (hP5 : ∀ (x3 : Int32) (x4 : Int32), m5 < x4.toInt → iv 0 1000 x3 → iv 0 9 x4 → P5 x3 x4) (hpost : ∀ (r : Int32), iv 0 1000 r → post r) : q_wp_X7_lastVillage_9_52 P5 a_heard lf_huts lf_villages lf_dams x2 x3 x4 post := by
  intro w1 ew1
  have hw1 := iv_eq ew1 (iv_add (l := 1) (h := 9) hx4 (iv_lit (l := 1) (h := 1) (by decide)) (by decide))
  exact hP5 _ _ (ml_up hm5 (inc_lt ew1 hx4 (by decide))) hx3 (iv_w hw1 (by decide))
set_option maxRecDepth 20000 in
theorem s_wp_X7_lastVillage_9_5 {a_heard : Nat → Int32} {lf_huts : Int32} {lf_villages : Int32} {lf_dams : Int32} {x2 : Int32} {x3 : Int32} {x4 : Int32} {post : Int32 → Prop} (k_a_heard : ∀ j, iv 0 1000 (a_heard j)) (k_lf_huts : iv 0 9 lf_huts) (k_lf_villages : iv 0 511 lf_villages) (k_lf_dams : iv 0 511 lf_dams) (hx2 : iv 0 8 x2) (hx3 : iv 0 1000 x3) (hx4 : iv 0 9 x4) (hpost : ∀ (r : Int32), iv 0 1000 r → post r) : q_wp_X7_lastVillage_9_5 a_heard lf_huts lf_villages lf_dams x2 x3 x4 post := by
  intro P hP
  have loop : ∀ (n : Nat) (x3 : Int32) (x4 : Int32), (9 - x4.toInt < (n : Int)) → (iv 0 1000 x3) → (iv 0 9 x4) → P x3 x4 := by
    intro n
    induction n with
    | zero => intro x3 x4 hm hx3 hx4; exact (ms0_up hm hx4).elim
    | succ n ih =>
      intro x3 x4 hm hx3 hx4
      apply hP
      refine ⟨fun c1 => ?_, fun c1 => ?_⟩
      · skip
        exact hpost _ hx3
      · skip
        refine ⟨fun c2 => ?_, fun c2 => ?_⟩
        · skip
          refine ⟨fun c3 => ?_, fun c3 => ?_⟩
          · skip
            exact s_wp_X7_lastVillage_9_52 k_a_heard (iv_ltb (l := 1) (h := 9) (r_nle c1) hx4 k_lf_huts (by decide)) k_lf_villages k_lf_dams hx2 hx3 (iv_lta (l := 0) (h := 8) (r_nle c1) hx4 k_lf_huts (by decide)) x4.toInt (Int.le_refl _) (fun u0 u1 hq g0 g1 => ih u0 u1 (ms_up hm hq) g0 g1) hpost
          · skip
            exact (iv_emp (iv_ne (l := 1) (h := 0) c3 (iv_lit (l := 0) (h := 0) (by decide)) (iv_lit (l := 0) (h := 0) (by decide)) (by decide)) (by decide)).elim
        · skip
          refine ⟨fun c4 => ?_, fun c4 => ?_⟩
          · skip
            exact (iv_emp (iv_eqa (l := 1) (h := 0) c4 (iv_lit (l := 1) (h := 1) (by decide)) (iv_lit (l := 0) (h := 0) (by decide)) (by decide)) (by decide)).elim
          · skip
            refine ⟨fun c5 => ?_, fun c5 => ?_⟩
            · skip
              refine ⟨fun c6 => ?_, fun c6 => ?_⟩
              · skip
                exact (iv_emp (iv_ne (l := 1) (h := 0) c6 (iv_lit (l := 0) (h := 0) (by decide)) (iv_lit (l := 0) (h := 0) (by decide)) (by decide)) (by decide)).elim
              · skip
                refine ⟨iv_in (iv_add (l := 0) (h := 80) (iv_mul (l := 0) (h := 72) hx2 (iv_lit (l := 9) (h := 9) (by decide)) (by decide)) (iv_lta (l := 0) (h := 8) (r_nle c1) hx4 k_lf_huts (by decide)) (by decide)) (by decide), ?_⟩
                intro w7 ew7
                have hw7 := iv_eq ew7 (iv_max (l := 0) (h := 1000) hx3 (k_a_heard _) (by decide))
                exact s_wp_X7_lastVillage_9_52 k_a_heard (iv_ltb (l := 1) (h := 9) (r_nle c1) hx4 k_lf_huts (by decide)) k_lf_villages k_lf_dams hx2 hw7 (iv_lta (l := 0) (h := 8) (r_nle c1) hx4 k_lf_huts (by decide)) x4.toInt (Int.le_refl _) (fun u0 u1 hq g0 g1 => ih u0 u1 (ms_up hm hq) g0 g1) hpost
            · skip
              refine ⟨fun c8 => ?_, fun c8 => ?_⟩
              · skip
                exact s_wp_X7_lastVillage_9_52 k_a_heard (iv_ltb (l := 1) (h := 9) (r_nle c1) hx4 k_lf_huts (by decide)) k_lf_villages k_lf_dams hx2 hx3 (iv_lta (l := 0) (h := 8) (r_nle c1) hx4 k_lf_huts (by decide)) x4.toInt (Int.le_refl _) (fun u0 u1 hq g0 g1 => ih u0 u1 (ms_up hm hq) g0 g1) hpost
              · skip
                exact (iv_emp (iv_eqa (l := 1) (h := 0) c8 (iv_lit (l := 1) (h := 1) (by decide)) (iv_lit (l := 0) (h := 0) (by decide)) (by decide)) (by decide)).elim
  exact loop _ _ _ (ms_init_up _ _) hx3 hx4
set_option maxRecDepth 20000 in
theorem s_wp_X7_lastVillage_9_0 {a_heard : Nat → Int32} {lf_huts : Int32} {lf_villages : Int32} {lf_dams : Int32} {x2 : Int32} {post : Int32 → Prop} (k_a_heard : ∀ j, iv 0 1000 (a_heard j)) (k_lf_huts : iv 0 9 lf_huts) (k_lf_villages : iv 0 511 lf_villages) (k_lf_dams : iv 0 511 lf_dams) (hx2 : iv 0 8 x2) (hpost : ∀ (r : Int32), iv 0 1000 r → post r) : q_wp_X7_lastVillage_9_0 a_heard lf_huts lf_villages lf_dams x2 post := by
  exact s_wp_X7_lastVillage_9_5 k_a_heard k_lf_huts k_lf_villages k_lf_dams hx2 (iv_w (iv_lit (l := 0) (h := 0) (by decide)) (by decide)) (iv_w (iv_lit (l := 0) (h := 0) (by decide)) (by decide)) hpost
-- wp_X7_allBy_9
set_option maxRecDepth 20000 in
theorem s_wp_X7_allBy_9_41 {P5 : Int32 → Int32 → Prop} {a_heard : Nat → Int32} {lf_huts : Int32} {lf_villages : Int32} {lf_dams : Int32} {x2 : Int32} {x3 : Int32} {x4 : Int32} {post : Int32 → Prop} (k_a_heard : ∀ j, iv 0 1000 (a_heard j)) (k_lf_huts : iv 1 9 lf_huts) (k_lf_villages : iv 0 511 lf_villages) (k_lf_dams : iv 0 511 lf_dams) (hx2 : iv 0 99 x2) (hx3 : iv 0 511 x3) (hx4 : iv 0 8 x4) (m5 : Int) (hm5 : m5 ≤ x4.toInt) (hP5 : ∀ (x3 : Int32) (x4 : Int32), m5 < x4.toInt → iv 0 511 x3 → iv 0 9 x4 → P5 x3 x4) (hpost : ∀ (r : Int32), iv 0 511 r → post r) : q_wp_X7_allBy_9_41 P5 a_heard lf_huts lf_villages lf_dams x2 x3 x4 post := by
  intro w1 ew1
  have hw1 := iv_eq ew1 (iv_add (l := 1) (h := 9) hx4 (iv_lit (l := 1) (h := 1) (by decide)) (by decide))
  exact hP5 _ _ (ml_up hm5 (inc_lt ew1 hx4 (by decide))) hx3 (iv_w hw1 (by decide))
set_option maxRecDepth 20000 in
theorem s_wp_X7_allBy_9_5 {a_heard : Nat → Int32} {lf_huts : Int32} {lf_villages : Int32} {lf_dams : Int32} {x2 : Int32} {x3 : Int32} {x4 : Int32} {post : Int32 → Prop} (k_a_heard : ∀ j, iv 0 1000 (a_heard j)) (k_lf_huts : iv 0 9 lf_huts) (k_lf_villages : iv 0 511 lf_villages) (k_lf_dams : iv 0 511 lf_dams) (hx2 : iv 0 99 x2) (hx3 : iv 0 511 x3) (hx4 : iv 0 9 x4) (hpost : ∀ (r : Int32), iv 0 511 r → post r) : q_wp_X7_allBy_9_5 a_heard lf_huts lf_villages lf_dams x2 x3 x4 post := by
  intro P hP
  have loop : ∀ (n : Nat) (x3 : Int32) (x4 : Int32), (9 - x4.toInt < (n : Int)) → (iv 0 511 x3) → (iv 0 9 x4) → P x3 x4 := by
    intro n
    induction n with
    | zero => intro x3 x4 hm hx3 hx4; exact (ms0_up hm hx4).elim
    | succ n ih =>
      intro x3 x4 hm hx3 hx4
      apply hP
      refine ⟨fun c1 => ?_, fun c1 => ?_⟩
      · skip
        exact hpost _ hx3
      · skip
        refine ⟨fun c2 => ?_, fun c2 => ?_⟩
        · skip
          refine ⟨fun c3 => ?_, fun c3 => ?_⟩
          · skip
            exact (iv_emp (iv_ne (l := 1) (h := 0) c3 (iv_lit (l := 0) (h := 0) (by decide)) (iv_lit (l := 0) (h := 0) (by decide)) (by decide)) (by decide)).elim
          · skip
            refine s_wp_X7_lastVillage_9_0 k_a_heard (iv_w (iv_ltb (l := 1) (h := 9) (r_nle c1) hx4 k_lf_huts (by decide)) (by decide)) k_lf_villages k_lf_dams (iv_lta (l := 0) (h := 8) (r_nle c1) hx4 k_lf_huts (by decide)) (fun r4 hr4 => ?_)
            refine ⟨fun c5 => ?_, fun c5 => ?_⟩
            · skip
              exact s_wp_X7_allBy_9_41 k_a_heard (iv_ltb (l := 1) (h := 9) (r_nle c1) hx4 k_lf_huts (by decide)) k_lf_villages k_lf_dams hx2 hx3 (iv_lta (l := 0) (h := 8) (r_nle c1) hx4 k_lf_huts (by decide)) x4.toInt (Int.le_refl _) (fun u0 u1 hq g0 g1 => ih u0 u1 (ms_up hm hq) g0 g1) hpost
            · skip
              intro w6 ew6
              have hw6 := iv_eq ew6 (iv_or 9 (l := 0) (h := 511) hx3 (iv_shl1 (l := 1) (h := 256) (iv_lit (l := 1) (h := 1) (by decide)) (iv_lta (l := 0) (h := 8) (r_nle c1) hx4 k_lf_huts (by decide)) (by decide)) (by decide))
              exact s_wp_X7_allBy_9_41 k_a_heard (iv_ltb (l := 1) (h := 9) (r_nle c1) hx4 k_lf_huts (by decide)) k_lf_villages k_lf_dams hx2 hw6 (iv_lta (l := 0) (h := 8) (r_nle c1) hx4 k_lf_huts (by decide)) x4.toInt (Int.le_refl _) (fun u0 u1 hq g0 g1 => ih u0 u1 (ms_up hm hq) g0 g1) hpost
        · skip
          refine ⟨fun c7 => ?_, fun c7 => ?_⟩
          · skip
            exact s_wp_X7_allBy_9_41 k_a_heard (iv_ltb (l := 1) (h := 9) (r_nle c1) hx4 k_lf_huts (by decide)) k_lf_villages k_lf_dams hx2 hx3 (iv_lta (l := 0) (h := 8) (r_nle c1) hx4 k_lf_huts (by decide)) x4.toInt (Int.le_refl _) (fun u0 u1 hq g0 g1 => ih u0 u1 (ms_up hm hq) g0 g1) hpost
          · skip
            exact (iv_emp (iv_eqa (l := 1) (h := 0) c7 (iv_lit (l := 1) (h := 1) (by decide)) (iv_lit (l := 0) (h := 0) (by decide)) (by decide)) (by decide)).elim
  exact loop _ _ _ (ms_init_up _ _) hx3 hx4
set_option maxRecDepth 20000 in
theorem s_wp_X7_allBy_9_0 {a_heard : Nat → Int32} {lf_huts : Int32} {lf_villages : Int32} {lf_dams : Int32} {x2 : Int32} {post : Int32 → Prop} (k_a_heard : ∀ j, iv 0 1000 (a_heard j)) (k_lf_huts : iv 0 9 lf_huts) (k_lf_villages : iv 0 511 lf_villages) (k_lf_dams : iv 0 511 lf_dams) (hx2 : iv 0 99 x2) (hpost : ∀ (r : Int32), iv 0 511 r → post r) : q_wp_X7_allBy_9_0 a_heard lf_huts lf_villages lf_dams x2 post := by
  exact s_wp_X7_allBy_9_5 k_a_heard k_lf_huts k_lf_villages k_lf_dams hx2 (iv_w (iv_lit (l := 0) (h := 0) (by decide)) (by decide)) (iv_w (iv_lit (l := 0) (h := 0) (by decide)) (by decide)) hpost
-- wp_X7_bestHut_9
set_option maxRecDepth 20000 in
theorem s_wp_X7_bestHut_9_49 {P9 : Int32 → Int32 → Int32 → Prop} {a_heard : Nat → Int32} {lf_huts : Int32} {lf_villages : Int32} {lf_dams : Int32} {x2 : Int32} {x3 : Int32} {x4 : Int32} {post : Int32 → Prop} (k_a_heard : ∀ j, iv 0 1000 (a_heard j)) (k_lf_huts : iv 1 9 lf_huts) (k_lf_villages : iv 0 511 lf_villages) (k_lf_dams : iv 0 511 lf_dams) (hx2 : iv (-1) 8 x2) (hx3 : iv 0 1000 x3) (hx4 : iv 0 8 x4) (m9 : Int) (hm9 : m9 ≤ x4.toInt) (hP9 : ∀ (x2 : Int32) (x3 : Int32) (x4 : Int32), m9 < x4.toInt → iv (-1) 8 x2 → iv 0 1000 x3 → iv 0 9 x4 → P9 x2 x3 x4) (hpost : ∀ (r : Int32), iv (-1) 8 r → post r) : q_wp_X7_bestHut_9_49 P9 a_heard lf_huts lf_villages lf_dams x2 x3 x4 post := by
  intro w1 ew1
  have hw1 := iv_eq ew1 (iv_add (l := 1) (h := 9) hx4 (iv_lit (l := 1) (h := 1) (by decide)) (by decide))
  exact hP9 _ _ _ (ml_up hm9 (inc_lt ew1 hx4 (by decide))) hx2 hx3 (iv_w hw1 (by decide))
set_option maxRecDepth 20000 in
theorem s_wp_X7_bestHut_9_9 {a_heard : Nat → Int32} {lf_huts : Int32} {lf_villages : Int32} {lf_dams : Int32} {x2 : Int32} {x3 : Int32} {x4 : Int32} {post : Int32 → Prop} (k_a_heard : ∀ j, iv 0 1000 (a_heard j)) (k_lf_huts : iv 0 9 lf_huts) (k_lf_villages : iv 0 511 lf_villages) (k_lf_dams : iv 0 511 lf_dams) (hx2 : iv (-1) 8 x2) (hx3 : iv 0 1000 x3) (hx4 : iv 0 9 x4) (hpost : ∀ (r : Int32), iv (-1) 8 r → post r) : q_wp_X7_bestHut_9_9 a_heard lf_huts lf_villages lf_dams x2 x3 x4 post := by
  intro P hP
  have loop : ∀ (n : Nat) (x2 : Int32) (x3 : Int32) (x4 : Int32), (9 - x4.toInt < (n : Int)) → (iv (-1) 8 x2) → (iv 0 1000 x3) → (iv 0 9 x4) → P x2 x3 x4 := by
    intro n
    induction n with
    | zero => intro x2 x3 x4 hm hx2 hx3 hx4; exact (ms0_up hm hx4).elim
    | succ n ih =>
      intro x2 x3 x4 hm hx2 hx3 hx4
      apply hP
      refine ⟨fun c1 => ?_, fun c1 => ?_⟩
      · skip
        exact hpost _ hx2
      · skip
        refine ⟨fun c2 => ?_, fun c2 => ?_⟩
        · skip
          refine ⟨fun c3 => ?_, fun c3 => ?_⟩
          · skip
            exact (iv_emp (iv_ne (l := 1) (h := 0) c3 (iv_lit (l := 0) (h := 0) (by decide)) (iv_lit (l := 0) (h := 0) (by decide)) (by decide)) (by decide)).elim
          · skip
            refine s_wp_X7_lastVillage_9_0 k_a_heard (iv_w (iv_ltb (l := 1) (h := 9) (r_nle c1) hx4 k_lf_huts (by decide)) (by decide)) k_lf_villages k_lf_dams (iv_lta (l := 0) (h := 8) (r_nle c1) hx4 k_lf_huts (by decide)) (fun r4 hr4 => ?_)
            refine ⟨fun c5 => ?_, fun c5 => ?_⟩
            · skip
              exact s_wp_X7_bestHut_9_49 k_a_heard (iv_ltb (l := 1) (h := 9) (r_nle c1) hx4 k_lf_huts (by decide)) k_lf_villages k_lf_dams hx2 hx3 (iv_lta (l := 0) (h := 8) (r_nle c1) hx4 k_lf_huts (by decide)) x4.toInt (Int.le_refl _) (fun u0 u1 u2 hq g0 g1 g2 => ih u0 u1 u2 (ms_up hm hq) g0 g1 g2) hpost
            · skip
              refine s_wp_X7_lastVillage_9_0 k_a_heard (iv_w (iv_ltb (l := 1) (h := 9) (r_nle c1) hx4 k_lf_huts (by decide)) (by decide)) k_lf_villages k_lf_dams (iv_lta (l := 0) (h := 8) (r_nle c1) hx4 k_lf_huts (by decide)) (fun r6 hr6 => ?_)
              exact s_wp_X7_bestHut_9_49 k_a_heard (iv_ltb (l := 1) (h := 9) (r_nle c1) hx4 k_lf_huts (by decide)) k_lf_villages k_lf_dams (iv_w (iv_lta (l := 0) (h := 8) (r_nle c1) hx4 k_lf_huts (by decide)) (by decide)) hr6 (iv_lta (l := 0) (h := 8) (r_nle c1) hx4 k_lf_huts (by decide)) x4.toInt (Int.le_refl _) (fun u0 u1 u2 hq g0 g1 g2 => ih u0 u1 u2 (ms_up hm hq) g0 g1 g2) hpost
        · skip
          refine ⟨fun c7 => ?_, fun c7 => ?_⟩
          · skip
            exact s_wp_X7_bestHut_9_49 k_a_heard (iv_ltb (l := 1) (h := 9) (r_nle c1) hx4 k_lf_huts (by decide)) k_lf_villages k_lf_dams hx2 hx3 (iv_lta (l := 0) (h := 8) (r_nle c1) hx4 k_lf_huts (by decide)) x4.toInt (Int.le_refl _) (fun u0 u1 u2 hq g0 g1 g2 => ih u0 u1 u2 (ms_up hm hq) g0 g1 g2) hpost
          · skip
            exact (iv_emp (iv_eqa (l := 1) (h := 0) c7 (iv_lit (l := 1) (h := 1) (by decide)) (iv_lit (l := 0) (h := 0) (by decide)) (by decide)) (by decide)).elim
  exact loop _ _ _ _ (ms_init_up _ _) hx2 hx3 hx4
set_option maxRecDepth 20000 in
theorem s_wp_X7_bestHut_9_0 {a_heard : Nat → Int32} {lf_huts : Int32} {lf_villages : Int32} {lf_dams : Int32} {post : Int32 → Prop} (k_a_heard : ∀ j, iv 0 1000 (a_heard j)) (k_lf_huts : iv 0 9 lf_huts) (k_lf_villages : iv 0 511 lf_villages) (k_lf_dams : iv 0 511 lf_dams) (hpost : ∀ (r : Int32), iv (-1) 8 r → post r) : q_wp_X7_bestHut_9_0 a_heard lf_huts lf_villages lf_dams post := by
  exact s_wp_X7_bestHut_9_9 k_a_heard k_lf_huts k_lf_villages k_lf_dams (iv_w (iv_lit (l := (-1)) (h := (-1)) (by decide)) (by decide)) (iv_w (iv_lit (l := 1000) (h := 1000) (by decide)) (by decide)) (iv_w (iv_lit (l := 0) (h := 0) (by decide)) (by decide)) hpost
-- wp_X7_coverBy_1
set_option maxRecDepth 20000 in
theorem s_wp_X7_coverBy_1_54 {P3 : Int32 → (Nat → Int32) → Prop} {P20 : Int32 → (Nat → Int32) → Prop} {a_heard : Nat → Int32} {a_cover : Nat → Int32} {x2 : Int32} {x3 : Int32} {x4 : Int32} {x5 : Int32} {post : (Nat → Int32) → Prop} (k_a_heard : ∀ j, iv 0 1000 (a_heard j)) (k_a_cover : ∀ j, iv 0 511 (a_cover j)) (hx2 : iv 1 9 x2) (hx3 : iv 0 99 x3) (hx4 : iv 0 8 x4) (hx5 : iv 0 8 x5) (m3 : Int) (hm3 : m3 ≤ x4.toInt) (hP3 : ∀ (x4 : Int32) (a_cover : Nat → Int32), m3 < x4.toInt → iv 0 9 x4 → (∀ j, iv 0 511 (a_cover j)) → P3 x4 a_cover) (m20 : Int) (hm20 : m20 ≤ x5.toInt) (hP20 : ∀ (x5 : Int32) (a_cover : Nat → Int32), m20 < x5.toInt → iv 0 9 x5 → (∀ j, iv 0 511 (a_cover j)) → P20 x5 a_cover) (hpost : ∀ (a_cover : Nat → Int32), (∀ j, iv 0 511 (a_cover j)) → post a_cover) : q_wp_X7_coverBy_1_54 P3 P20 a_heard a_cover x2 x3 x4 x5 post := by
  intro w1 ew1
  have hw1 := iv_eq ew1 (iv_add (l := 1) (h := 9) hx5 (iv_lit (l := 1) (h := 1) (by decide)) (by decide))
  exact hP20 _ _ (ml_up hm20 (inc_lt ew1 hx5 (by decide))) (iv_w hw1 (by decide)) k_a_cover
set_option maxRecDepth 20000 in
theorem s_wp_X7_coverBy_1_20 {P3 : Int32 → (Nat → Int32) → Prop} {a_heard : Nat → Int32} {a_cover : Nat → Int32} {x2 : Int32} {x3 : Int32} {x4 : Int32} {x5 : Int32} {post : (Nat → Int32) → Prop} (k_a_heard : ∀ j, iv 0 1000 (a_heard j)) (k_a_cover : ∀ j, iv 0 511 (a_cover j)) (hx2 : iv 1 9 x2) (hx3 : iv 0 99 x3) (hx4 : iv 0 8 x4) (hx5 : iv 0 9 x5) (m3 : Int) (hm3 : m3 ≤ x4.toInt) (hP3 : ∀ (x4 : Int32) (a_cover : Nat → Int32), m3 < x4.toInt → iv 0 9 x4 → (∀ j, iv 0 511 (a_cover j)) → P3 x4 a_cover) (hpost : ∀ (a_cover : Nat → Int32), (∀ j, iv 0 511 (a_cover j)) → post a_cover) : q_wp_X7_coverBy_1_20 P3 a_heard a_cover x2 x3 x4 x5 post := by
  intro P hP
  have loop : ∀ (n : Nat) (x5 : Int32) (a_cover : Nat → Int32), (9 - x5.toInt < (n : Int)) → (iv 0 9 x5) → (∀ j, iv 0 511 (a_cover j)) → P x5 a_cover := by
    intro n
    induction n with
    | zero => intro x5 a_cover hm hx5 k_a_cover; exact (ms0_up hm hx5).elim
    | succ n ih =>
      intro x5 a_cover hm hx5 k_a_cover
      apply hP
      refine ⟨fun c1 => ?_, fun c1 => ?_⟩
      · skip
        intro w2 ew2
        have hw2 := iv_eq ew2 (iv_add (l := 1) (h := 9) hx4 (iv_lit (l := 1) (h := 1) (by decide)) (by decide))
        exact hP3 _ _ (ml_up hm3 (inc_lt ew2 hx4 (by decide))) (iv_w hw2 (by decide)) k_a_cover
      · skip
        refine ⟨iv_in (iv_add (l := 0) (h := 80) (iv_mul (l := 0) (h := 72) hx4 (iv_lit (l := 9) (h := 9) (by decide)) (by decide)) (iv_lta (l := 0) (h := 8) (r_nle c1) hx5 hx2 (by decide)) (by decide)) (by decide), ?_⟩
        refine ⟨fun c3 => ?_, fun c3 => ?_⟩
        · skip
          exact s_wp_X7_coverBy_1_54 k_a_heard k_a_cover hx2 hx3 hx4 (iv_lta (l := 0) (h := 8) (r_nle c1) hx5 hx2 (by decide)) m3 hm3 hP3 x5.toInt (Int.le_refl _) (fun u0 u1 hq g0 g1 => ih u0 u1 (ms_up hm hq) g0 g1) hpost
        · skip
          refine ⟨iv_in hx4 (by decide), ?_⟩
          intro w4 ew4
          have hw4 := iv_eq ew4 (iv_or 9 (l := 0) (h := 511) (k_a_cover _) (iv_shl1 (l := 1) (h := 256) (iv_lit (l := 1) (h := 1) (by decide)) (iv_lta (l := 0) (h := 8) (r_nle c1) hx5 hx2 (by decide)) (by decide)) (by decide))
          refine ⟨iv_in hx4 (by decide), ?_⟩
          intro a5 ea5
          have k_a5 := iv_upd ea5 k_a_cover hw4
          exact s_wp_X7_coverBy_1_54 k_a_heard k_a5 hx2 hx3 hx4 (iv_lta (l := 0) (h := 8) (r_nle c1) hx5 hx2 (by decide)) m3 hm3 hP3 x5.toInt (Int.le_refl _) (fun u0 u1 hq g0 g1 => ih u0 u1 (ms_up hm hq) g0 g1) hpost
  exact loop _ _ _ (ms_init_up _ _) hx5 k_a_cover
set_option maxRecDepth 20000 in
theorem s_wp_X7_coverBy_1_3 {a_heard : Nat → Int32} {a_cover : Nat → Int32} {x2 : Int32} {x3 : Int32} {x4 : Int32} {post : (Nat → Int32) → Prop} (k_a_heard : ∀ j, iv 0 1000 (a_heard j)) (k_a_cover : ∀ j, iv 0 511 (a_cover j)) (hx2 : iv 0 9 x2) (hx3 : iv 0 99 x3) (hx4 : iv 0 9 x4) (hpost : ∀ (a_cover : Nat → Int32), (∀ j, iv 0 511 (a_cover j)) → post a_cover) : q_wp_X7_coverBy_1_3 a_heard a_cover x2 x3 x4 post := by
  intro P hP
  have loop : ∀ (n : Nat) (x4 : Int32) (a_cover : Nat → Int32), (9 - x4.toInt < (n : Int)) → (iv 0 9 x4) → (∀ j, iv 0 511 (a_cover j)) → P x4 a_cover := by
    intro n
    induction n with
    | zero => intro x4 a_cover hm hx4 k_a_cover; exact (ms0_up hm hx4).elim
    | succ n ih =>
      intro x4 a_cover hm hx4 k_a_cover
      apply hP
      refine ⟨fun c1 => ?_, fun c1 => ?_⟩
      · skip
        exact hpost _ k_a_cover
      · skip
        refine ⟨iv_in (iv_lta (l := 0) (h := 8) (r_nle c1) hx4 hx2 (by decide)) (by decide), ?_⟩
        intro a2 ea2
        have k_a2 := iv_upd ea2 k_a_cover (iv_w (iv_lit (l := 0) (h := 0) (by decide)) (by decide))
        exact s_wp_X7_coverBy_1_20 k_a_heard k_a2 (iv_ltb (l := 1) (h := 9) (r_nle c1) hx4 hx2 (by decide)) hx3 (iv_lta (l := 0) (h := 8) (r_nle c1) hx4 hx2 (by decide)) (iv_w (iv_lit (l := 0) (h := 0) (by decide)) (by decide)) x4.toInt (Int.le_refl _) (fun u0 u1 hq g0 g1 => ih u0 u1 (ms_up hm hq) g0 g1) hpost
  exact loop _ _ _ (ms_init_up _ _) hx4 k_a_cover
set_option maxRecDepth 20000 in
theorem s_wp_X7_coverBy_1_0 {a_heard : Nat → Int32} {a_cover : Nat → Int32} {x2 : Int32} {x3 : Int32} {post : (Nat → Int32) → Prop} (k_a_heard : ∀ j, iv 0 1000 (a_heard j)) (k_a_cover : ∀ j, iv 0 511 (a_cover j)) (hx2 : iv 0 9 x2) (hx3 : iv 0 99 x3) (hpost : ∀ (a_cover : Nat → Int32), (∀ j, iv 0 511 (a_cover j)) → post a_cover) : q_wp_X7_coverBy_1_0 a_heard a_cover x2 x3 post := by
  exact s_wp_X7_coverBy_1_3 k_a_heard k_a_cover hx2 hx3 (iv_w (iv_lit (l := 0) (h := 0) (by decide)) (by decide)) hpost
-- wp_X7_covered
set_option maxRecDepth 20000 in
theorem s_wp_X7_covered_30 {P5 : Int32 → Int32 → Prop} {a_cover : Nat → Int32} {x1 : Int32} {x2 : Int32} {x3 : Int32} {x4 : Int32} {post : Int32 → Prop} (k_a_cover : ∀ j, iv 0 511 (a_cover j)) (hx1 : iv 0 511 x1) (hx2 : iv 1 9 x2) (hx3 : iv 0 511 x3) (hx4 : iv 0 8 x4) (m5 : Int) (hm5 : m5 ≤ x4.toInt) (hP5 : ∀ (x3 : Int32) (x4 : Int32), m5 < x4.toInt → iv 0 511 x3 → iv 0 9 x4 → P5 x3 x4) (hpost : ∀ (r : Int32), iv 0 511 r → post r) : q_wp_X7_covered_30 P5 a_cover x1 x2 x3 x4 post := by
  intro w1 ew1
  have hw1 := iv_eq ew1 (iv_add (l := 1) (h := 9) hx4 (iv_lit (l := 1) (h := 1) (by decide)) (by decide))
  exact hP5 _ _ (ml_up hm5 (inc_lt ew1 hx4 (by decide))) hx3 (iv_w hw1 (by decide))
set_option maxRecDepth 20000 in
theorem s_wp_X7_covered_5 {a_cover : Nat → Int32} {x1 : Int32} {x2 : Int32} {x3 : Int32} {x4 : Int32} {post : Int32 → Prop} (k_a_cover : ∀ j, iv 0 511 (a_cover j)) (hx1 : iv 0 511 x1) (hx2 : iv 0 9 x2) (hx3 : iv 0 511 x3) (hx4 : iv 0 9 x4) (hpost : ∀ (r : Int32), iv 0 511 r → post r) : q_wp_X7_covered_5 a_cover x1 x2 x3 x4 post := by
  intro P hP
  have loop : ∀ (n : Nat) (x3 : Int32) (x4 : Int32), (9 - x4.toInt < (n : Int)) → (iv 0 511 x3) → (iv 0 9 x4) → P x3 x4 := by
    intro n
    induction n with
    | zero => intro x3 x4 hm hx3 hx4; exact (ms0_up hm hx4).elim
    | succ n ih =>
      intro x3 x4 hm hx3 hx4
      apply hP
      refine ⟨fun c1 => ?_, fun c1 => ?_⟩
      · skip
        exact hpost _ hx3
      · skip
        refine ⟨fun c2 => ?_, fun c2 => ?_⟩
        · skip
          refine ⟨fun c3 => ?_, fun c3 => ?_⟩
          · skip
            exact s_wp_X7_covered_30 k_a_cover hx1 (iv_ltb (l := 1) (h := 9) (r_nle c1) hx4 hx2 (by decide)) hx3 (iv_lta (l := 0) (h := 8) (r_nle c1) hx4 hx2 (by decide)) x4.toInt (Int.le_refl _) (fun u0 u1 hq g0 g1 => ih u0 u1 (ms_up hm hq) g0 g1) hpost
          · skip
            exact (iv_emp (iv_ne (l := 1) (h := 0) c3 (iv_lit (l := 0) (h := 0) (by decide)) (iv_lit (l := 0) (h := 0) (by decide)) (by decide)) (by decide)).elim
        · skip
          refine ⟨fun c4 => ?_, fun c4 => ?_⟩
          · skip
            exact (iv_emp (iv_eqa (l := 1) (h := 0) c4 (iv_lit (l := 1) (h := 1) (by decide)) (iv_lit (l := 0) (h := 0) (by decide)) (by decide)) (by decide)).elim
          · skip
            refine ⟨iv_in (iv_lta (l := 0) (h := 8) (r_nle c1) hx4 hx2 (by decide)) (by decide), ?_⟩
            intro w5 ew5
            have hw5 := iv_eq ew5 (iv_or 9 (l := 0) (h := 511) hx3 (k_a_cover _) (by decide))
            exact s_wp_X7_covered_30 k_a_cover hx1 (iv_ltb (l := 1) (h := 9) (r_nle c1) hx4 hx2 (by decide)) hw5 (iv_lta (l := 0) (h := 8) (r_nle c1) hx4 hx2 (by decide)) x4.toInt (Int.le_refl _) (fun u0 u1 hq g0 g1 => ih u0 u1 (ms_up hm hq) g0 g1) hpost
  exact loop _ _ _ (ms_init_up _ _) hx3 hx4
set_option maxRecDepth 20000 in
theorem s_wp_X7_covered_0 {a_cover : Nat → Int32} {x1 : Int32} {x2 : Int32} {post : Int32 → Prop} (k_a_cover : ∀ j, iv 0 511 (a_cover j)) (hx1 : iv 0 511 x1) (hx2 : iv 0 9 x2) (hpost : ∀ (r : Int32), iv 0 511 r → post r) : q_wp_X7_covered_0 a_cover x1 x2 post := by
  exact s_wp_X7_covered_5 k_a_cover hx1 hx2 (iv_w (iv_lit (l := 0) (h := 0) (by decide)) (by decide)) (iv_w (iv_lit (l := 0) (h := 0) (by decide)) (by decide)) hpost
end
section
-- wp_X7_fewestCovering
set_option maxRecDepth 20000 in
theorem s_wp_X7_fewestCovering_52 {P10 : Int32 → Int32 → Int32 → Prop} {a_cover : Nat → Int32} {x1 : Int32} {x2 : Int32} {x3 : Int32} {x4 : Int32} {x5 : Int32} {post : Int32 → Prop} (k_a_cover : ∀ j, iv 0 511 (a_cover j)) (hx1 : iv 0 511 x1) (hx2 : iv 0 9 x2) (hx3 : iv (-1) 2147483647 x3) (hx4 : iv 0 63 x4) (hx5 : iv 0 511 x5) (m10 : Int) (hm10 : m10 ≤ x5.toInt) (hP10 : ∀ (x3 : Int32) (x4 : Int32) (x5 : Int32), m10 < x5.toInt → iv (-1) 2147483647 x3 → iv 0 63 x4 → iv 0 512 x5 → P10 x3 x4 x5) (hpost : ∀ (r : Int32), iv (-1) 2147483647 r → post r) : q_wp_X7_fewestCovering_52 P10 a_cover x1 x2 x3 x4 x5 post := by
  intro w1 ew1
  have hw1 := iv_eq ew1 (iv_add (l := 1) (h := 512) hx5 (iv_lit (l := 1) (h := 1) (by decide)) (by decide))
  exact hP10 _ _ _ (ml_up hm10 (inc_lt ew1 hx5 (by decide))) hx3 hx4 (iv_w hw1 (by decide))
set_option maxRecDepth 20000 in
theorem s_wp_X7_fewestCovering_10 {a_cover : Nat → Int32} {x1 : Int32} {x2 : Int32} {x3 : Int32} {x4 : Int32} {x5 : Int32} {post : Int32 → Prop} (k_a_cover : ∀ j, iv 0 511 (a_cover j)) (hx1 : iv 0 511 x1) (hx2 : iv 0 9 x2) (hx3 : iv (-1) 2147483647 x3) (hx4 : iv 0 63 x4) (hx5 : iv 0 512 x5) (hpost : ∀ (r : Int32), iv (-1) 2147483647 r → post r) : q_wp_X7_fewestCovering_10 a_cover x1 x2 x3 x4 x5 post := by
  intro P hP
  have loop : ∀ (n : Nat) (x3 : Int32) (x4 : Int32) (x5 : Int32), (512 - x5.toInt < (n : Int)) → (iv (-1) 2147483647 x3) → (iv 0 63 x4) → (iv 0 512 x5) → P x3 x4 x5 := by
    intro n
    induction n with
    | zero => intro x3 x4 x5 hm hx3 hx4 hx5; exact (ms0_up hm hx5).elim
    | succ n ih =>
      intro x3 x4 x5 hm hx3 hx4 hx5
      apply hP
      refine ⟨fun c1 => ?_, fun c1 => ?_⟩
      · skip
        exact hpost _ hx3
      · skip
        refine s_z_J6_bitCount_0f7a4_0 (iv_w (iv_lta (l := 0) (h := 511) (r_nle c1) hx5 (iv_shl1 (l := 1) (h := 512) (iv_lit (l := 1) (h := 1) (by decide)) hx2 (by decide)) (by decide)) (by decide)) (fun r2 hr2 => ?_)
        refine ⟨fun c3 => ?_, fun c3 => ?_⟩
        · skip
          exact s_wp_X7_fewestCovering_52 k_a_cover hx1 hx2 hx3 hx4 (iv_lta (l := 0) (h := 511) (r_nle c1) hx5 (iv_shl1 (l := 1) (h := 512) (iv_lit (l := 1) (h := 1) (by decide)) hx2 (by decide)) (by decide)) x5.toInt (Int.le_refl _) (fun u0 u1 u2 hq g0 g1 g2 => ih u0 u1 u2 (ms_up hm hq) g0 g1 g2) hpost
        · skip
          refine s_wp_X7_covered_0 k_a_cover (iv_lta (l := 0) (h := 511) (r_nle c1) hx5 (iv_shl1 (l := 1) (h := 512) (iv_lit (l := 1) (h := 1) (by decide)) hx2 (by decide)) (by decide)) hx2 (fun r4 hr4 => ?_)
          refine ⟨fun c5 => ?_, fun c5 => ?_⟩
          · skip
            exact s_wp_X7_fewestCovering_52 k_a_cover hx1 hx2 hx3 (iv_w (iv_ltb (l := 1) (h := 63) (r_nle c3) hr2 hx4 (by decide)) (by decide)) (iv_lta (l := 0) (h := 511) (r_nle c1) hx5 (iv_shl1 (l := 1) (h := 512) (iv_lit (l := 1) (h := 1) (by decide)) hx2 (by decide)) (by decide)) x5.toInt (Int.le_refl _) (fun u0 u1 u2 hq g0 g1 g2 => ih u0 u1 u2 (ms_up hm hq) g0 g1 g2) hpost
          · skip
            refine s_z_J6_bitCount_0f7a4_0 (iv_w (iv_lta (l := 0) (h := 511) (r_nle c1) hx5 (iv_shl1 (l := 1) (h := 512) (iv_lit (l := 1) (h := 1) (by decide)) hx2 (by decide)) (by decide)) (by decide)) (fun r6 hr6 => ?_)
            exact s_wp_X7_fewestCovering_52 k_a_cover hx1 hx2 (iv_w (iv_lta (l := 0) (h := 511) (r_nle c1) hx5 (iv_shl1 (l := 1) (h := 512) (iv_lit (l := 1) (h := 1) (by decide)) hx2 (by decide)) (by decide)) (by decide)) hr6 (iv_lta (l := 0) (h := 511) (r_nle c1) hx5 (iv_shl1 (l := 1) (h := 512) (iv_lit (l := 1) (h := 1) (by decide)) hx2 (by decide)) (by decide)) x5.toInt (Int.le_refl _) (fun u0 u1 u2 hq g0 g1 g2 => ih u0 u1 u2 (ms_up hm hq) g0 g1 g2) hpost
  exact loop _ _ _ _ (ms_init_up _ _) hx3 hx4 hx5
set_option maxRecDepth 20000 in
theorem s_wp_X7_fewestCovering_0 {a_cover : Nat → Int32} {x1 : Int32} {x2 : Int32} {post : Int32 → Prop} (k_a_cover : ∀ j, iv 0 511 (a_cover j)) (hx1 : iv 0 511 x1) (hx2 : iv 0 9 x2) (hpost : ∀ (r : Int32), iv (-1) 2147483647 r → post r) : q_wp_X7_fewestCovering_0 a_cover x1 x2 post := by
  intro w1 ew1
  have hw1 := iv_eq ew1 (iv_add (l := 1) (h := 10) hx2 (iv_lit (l := 1) (h := 1) (by decide)) (by decide))
  exact s_wp_X7_fewestCovering_10 k_a_cover hx1 hx2 (iv_w (iv_lit (l := (-1)) (h := (-1)) (by decide)) (by decide)) (iv_w hw1 (by decide)) (iv_w (iv_lit (l := 0) (h := 0) (by decide)) (by decide)) hpost
-- wp_X7_coverBy_2
set_option maxRecDepth 20000 in
theorem s_wp_X7_coverBy_2_54 {P3 : Int32 → (Nat → Int32) → Prop} {P20 : Int32 → (Nat → Int32) → Prop} {a_walked : Nat → Int32} {a_cover : Nat → Int32} {x2 : Int32} {x3 : Int32} {x4 : Int32} {x5 : Int32} {post : (Nat → Int32) → Prop} (k_a_walked : ∀ j, iv 0 1000 (a_walked j)) (k_a_cover : ∀ j, iv 0 511 (a_cover j)) (hx2 : iv 1 9 x2) (hx3 : iv 0 99 x3) (hx4 : iv 0 8 x4) (hx5 : iv 0 8 x5) (m3 : Int) (hm3 : m3 ≤ x4.toInt) (hP3 : ∀ (x4 : Int32) (a_cover : Nat → Int32), m3 < x4.toInt → iv 0 9 x4 → (∀ j, iv 0 511 (a_cover j)) → P3 x4 a_cover) (m20 : Int) (hm20 : m20 ≤ x5.toInt) (hP20 : ∀ (x5 : Int32) (a_cover : Nat → Int32), m20 < x5.toInt → iv 0 9 x5 → (∀ j, iv 0 511 (a_cover j)) → P20 x5 a_cover) (hpost : ∀ (a_cover : Nat → Int32), (∀ j, iv 0 511 (a_cover j)) → post a_cover) : q_wp_X7_coverBy_2_54 P3 P20 a_walked a_cover x2 x3 x4 x5 post := by
  intro w1 ew1
  have hw1 := iv_eq ew1 (iv_add (l := 1) (h := 9) hx5 (iv_lit (l := 1) (h := 1) (by decide)) (by decide))
  exact hP20 _ _ (ml_up hm20 (inc_lt ew1 hx5 (by decide))) (iv_w hw1 (by decide)) k_a_cover
set_option maxRecDepth 20000 in
theorem s_wp_X7_coverBy_2_20 {P3 : Int32 → (Nat → Int32) → Prop} {a_walked : Nat → Int32} {a_cover : Nat → Int32} {x2 : Int32} {x3 : Int32} {x4 : Int32} {x5 : Int32} {post : (Nat → Int32) → Prop} (k_a_walked : ∀ j, iv 0 1000 (a_walked j)) (k_a_cover : ∀ j, iv 0 511 (a_cover j)) (hx2 : iv 1 9 x2) (hx3 : iv 0 99 x3) (hx4 : iv 0 8 x4) (hx5 : iv 0 9 x5) (m3 : Int) (hm3 : m3 ≤ x4.toInt) (hP3 : ∀ (x4 : Int32) (a_cover : Nat → Int32), m3 < x4.toInt → iv 0 9 x4 → (∀ j, iv 0 511 (a_cover j)) → P3 x4 a_cover) (hpost : ∀ (a_cover : Nat → Int32), (∀ j, iv 0 511 (a_cover j)) → post a_cover) : q_wp_X7_coverBy_2_20 P3 a_walked a_cover x2 x3 x4 x5 post := by
  intro P hP
  have loop : ∀ (n : Nat) (x5 : Int32) (a_cover : Nat → Int32), (9 - x5.toInt < (n : Int)) → (iv 0 9 x5) → (∀ j, iv 0 511 (a_cover j)) → P x5 a_cover := by
    intro n
    induction n with
    | zero => intro x5 a_cover hm hx5 k_a_cover; exact (ms0_up hm hx5).elim
    | succ n ih =>
      intro x5 a_cover hm hx5 k_a_cover
      apply hP
      refine ⟨fun c1 => ?_, fun c1 => ?_⟩
      · skip
        intro w2 ew2
        have hw2 := iv_eq ew2 (iv_add (l := 1) (h := 9) hx4 (iv_lit (l := 1) (h := 1) (by decide)) (by decide))
        exact hP3 _ _ (ml_up hm3 (inc_lt ew2 hx4 (by decide))) (iv_w hw2 (by decide)) k_a_cover
      · skip
        refine ⟨iv_in (iv_add (l := 0) (h := 80) (iv_mul (l := 0) (h := 72) hx4 (iv_lit (l := 9) (h := 9) (by decide)) (by decide)) (iv_lta (l := 0) (h := 8) (r_nle c1) hx5 hx2 (by decide)) (by decide)) (by decide), ?_⟩
        refine ⟨fun c3 => ?_, fun c3 => ?_⟩
        · skip
          exact s_wp_X7_coverBy_2_54 k_a_walked k_a_cover hx2 hx3 hx4 (iv_lta (l := 0) (h := 8) (r_nle c1) hx5 hx2 (by decide)) m3 hm3 hP3 x5.toInt (Int.le_refl _) (fun u0 u1 hq g0 g1 => ih u0 u1 (ms_up hm hq) g0 g1) hpost
        · skip
          refine ⟨iv_in hx4 (by decide), ?_⟩
          intro w4 ew4
          have hw4 := iv_eq ew4 (iv_or 9 (l := 0) (h := 511) (k_a_cover _) (iv_shl1 (l := 1) (h := 256) (iv_lit (l := 1) (h := 1) (by decide)) (iv_lta (l := 0) (h := 8) (r_nle c1) hx5 hx2 (by decide)) (by decide)) (by decide))
          refine ⟨iv_in hx4 (by decide), ?_⟩
          intro a5 ea5
          have k_a5 := iv_upd ea5 k_a_cover hw4
          exact s_wp_X7_coverBy_2_54 k_a_walked k_a5 hx2 hx3 hx4 (iv_lta (l := 0) (h := 8) (r_nle c1) hx5 hx2 (by decide)) m3 hm3 hP3 x5.toInt (Int.le_refl _) (fun u0 u1 hq g0 g1 => ih u0 u1 (ms_up hm hq) g0 g1) hpost
  exact loop _ _ _ (ms_init_up _ _) hx5 k_a_cover
set_option maxRecDepth 20000 in
theorem s_wp_X7_coverBy_2_3 {a_walked : Nat → Int32} {a_cover : Nat → Int32} {x2 : Int32} {x3 : Int32} {x4 : Int32} {post : (Nat → Int32) → Prop} (k_a_walked : ∀ j, iv 0 1000 (a_walked j)) (k_a_cover : ∀ j, iv 0 511 (a_cover j)) (hx2 : iv 0 9 x2) (hx3 : iv 0 99 x3) (hx4 : iv 0 9 x4) (hpost : ∀ (a_cover : Nat → Int32), (∀ j, iv 0 511 (a_cover j)) → post a_cover) : q_wp_X7_coverBy_2_3 a_walked a_cover x2 x3 x4 post := by
  intro P hP
  have loop : ∀ (n : Nat) (x4 : Int32) (a_cover : Nat → Int32), (9 - x4.toInt < (n : Int)) → (iv 0 9 x4) → (∀ j, iv 0 511 (a_cover j)) → P x4 a_cover := by
    intro n
    induction n with
    | zero => intro x4 a_cover hm hx4 k_a_cover; exact (ms0_up hm hx4).elim
    | succ n ih =>
      intro x4 a_cover hm hx4 k_a_cover
      apply hP
      refine ⟨fun c1 => ?_, fun c1 => ?_⟩
      · skip
        exact hpost _ k_a_cover
      · skip
        refine ⟨iv_in (iv_lta (l := 0) (h := 8) (r_nle c1) hx4 hx2 (by decide)) (by decide), ?_⟩
        intro a2 ea2
        have k_a2 := iv_upd ea2 k_a_cover (iv_w (iv_lit (l := 0) (h := 0) (by decide)) (by decide))
        exact s_wp_X7_coverBy_2_20 k_a_walked k_a2 (iv_ltb (l := 1) (h := 9) (r_nle c1) hx4 hx2 (by decide)) hx3 (iv_lta (l := 0) (h := 8) (r_nle c1) hx4 hx2 (by decide)) (iv_w (iv_lit (l := 0) (h := 0) (by decide)) (by decide)) x4.toInt (Int.le_refl _) (fun u0 u1 hq g0 g1 => ih u0 u1 (ms_up hm hq) g0 g1) hpost
  exact loop _ _ _ (ms_init_up _ _) hx4 k_a_cover
set_option maxRecDepth 20000 in
theorem s_wp_X7_coverBy_2_0 {a_walked : Nat → Int32} {a_cover : Nat → Int32} {x2 : Int32} {x3 : Int32} {post : (Nat → Int32) → Prop} (k_a_walked : ∀ j, iv 0 1000 (a_walked j)) (k_a_cover : ∀ j, iv 0 511 (a_cover j)) (hx2 : iv 0 9 x2) (hx3 : iv 0 99 x3) (hpost : ∀ (a_cover : Nat → Int32), (∀ j, iv 0 511 (a_cover j)) → post a_cover) : q_wp_X7_coverBy_2_0 a_walked a_cover x2 x3 post := by
  exact s_wp_X7_coverBy_2_3 k_a_walked k_a_cover hx2 hx3 (iv_w (iv_lit (l := 0) (h := 0) (by decide)) (by decide)) hpost
-- wp_J7_fill_53178_3
set_option maxRecDepth 20000 in
theorem s_wp_J7_fill_53178_3_5 {a_total : Nat → Int32} {x1 : Int32} {x2 : Int32} {x3 : Int32} {post : (Nat → Int32) → Prop} (hx1 : iv 0 0 x1) (hx2 : iv 0 9 x2) (hx3 : iv 9 9 x3) (hpost : ∀ (a_total : Nat → Int32), post a_total) : q_wp_J7_fill_53178_3_5 a_total x1 x2 x3 post := by
  intro P hP
  have loop : ∀ (n : Nat) (x2 : Int32) (a_total : Nat → Int32), (9 - x2.toInt < (n : Int)) → (iv 0 9 x2) → P x2 a_total := by
    intro n
    induction n with
    | zero => intro x2 a_total hm hx2; exact (ms0_up hm hx2).elim
    | succ n ih =>
      intro x2 a_total hm hx2
      apply hP
      refine ⟨fun c1 => ?_, fun c1 => ?_⟩
      · skip
        exact hpost _
      · skip
        refine ⟨iv_in (iv_lta (l := 0) (h := 8) (r_nle c1) hx2 hx3 (by decide)) (by decide), ?_⟩
        intro a2 ea2
        intro w3 ew3
        have hw3 := iv_eq ew3 (iv_add (l := 1) (h := 9) (iv_lta (l := 0) (h := 8) (r_nle c1) hx2 hx3 (by decide)) (iv_lit (l := 1) (h := 1) (by decide)) (by decide))
        exact ih _ _ (ms_up hm (inc_lt ew3 (iv_lta (l := 0) (h := 8) (r_nle c1) hx2 hx3 (by decide)) (by decide))) (iv_w hw3 (by decide))
  exact loop _ _ _ (ms_init_up _ _) hx2
set_option maxRecDepth 20000 in
theorem s_wp_J7_fill_53178_3_0 {a_total : Nat → Int32} {x1 : Int32} {post : (Nat → Int32) → Prop} (hx1 : iv 0 0 x1) (hpost : ∀ (a_total : Nat → Int32), post a_total) : q_wp_J7_fill_53178_3_0 a_total x1 post := by
  exact s_wp_J7_fill_53178_3_5 hx1 (iv_w (iv_lit (l := 0) (h := 0) (by decide)) (by decide)) (iv_lit (l := 9) (h := 9) (by decide)) hpost
-- wp_J7_fill_53178_4
set_option maxRecDepth 20000 in
theorem s_wp_J7_fill_53178_4_5 {a_longest : Nat → Int32} {x1 : Int32} {x2 : Int32} {x3 : Int32} {post : (Nat → Int32) → Prop} (k_a_longest : ∀ j, iv 0 8 (a_longest j)) (hx1 : iv 0 0 x1) (hx2 : iv 0 9 x2) (hx3 : iv 9 9 x3) (hpost : ∀ (a_longest : Nat → Int32), (∀ j, iv 0 8 (a_longest j)) → post a_longest) : q_wp_J7_fill_53178_4_5 a_longest x1 x2 x3 post := by
  intro P hP
  have loop : ∀ (n : Nat) (x2 : Int32) (a_longest : Nat → Int32), (9 - x2.toInt < (n : Int)) → (iv 0 9 x2) → (∀ j, iv 0 8 (a_longest j)) → P x2 a_longest := by
    intro n
    induction n with
    | zero => intro x2 a_longest hm hx2 k_a_longest; exact (ms0_up hm hx2).elim
    | succ n ih =>
      intro x2 a_longest hm hx2 k_a_longest
      apply hP
      refine ⟨fun c1 => ?_, fun c1 => ?_⟩
      · skip
        exact hpost _ k_a_longest
      · skip
        refine ⟨iv_in (iv_lta (l := 0) (h := 8) (r_nle c1) hx2 hx3 (by decide)) (by decide), ?_⟩
        intro a2 ea2
        have k_a2 := iv_upd ea2 k_a_longest (iv_w hx1 (by decide))
        intro w3 ew3
        have hw3 := iv_eq ew3 (iv_add (l := 1) (h := 9) (iv_lta (l := 0) (h := 8) (r_nle c1) hx2 hx3 (by decide)) (iv_lit (l := 1) (h := 1) (by decide)) (by decide))
        exact ih _ _ (ms_up hm (inc_lt ew3 (iv_lta (l := 0) (h := 8) (r_nle c1) hx2 hx3 (by decide)) (by decide))) (iv_w hw3 (by decide)) k_a2
  exact loop _ _ _ (ms_init_up _ _) hx2 k_a_longest
set_option maxRecDepth 20000 in
theorem s_wp_J7_fill_53178_4_0 {a_longest : Nat → Int32} {x1 : Int32} {post : (Nat → Int32) → Prop} (k_a_longest : ∀ j, iv 0 8 (a_longest j)) (hx1 : iv 0 0 x1) (hpost : ∀ (a_longest : Nat → Int32), (∀ j, iv 0 8 (a_longest j)) → post a_longest) : q_wp_J7_fill_53178_4_0 a_longest x1 post := by
  exact s_wp_J7_fill_53178_4_5 k_a_longest hx1 (iv_w (iv_lit (l := 0) (h := 0) (by decide)) (by decide)) (iv_lit (l := 9) (h := 9) (by decide)) hpost
-- wp_J7_fill_53178_7
set_option maxRecDepth 20000 in
theorem s_wp_J7_fill_53178_7_5 {a_now : Nat → Int32} {x1 : Int32} {x2 : Int32} {x3 : Int32} {post : (Nat → Int32) → Prop} (hx1 : iv 0 1000 x1) (hx2 : iv 0 9 x2) (hx3 : iv 9 9 x3) (hpost : ∀ (a_now : Nat → Int32), post a_now) : q_wp_J7_fill_53178_7_5 a_now x1 x2 x3 post := by
  intro P hP
  have loop : ∀ (n : Nat) (x2 : Int32) (a_now : Nat → Int32), (9 - x2.toInt < (n : Int)) → (iv 0 9 x2) → P x2 a_now := by
    intro n
    induction n with
    | zero => intro x2 a_now hm hx2; exact (ms0_up hm hx2).elim
    | succ n ih =>
      intro x2 a_now hm hx2
      apply hP
      refine ⟨fun c1 => ?_, fun c1 => ?_⟩
      · skip
        exact hpost _
      · skip
        refine ⟨iv_in (iv_lta (l := 0) (h := 8) (r_nle c1) hx2 hx3 (by decide)) (by decide), ?_⟩
        intro a2 ea2
        intro w3 ew3
        have hw3 := iv_eq ew3 (iv_add (l := 1) (h := 9) (iv_lta (l := 0) (h := 8) (r_nle c1) hx2 hx3 (by decide)) (iv_lit (l := 1) (h := 1) (by decide)) (by decide))
        exact ih _ _ (ms_up hm (inc_lt ew3 (iv_lta (l := 0) (h := 8) (r_nle c1) hx2 hx3 (by decide)) (by decide))) (iv_w hw3 (by decide))
  exact loop _ _ _ (ms_init_up _ _) hx2
set_option maxRecDepth 20000 in
theorem s_wp_J7_fill_53178_7_0 {a_now : Nat → Int32} {x1 : Int32} {post : (Nat → Int32) → Prop} (hx1 : iv 0 1000 x1) (hpost : ∀ (a_now : Nat → Int32), post a_now) : q_wp_J7_fill_53178_7_0 a_now x1 post := by
  exact s_wp_J7_fill_53178_7_5 hx1 (iv_w (iv_lit (l := 0) (h := 0) (by decide)) (by decide)) (iv_lit (l := 9) (h := 9) (by decide)) hpost
-- wp_X7_routesOn_9
set_option maxRecDepth 20000 in
theorem s_wp_X7_routesOn_9_34 {P5 : Int32 → Int32 → Prop} {a_now : Nat → Int32} {lf_huts : Int32} {lf_dams : Int32} {la_heights : Nat → Int32} {la_minutes : Nat → Int32} {x2 : Int32} {x3 : Int32} {x4 : Int32} {post : Int32 → Prop} (k_lf_huts : iv 2 9 lf_huts) (k_lf_dams : iv 0 511 lf_dams) (k_la_heights : ∀ j, iv 0 99 (la_heights j)) (k_la_minutes : ∀ j, iv 0 9 (la_minutes j)) (hx2 : iv 0 8 x2) (hx4 : iv 0 8 x4) (m5 : Int) (hm5 : m5 ≤ x4.toInt) (hP5 : ∀ (x3 : Int32) (x4 : Int32), m5 < x4.toInt → iv 0 9 x4 → P5 x3 x4) (hpost : ∀ (r : Int32), post r) : q_wp_X7_routesOn_9_34 P5 a_now lf_huts lf_dams la_heights la_minutes x2 x3 x4 post := by
  intro w1 ew1
  have hw1 := iv_eq ew1 (iv_add (l := 1) (h := 9) hx4 (iv_lit (l := 1) (h := 1) (by decide)) (by decide))
  exact hP5 _ _ (ml_up hm5 (inc_lt ew1 hx4 (by decide))) (iv_w hw1 (by decide))
set_option maxRecDepth 20000 in
theorem s_wp_X7_routesOn_9_5 {a_now : Nat → Int32} {lf_huts : Int32} {lf_dams : Int32} {la_heights : Nat → Int32} {la_minutes : Nat → Int32} {x2 : Int32} {x3 : Int32} {x4 : Int32} {post : Int32 → Prop} (k_lf_huts : iv 2 9 lf_huts) (k_lf_dams : iv 0 511 lf_dams) (k_la_heights : ∀ j, iv 0 99 (la_heights j)) (k_la_minutes : ∀ j, iv 0 9 (la_minutes j)) (hx2 : iv 0 8 x2) (hx4 : iv 0 9 x4) (hpost : ∀ (r : Int32), post r) : q_wp_X7_routesOn_9_5 a_now lf_huts lf_dams la_heights la_minutes x2 x3 x4 post := by
  intro P hP
  have loop : ∀ (n : Nat) (x3 : Int32) (x4 : Int32), (9 - x4.toInt < (n : Int)) → (iv 0 9 x4) → P x3 x4 := by
    intro n
    induction n with
    | zero => intro x3 x4 hm hx4; exact (ms0_up hm hx4).elim
    | succ n ih =>
      intro x3 x4 hm hx4
      apply hP
      refine ⟨fun c1 => ?_, fun c1 => ?_⟩
      · skip
        exact hpost _
      · skip
        refine ⟨iv_in (iv_add (l := 0) (h := 80) (iv_mul (l := 0) (h := 72) (iv_lta (l := 0) (h := 8) (r_nle c1) hx4 k_lf_huts (by decide)) (iv_lit (l := 9) (h := 9) (by decide)) (by decide)) hx2 (by decide)) (by decide), ?_⟩
        refine ⟨fun c2 => ?_, fun c2 => ?_⟩
        · skip
          refine ⟨fun c3 => ?_, fun c3 => ?_⟩
          · skip
            exact s_wp_X7_routesOn_9_34 k_lf_huts k_lf_dams k_la_heights k_la_minutes hx2 (iv_lta (l := 0) (h := 8) (r_nle c1) hx4 k_lf_huts (by decide)) x4.toInt (Int.le_refl _) (fun u0 u1 hq g0 => ih u0 u1 (ms_up hm hq) g0) hpost
          · skip
            exact (iv_emp (iv_ne (l := 1) (h := 0) c3 (iv_lit (l := 0) (h := 0) (by decide)) (iv_lit (l := 0) (h := 0) (by decide)) (by decide)) (by decide)).elim
        · skip
          refine ⟨iv_in hx2 (by decide), ?_⟩
          refine ⟨iv_in (iv_lta (l := 0) (h := 8) (r_nle c1) hx4 k_lf_huts (by decide)) (by decide), ?_⟩
          refine ⟨fun c4 => ?_, fun c4 => ?_⟩
          · skip
            refine ⟨fun c5 => ?_, fun c5 => ?_⟩
            · skip
              exact s_wp_X7_routesOn_9_34 k_lf_huts k_lf_dams k_la_heights k_la_minutes hx2 (iv_lta (l := 0) (h := 8) (r_nle c1) hx4 k_lf_huts (by decide)) x4.toInt (Int.le_refl _) (fun u0 u1 hq g0 => ih u0 u1 (ms_up hm hq) g0) hpost
            · skip
              exact (iv_emp (iv_ne (l := 1) (h := 0) c5 (iv_lit (l := 0) (h := 0) (by decide)) (iv_lit (l := 0) (h := 0) (by decide)) (by decide)) (by decide)).elim
          · skip
            refine ⟨fun c6 => ?_, fun c6 => ?_⟩
            · skip
              refine ⟨fun c7 => ?_, fun c7 => ?_⟩
              · skip
                exact (iv_emp (iv_ne (l := 1) (h := 0) c7 (iv_lit (l := 0) (h := 0) (by decide)) (iv_lit (l := 0) (h := 0) (by decide)) (by decide)) (by decide)).elim
              · skip
                refine ⟨fun c8 => ?_, fun c8 => ?_⟩
                · skip
                  refine ⟨fun c9 => ?_, fun c9 => ?_⟩
                  · skip
                    exact (iv_emp (iv_ne (l := 1) (h := 0) c9 (iv_lit (l := 0) (h := 0) (by decide)) (iv_lit (l := 0) (h := 0) (by decide)) (by decide)) (by decide)).elim
                  · skip
                    refine ⟨fun c10 => ?_, fun c10 => ?_⟩
                    · skip
                      exact (iv_emp (iv_eqa (l := 1) (h := 0) c10 (iv_lit (l := 1) (h := 1) (by decide)) (iv_lit (l := 0) (h := 0) (by decide)) (by decide)) (by decide)).elim
                    · skip
                      refine ⟨iv_in (iv_lta (l := 0) (h := 8) (r_nle c1) hx4 k_lf_huts (by decide)) (by decide), ?_⟩
                      intro w11 ew11
                      exact s_wp_X7_routesOn_9_34 k_lf_huts k_lf_dams k_la_heights k_la_minutes hx2 (iv_lta (l := 0) (h := 8) (r_nle c1) hx4 k_lf_huts (by decide)) x4.toInt (Int.le_refl _) (fun u0 u1 hq g0 => ih u0 u1 (ms_up hm hq) g0) hpost
                · skip
                  refine ⟨fun c12 => ?_, fun c12 => ?_⟩
                  · skip
                    refine ⟨fun c13 => ?_, fun c13 => ?_⟩
                    · skip
                      exact s_wp_X7_routesOn_9_34 k_lf_huts k_lf_dams k_la_heights k_la_minutes hx2 (iv_lta (l := 0) (h := 8) (r_nle c1) hx4 k_lf_huts (by decide)) x4.toInt (Int.le_refl _) (fun u0 u1 hq g0 => ih u0 u1 (ms_up hm hq) g0) hpost
                    · skip
                      exact (iv_emp (iv_ne (l := 1) (h := 0) c13 (iv_lit (l := 0) (h := 0) (by decide)) (iv_lit (l := 0) (h := 0) (by decide)) (by decide)) (by decide)).elim
                  · skip
                    exact (iv_emp (iv_eqa (l := 1) (h := 0) c12 (iv_lit (l := 1) (h := 1) (by decide)) (iv_lit (l := 0) (h := 0) (by decide)) (by decide)) (by decide)).elim
            · skip
              refine ⟨fun c14 => ?_, fun c14 => ?_⟩
              · skip
                refine ⟨fun c15 => ?_, fun c15 => ?_⟩
                · skip
                  exact s_wp_X7_routesOn_9_34 k_lf_huts k_lf_dams k_la_heights k_la_minutes hx2 (iv_lta (l := 0) (h := 8) (r_nle c1) hx4 k_lf_huts (by decide)) x4.toInt (Int.le_refl _) (fun u0 u1 hq g0 => ih u0 u1 (ms_up hm hq) g0) hpost
                · skip
                  exact (iv_emp (iv_ne (l := 1) (h := 0) c15 (iv_lit (l := 0) (h := 0) (by decide)) (iv_lit (l := 0) (h := 0) (by decide)) (by decide)) (by decide)).elim
              · skip
                exact (iv_emp (iv_eqa (l := 1) (h := 0) c14 (iv_lit (l := 1) (h := 1) (by decide)) (iv_lit (l := 0) (h := 0) (by decide)) (by decide)) (by decide)).elim
  exact loop _ _ _ (ms_init_up _ _) hx4
set_option maxRecDepth 20000 in
theorem s_wp_X7_routesOn_9_0 {a_now : Nat → Int32} {lf_huts : Int32} {lf_dams : Int32} {la_heights : Nat → Int32} {la_minutes : Nat → Int32} {x2 : Int32} {post : Int32 → Prop} (k_lf_huts : iv 2 9 lf_huts) (k_lf_dams : iv 0 511 lf_dams) (k_la_heights : ∀ j, iv 0 99 (la_heights j)) (k_la_minutes : ∀ j, iv 0 9 (la_minutes j)) (hx2 : iv 0 8 x2) (hpost : ∀ (r : Int32), post r) : q_wp_X7_routesOn_9_0 a_now lf_huts lf_dams la_heights la_minutes x2 post := by
  exact s_wp_X7_routesOn_9_5 k_lf_huts k_lf_dams k_la_heights k_la_minutes hx2 (iv_w (iv_lit (l := 0) (h := 0) (by decide)) (by decide)) hpost
-- wp_X7_trace_9
set_option maxRecDepth 20000 in
theorem s_wp_X7_trace_9_102 {P33 : Int32 → (Nat → Int32) → (Nat → Int32) → (Nat → Int32) → (Nat → Int32) → Prop} {P44 : Int32 → (Nat → Int32) → (Nat → Int32) → (Nat → Int32) → Prop} {a_total : Nat → Int32} {a_longest : Nat → Int32} {a_now : Nat → Int32} {a_then : Nat → Int32} {lf_huts : Int32} {lf_dams : Int32} {la_heights : Nat → Int32} {la_minutes : Nat → Int32} {x3 : Int32} {x4 : Int32} {post : (Nat → Int32) → (Nat → Int32) → (Nat → Int32) → (Nat → Int32) → Prop} (k_a_longest : ∀ j, iv 0 8 (a_longest j)) (k_lf_huts : iv 2 9 lf_huts) (k_lf_dams : iv 0 511 lf_dams) (k_la_heights : ∀ j, iv 0 99 (la_heights j)) (k_la_minutes : ∀ j, iv 0 9 (la_minutes j)) (hx3 : iv 1 8 x3) (hx4 : iv 0 8 x4) (m33 : Int) (hm33 : m33 ≤ x3.toInt) (hP33 : ∀ (x3 : Int32) (a_total : Nat → Int32) (a_longest : Nat → Int32) (a_now : Nat → Int32) (a_then : Nat → Int32), m33 < x3.toInt → iv 1 9 x3 → (∀ j, iv 0 8 (a_longest j)) → P33 x3 a_total a_longest a_now a_then) (m44 : Int) (hm44 : m44 ≤ x4.toInt) (hP44 : ∀ (x4 : Int32) (a_total : Nat → Int32) (a_longest : Nat → Int32) (a_then : Nat → Int32), m44 < x4.toInt → iv 0 9 x4 → (∀ j, iv 0 8 (a_longest j)) → P44 x4 a_total a_longest a_then) (hpost : ∀ (a_total : Nat → Int32) (a_longest : Nat → Int32) (a_now : Nat → Int32) (a_then : Nat → Int32), (∀ j, iv 0 8 (a_longest j)) → post a_total a_longest a_now a_then) : q_wp_X7_trace_9_102 P33 P44 a_total a_longest a_now a_then lf_huts lf_dams la_heights la_minutes x3 x4 post := by
  intro w1 ew1
  have hw1 := iv_eq ew1 (iv_add (l := 1) (h := 9) hx4 (iv_lit (l := 1) (h := 1) (by decide)) (by decide))
  exact hP44 _ _ _ _ (ml_up hm44 (inc_lt ew1 hx4 (by decide))) (iv_w hw1 (by decide)) k_a_longest
set_option maxRecDepth 20000 in
theorem s_wp_X7_trace_9_44 {P33 : Int32 → (Nat → Int32) → (Nat → Int32) → (Nat → Int32) → (Nat → Int32) → Prop} {a_total : Nat → Int32} {a_longest : Nat → Int32} {a_now : Nat → Int32} {a_then : Nat → Int32} {lf_huts : Int32} {lf_dams : Int32} {la_heights : Nat → Int32} {la_minutes : Nat → Int32} {x3 : Int32} {x4 : Int32} {post : (Nat → Int32) → (Nat → Int32) → (Nat → Int32) → (Nat → Int32) → Prop} (k_a_longest : ∀ j, iv 0 8 (a_longest j)) (k_lf_huts : iv 2 9 lf_huts) (k_lf_dams : iv 0 511 lf_dams) (k_la_heights : ∀ j, iv 0 99 (la_heights j)) (k_la_minutes : ∀ j, iv 0 9 (la_minutes j)) (hx3 : iv 1 8 x3) (hx4 : iv 0 9 x4) (m33 : Int) (hm33 : m33 ≤ x3.toInt) (hP33 : ∀ (x3 : Int32) (a_total : Nat → Int32) (a_longest : Nat → Int32) (a_now : Nat → Int32) (a_then : Nat → Int32), m33 < x3.toInt → iv 1 9 x3 → (∀ j, iv 0 8 (a_longest j)) → P33 x3 a_total a_longest a_now a_then) (hpost : ∀ (a_total : Nat → Int32) (a_longest : Nat → Int32) (a_now : Nat → Int32) (a_then : Nat → Int32), (∀ j, iv 0 8 (a_longest j)) → post a_total a_longest a_now a_then) : q_wp_X7_trace_9_44 P33 a_total a_longest a_now a_then lf_huts lf_dams la_heights la_minutes x3 x4 post := by
  intro P hP
  have loop : ∀ (n : Nat) (x4 : Int32) (a_total : Nat → Int32) (a_longest : Nat → Int32) (a_then : Nat → Int32), (9 - x4.toInt < (n : Int)) → (iv 0 9 x4) → (∀ j, iv 0 8 (a_longest j)) → P x4 a_total a_longest a_then := by
    intro n
    induction n with
    | zero => intro x4 a_total a_longest a_then hm hx4 k_a_longest; exact (ms0_up hm hx4).elim
    | succ n ih =>
      intro x4 a_total a_longest a_then hm hx4 k_a_longest
      apply hP
      refine ⟨fun c1 => ?_, fun c1 => ?_⟩
      · skip
        intro a2 ea2
        intro w3 ew3
        have hw3 := iv_eq ew3 (iv_add (l := 2) (h := 9) hx3 (iv_lit (l := 1) (h := 1) (by decide)) (by decide))
        exact hP33 _ _ _ _ _ (ml_up hm33 (inc_lt ew3 hx3 (by decide))) (iv_w hw3 (by decide)) k_a_longest
      · skip
        refine s_wp_X7_routesOn_9_0 k_lf_huts k_lf_dams k_la_heights k_la_minutes (iv_lta (l := 0) (h := 8) (r_nle c1) hx4 k_lf_huts (by decide)) (fun r4 => ?_)
        refine ⟨iv_in (iv_lta (l := 0) (h := 8) (r_nle c1) hx4 k_lf_huts (by decide)) (by decide), ?_⟩
        intro a5 ea5
        refine ⟨iv_in (iv_lta (l := 0) (h := 8) (r_nle c1) hx4 k_lf_huts (by decide)) (by decide), ?_⟩
        refine ⟨fun c6 => ?_, fun c6 => ?_⟩
        · skip
          exact s_wp_X7_trace_9_102 k_a_longest k_lf_huts k_lf_dams k_la_heights k_la_minutes hx3 (iv_lta (l := 0) (h := 8) (r_nle c1) hx4 k_lf_huts (by decide)) m33 hm33 hP33 x4.toInt (Int.le_refl _) (fun u0 u1 u2 u3 hq g0 g1 => ih u0 u1 u2 u3 (ms_up hm hq) g0 g1) hpost
        · skip
          refine ⟨iv_in (iv_lta (l := 0) (h := 8) (r_nle c1) hx4 k_lf_huts (by decide)) (by decide), ?_⟩
          refine ⟨iv_in (iv_lta (l := 0) (h := 8) (r_nle c1) hx4 k_lf_huts (by decide)) (by decide), ?_⟩
          intro w7 ew7
          refine ⟨iv_in (iv_lta (l := 0) (h := 8) (r_nle c1) hx4 k_lf_huts (by decide)) (by decide), ?_⟩
          intro a8 ea8
          refine ⟨iv_in (iv_lta (l := 0) (h := 8) (r_nle c1) hx4 k_lf_huts (by decide)) (by decide), ?_⟩
          intro a9 ea9
          have k_a9 := iv_upd ea9 k_a_longest (iv_w hx3 (by decide))
          exact s_wp_X7_trace_9_102 k_a9 k_lf_huts k_lf_dams k_la_heights k_la_minutes hx3 (iv_lta (l := 0) (h := 8) (r_nle c1) hx4 k_lf_huts (by decide)) m33 hm33 hP33 x4.toInt (Int.le_refl _) (fun u0 u1 u2 u3 hq g0 g1 => ih u0 u1 u2 u3 (ms_up hm hq) g0 g1) hpost
  exact loop _ _ _ _ _ (ms_init_up _ _) hx4 k_a_longest
set_option maxRecDepth 20000 in
theorem s_wp_X7_trace_9_33 {a_total : Nat → Int32} {a_longest : Nat → Int32} {a_now : Nat → Int32} {a_then : Nat → Int32} {lf_huts : Int32} {lf_dams : Int32} {la_heights : Nat → Int32} {la_minutes : Nat → Int32} {x3 : Int32} {post : (Nat → Int32) → (Nat → Int32) → (Nat → Int32) → (Nat → Int32) → Prop} (k_a_longest : ∀ j, iv 0 8 (a_longest j)) (k_lf_huts : iv 1 9 lf_huts) (k_lf_dams : iv 0 511 lf_dams) (k_la_heights : ∀ j, iv 0 99 (la_heights j)) (k_la_minutes : ∀ j, iv 0 9 (la_minutes j)) (hx3 : iv 1 9 x3) (hpost : ∀ (a_total : Nat → Int32) (a_longest : Nat → Int32) (a_now : Nat → Int32) (a_then : Nat → Int32), (∀ j, iv 0 8 (a_longest j)) → post a_total a_longest a_now a_then) : q_wp_X7_trace_9_33 a_total a_longest a_now a_then lf_huts lf_dams la_heights la_minutes x3 post := by
  intro P hP
  have loop : ∀ (n : Nat) (x3 : Int32) (a_total : Nat → Int32) (a_longest : Nat → Int32) (a_now : Nat → Int32) (a_then : Nat → Int32), (9 - x3.toInt < (n : Int)) → (iv 1 9 x3) → (∀ j, iv 0 8 (a_longest j)) → P x3 a_total a_longest a_now a_then := by
    intro n
    induction n with
    | zero => intro x3 a_total a_longest a_now a_then hm hx3 k_a_longest; exact (ms0_up hm hx3).elim
    | succ n ih =>
      intro x3 a_total a_longest a_now a_then hm hx3 k_a_longest
      apply hP
      refine ⟨fun c1 => ?_, fun c1 => ?_⟩
      · skip
        exact hpost _ _ _ _ k_a_longest
      · skip
        exact s_wp_X7_trace_9_44 k_a_longest (iv_ltb (l := 2) (h := 9) (r_nle c1) hx3 k_lf_huts (by decide)) k_lf_dams k_la_heights k_la_minutes (iv_lta (l := 1) (h := 8) (r_nle c1) hx3 k_lf_huts (by decide)) (iv_w (iv_lit (l := 0) (h := 0) (by decide)) (by decide)) x3.toInt (Int.le_refl _) (fun u0 u1 u2 u3 u4 hq g0 g1 => ih u0 u1 u2 u3 u4 (ms_up hm hq) g0 g1) hpost
  exact loop _ _ _ _ _ _ (ms_init_up _ _) hx3 k_a_longest
set_option maxRecDepth 20000 in
theorem s_wp_X7_trace_9_0 {a_total : Nat → Int32} {a_longest : Nat → Int32} {a_now : Nat → Int32} {a_then : Nat → Int32} {lf_huts : Int32} {lf_dams : Int32} {la_heights : Nat → Int32} {la_minutes : Nat → Int32} {x2 : Int32} {post : (Nat → Int32) → (Nat → Int32) → (Nat → Int32) → (Nat → Int32) → Prop} (k_a_longest : ∀ j, iv 0 8 (a_longest j)) (k_lf_huts : iv 1 9 lf_huts) (k_lf_dams : iv 0 511 lf_dams) (k_la_heights : ∀ j, iv 0 99 (la_heights j)) (k_la_minutes : ∀ j, iv 0 9 (la_minutes j)) (hx2 : iv 0 8 x2) (hpost : ∀ (a_total : Nat → Int32) (a_longest : Nat → Int32) (a_now : Nat → Int32) (a_then : Nat → Int32), (∀ j, iv 0 8 (a_longest j)) → post a_total a_longest a_now a_then) : q_wp_X7_trace_9_0 a_total a_longest a_now a_then lf_huts lf_dams la_heights la_minutes x2 post := by
  refine s_wp_J7_fill_53178_3_0 (iv_lit (l := 0) (h := 0) (by decide)) (fun o1 => ?_)
  refine s_wp_J7_fill_53178_4_0 k_a_longest (iv_lit (l := 0) (h := 0) (by decide)) (fun o2 k_o2 => ?_)
  refine s_wp_J7_fill_53178_7_0 (iv_w (iv_lit (l := 0) (h := 0) (by decide)) (by decide)) (fun o3 => ?_)
  refine ⟨iv_in hx2 (by decide), ?_⟩
  intro a4 ea4
  exact s_wp_X7_trace_9_33 k_o2 k_lf_huts k_lf_dams k_la_heights k_la_minutes (iv_w (iv_lit (l := 1) (h := 1) (by decide)) (by decide)) hpost
-- wp_X7_leastFall_9
set_option maxRecDepth 20000 in
theorem s_wp_X7_leastFall_9_55 {P7 : Int32 → Int32 → Prop} {a_now : Nat → Int32} {lf_huts : Int32} {lf_dams : Int32} {la_heights : Nat → Int32} {la_minutes : Nat → Int32} {x2 : Int32} {x3 : Int32} {x4 : Int32} {post : Int32 → Prop} (k_lf_huts : iv 2 9 lf_huts) (k_lf_dams : iv 0 511 lf_dams) (k_la_heights : ∀ j, iv 0 99 (la_heights j)) (k_la_minutes : ∀ j, iv 0 9 (la_minutes j)) (hx2 : iv 0 8 x2) (hx3 : iv (-99) 1000 x3) (hx4 : iv 0 8 x4) (m7 : Int) (hm7 : m7 ≤ x4.toInt) (hP7 : ∀ (x3 : Int32) (x4 : Int32), m7 < x4.toInt → iv (-99) 1000 x3 → iv 0 9 x4 → P7 x3 x4) (hpost : ∀ (r : Int32), iv (-99) 1000 r → post r) : q_wp_X7_leastFall_9_55 P7 a_now lf_huts lf_dams la_heights la_minutes x2 x3 x4 post := by
  intro w1 ew1
  have hw1 := iv_eq ew1 (iv_add (l := 1) (h := 9) hx4 (iv_lit (l := 1) (h := 1) (by decide)) (by decide))
  exact hP7 _ _ (ml_up hm7 (inc_lt ew1 hx4 (by decide))) hx3 (iv_w hw1 (by decide))
set_option maxRecDepth 20000 in
theorem s_wp_X7_leastFall_9_7 {a_now : Nat → Int32} {lf_huts : Int32} {lf_dams : Int32} {la_heights : Nat → Int32} {la_minutes : Nat → Int32} {x2 : Int32} {x3 : Int32} {x4 : Int32} {post : Int32 → Prop} (k_lf_huts : iv 2 9 lf_huts) (k_lf_dams : iv 0 511 lf_dams) (k_la_heights : ∀ j, iv 0 99 (la_heights j)) (k_la_minutes : ∀ j, iv 0 9 (la_minutes j)) (hx2 : iv 0 8 x2) (hx3 : iv (-99) 1000 x3) (hx4 : iv 0 9 x4) (hpost : ∀ (r : Int32), iv (-99) 1000 r → post r) : q_wp_X7_leastFall_9_7 a_now lf_huts lf_dams la_heights la_minutes x2 x3 x4 post := by
  intro P hP
  have loop : ∀ (n : Nat) (x3 : Int32) (x4 : Int32), (9 - x4.toInt < (n : Int)) → (iv (-99) 1000 x3) → (iv 0 9 x4) → P x3 x4 := by
    intro n
    induction n with
    | zero => intro x3 x4 hm hx3 hx4; exact (ms0_up hm hx4).elim
    | succ n ih =>
      intro x3 x4 hm hx3 hx4
      apply hP
      refine ⟨fun c1 => ?_, fun c1 => ?_⟩
      · skip
        exact hpost _ hx3
      · skip
        refine ⟨iv_in (iv_add (l := 0) (h := 80) (iv_mul (l := 0) (h := 72) (iv_lta (l := 0) (h := 8) (r_nle c1) hx4 k_lf_huts (by decide)) (iv_lit (l := 9) (h := 9) (by decide)) (by decide)) hx2 (by decide)) (by decide), ?_⟩
        refine ⟨fun c2 => ?_, fun c2 => ?_⟩
        · skip
          refine ⟨fun c3 => ?_, fun c3 => ?_⟩
          · skip
            exact s_wp_X7_leastFall_9_55 k_lf_huts k_lf_dams k_la_heights k_la_minutes hx2 hx3 (iv_lta (l := 0) (h := 8) (r_nle c1) hx4 k_lf_huts (by decide)) x4.toInt (Int.le_refl _) (fun u0 u1 hq g0 g1 => ih u0 u1 (ms_up hm hq) g0 g1) hpost
          · skip
            exact (iv_emp (iv_ne (l := 1) (h := 0) c3 (iv_lit (l := 0) (h := 0) (by decide)) (iv_lit (l := 0) (h := 0) (by decide)) (by decide)) (by decide)).elim
        · skip
          refine ⟨iv_in hx2 (by decide), ?_⟩
          refine ⟨iv_in (iv_lta (l := 0) (h := 8) (r_nle c1) hx4 k_lf_huts (by decide)) (by decide), ?_⟩
          refine ⟨fun c4 => ?_, fun c4 => ?_⟩
          · skip
            refine ⟨fun c5 => ?_, fun c5 => ?_⟩
            · skip
              exact s_wp_X7_leastFall_9_55 k_lf_huts k_lf_dams k_la_heights k_la_minutes hx2 hx3 (iv_lta (l := 0) (h := 8) (r_nle c1) hx4 k_lf_huts (by decide)) x4.toInt (Int.le_refl _) (fun u0 u1 hq g0 g1 => ih u0 u1 (ms_up hm hq) g0 g1) hpost
            · skip
              exact (iv_emp (iv_ne (l := 1) (h := 0) c5 (iv_lit (l := 0) (h := 0) (by decide)) (iv_lit (l := 0) (h := 0) (by decide)) (by decide)) (by decide)).elim
          · skip
            refine ⟨fun c6 => ?_, fun c6 => ?_⟩
            · skip
              refine ⟨fun c7 => ?_, fun c7 => ?_⟩
              · skip
                exact (iv_emp (iv_ne (l := 1) (h := 0) c7 (iv_lit (l := 0) (h := 0) (by decide)) (iv_lit (l := 0) (h := 0) (by decide)) (by decide)) (by decide)).elim
              · skip
                refine ⟨fun c8 => ?_, fun c8 => ?_⟩
                · skip
                  refine ⟨fun c9 => ?_, fun c9 => ?_⟩
                  · skip
                    exact (iv_emp (iv_ne (l := 1) (h := 0) c9 (iv_lit (l := 0) (h := 0) (by decide)) (iv_lit (l := 0) (h := 0) (by decide)) (by decide)) (by decide)).elim
                  · skip
                    refine ⟨fun c10 => ?_, fun c10 => ?_⟩
                    · skip
                      exact (iv_emp (iv_eqa (l := 1) (h := 0) c10 (iv_lit (l := 1) (h := 1) (by decide)) (iv_lit (l := 0) (h := 0) (by decide)) (by decide)) (by decide)).elim
                    · skip
                      refine ⟨iv_in (iv_lta (l := 0) (h := 8) (r_nle c1) hx4 k_lf_huts (by decide)) (by decide), ?_⟩
                      refine ⟨iv_in (iv_lta (l := 0) (h := 8) (r_nle c1) hx4 k_lf_huts (by decide)) (by decide), ?_⟩
                      refine ⟨iv_in hx2 (by decide), ?_⟩
                      intro w11 ew11
                      have hw11 := iv_eq ew11 (iv_min (l := (-99)) (h := 1000) hx3 (iv_max (l := (-97)) (h := 2147483647) (iv_top _) (iv_sub (l := (-97)) (h := 99) (iv_ltb (l := 1) (h := 99) (r_nle c4) (k_la_heights _) (k_la_heights _) (by decide)) (iv_lta (l := 0) (h := 98) (r_nle c4) (k_la_heights _) (k_la_heights _) (by decide)) (by decide)) (by decide)) (by decide))
                      exact s_wp_X7_leastFall_9_55 k_lf_huts k_lf_dams k_la_heights k_la_minutes hx2 hw11 (iv_lta (l := 0) (h := 8) (r_nle c1) hx4 k_lf_huts (by decide)) x4.toInt (Int.le_refl _) (fun u0 u1 hq g0 g1 => ih u0 u1 (ms_up hm hq) g0 g1) hpost
                · skip
                  refine ⟨fun c12 => ?_, fun c12 => ?_⟩
                  · skip
                    refine ⟨fun c13 => ?_, fun c13 => ?_⟩
                    · skip
                      exact s_wp_X7_leastFall_9_55 k_lf_huts k_lf_dams k_la_heights k_la_minutes hx2 hx3 (iv_lta (l := 0) (h := 8) (r_nle c1) hx4 k_lf_huts (by decide)) x4.toInt (Int.le_refl _) (fun u0 u1 hq g0 g1 => ih u0 u1 (ms_up hm hq) g0 g1) hpost
                    · skip
                      exact (iv_emp (iv_ne (l := 1) (h := 0) c13 (iv_lit (l := 0) (h := 0) (by decide)) (iv_lit (l := 0) (h := 0) (by decide)) (by decide)) (by decide)).elim
                  · skip
                    exact (iv_emp (iv_eqa (l := 1) (h := 0) c12 (iv_lit (l := 1) (h := 1) (by decide)) (iv_lit (l := 0) (h := 0) (by decide)) (by decide)) (by decide)).elim
            · skip
              refine ⟨fun c14 => ?_, fun c14 => ?_⟩
              · skip
                refine ⟨fun c15 => ?_, fun c15 => ?_⟩
                · skip
                  exact s_wp_X7_leastFall_9_55 k_lf_huts k_lf_dams k_la_heights k_la_minutes hx2 hx3 (iv_lta (l := 0) (h := 8) (r_nle c1) hx4 k_lf_huts (by decide)) x4.toInt (Int.le_refl _) (fun u0 u1 hq g0 g1 => ih u0 u1 (ms_up hm hq) g0 g1) hpost
                · skip
                  exact (iv_emp (iv_ne (l := 1) (h := 0) c15 (iv_lit (l := 0) (h := 0) (by decide)) (iv_lit (l := 0) (h := 0) (by decide)) (by decide)) (by decide)).elim
              · skip
                exact (iv_emp (iv_eqa (l := 1) (h := 0) c14 (iv_lit (l := 1) (h := 1) (by decide)) (iv_lit (l := 0) (h := 0) (by decide)) (by decide)) (by decide)).elim
  exact loop _ _ _ (ms_init_up _ _) hx3 hx4
set_option maxRecDepth 20000 in
theorem s_wp_X7_leastFall_9_0 {a_now : Nat → Int32} {lf_huts : Int32} {lf_dams : Int32} {la_heights : Nat → Int32} {la_minutes : Nat → Int32} {x2 : Int32} {post : Int32 → Prop} (k_lf_huts : iv 2 9 lf_huts) (k_lf_dams : iv 0 511 lf_dams) (k_la_heights : ∀ j, iv 0 99 (la_heights j)) (k_la_minutes : ∀ j, iv 0 9 (la_minutes j)) (hx2 : iv 0 8 x2) (hpost : ∀ (r : Int32), iv (-99) 1000 r → post r) : q_wp_X7_leastFall_9_0 a_now lf_huts lf_dams la_heights la_minutes x2 post := by
  exact s_wp_X7_leastFall_9_7 k_lf_huts k_lf_dams k_la_heights k_la_minutes hx2 (iv_w (iv_lit (l := 1000) (h := 1000) (by decide)) (by decide)) (iv_w (iv_lit (l := 0) (h := 0) (by decide)) (by decide)) hpost
-- wp_X7_steepest_9
set_option maxRecDepth 20000 in
theorem s_wp_X7_steepest_9_32 {P20 : Int32 → (Nat → Int32) → Prop} {a_now : Nat → Int32} {lf_huts : Int32} {lf_dams : Int32} {la_heights : Nat → Int32} {la_minutes : Nat → Int32} {x3 : Int32} {x4 : Int32} {x5 : Int32} {post : Int32 → (Nat → Int32) → Prop} (k_lf_huts : iv 2 9 lf_huts) (k_lf_dams : iv 0 511 lf_dams) (k_la_heights : ∀ j, iv 0 99 (la_heights j)) (k_la_minutes : ∀ j, iv 0 9 (la_minutes j)) (hx3 : iv 0 8 x3) (hx4 : iv 1 8 x4) (hx5 : iv 0 9 x5) (m20 : Int) (hm20 : m20 ≤ x4.toInt) (hP20 : ∀ (x4 : Int32) (a_now : Nat → Int32), m20 < x4.toInt → iv 1 9 x4 → P20 x4 a_now) (hpost : ∀ (r : Int32) (a_now : Nat → Int32), post r a_now) : q_wp_X7_steepest_9_32 P20 a_now lf_huts lf_dams la_heights la_minutes x3 x4 x5 post := by
  intro P hP
  have loop : ∀ (n : Nat) (x5 : Int32) (a_now : Nat → Int32), (9 - x5.toInt < (n : Int)) → (iv 0 9 x5) → P x5 a_now := by
    intro n
    induction n with
    | zero => intro x5 a_now hm hx5; exact (ms0_up hm hx5).elim
    | succ n ih =>
      intro x5 a_now hm hx5
      apply hP
      refine ⟨fun c1 => ?_, fun c1 => ?_⟩
      · skip
        intro w2 ew2
        have hw2 := iv_eq ew2 (iv_add (l := 2) (h := 9) hx4 (iv_lit (l := 1) (h := 1) (by decide)) (by decide))
        exact hP20 _ _ (ml_up hm20 (inc_lt ew2 hx4 (by decide))) (iv_w hw2 (by decide))
      · skip
        refine ⟨iv_in (iv_lta (l := 0) (h := 8) (r_nle c1) hx5 k_lf_huts (by decide)) (by decide), ?_⟩
        refine s_wp_X7_leastFall_9_0 k_lf_huts k_lf_dams k_la_heights k_la_minutes (iv_lta (l := 0) (h := 8) (r_nle c1) hx5 k_lf_huts (by decide)) (fun r3 hr3 => ?_)
        intro w4 ew4
        have hw4 := iv_eq ew4 (iv_min (l := (-2147483648)) (h := 1000) (iv_top _) hr3 (by decide))
        refine ⟨iv_in (iv_lta (l := 0) (h := 8) (r_nle c1) hx5 k_lf_huts (by decide)) (by decide), ?_⟩
        intro a5 ea5
        intro w6 ew6
        have hw6 := iv_eq ew6 (iv_add (l := 1) (h := 9) (iv_lta (l := 0) (h := 8) (r_nle c1) hx5 k_lf_huts (by decide)) (iv_lit (l := 1) (h := 1) (by decide)) (by decide))
        exact ih _ _ (ms_up hm (inc_lt ew6 (iv_lta (l := 0) (h := 8) (r_nle c1) hx5 k_lf_huts (by decide)) (by decide))) (iv_w hw6 (by decide))
  exact loop _ _ _ (ms_init_up _ _) hx5
set_option maxRecDepth 20000 in
theorem s_wp_X7_steepest_9_20 {a_now : Nat → Int32} {lf_huts : Int32} {lf_dams : Int32} {la_heights : Nat → Int32} {la_minutes : Nat → Int32} {x3 : Int32} {x4 : Int32} {post : Int32 → (Nat → Int32) → Prop} (k_lf_huts : iv 1 9 lf_huts) (k_lf_dams : iv 0 511 lf_dams) (k_la_heights : ∀ j, iv 0 99 (la_heights j)) (k_la_minutes : ∀ j, iv 0 9 (la_minutes j)) (hx3 : iv 0 8 x3) (hx4 : iv 1 9 x4) (hpost : ∀ (r : Int32) (a_now : Nat → Int32), post r a_now) : q_wp_X7_steepest_9_20 a_now lf_huts lf_dams la_heights la_minutes x3 x4 post := by
  intro P hP
  have loop : ∀ (n : Nat) (x4 : Int32) (a_now : Nat → Int32), (9 - x4.toInt < (n : Int)) → (iv 1 9 x4) → P x4 a_now := by
    intro n
    induction n with
    | zero => intro x4 a_now hm hx4; exact (ms0_up hm hx4).elim
    | succ n ih =>
      intro x4 a_now hm hx4
      apply hP
      refine ⟨fun c1 => ?_, fun c1 => ?_⟩
      · skip
        refine ⟨iv_in hx3 (by decide), ?_⟩
        exact hpost _ _
      · skip
        exact s_wp_X7_steepest_9_32 (iv_ltb (l := 2) (h := 9) (r_nle c1) hx4 k_lf_huts (by decide)) k_lf_dams k_la_heights k_la_minutes hx3 (iv_lta (l := 1) (h := 8) (r_nle c1) hx4 k_lf_huts (by decide)) (iv_w (iv_lit (l := 0) (h := 0) (by decide)) (by decide)) x4.toInt (Int.le_refl _) (fun u0 u1 hq g0 => ih u0 u1 (ms_up hm hq) g0) hpost
  exact loop _ _ _ (ms_init_up _ _) hx4
set_option maxRecDepth 20000 in
theorem s_wp_X7_steepest_9_0 {a_now : Nat → Int32} {lf_huts : Int32} {lf_dams : Int32} {la_heights : Nat → Int32} {la_minutes : Nat → Int32} {x2 : Int32} {x3 : Int32} {post : Int32 → (Nat → Int32) → Prop} (k_lf_huts : iv 1 9 lf_huts) (k_lf_dams : iv 0 511 lf_dams) (k_la_heights : ∀ j, iv 0 99 (la_heights j)) (k_la_minutes : ∀ j, iv 0 9 (la_minutes j)) (hx2 : iv 0 8 x2) (hx3 : iv 0 8 x3) (hpost : ∀ (r : Int32) (a_now : Nat → Int32), post r a_now) : q_wp_X7_steepest_9_0 a_now lf_huts lf_dams la_heights la_minutes x2 x3 post := by
  refine s_wp_J7_fill_53178_7_0 (iv_w (iv_lit (l := 1000) (h := 1000) (by decide)) (by decide)) (fun o1 => ?_)
  refine ⟨iv_in hx2 (by decide), ?_⟩
  intro a2 ea2
  exact s_wp_X7_steepest_9_20 k_lf_huts k_lf_dams k_la_heights k_la_minutes hx3 (iv_w (iv_lit (l := 1) (h := 1) (by decide)) (by decide)) hpost
-- wp_X7_depth_9
set_option maxRecDepth 20000 in
theorem s_wp_X7_depth_9_21 {P4 : Int32 → Int32 → (Nat → Int32) → (Nat → Int32) → (Nat → Int32) → (Nat → Int32) → Prop} {a_total : Nat → Int32} {a_longest : Nat → Int32} {a_now : Nat → Int32} {a_then : Nat → Int32} {lf_huts : Int32} {lf_dams : Int32} {la_heights : Nat → Int32} {la_minutes : Nat → Int32} {x2 : Int32} {x3 : Int32} {x4 : Int32} {post : Int32 → (Nat → Int32) → (Nat → Int32) → (Nat → Int32) → (Nat → Int32) → Prop} (k_a_longest : ∀ j, iv 0 8 (a_longest j)) (k_lf_huts : iv 1 9 lf_huts) (k_lf_dams : iv 0 511 lf_dams) (k_la_heights : ∀ j, iv 0 99 (la_heights j)) (k_la_minutes : ∀ j, iv 0 9 (la_minutes j)) (hx2 : iv 0 8 x2) (hx3 : iv 0 8 x3) (hx4 : iv 0 9 x4) (m4 : Int) (hm4 : m4 ≤ x3.toInt) (hP4 : ∀ (x2 : Int32) (x3 : Int32) (a_total : Nat → Int32) (a_longest : Nat → Int32) (a_now : Nat → Int32) (a_then : Nat → Int32), m4 < x3.toInt → iv 0 8 x2 → iv 0 9 x3 → (∀ j, iv 0 8 (a_longest j)) → P4 x2 x3 a_total a_longest a_now a_then) (hpost : ∀ (r : Int32) (a_total : Nat → Int32) (a_longest : Nat → Int32) (a_now : Nat → Int32) (a_then : Nat → Int32), iv 0 8 r → (∀ j, iv 0 8 (a_longest j)) → post r a_total a_longest a_now a_then) : q_wp_X7_depth_9_21 P4 a_total a_longest a_now a_then lf_huts lf_dams la_heights la_minutes x2 x3 x4 post := by
  intro P hP
  have loop : ∀ (n : Nat) (x2 : Int32) (x4 : Int32), (9 - x4.toInt < (n : Int)) → (iv 0 8 x2) → (iv 0 9 x4) → P x2 x4 := by
    intro n
    induction n with
    | zero => intro x2 x4 hm hx2 hx4; exact (ms0_up hm hx4).elim
    | succ n ih =>
      intro x2 x4 hm hx2 hx4
      apply hP
      refine ⟨fun c1 => ?_, fun c1 => ?_⟩
      · skip
        intro w2 ew2
        have hw2 := iv_eq ew2 (iv_add (l := 1) (h := 9) hx3 (iv_lit (l := 1) (h := 1) (by decide)) (by decide))
        exact hP4 _ _ _ _ _ _ (ml_up hm4 (inc_lt ew2 hx3 (by decide))) hx2 (iv_w hw2 (by decide)) k_a_longest
      · skip
        refine ⟨iv_in (iv_lta (l := 0) (h := 8) (r_nle c1) hx4 k_lf_huts (by decide)) (by decide), ?_⟩
        intro w3 ew3
        have hw3 := iv_eq ew3 (iv_max (l := 0) (h := 8) hx2 (k_a_longest _) (by decide))
        intro w4 ew4
        have hw4 := iv_eq ew4 (iv_add (l := 1) (h := 9) (iv_lta (l := 0) (h := 8) (r_nle c1) hx4 k_lf_huts (by decide)) (iv_lit (l := 1) (h := 1) (by decide)) (by decide))
        exact ih _ _ (ms_up hm (inc_lt ew4 (iv_lta (l := 0) (h := 8) (r_nle c1) hx4 k_lf_huts (by decide)) (by decide))) hw3 (iv_w hw4 (by decide))
  exact loop _ _ _ (ms_init_up _ _) hx2 hx4
set_option maxRecDepth 20000 in
theorem s_wp_X7_depth_9_4 {a_total : Nat → Int32} {a_longest : Nat → Int32} {a_now : Nat → Int32} {a_then : Nat → Int32} {lf_huts : Int32} {lf_dams : Int32} {la_heights : Nat → Int32} {la_minutes : Nat → Int32} {x2 : Int32} {x3 : Int32} {post : Int32 → (Nat → Int32) → (Nat → Int32) → (Nat → Int32) → (Nat → Int32) → Prop} (k_a_longest : ∀ j, iv 0 8 (a_longest j)) (k_lf_huts : iv 0 9 lf_huts) (k_lf_dams : iv 0 511 lf_dams) (k_la_heights : ∀ j, iv 0 99 (la_heights j)) (k_la_minutes : ∀ j, iv 0 9 (la_minutes j)) (hx2 : iv 0 8 x2) (hx3 : iv 0 9 x3) (hpost : ∀ (r : Int32) (a_total : Nat → Int32) (a_longest : Nat → Int32) (a_now : Nat → Int32) (a_then : Nat → Int32), iv 0 8 r → (∀ j, iv 0 8 (a_longest j)) → post r a_total a_longest a_now a_then) : q_wp_X7_depth_9_4 a_total a_longest a_now a_then lf_huts lf_dams la_heights la_minutes x2 x3 post := by
  intro P hP
  have loop : ∀ (n : Nat) (x2 : Int32) (x3 : Int32) (a_total : Nat → Int32) (a_longest : Nat → Int32) (a_now : Nat → Int32) (a_then : Nat → Int32), (9 - x3.toInt < (n : Int)) → (iv 0 8 x2) → (iv 0 9 x3) → (∀ j, iv 0 8 (a_longest j)) → P x2 x3 a_total a_longest a_now a_then := by
    intro n
    induction n with
    | zero => intro x2 x3 a_total a_longest a_now a_then hm hx2 hx3 k_a_longest; exact (ms0_up hm hx3).elim
    | succ n ih =>
      intro x2 x3 a_total a_longest a_now a_then hm hx2 hx3 k_a_longest
      apply hP
      refine ⟨fun c1 => ?_, fun c1 => ?_⟩
      · skip
        exact hpost _ _ _ _ _ hx2 k_a_longest
      · skip
        refine s_wp_X7_trace_9_0 k_a_longest (iv_ltb (l := 1) (h := 9) (r_nle c1) hx3 k_lf_huts (by decide)) k_lf_dams k_la_heights k_la_minutes (iv_lta (l := 0) (h := 8) (r_nle c1) hx3 k_lf_huts (by decide)) (fun o2 o3 o4 o5 k_o3 => ?_)
        exact s_wp_X7_depth_9_21 k_o3 (iv_ltb (l := 1) (h := 9) (r_nle c1) hx3 k_lf_huts (by decide)) k_lf_dams k_la_heights k_la_minutes hx2 (iv_lta (l := 0) (h := 8) (r_nle c1) hx3 k_lf_huts (by decide)) (iv_w (iv_lit (l := 0) (h := 0) (by decide)) (by decide)) x3.toInt (Int.le_refl _) (fun u0 u1 u2 u3 u4 u5 hq g0 g1 g2 => ih u0 u1 u2 u3 u4 u5 (ms_up hm hq) g0 g1 g2) hpost
  exact loop _ _ _ _ _ _ _ (ms_init_up _ _) hx2 hx3 k_a_longest
set_option maxRecDepth 20000 in
theorem s_wp_X7_depth_9_0 {a_total : Nat → Int32} {a_longest : Nat → Int32} {a_now : Nat → Int32} {a_then : Nat → Int32} {lf_huts : Int32} {lf_dams : Int32} {la_heights : Nat → Int32} {la_minutes : Nat → Int32} {post : Int32 → (Nat → Int32) → (Nat → Int32) → (Nat → Int32) → (Nat → Int32) → Prop} (k_a_longest : ∀ j, iv 0 8 (a_longest j)) (k_lf_huts : iv 0 9 lf_huts) (k_lf_dams : iv 0 511 lf_dams) (k_la_heights : ∀ j, iv 0 99 (la_heights j)) (k_la_minutes : ∀ j, iv 0 9 (la_minutes j)) (hpost : ∀ (r : Int32) (a_total : Nat → Int32) (a_longest : Nat → Int32) (a_now : Nat → Int32) (a_then : Nat → Int32), iv 0 8 r → (∀ j, iv 0 8 (a_longest j)) → post r a_total a_longest a_now a_then) : q_wp_X7_depth_9_0 a_total a_longest a_now a_then lf_huts lf_dams la_heights la_minutes post := by
  exact s_wp_X7_depth_9_4 k_a_longest k_lf_huts k_lf_dams k_la_heights k_la_minutes (iv_w (iv_lit (l := 0) (h := 0) (by decide)) (by decide)) (iv_w (iv_lit (l := 0) (h := 0) (by decide)) (by decide)) hpost
-- wp_X7_reach_5
set_option maxRecDepth 20000 in
theorem s_wp_X7_reach_5_49 {P7 : Int32 → Int32 → Prop} {P20 : Int32 → Int32 → Prop} {a_next : Nat → Int32} {x2 : Int32} {x3 : Int32} {x4 : Int32} {x5 : Int32} {x6 : Int32} {post : Int32 → Prop} (k_a_next : ∀ j, iv 0 511 (a_next j)) (hx2 : iv 0 511 x2) (hx3 : iv 0 511 x3) (hx4 : iv 0 8 x4) (hx5 : iv 0 511 x5) (hx6 : iv 0 8 x6) (m7 : Int) (hm7 : m7 ≤ x4.toInt) (hP7 : ∀ (x3 : Int32) (x4 : Int32), m7 < x4.toInt → iv 0 511 x3 → iv 0 9 x4 → P7 x3 x4) (m20 : Int) (hm20 : m20 ≤ x6.toInt) (hP20 : ∀ (x5 : Int32) (x6 : Int32), m20 < x6.toInt → iv 0 511 x5 → iv 0 9 x6 → P20 x5 x6) (hpost : ∀ (r : Int32), iv 0 511 r → post r) : q_wp_X7_reach_5_49 P7 P20 a_next x2 x3 x4 x5 x6 post := by
  intro w1 ew1
  have hw1 := iv_eq ew1 (iv_add (l := 1) (h := 9) hx6 (iv_lit (l := 1) (h := 1) (by decide)) (by decide))
  exact hP20 _ _ (ml_up hm20 (inc_lt ew1 hx6 (by decide))) hx5 (iv_w hw1 (by decide))
set_option maxRecDepth 20000 in
theorem s_wp_X7_reach_5_20 {P7 : Int32 → Int32 → Prop} {a_next : Nat → Int32} {x2 : Int32} {x3 : Int32} {x4 : Int32} {x5 : Int32} {x6 : Int32} {post : Int32 → Prop} (k_a_next : ∀ j, iv 0 511 (a_next j)) (hx2 : iv 0 511 x2) (hx3 : iv 0 511 x3) (hx4 : iv 0 8 x4) (hx5 : iv 0 511 x5) (hx6 : iv 0 9 x6) (m7 : Int) (hm7 : m7 ≤ x4.toInt) (hP7 : ∀ (x3 : Int32) (x4 : Int32), m7 < x4.toInt → iv 0 511 x3 → iv 0 9 x4 → P7 x3 x4) (hpost : ∀ (r : Int32), iv 0 511 r → post r) : q_wp_X7_reach_5_20 P7 a_next x2 x3 x4 x5 x6 post := by
  intro P hP
  have loop : ∀ (n : Nat) (x5 : Int32) (x6 : Int32), (9 - x6.toInt < (n : Int)) → (iv 0 511 x5) → (iv 0 9 x6) → P x5 x6 := by
    intro n
    induction n with
    | zero => intro x5 x6 hm hx5 hx6; exact (ms0_up hm hx6).elim
    | succ n ih =>
      intro x5 x6 hm hx5 hx6
      apply hP
      refine ⟨fun c1 => ?_, fun c1 => ?_⟩
      · skip
        refine ⟨fun c2 => ?_, fun c2 => ?_⟩
        · skip
          intro w3 ew3
          have hw3 := iv_eq ew3 (iv_add (l := 1) (h := 9) hx4 (iv_lit (l := 1) (h := 1) (by decide)) (by decide))
          exact hP7 _ _ (ml_up hm7 (inc_lt ew3 hx4 (by decide))) hx5 (iv_w hw3 (by decide))
        · skip
          exact hpost _ hx3
      · skip
        refine ⟨fun c4 => ?_, fun c4 => ?_⟩
        · skip
          refine ⟨fun c5 => ?_, fun c5 => ?_⟩
          · skip
            exact s_wp_X7_reach_5_49 k_a_next hx2 hx3 hx4 hx5 (iv_lta (l := 0) (h := 8) (r_nle c1) hx6 (iv_lit (l := 9) (h := 9) (by decide)) (by decide)) m7 hm7 hP7 x6.toInt (Int.le_refl _) (fun u0 u1 hq g0 g1 => ih u0 u1 (ms_up hm hq) g0 g1) hpost
          · skip
            exact (iv_emp (iv_ne (l := 1) (h := 0) c5 (iv_lit (l := 0) (h := 0) (by decide)) (iv_lit (l := 0) (h := 0) (by decide)) (by decide)) (by decide)).elim
        · skip
          refine ⟨fun c6 => ?_, fun c6 => ?_⟩
          · skip
            exact (iv_emp (iv_eqa (l := 1) (h := 0) c6 (iv_lit (l := 1) (h := 1) (by decide)) (iv_lit (l := 0) (h := 0) (by decide)) (by decide)) (by decide)).elim
          · skip
            refine ⟨iv_in (iv_lta (l := 0) (h := 8) (r_nle c1) hx6 (iv_lit (l := 9) (h := 9) (by decide)) (by decide)) (by decide), ?_⟩
            intro w7 ew7
            have hw7 := iv_eq ew7 (iv_or 9 (l := 0) (h := 511) hx5 (iv_andl (l := 0) (h := 511) (k_a_next _) (by decide)) (by decide))
            exact s_wp_X7_reach_5_49 k_a_next hx2 hx3 hx4 hw7 (iv_lta (l := 0) (h := 8) (r_nle c1) hx6 (iv_lit (l := 9) (h := 9) (by decide)) (by decide)) m7 hm7 hP7 x6.toInt (Int.le_refl _) (fun u0 u1 hq g0 g1 => ih u0 u1 (ms_up hm hq) g0 g1) hpost
  exact loop _ _ _ (ms_init_up _ _) hx5 hx6
set_option maxRecDepth 20000 in
theorem s_wp_X7_reach_5_7 {a_next : Nat → Int32} {x2 : Int32} {x3 : Int32} {x4 : Int32} {post : Int32 → Prop} (k_a_next : ∀ j, iv 0 511 (a_next j)) (hx2 : iv 0 511 x2) (hx3 : iv 0 511 x3) (hx4 : iv 0 9 x4) (hpost : ∀ (r : Int32), iv 0 511 r → post r) : q_wp_X7_reach_5_7 a_next x2 x3 x4 post := by
  intro P hP
  have loop : ∀ (n : Nat) (x3 : Int32) (x4 : Int32), (9 - x4.toInt < (n : Int)) → (iv 0 511 x3) → (iv 0 9 x4) → P x3 x4 := by
    intro n
    induction n with
    | zero => intro x3 x4 hm hx3 hx4; exact (ms0_up hm hx4).elim
    | succ n ih =>
      intro x3 x4 hm hx3 hx4
      apply hP
      refine ⟨fun c1 => ?_, fun c1 => ?_⟩
      · skip
        exact hpost _ hx3
      · skip
        exact s_wp_X7_reach_5_20 k_a_next hx2 hx3 (iv_lta (l := 0) (h := 8) (r_nle c1) hx4 (iv_lit (l := 9) (h := 9) (by decide)) (by decide)) hx3 (iv_w (iv_lit (l := 0) (h := 0) (by decide)) (by decide)) x4.toInt (Int.le_refl _) (fun u0 u1 hq g0 g1 => ih u0 u1 (ms_up hm hq) g0 g1) hpost
  exact loop _ _ _ (ms_init_up _ _) hx3 hx4
set_option maxRecDepth 20000 in
theorem s_wp_X7_reach_5_0 {a_next : Nat → Int32} {x0 : Int32} {x2 : Int32} {post : Int32 → Prop} (k_a_next : ∀ j, iv 0 511 (a_next j)) (hx0 : iv 0 8 x0) (hx2 : iv 0 511 x2) (hpost : ∀ (r : Int32), iv 0 511 r → post r) : q_wp_X7_reach_5_0 a_next x0 x2 post := by
  intro w1 ew1
  have hw1 := iv_eq ew1 (iv_shl1 (l := 1) (h := 256) (iv_lit (l := 1) (h := 1) (by decide)) hx0 (by decide))
  exact s_wp_X7_reach_5_7 k_a_next hx2 (iv_w hw1 (by decide)) (iv_w (iv_lit (l := 0) (h := 0) (by decide)) (by decide)) hpost
-- wp_X7_worst_9
set_option maxRecDepth 20000 in
theorem s_wp_X7_worst_9_56 {P8 : Int32 → Int32 → Int32 → Prop} {a_next : Nat → Int32} {lf_huts : Int32} {lf_dams : Int32} {x2 : Int32} {x3 : Int32} {x4 : Int32} {x5 : Int32} {post : Int32 → Prop} (k_a_next : ∀ j, iv 0 511 (a_next j)) (k_lf_huts : iv 1 9 lf_huts) (k_lf_dams : iv 0 511 lf_dams) (hx2 : iv 0 8 x2) (hx3 : iv (-1) 8 x3) (hx4 : iv (-1) 63 x4) (hx5 : iv 0 8 x5) (m8 : Int) (hm8 : m8 ≤ x5.toInt) (hP8 : ∀ (x3 : Int32) (x4 : Int32) (x5 : Int32), m8 < x5.toInt → iv (-1) 8 x3 → iv (-1) 63 x4 → iv 0 9 x5 → P8 x3 x4 x5) (hpost : ∀ (r : Int32), iv (-1) 8 r → post r) : q_wp_X7_worst_9_56 P8 a_next lf_huts lf_dams x2 x3 x4 x5 post := by
  intro w1 ew1
  have hw1 := iv_eq ew1 (iv_add (l := 1) (h := 9) hx5 (iv_lit (l := 1) (h := 1) (by decide)) (by decide))
  exact hP8 _ _ _ (ml_up hm8 (inc_lt ew1 hx5 (by decide))) hx3 hx4 (iv_w hw1 (by decide))
set_option maxRecDepth 20000 in
theorem s_wp_X7_worst_9_8 {a_next : Nat → Int32} {lf_huts : Int32} {lf_dams : Int32} {x2 : Int32} {x3 : Int32} {x4 : Int32} {x5 : Int32} {post : Int32 → Prop} (k_a_next : ∀ j, iv 0 511 (a_next j)) (k_lf_huts : iv 1 9 lf_huts) (k_lf_dams : iv 0 511 lf_dams) (hx2 : iv 0 8 x2) (hx3 : iv (-1) 8 x3) (hx4 : iv (-1) 63 x4) (hx5 : iv 0 9 x5) (hpost : ∀ (r : Int32), iv (-1) 8 r → post r) : q_wp_X7_worst_9_8 a_next lf_huts lf_dams x2 x3 x4 x5 post := by
  intro P hP
  have loop : ∀ (n : Nat) (x3 : Int32) (x4 : Int32) (x5 : Int32), (9 - x5.toInt < (n : Int)) → (iv (-1) 8 x3) → (iv (-1) 63 x4) → (iv 0 9 x5) → P x3 x4 x5 := by
    intro n
    induction n with
    | zero => intro x3 x4 x5 hm hx3 hx4 hx5; exact (ms0_up hm hx5).elim
    | succ n ih =>
      intro x3 x4 x5 hm hx3 hx4 hx5
      apply hP
      refine ⟨fun c1 => ?_, fun c1 => ?_⟩
      · skip
        exact hpost _ hx3
      · skip
        refine ⟨fun c2 => ?_, fun c2 => ?_⟩
        · skip
          exact s_wp_X7_worst_9_56 k_a_next k_lf_huts k_lf_dams hx2 hx3 hx4 (iv_lta (l := 0) (h := 8) (r_nle c1) hx5 k_lf_huts (by decide)) x5.toInt (Int.le_refl _) (fun u0 u1 u2 hq g0 g1 g2 => ih u0 u1 u2 (ms_up hm hq) g0 g1 g2) hpost
        · skip
          refine ⟨fun c3 => ?_, fun c3 => ?_⟩
          · skip
            refine ⟨fun c4 => ?_, fun c4 => ?_⟩
            · skip
              exact (iv_emp (iv_ne (l := 1) (h := 0) c4 (iv_lit (l := 0) (h := 0) (by decide)) (iv_lit (l := 0) (h := 0) (by decide)) (by decide)) (by decide)).elim
            · skip
              refine s_wp_X7_reach_5_0 k_a_next hx2 (iv_w (iv_lit (l := 0) (h := 0) (by decide)) (by decide)) (fun r5 hr5 => ?_)
              refine s_wp_X7_reach_5_0 k_a_next hx2 (iv_w (iv_shl1 (l := 1) (h := 256) (iv_lit (l := 1) (h := 1) (by decide)) (iv_lta (l := 0) (h := 8) (r_nle c1) hx5 k_lf_huts (by decide)) (by decide)) (by decide)) (fun r6 hr6 => ?_)
              refine s_z_J6_bitCount_0f7a4_0 (iv_w (iv_andl (l := 0) (h := 511) (iv_andl (l := 0) (h := 511) hr5 (by decide)) (by decide)) (by decide)) (fun r7 hr7 => ?_)
              refine ⟨fun c8 => ?_, fun c8 => ?_⟩
              · skip
                exact s_wp_X7_worst_9_56 k_a_next k_lf_huts k_lf_dams hx2 hx3 (iv_w (iv_leb (l := 0) (h := 63) (r_le c8) hr7 hx4 (by decide)) (by decide)) (iv_lta (l := 0) (h := 8) (r_nle c1) hx5 k_lf_huts (by decide)) x5.toInt (Int.le_refl _) (fun u0 u1 u2 hq g0 g1 g2 => ih u0 u1 u2 (ms_up hm hq) g0 g1 g2) hpost
              · skip
                refine s_wp_X7_reach_5_0 k_a_next hx2 (iv_w (iv_lit (l := 0) (h := 0) (by decide)) (by decide)) (fun r9 hr9 => ?_)
                refine s_wp_X7_reach_5_0 k_a_next hx2 (iv_w (iv_shl1 (l := 1) (h := 256) (iv_lit (l := 1) (h := 1) (by decide)) (iv_lta (l := 0) (h := 8) (r_nle c1) hx5 k_lf_huts (by decide)) (by decide)) (by decide)) (fun r10 hr10 => ?_)
                refine s_z_J6_bitCount_0f7a4_0 (iv_w (iv_andl (l := 0) (h := 511) (iv_andl (l := 0) (h := 511) hr9 (by decide)) (by decide)) (by decide)) (fun r11 hr11 => ?_)
                exact s_wp_X7_worst_9_56 k_a_next k_lf_huts k_lf_dams hx2 (iv_w (iv_lta (l := 0) (h := 8) (r_nle c1) hx5 k_lf_huts (by decide)) (by decide)) (iv_w hr11 (by decide)) (iv_lta (l := 0) (h := 8) (r_nle c1) hx5 k_lf_huts (by decide)) x5.toInt (Int.le_refl _) (fun u0 u1 u2 hq g0 g1 g2 => ih u0 u1 u2 (ms_up hm hq) g0 g1 g2) hpost
          · skip
            refine ⟨fun c12 => ?_, fun c12 => ?_⟩
            · skip
              exact s_wp_X7_worst_9_56 k_a_next k_lf_huts k_lf_dams hx2 hx3 hx4 (iv_lta (l := 0) (h := 8) (r_nle c1) hx5 k_lf_huts (by decide)) x5.toInt (Int.le_refl _) (fun u0 u1 u2 hq g0 g1 g2 => ih u0 u1 u2 (ms_up hm hq) g0 g1 g2) hpost
            · skip
              exact (iv_emp (iv_eqa (l := 1) (h := 0) c12 (iv_lit (l := 1) (h := 1) (by decide)) (iv_lit (l := 0) (h := 0) (by decide)) (by decide)) (by decide)).elim
  exact loop _ _ _ _ (ms_init_up _ _) hx3 hx4 hx5
set_option maxRecDepth 20000 in
theorem s_wp_X7_worst_9_0 {a_next : Nat → Int32} {lf_huts : Int32} {lf_dams : Int32} {x2 : Int32} {post : Int32 → Prop} (k_a_next : ∀ j, iv 0 511 (a_next j)) (k_lf_huts : iv 1 9 lf_huts) (k_lf_dams : iv 0 511 lf_dams) (hx2 : iv 0 8 x2) (hpost : ∀ (r : Int32), iv (-1) 8 r → post r) : q_wp_X7_worst_9_0 a_next lf_huts lf_dams x2 post := by
  exact s_wp_X7_worst_9_8 k_a_next k_lf_huts k_lf_dams hx2 (iv_w (iv_lit (l := (-1)) (h := (-1)) (by decide)) (by decide)) (iv_w (iv_lit (l := (-1)) (h := (-1)) (by decide)) (by decide)) (iv_w (iv_lit (l := 0) (h := 0) (by decide)) (by decide)) hpost
-- wp_X7_agrees_18
set_option maxRecDepth 20000 in
theorem s_wp_X7_agrees_18_59 {P2 : Int32 → Prop} {a_heard : Nat → Int32} {sf_facts : Int32} {sa_heard : Nat → Int32} {sa_huts : Nat → Int32} {sa_minutes : Nat → Int32} {x2 : Int32} {x3 : Int32} {y0 : Int32} {y1 : Int32} {post : Int32 → Prop} (k_a_heard : ∀ j, iv 0 1000 (a_heard j)) (k_sf_facts : iv 1 10 sf_facts) (k_sa_heard : ∀ j, iv 0 1 (sa_heard j)) (k_sa_huts : ∀ j, iv 0 8 (sa_huts j)) (k_sa_minutes : ∀ j, iv 0 60 (sa_minutes j)) (hx2 : iv 0 8 x2) (hx3 : iv 0 9 x3) (hy0 : iv 0 1 y0) (hy1 : iv 0 1 y1) (m2 : Int) (hm2 : m2 ≤ x3.toInt) (hP2 : ∀ (x3 : Int32), m2 < x3.toInt → iv 0 10 x3 → P2 x3) (hpost : ∀ (r : Int32), iv 0 1 r → post r) : q_wp_X7_agrees_18_59 P2 a_heard sf_facts sa_heard sa_huts sa_minutes x2 x3 y0 y1 post := by
  refine ⟨fun c1 => ?_, fun c1 => ?_⟩
  · skip
    intro w2 ew2
    have hw2 := iv_eq ew2 (iv_add (l := 1) (h := 10) hx3 (iv_lit (l := 1) (h := 1) (by decide)) (by decide))
    exact hP2 _ (ml_up hm2 (inc_lt ew2 hx3 (by decide))) (iv_w hw2 (by decide))
  · skip
    exact hpost _ (iv_w (iv_lit (l := 0) (h := 0) (by decide)) (by decide))
set_option maxRecDepth 20000 in
theorem s_wp_X7_agrees_18_40 {P2 : Int32 → Prop} {a_heard : Nat → Int32} {sf_facts : Int32} {sa_heard : Nat → Int32} {sa_huts : Nat → Int32} {sa_minutes : Nat → Int32} {x2 : Int32} {x3 : Int32} {y0 : Int32} {post : Int32 → Prop} (k_a_heard : ∀ j, iv 0 1000 (a_heard j)) (k_sf_facts : iv 1 10 sf_facts) (k_sa_heard : ∀ j, iv 0 1 (sa_heard j)) (k_sa_huts : ∀ j, iv 0 8 (sa_huts j)) (k_sa_minutes : ∀ j, iv 0 60 (sa_minutes j)) (hx2 : iv 0 8 x2) (hx3 : iv 0 9 x3) (hy0 : iv 0 1 y0) (m2 : Int) (hm2 : m2 ≤ x3.toInt) (hP2 : ∀ (x3 : Int32), m2 < x3.toInt → iv 0 10 x3 → P2 x3) (hpost : ∀ (r : Int32), iv 0 1 r → post r) : q_wp_X7_agrees_18_40 P2 a_heard sf_facts sa_heard sa_huts sa_minutes x2 x3 y0 post := by
  refine ⟨iv_in hx3 (by decide), ?_⟩
  refine ⟨fun c1 => ?_, fun c1 => ?_⟩
  · skip
    exact s_wp_X7_agrees_18_59 k_a_heard k_sf_facts k_sa_heard k_sa_huts k_sa_minutes hx2 hx3 hy0 (iv_w (iv_lit (l := 0) (h := 0) (by decide)) (by decide)) m2 hm2 hP2 hpost
  · skip
    exact s_wp_X7_agrees_18_59 k_a_heard k_sf_facts k_sa_heard k_sa_huts k_sa_minutes hx2 hx3 hy0 (iv_w (iv_lit (l := 1) (h := 1) (by decide)) (by decide)) m2 hm2 hP2 hpost
set_option maxRecDepth 20000 in
theorem s_wp_X7_agrees_18_2 {a_heard : Nat → Int32} {sf_facts : Int32} {sa_heard : Nat → Int32} {sa_huts : Nat → Int32} {sa_minutes : Nat → Int32} {x2 : Int32} {x3 : Int32} {post : Int32 → Prop} (k_a_heard : ∀ j, iv 0 1000 (a_heard j)) (k_sf_facts : iv 0 10 sf_facts) (k_sa_heard : ∀ j, iv 0 1 (sa_heard j)) (k_sa_huts : ∀ j, iv 0 8 (sa_huts j)) (k_sa_minutes : ∀ j, iv 0 60 (sa_minutes j)) (hx2 : iv 0 8 x2) (hx3 : iv 0 10 x3) (hpost : ∀ (r : Int32), iv 0 1 r → post r) : q_wp_X7_agrees_18_2 a_heard sf_facts sa_heard sa_huts sa_minutes x2 x3 post := by
  intro P hP
  have loop : ∀ (n : Nat) (x3 : Int32), (10 - x3.toInt < (n : Int)) → (iv 0 10 x3) → P x3 := by
    intro n
    induction n with
    | zero => intro x3 hm hx3; exact (ms0_up hm hx3).elim
    | succ n ih =>
      intro x3 hm hx3
      apply hP
      refine ⟨fun c1 => ?_, fun c1 => ?_⟩
      · skip
        exact hpost _ (iv_w (iv_lit (l := 1) (h := 1) (by decide)) (by decide))
      · skip
        refine ⟨iv_in (iv_lta (l := 0) (h := 9) (r_nle c1) hx3 k_sf_facts (by decide)) (by decide), ?_⟩
        refine ⟨iv_in (iv_add (l := 0) (h := 80) (iv_mul (l := 0) (h := 72) hx2 (iv_lit (l := 9) (h := 9) (by decide)) (by decide)) (k_sa_huts _) (by decide)) (by decide), ?_⟩
        refine ⟨iv_in (iv_lta (l := 0) (h := 9) (r_nle c1) hx3 k_sf_facts (by decide)) (by decide), ?_⟩
        refine ⟨fun c2 => ?_, fun c2 => ?_⟩
        · skip
          exact s_wp_X7_agrees_18_40 k_a_heard (iv_ltb (l := 1) (h := 10) (r_nle c1) hx3 k_sf_facts (by decide)) k_sa_heard k_sa_huts k_sa_minutes hx2 (iv_lta (l := 0) (h := 9) (r_nle c1) hx3 k_sf_facts (by decide)) (iv_w (iv_lit (l := 0) (h := 0) (by decide)) (by decide)) x3.toInt (Int.le_refl _) (fun u0 hq g0 => ih u0 (ms_up hm hq) g0) hpost
        · skip
          exact s_wp_X7_agrees_18_40 k_a_heard (iv_ltb (l := 1) (h := 10) (r_nle c1) hx3 k_sf_facts (by decide)) k_sa_heard k_sa_huts k_sa_minutes hx2 (iv_lta (l := 0) (h := 9) (r_nle c1) hx3 k_sf_facts (by decide)) (iv_w (iv_lit (l := 1) (h := 1) (by decide)) (by decide)) x3.toInt (Int.le_refl _) (fun u0 hq g0 => ih u0 (ms_up hm hq) g0) hpost
  exact loop _ _ (ms_init_up _ _) hx3
set_option maxRecDepth 20000 in
theorem s_wp_X7_agrees_18_0 {a_heard : Nat → Int32} {sf_facts : Int32} {sa_heard : Nat → Int32} {sa_huts : Nat → Int32} {sa_minutes : Nat → Int32} {x2 : Int32} {post : Int32 → Prop} (k_a_heard : ∀ j, iv 0 1000 (a_heard j)) (k_sf_facts : iv 0 10 sf_facts) (k_sa_heard : ∀ j, iv 0 1 (sa_heard j)) (k_sa_huts : ∀ j, iv 0 8 (sa_huts j)) (k_sa_minutes : ∀ j, iv 0 60 (sa_minutes j)) (hx2 : iv 0 8 x2) (hpost : ∀ (r : Int32), iv 0 1 r → post r) : q_wp_X7_agrees_18_0 a_heard sf_facts sa_heard sa_huts sa_minutes x2 post := by
  exact s_wp_X7_agrees_18_2 k_a_heard k_sf_facts k_sa_heard k_sa_huts k_sa_minutes hx2 (iv_w (iv_lit (l := 0) (h := 0) (by decide)) (by decide)) hpost
end
section
-- wp_X7_fitting_9_18
set_option maxRecDepth 20000 in
theorem s_wp_X7_fitting_9_18_40 {P5 : Int32 → Int32 → Prop} {a_heard : Nat → Int32} {lf_huts : Int32} {lf_dams : Int32} {sf_facts : Int32} {sa_heard : Nat → Int32} {sa_huts : Nat → Int32} {sa_minutes : Nat → Int32} {x3 : Int32} {x4 : Int32} {post : Int32 → Prop} (k_a_heard : ∀ j, iv 0 1000 (a_heard j)) (k_lf_huts : iv 1 9 lf_huts) (k_lf_dams : iv 0 511 lf_dams) (k_sf_facts : iv 0 10 sf_facts) (k_sa_heard : ∀ j, iv 0 1 (sa_heard j)) (k_sa_huts : ∀ j, iv 0 8 (sa_huts j)) (k_sa_minutes : ∀ j, iv 0 60 (sa_minutes j)) (hx3 : iv 0 511 x3) (hx4 : iv 0 8 x4) (m5 : Int) (hm5 : m5 ≤ x4.toInt) (hP5 : ∀ (x3 : Int32) (x4 : Int32), m5 < x4.toInt → iv 0 511 x3 → iv 0 9 x4 → P5 x3 x4) (hpost : ∀ (r : Int32), iv 0 511 r → post r) : q_wp_X7_fitting_9_18_40 P5 a_heard lf_huts lf_dams sf_facts sa_heard sa_huts sa_minutes x3 x4 post := by
  intro w1 ew1
  have hw1 := iv_eq ew1 (iv_add (l := 1) (h := 9) hx4 (iv_lit (l := 1) (h := 1) (by decide)) (by decide))
  exact hP5 _ _ (ml_up hm5 (inc_lt ew1 hx4 (by decide))) hx3 (iv_w hw1 (by decide))
set_option maxRecDepth 20000 in
theorem s_wp_X7_fitting_9_18_5 {a_heard : Nat → Int32} {lf_huts : Int32} {lf_dams : Int32} {sf_facts : Int32} {sa_heard : Nat → Int32} {sa_huts : Nat → Int32} {sa_minutes : Nat → Int32} {x3 : Int32} {x4 : Int32} {post : Int32 → Prop} (k_a_heard : ∀ j, iv 0 1000 (a_heard j)) (k_lf_huts : iv 0 9 lf_huts) (k_lf_dams : iv 0 511 lf_dams) (k_sf_facts : iv 0 10 sf_facts) (k_sa_heard : ∀ j, iv 0 1 (sa_heard j)) (k_sa_huts : ∀ j, iv 0 8 (sa_huts j)) (k_sa_minutes : ∀ j, iv 0 60 (sa_minutes j)) (hx3 : iv 0 511 x3) (hx4 : iv 0 9 x4) (hpost : ∀ (r : Int32), iv 0 511 r → post r) : q_wp_X7_fitting_9_18_5 a_heard lf_huts lf_dams sf_facts sa_heard sa_huts sa_minutes x3 x4 post := by
  intro P hP
  have loop : ∀ (n : Nat) (x3 : Int32) (x4 : Int32), (9 - x4.toInt < (n : Int)) → (iv 0 511 x3) → (iv 0 9 x4) → P x3 x4 := by
    intro n
    induction n with
    | zero => intro x3 x4 hm hx3 hx4; exact (ms0_up hm hx4).elim
    | succ n ih =>
      intro x3 x4 hm hx3 hx4
      apply hP
      refine ⟨fun c1 => ?_, fun c1 => ?_⟩
      · skip
        exact hpost _ hx3
      · skip
        refine ⟨fun c2 => ?_, fun c2 => ?_⟩
        · skip
          refine ⟨fun c3 => ?_, fun c3 => ?_⟩
          · skip
            exact (iv_emp (iv_ne (l := 1) (h := 0) c3 (iv_lit (l := 0) (h := 0) (by decide)) (iv_lit (l := 0) (h := 0) (by decide)) (by decide)) (by decide)).elim
          · skip
            refine s_wp_X7_agrees_18_0 k_a_heard k_sf_facts k_sa_heard k_sa_huts k_sa_minutes (iv_lta (l := 0) (h := 8) (r_nle c1) hx4 k_lf_huts (by decide)) (fun r4 hr4 => ?_)
            refine ⟨fun c5 => ?_, fun c5 => ?_⟩
            · skip
              exact s_wp_X7_fitting_9_18_40 k_a_heard (iv_ltb (l := 1) (h := 9) (r_nle c1) hx4 k_lf_huts (by decide)) k_lf_dams k_sf_facts k_sa_heard k_sa_huts k_sa_minutes hx3 (iv_lta (l := 0) (h := 8) (r_nle c1) hx4 k_lf_huts (by decide)) x4.toInt (Int.le_refl _) (fun u0 u1 hq g0 g1 => ih u0 u1 (ms_up hm hq) g0 g1) hpost
            · skip
              intro w6 ew6
              have hw6 := iv_eq ew6 (iv_or 9 (l := 0) (h := 511) hx3 (iv_shl1 (l := 1) (h := 256) (iv_lit (l := 1) (h := 1) (by decide)) (iv_lta (l := 0) (h := 8) (r_nle c1) hx4 k_lf_huts (by decide)) (by decide)) (by decide))
              exact s_wp_X7_fitting_9_18_40 k_a_heard (iv_ltb (l := 1) (h := 9) (r_nle c1) hx4 k_lf_huts (by decide)) k_lf_dams k_sf_facts k_sa_heard k_sa_huts k_sa_minutes hw6 (iv_lta (l := 0) (h := 8) (r_nle c1) hx4 k_lf_huts (by decide)) x4.toInt (Int.le_refl _) (fun u0 u1 hq g0 g1 => ih u0 u1 (ms_up hm hq) g0 g1) hpost
        · skip
          refine ⟨fun c7 => ?_, fun c7 => ?_⟩
          · skip
            exact s_wp_X7_fitting_9_18_40 k_a_heard (iv_ltb (l := 1) (h := 9) (r_nle c1) hx4 k_lf_huts (by decide)) k_lf_dams k_sf_facts k_sa_heard k_sa_huts k_sa_minutes hx3 (iv_lta (l := 0) (h := 8) (r_nle c1) hx4 k_lf_huts (by decide)) x4.toInt (Int.le_refl _) (fun u0 u1 hq g0 g1 => ih u0 u1 (ms_up hm hq) g0 g1) hpost
          · skip
            exact (iv_emp (iv_eqa (l := 1) (h := 0) c7 (iv_lit (l := 1) (h := 1) (by decide)) (iv_lit (l := 0) (h := 0) (by decide)) (by decide)) (by decide)).elim
  exact loop _ _ _ (ms_init_up _ _) hx3 hx4
set_option maxRecDepth 20000 in
theorem s_wp_X7_fitting_9_18_0 {a_heard : Nat → Int32} {lf_huts : Int32} {lf_dams : Int32} {sf_facts : Int32} {sa_heard : Nat → Int32} {sa_huts : Nat → Int32} {sa_minutes : Nat → Int32} {post : Int32 → Prop} (k_a_heard : ∀ j, iv 0 1000 (a_heard j)) (k_lf_huts : iv 0 9 lf_huts) (k_lf_dams : iv 0 511 lf_dams) (k_sf_facts : iv 0 10 sf_facts) (k_sa_heard : ∀ j, iv 0 1 (sa_heard j)) (k_sa_huts : ∀ j, iv 0 8 (sa_huts j)) (k_sa_minutes : ∀ j, iv 0 60 (sa_minutes j)) (hpost : ∀ (r : Int32), iv 0 511 r → post r) : q_wp_X7_fitting_9_18_0 a_heard lf_huts lf_dams sf_facts sa_heard sa_huts sa_minutes post := by
  exact s_wp_X7_fitting_9_18_5 k_a_heard k_lf_huts k_lf_dams k_sf_facts k_sa_heard k_sa_huts k_sa_minutes (iv_w (iv_lit (l := 0) (h := 0) (by decide)) (by decide)) (iv_w (iv_lit (l := 0) (h := 0) (by decide)) (by decide)) hpost
-- wp_X7_fromBy_9
set_option maxRecDepth 20000 in
theorem s_wp_X7_fromBy_9_40 {P6 : Int32 → Int32 → Prop} {a_heard : Nat → Int32} {lf_huts : Int32} {x2 : Int32} {x3 : Int32} {x4 : Int32} {x5 : Int32} {post : Int32 → Prop} (k_a_heard : ∀ j, iv 0 1000 (a_heard j)) (k_lf_huts : iv 1 9 lf_huts) (hx2 : iv 0 8 x2) (hx3 : iv 0 999 x3) (hx4 : iv 0 511 x4) (hx5 : iv 0 8 x5) (m6 : Int) (hm6 : m6 ≤ x5.toInt) (hP6 : ∀ (x4 : Int32) (x5 : Int32), m6 < x5.toInt → iv 0 511 x4 → iv 0 9 x5 → P6 x4 x5) (hpost : ∀ (r : Int32), iv 0 511 r → post r) : q_wp_X7_fromBy_9_40 P6 a_heard lf_huts x2 x3 x4 x5 post := by
  intro w1 ew1
  have hw1 := iv_eq ew1 (iv_add (l := 1) (h := 9) hx5 (iv_lit (l := 1) (h := 1) (by decide)) (by decide))
  exact hP6 _ _ (ml_up hm6 (inc_lt ew1 hx5 (by decide))) hx4 (iv_w hw1 (by decide))
set_option maxRecDepth 20000 in
theorem s_wp_X7_fromBy_9_6 {a_heard : Nat → Int32} {lf_huts : Int32} {x2 : Int32} {x3 : Int32} {x4 : Int32} {x5 : Int32} {post : Int32 → Prop} (k_a_heard : ∀ j, iv 0 1000 (a_heard j)) (k_lf_huts : iv 1 9 lf_huts) (hx2 : iv 0 8 x2) (hx3 : iv 0 999 x3) (hx4 : iv 0 511 x4) (hx5 : iv 0 9 x5) (hpost : ∀ (r : Int32), iv 0 511 r → post r) : q_wp_X7_fromBy_9_6 a_heard lf_huts x2 x3 x4 x5 post := by
  intro P hP
  have loop : ∀ (n : Nat) (x4 : Int32) (x5 : Int32), (9 - x5.toInt < (n : Int)) → (iv 0 511 x4) → (iv 0 9 x5) → P x4 x5 := by
    intro n
    induction n with
    | zero => intro x4 x5 hm hx4 hx5; exact (ms0_up hm hx5).elim
    | succ n ih =>
      intro x4 x5 hm hx4 hx5
      apply hP
      refine ⟨fun c1 => ?_, fun c1 => ?_⟩
      · skip
        exact hpost _ hx4
      · skip
        refine ⟨iv_in (iv_add (l := 0) (h := 80) (iv_mul (l := 0) (h := 72) (iv_lta (l := 0) (h := 8) (r_nle c1) hx5 k_lf_huts (by decide)) (iv_lit (l := 9) (h := 9) (by decide)) (by decide)) hx2 (by decide)) (by decide), ?_⟩
        refine ⟨fun c2 => ?_, fun c2 => ?_⟩
        · skip
          exact s_wp_X7_fromBy_9_40 k_a_heard k_lf_huts hx2 hx3 hx4 (iv_lta (l := 0) (h := 8) (r_nle c1) hx5 k_lf_huts (by decide)) x5.toInt (Int.le_refl _) (fun u0 u1 hq g0 g1 => ih u0 u1 (ms_up hm hq) g0 g1) hpost
        · skip
          intro w3 ew3
          have hw3 := iv_eq ew3 (iv_or 9 (l := 0) (h := 511) hx4 (iv_shl1 (l := 1) (h := 256) (iv_lit (l := 1) (h := 1) (by decide)) (iv_lta (l := 0) (h := 8) (r_nle c1) hx5 k_lf_huts (by decide)) (by decide)) (by decide))
          exact s_wp_X7_fromBy_9_40 k_a_heard k_lf_huts hx2 hx3 hw3 (iv_lta (l := 0) (h := 8) (r_nle c1) hx5 k_lf_huts (by decide)) x5.toInt (Int.le_refl _) (fun u0 u1 hq g0 g1 => ih u0 u1 (ms_up hm hq) g0 g1) hpost
  exact loop _ _ _ (ms_init_up _ _) hx4 hx5
set_option maxRecDepth 20000 in
theorem s_wp_X7_fromBy_9_0 {a_heard : Nat → Int32} {lf_huts : Int32} {x2 : Int32} {x3 : Int32} {post : Int32 → Prop} (k_a_heard : ∀ j, iv 0 1000 (a_heard j)) (k_lf_huts : iv 1 9 lf_huts) (hx2 : iv 0 8 x2) (hx3 : iv 0 999 x3) (hpost : ∀ (r : Int32), iv 0 511 r → post r) : q_wp_X7_fromBy_9_0 a_heard lf_huts x2 x3 post := by
  exact s_wp_X7_fromBy_9_6 k_a_heard k_lf_huts hx2 hx3 (iv_w (iv_lit (l := 0) (h := 0) (by decide)) (by decide)) (iv_w (iv_lit (l := 0) (h := 0) (by decide)) (by decide)) hpost
-- wp_X7_question_9
set_option maxRecDepth 20000 in
theorem s_wp_X7_question_9_67 {P16 : Int32 → Int32 → Int32 → Prop} {P26 : Int32 → Int32 → Int32 → Prop} {a_heard : Nat → Int32} {lf_huts : Int32} {x2 : Int32} {x3 : Int32} {x4 : Int32} {x5 : Int32} {x6 : Int32} {post : Int32 → Prop} (k_a_heard : ∀ j, iv 0 1000 (a_heard j)) (k_lf_huts : iv 1 9 lf_huts) (hx2 : iv 1 511 x2) (hx3 : iv (-1) 2147483647 x3) (hx4 : iv 0 63 x4) (hx5 : iv 0 60 x5) (hx6 : iv 0 8 x6) (m16 : Int) (hm16 : m16 ≤ x5.toInt) (hP16 : ∀ (x3 : Int32) (x4 : Int32) (x5 : Int32), m16 < x5.toInt → iv (-1) 2147483647 x3 → iv 0 1000 x4 → iv 0 61 x5 → P16 x3 x4 x5) (m26 : Int) (hm26 : m26 ≤ x6.toInt) (hP26 : ∀ (x3 : Int32) (x4 : Int32) (x6 : Int32), m26 < x6.toInt → iv (-1) 2147483647 x3 → iv 0 1000 x4 → iv 0 9 x6 → P26 x3 x4 x6) (hpost : ∀ (r : Int32), iv (-1) 2147483647 r → post r) : q_wp_X7_question_9_67 P16 P26 a_heard lf_huts x2 x3 x4 x5 x6 post := by
  intro w1 ew1
  have hw1 := iv_eq ew1 (iv_add (l := 1) (h := 9) hx6 (iv_lit (l := 1) (h := 1) (by decide)) (by decide))
  exact hP26 _ _ _ (ml_up hm26 (inc_lt ew1 hx6 (by decide))) hx3 (iv_w hx4 (by decide)) (iv_w hw1 (by decide))
set_option maxRecDepth 20000 in
theorem s_wp_X7_question_9_26 {P16 : Int32 → Int32 → Int32 → Prop} {a_heard : Nat → Int32} {lf_huts : Int32} {x2 : Int32} {x3 : Int32} {x4 : Int32} {x5 : Int32} {x6 : Int32} {post : Int32 → Prop} (k_a_heard : ∀ j, iv 0 1000 (a_heard j)) (k_lf_huts : iv 0 9 lf_huts) (hx2 : iv 1 511 x2) (hx3 : iv (-1) 2147483647 x3) (hx4 : iv 0 1000 x4) (hx5 : iv 0 60 x5) (hx6 : iv 0 9 x6) (m16 : Int) (hm16 : m16 ≤ x5.toInt) (hP16 : ∀ (x3 : Int32) (x4 : Int32) (x5 : Int32), m16 < x5.toInt → iv (-1) 2147483647 x3 → iv 0 1000 x4 → iv 0 61 x5 → P16 x3 x4 x5) (hpost : ∀ (r : Int32), iv (-1) 2147483647 r → post r) : q_wp_X7_question_9_26 P16 a_heard lf_huts x2 x3 x4 x5 x6 post := by
  intro P hP
  have loop : ∀ (n : Nat) (x3 : Int32) (x4 : Int32) (x6 : Int32), (9 - x6.toInt < (n : Int)) → (iv (-1) 2147483647 x3) → (iv 0 1000 x4) → (iv 0 9 x6) → P x3 x4 x6 := by
    intro n
    induction n with
    | zero => intro x3 x4 x6 hm hx3 hx4 hx6; exact (ms0_up hm hx6).elim
    | succ n ih =>
      intro x3 x4 x6 hm hx3 hx4 hx6
      apply hP
      refine ⟨fun c1 => ?_, fun c1 => ?_⟩
      · skip
        intro w2 ew2
        have hw2 := iv_eq ew2 (iv_add (l := 1) (h := 61) hx5 (iv_lit (l := 1) (h := 1) (by decide)) (by decide))
        exact hP16 _ _ _ (ml_up hm16 (inc_lt ew2 hx5 (by decide))) hx3 hx4 (iv_w hw2 (by decide))
      · skip
        refine s_wp_X7_fromBy_9_0 k_a_heard (iv_ltb (l := 1) (h := 9) (r_nle c1) hx6 k_lf_huts (by decide)) (iv_lta (l := 0) (h := 8) (r_nle c1) hx6 k_lf_huts (by decide)) (iv_w hx5 (by decide)) (fun r3 hr3 => ?_)
        refine s_z_J6_bitCount_0f7a4_0 (iv_w (iv_andr (l := 0) (h := 511) hr3 (by decide)) (by decide)) (fun r4 hr4 => ?_)
        refine s_z_J6_bitCount_0f7a4_0 (iv_w hx2 (by decide)) (fun r5 hr5 => ?_)
        refine ⟨fun c6 => ?_, fun c6 => ?_⟩
        · skip
          exact s_wp_X7_question_9_67 k_a_heard (iv_ltb (l := 1) (h := 9) (r_nle c1) hx6 k_lf_huts (by decide)) hx2 hx3 (iv_lea (l := 0) (h := 63) (r_le c6) hx4 (iv_max (l := 0) (h := 63) hr4 (iv_sub (l := (-63)) (h := 63) hr5 hr4 (by decide)) (by decide)) (by decide)) hx5 (iv_lta (l := 0) (h := 8) (r_nle c1) hx6 k_lf_huts (by decide)) m16 hm16 hP16 x6.toInt (Int.le_refl _) (fun u0 u1 u2 hq g0 g1 g2 => ih u0 u1 u2 (ms_up hm hq) g0 g1 g2) hpost
        · skip
          intro w7 ew7
          have hw7 := iv_eq ew7 (iv_add (l := 0) (h := 608) (iv_mul (l := 0) (h := 600) (iv_lit (l := 10) (h := 10) (by decide)) hx5 (by decide)) (iv_lta (l := 0) (h := 8) (r_nle c1) hx6 k_lf_huts (by decide)) (by decide))
          exact s_wp_X7_question_9_67 k_a_heard (iv_ltb (l := 1) (h := 9) (r_nle c1) hx6 k_lf_huts (by decide)) hx2 (iv_w hw7 (by decide)) (iv_max (l := 0) (h := 63) hr4 (iv_sub (l := (-63)) (h := 63) hr5 hr4 (by decide)) (by decide)) hx5 (iv_lta (l := 0) (h := 8) (r_nle c1) hx6 k_lf_huts (by decide)) m16 hm16 hP16 x6.toInt (Int.le_refl _) (fun u0 u1 u2 hq g0 g1 g2 => ih u0 u1 u2 (ms_up hm hq) g0 g1 g2) hpost
  exact loop _ _ _ _ (ms_init_up _ _) hx3 hx4 hx6
set_option maxRecDepth 20000 in
theorem s_wp_X7_question_9_16 {a_heard : Nat → Int32} {lf_huts : Int32} {x2 : Int32} {x3 : Int32} {x4 : Int32} {x5 : Int32} {post : Int32 → Prop} (k_a_heard : ∀ j, iv 0 1000 (a_heard j)) (k_lf_huts : iv 0 9 lf_huts) (hx2 : iv 1 511 x2) (hx3 : iv (-1) 2147483647 x3) (hx4 : iv 0 1000 x4) (hx5 : iv 0 61 x5) (hpost : ∀ (r : Int32), iv (-1) 2147483647 r → post r) : q_wp_X7_question_9_16 a_heard lf_huts x2 x3 x4 x5 post := by
  intro P hP
  have loop : ∀ (n : Nat) (x3 : Int32) (x4 : Int32) (x5 : Int32), (61 - x5.toInt < (n : Int)) → (iv (-1) 2147483647 x3) → (iv 0 1000 x4) → (iv 0 61 x5) → P x3 x4 x5 := by
    intro n
    induction n with
    | zero => intro x3 x4 x5 hm hx3 hx4 hx5; exact (ms0_up hm hx5).elim
    | succ n ih =>
      intro x3 x4 x5 hm hx3 hx4 hx5
      apply hP
      refine ⟨fun c1 => ?_, fun c1 => ?_⟩
      · skip
        exact hpost _ hx3
      · skip
        exact s_wp_X7_question_9_26 k_a_heard k_lf_huts hx2 hx3 hx4 (iv_lea (l := 0) (h := 60) (r_nlt c1) hx5 (iv_lit (l := 60) (h := 60) (by decide)) (by decide)) (iv_w (iv_lit (l := 0) (h := 0) (by decide)) (by decide)) x5.toInt (Int.le_refl _) (fun u0 u1 u2 hq g0 g1 g2 => ih u0 u1 u2 (ms_up hm hq) g0 g1 g2) hpost
  exact loop _ _ _ _ (ms_init_up _ _) hx3 hx4 hx5
set_option maxRecDepth 20000 in
theorem s_wp_X7_question_9_0 {a_heard : Nat → Int32} {lf_huts : Int32} {x2 : Int32} {post : Int32 → Prop} (k_a_heard : ∀ j, iv 0 1000 (a_heard j)) (k_lf_huts : iv 0 9 lf_huts) (hx2 : iv 0 511 x2) (hpost : ∀ (r : Int32), iv (-1) 2147483647 r → post r) : q_wp_X7_question_9_0 a_heard lf_huts x2 post := by
  refine ⟨fun c1 => ?_, fun c1 => ?_⟩
  · skip
    exact s_wp_X7_question_9_16 k_a_heard k_lf_huts (iv_ne (l := 1) (h := 511) c1 hx2 (iv_lit (l := 0) (h := 0) (by decide)) (by decide)) (iv_w (iv_lit (l := (-1)) (h := (-1)) (by decide)) (by decide)) (iv_w (iv_lit (l := 1000) (h := 1000) (by decide)) (by decide)) (iv_w (iv_lit (l := 0) (h := 0) (by decide)) (by decide)) hpost
  · skip
    exact hpost _ (iv_w (iv_lit (l := (-1)) (h := (-1)) (by decide)) (by decide))
-- wp_X7_soonest_9
set_option maxRecDepth 20000 in
theorem s_wp_X7_soonest_9_7 {a_heard : Nat → Int32} {lf_huts : Int32} {x2 : Int32} {x3 : Int32} {x4 : Int32} {post : Int32 → Prop} (k_a_heard : ∀ j, iv 0 1000 (a_heard j)) (k_lf_huts : iv 1 9 lf_huts) (hx2 : iv 0 8 x2) (hx3 : iv 0 1000 x3) (hx4 : iv 0 9 x4) (hpost : ∀ (r : Int32), iv 0 1000 r → post r) : q_wp_X7_soonest_9_7 a_heard lf_huts x2 x3 x4 post := by
  intro P hP
  have loop : ∀ (n : Nat) (x3 : Int32) (x4 : Int32), (9 - x4.toInt < (n : Int)) → (iv 0 1000 x3) → (iv 0 9 x4) → P x3 x4 := by
    intro n
    induction n with
    | zero => intro x3 x4 hm hx3 hx4; exact (ms0_up hm hx4).elim
    | succ n ih =>
      intro x3 x4 hm hx3 hx4
      apply hP
      refine ⟨fun c1 => ?_, fun c1 => ?_⟩
      · skip
        exact hpost _ hx3
      · skip
        refine ⟨iv_in (iv_add (l := 0) (h := 80) (iv_mul (l := 0) (h := 72) (iv_lta (l := 0) (h := 8) (r_nle c1) hx4 k_lf_huts (by decide)) (iv_lit (l := 9) (h := 9) (by decide)) (by decide)) hx2 (by decide)) (by decide), ?_⟩
        intro w2 ew2
        have hw2 := iv_eq ew2 (iv_min (l := 0) (h := 1000) hx3 (k_a_heard _) (by decide))
        intro w3 ew3
        have hw3 := iv_eq ew3 (iv_add (l := 1) (h := 9) (iv_lta (l := 0) (h := 8) (r_nle c1) hx4 k_lf_huts (by decide)) (iv_lit (l := 1) (h := 1) (by decide)) (by decide))
        exact ih _ _ (ms_up hm (inc_lt ew3 (iv_lta (l := 0) (h := 8) (r_nle c1) hx4 k_lf_huts (by decide)) (by decide))) hw2 (iv_w hw3 (by decide))
  exact loop _ _ _ (ms_init_up _ _) hx3 hx4
set_option maxRecDepth 20000 in
theorem s_wp_X7_soonest_9_0 {a_heard : Nat → Int32} {lf_huts : Int32} {x2 : Int32} {post : Int32 → Prop} (k_a_heard : ∀ j, iv 0 1000 (a_heard j)) (k_lf_huts : iv 1 9 lf_huts) (hx2 : iv 0 8 x2) (hpost : ∀ (r : Int32), iv 0 1000 r → post r) : q_wp_X7_soonest_9_0 a_heard lf_huts x2 post := by
  exact s_wp_X7_soonest_9_7 k_a_heard k_lf_huts hx2 (iv_w (iv_lit (l := 1000) (h := 1000) (by decide)) (by decide)) (iv_w (iv_lit (l := 0) (h := 0) (by decide)) (by decide)) hpost
-- wp_X7_carried_9
set_option maxRecDepth 20000 in
theorem s_wp_X7_carried_9_66 {P11 : Int32 → Int32 → Int32 → Prop} {a_heard : Nat → Int32} {a_walked : Nat → Int32} {lf_huts : Int32} {lf_villages : Int32} {lf_dams : Int32} {x2 : Int32} {x3 : Int32} {x4 : Int32} {x5 : Int32} {x6 : Int32} {post : Int32 → Prop} (k_a_heard : ∀ j, iv 0 1000 (a_heard j)) (k_a_walked : ∀ j, iv 0 1000 (a_walked j)) (k_lf_huts : iv 1 9 lf_huts) (k_lf_villages : iv 0 511 lf_villages) (k_lf_dams : iv 0 511 lf_dams) (hx2 : iv 0 8 x2) (hx4 : iv (-1) 8 x4) (hx5 : iv 0 1000 x5) (hx6 : iv 0 8 x6) (m11 : Int) (hm11 : m11 ≤ x6.toInt) (hP11 : ∀ (x4 : Int32) (x5 : Int32) (x6 : Int32), m11 < x6.toInt → iv (-1) 8 x4 → iv 0 1000 x5 → iv 0 9 x6 → P11 x4 x5 x6) (hpost : ∀ (r : Int32), iv (-1) 1000 r → post r) : q_wp_X7_carried_9_66 P11 a_heard a_walked lf_huts lf_villages lf_dams x2 x3 x4 x5 x6 post := by
  intro w1 ew1
  have hw1 := iv_eq ew1 (iv_add (l := 1) (h := 9) hx6 (iv_lit (l := 1) (h := 1) (by decide)) (by decide))
  exact hP11 _ _ _ (ml_up hm11 (inc_lt ew1 hx6 (by decide))) hx4 hx5 (iv_w hw1 (by decide))
set_option maxRecDepth 20000 in
theorem s_wp_X7_carried_9_11 {a_heard : Nat → Int32} {a_walked : Nat → Int32} {lf_huts : Int32} {lf_villages : Int32} {lf_dams : Int32} {x2 : Int32} {x3 : Int32} {x4 : Int32} {x5 : Int32} {x6 : Int32} {post : Int32 → Prop} (k_a_heard : ∀ j, iv 0 1000 (a_heard j)) (k_a_walked : ∀ j, iv 0 1000 (a_walked j)) (k_lf_huts : iv 0 9 lf_huts) (k_lf_villages : iv 0 511 lf_villages) (k_lf_dams : iv 0 511 lf_dams) (hx2 : iv 0 8 x2) (hx4 : iv (-1) 8 x4) (hx5 : iv 0 1000 x5) (hx6 : iv 0 9 x6) (hpost : ∀ (r : Int32), iv (-1) 1000 r → post r) : q_wp_X7_carried_9_11 a_heard a_walked lf_huts lf_villages lf_dams x2 x3 x4 x5 x6 post := by
  intro P hP
  have loop : ∀ (n : Nat) (x4 : Int32) (x5 : Int32) (x6 : Int32), (9 - x6.toInt < (n : Int)) → (iv (-1) 8 x4) → (iv 0 1000 x5) → (iv 0 9 x6) → P x4 x5 x6 := by
    intro n
    induction n with
    | zero => intro x4 x5 x6 hm hx4 hx5 hx6; exact (ms0_up hm hx6).elim
    | succ n ih =>
      intro x4 x5 x6 hm hx4 hx5 hx6
      apply hP
      refine ⟨fun c1 => ?_, fun c1 => ?_⟩
      · skip
        refine ⟨fun c2 => ?_, fun c2 => ?_⟩
        · skip
          exact hpost _ (iv_w (iv_eqa (l := (-1)) (h := (-1)) c2 hx4 (iv_lit (l := (-1)) (h := (-1)) (by decide)) (by decide)) (by decide))
        · skip
          refine ⟨fun c3 => ?_, fun c3 => ?_⟩
          · skip
            exact hpost _ (iv_w (iv_ne (l := 0) (h := 8) c2 hx4 (iv_lit (l := (-1)) (h := (-1)) (by decide)) (by decide)) (by decide))
          · skip
            exact hpost _ (iv_w hx5 (by decide))
      · skip
        refine ⟨iv_in (iv_add (l := 0) (h := 80) (iv_mul (l := 0) (h := 72) hx2 (iv_lit (l := 9) (h := 9) (by decide)) (by decide)) (iv_lta (l := 0) (h := 8) (r_nle c1) hx6 k_lf_huts (by decide)) (by decide)) (by decide), ?_⟩
        refine s_wp_X7_lastVillage_9_0 k_a_heard (iv_w (iv_ltb (l := 1) (h := 9) (r_nle c1) hx6 k_lf_huts (by decide)) (by decide)) k_lf_villages k_lf_dams (iv_lta (l := 0) (h := 8) (r_nle c1) hx6 k_lf_huts (by decide)) (fun r4 hr4 => ?_)
        intro w5 ew5
        have hw5 := iv_eq ew5 (iv_add (l := 0) (h := 2000) (k_a_walked _) hr4 (by decide))
        refine ⟨fun c6 => ?_, fun c6 => ?_⟩
        · skip
          refine ⟨fun c7 => ?_, fun c7 => ?_⟩
          · skip
            exact (iv_emp (iv_ne (l := 1) (h := 0) c7 (iv_lit (l := 0) (h := 0) (by decide)) (iv_lit (l := 0) (h := 0) (by decide)) (by decide)) (by decide)).elim
          · skip
            refine ⟨fun c8 => ?_, fun c8 => ?_⟩
            · skip
              exact s_wp_X7_carried_9_66 k_a_heard k_a_walked (iv_ltb (l := 1) (h := 9) (r_nle c1) hx6 k_lf_huts (by decide)) k_lf_villages k_lf_dams hx2 hx4 hx5 (iv_lta (l := 0) (h := 8) (r_nle c1) hx6 k_lf_huts (by decide)) x6.toInt (Int.le_refl _) (fun u0 u1 u2 hq g0 g1 g2 => ih u0 u1 u2 (ms_up hm hq) g0 g1 g2) hpost
            · skip
              exact s_wp_X7_carried_9_66 k_a_heard k_a_walked (iv_ltb (l := 1) (h := 9) (r_nle c1) hx6 k_lf_huts (by decide)) k_lf_villages k_lf_dams hx2 (iv_w (iv_lta (l := 0) (h := 8) (r_nle c1) hx6 k_lf_huts (by decide)) (by decide)) (iv_w (iv_lta (l := 0) (h := 999) (r_nle c8) hw5 hx5 (by decide)) (by decide)) (iv_lta (l := 0) (h := 8) (r_nle c1) hx6 k_lf_huts (by decide)) x6.toInt (Int.le_refl _) (fun u0 u1 u2 hq g0 g1 g2 => ih u0 u1 u2 (ms_up hm hq) g0 g1 g2) hpost
        · skip
          refine ⟨fun c9 => ?_, fun c9 => ?_⟩
          · skip
            exact s_wp_X7_carried_9_66 k_a_heard k_a_walked (iv_ltb (l := 1) (h := 9) (r_nle c1) hx6 k_lf_huts (by decide)) k_lf_villages k_lf_dams hx2 hx4 hx5 (iv_lta (l := 0) (h := 8) (r_nle c1) hx6 k_lf_huts (by decide)) x6.toInt (Int.le_refl _) (fun u0 u1 u2 hq g0 g1 g2 => ih u0 u1 u2 (ms_up hm hq) g0 g1 g2) hpost
          · skip
            exact (iv_emp (iv_eqa (l := 1) (h := 0) c9 (iv_lit (l := 1) (h := 1) (by decide)) (iv_lit (l := 0) (h := 0) (by decide)) (by decide)) (by decide)).elim
  exact loop _ _ _ _ (ms_init_up _ _) hx4 hx5 hx6
set_option maxRecDepth 20000 in
theorem s_wp_X7_carried_9_0 {a_heard : Nat → Int32} {a_walked : Nat → Int32} {lf_huts : Int32} {lf_villages : Int32} {lf_dams : Int32} {x2 : Int32} {x3 : Int32} {post : Int32 → Prop} (k_a_heard : ∀ j, iv 0 1000 (a_heard j)) (k_a_walked : ∀ j, iv 0 1000 (a_walked j)) (k_lf_huts : iv 0 9 lf_huts) (k_lf_villages : iv 0 511 lf_villages) (k_lf_dams : iv 0 511 lf_dams) (hx2 : iv 0 8 x2) (hpost : ∀ (r : Int32), iv (-1) 1000 r → post r) : q_wp_X7_carried_9_0 a_heard a_walked lf_huts lf_villages lf_dams x2 x3 post := by
  exact s_wp_X7_carried_9_11 k_a_heard k_a_walked k_lf_huts k_lf_villages k_lf_dams hx2 (iv_w (iv_lit (l := (-1)) (h := (-1)) (by decide)) (by decide)) (iv_w (iv_lit (l := 1000) (h := 1000) (by decide)) (by decide)) (iv_w (iv_lit (l := 0) (h := 0) (by decide)) (by decide)) hpost
-- wp_X7_tops_9
set_option maxRecDepth 20000 in
theorem s_wp_X7_tops_9_33 {P4 : Int32 → Int32 → Prop} {a_heard : Nat → Int32} {lf_huts : Int32} {x2 : Int32} {x3 : Int32} {post : Int32 → Prop} (k_a_heard : ∀ j, iv 0 1000 (a_heard j)) (k_lf_huts : iv 1 9 lf_huts) (hx2 : iv 0 511 x2) (hx3 : iv 0 8 x3) (m4 : Int) (hm4 : m4 ≤ x3.toInt) (hP4 : ∀ (x2 : Int32) (x3 : Int32), m4 < x3.toInt → iv 0 511 x2 → iv 0 9 x3 → P4 x2 x3) (hpost : ∀ (r : Int32), iv 0 511 r → post r) : q_wp_X7_tops_9_33 P4 a_heard lf_huts x2 x3 post := by
  intro w1 ew1
  have hw1 := iv_eq ew1 (iv_add (l := 1) (h := 9) hx3 (iv_lit (l := 1) (h := 1) (by decide)) (by decide))
  exact hP4 _ _ (ml_up hm4 (inc_lt ew1 hx3 (by decide))) hx2 (iv_w hw1 (by decide))
set_option maxRecDepth 20000 in
theorem s_wp_X7_tops_9_4 {a_heard : Nat → Int32} {lf_huts : Int32} {x2 : Int32} {x3 : Int32} {post : Int32 → Prop} (k_a_heard : ∀ j, iv 0 1000 (a_heard j)) (k_lf_huts : iv 0 9 lf_huts) (hx2 : iv 0 511 x2) (hx3 : iv 0 9 x3) (hpost : ∀ (r : Int32), iv 0 511 r → post r) : q_wp_X7_tops_9_4 a_heard lf_huts x2 x3 post := by
  intro P hP
  have loop : ∀ (n : Nat) (x2 : Int32) (x3 : Int32), (9 - x3.toInt < (n : Int)) → (iv 0 511 x2) → (iv 0 9 x3) → P x2 x3 := by
    intro n
    induction n with
    | zero => intro x2 x3 hm hx2 hx3; exact (ms0_up hm hx3).elim
    | succ n ih =>
      intro x2 x3 hm hx2 hx3
      apply hP
      refine ⟨fun c1 => ?_, fun c1 => ?_⟩
      · skip
        exact hpost _ hx2
      · skip
        refine s_wp_X7_fromBy_9_0 k_a_heard (iv_ltb (l := 1) (h := 9) (r_nle c1) hx3 k_lf_huts (by decide)) (iv_lta (l := 0) (h := 8) (r_nle c1) hx3 k_lf_huts (by decide)) (iv_w (iv_lit (l := 999) (h := 999) (by decide)) (by decide)) (fun r2 hr2 => ?_)
        refine ⟨fun c3 => ?_, fun c3 => ?_⟩
        · skip
          exact s_wp_X7_tops_9_33 k_a_heard (iv_ltb (l := 1) (h := 9) (r_nle c1) hx3 k_lf_huts (by decide)) hx2 (iv_lta (l := 0) (h := 8) (r_nle c1) hx3 k_lf_huts (by decide)) x3.toInt (Int.le_refl _) (fun u0 u1 hq g0 g1 => ih u0 u1 (ms_up hm hq) g0 g1) hpost
        · skip
          intro w4 ew4
          have hw4 := iv_eq ew4 (iv_or 9 (l := 0) (h := 511) hx2 (iv_shl1 (l := 1) (h := 256) (iv_lit (l := 1) (h := 1) (by decide)) (iv_lta (l := 0) (h := 8) (r_nle c1) hx3 k_lf_huts (by decide)) (by decide)) (by decide))
          exact s_wp_X7_tops_9_33 k_a_heard (iv_ltb (l := 1) (h := 9) (r_nle c1) hx3 k_lf_huts (by decide)) hw4 (iv_lta (l := 0) (h := 8) (r_nle c1) hx3 k_lf_huts (by decide)) x3.toInt (Int.le_refl _) (fun u0 u1 hq g0 g1 => ih u0 u1 (ms_up hm hq) g0 g1) hpost
  exact loop _ _ _ (ms_init_up _ _) hx2 hx3
set_option maxRecDepth 20000 in
theorem s_wp_X7_tops_9_0 {a_heard : Nat → Int32} {lf_huts : Int32} {post : Int32 → Prop} (k_a_heard : ∀ j, iv 0 1000 (a_heard j)) (k_lf_huts : iv 0 9 lf_huts) (hpost : ∀ (r : Int32), iv 0 511 r → post r) : q_wp_X7_tops_9_0 a_heard lf_huts post := by
  exact s_wp_X7_tops_9_4 k_a_heard k_lf_huts (iv_w (iv_lit (l := 0) (h := 0) (by decide)) (by decide)) (iv_w (iv_lit (l := 0) (h := 0) (by decide)) (by decide)) hpost
-- wp_X7_heardElsewhere_9
set_option maxRecDepth 20000 in
theorem s_wp_X7_heardElsewhere_9_41 {P5 : Int32 → Int32 → Prop} {a_heard : Nat → Int32} {lf_huts : Int32} {x2 : Int32} {x3 : Int32} {x4 : Int32} {post : Int32 → Prop} (k_a_heard : ∀ j, iv 0 1000 (a_heard j)) (k_lf_huts : iv 1 9 lf_huts) (hx2 : iv 0 8 x2) (hx4 : iv 0 8 x4) (m5 : Int) (hm5 : m5 ≤ x4.toInt) (hP5 : ∀ (x3 : Int32) (x4 : Int32), m5 < x4.toInt → iv 0 9 x4 → P5 x3 x4) (hpost : ∀ (r : Int32), post r) : q_wp_X7_heardElsewhere_9_41 P5 a_heard lf_huts x2 x3 x4 post := by
  intro w1 ew1
  have hw1 := iv_eq ew1 (iv_add (l := 1) (h := 9) hx4 (iv_lit (l := 1) (h := 1) (by decide)) (by decide))
  exact hP5 _ _ (ml_up hm5 (inc_lt ew1 hx4 (by decide))) (iv_w hw1 (by decide))
set_option maxRecDepth 20000 in
theorem s_wp_X7_heardElsewhere_9_5 {a_heard : Nat → Int32} {lf_huts : Int32} {x2 : Int32} {x3 : Int32} {x4 : Int32} {post : Int32 → Prop} (k_a_heard : ∀ j, iv 0 1000 (a_heard j)) (k_lf_huts : iv 1 9 lf_huts) (hx2 : iv 0 8 x2) (hx4 : iv 0 9 x4) (hpost : ∀ (r : Int32), post r) : q_wp_X7_heardElsewhere_9_5 a_heard lf_huts x2 x3 x4 post := by
  intro P hP
  have loop : ∀ (n : Nat) (x3 : Int32) (x4 : Int32), (9 - x4.toInt < (n : Int)) → (iv 0 9 x4) → P x3 x4 := by
    intro n
    induction n with
    | zero => intro x3 x4 hm hx4; exact (ms0_up hm hx4).elim
    | succ n ih =>
      intro x3 x4 hm hx4
      apply hP
      refine ⟨fun c1 => ?_, fun c1 => ?_⟩
      · skip
        exact hpost _
      · skip
        refine ⟨fun c2 => ?_, fun c2 => ?_⟩
        · skip
          exact s_wp_X7_heardElsewhere_9_41 k_a_heard k_lf_huts hx2 (iv_lta (l := 0) (h := 8) (r_nle c1) hx4 k_lf_huts (by decide)) x4.toInt (Int.le_refl _) (fun u0 u1 hq g0 => ih u0 u1 (ms_up hm hq) g0) hpost
        · skip
          refine ⟨iv_in (iv_add (l := 0) (h := 80) (iv_mul (l := 0) (h := 72) hx2 (iv_lit (l := 9) (h := 9) (by decide)) (by decide)) (iv_lta (l := 0) (h := 8) (r_nle c1) hx4 k_lf_huts (by decide)) (by decide)) (by decide), ?_⟩
          refine ⟨fun c3 => ?_, fun c3 => ?_⟩
          · skip
            exact s_wp_X7_heardElsewhere_9_41 k_a_heard k_lf_huts hx2 (iv_lta (l := 0) (h := 8) (r_nle c1) hx4 k_lf_huts (by decide)) x4.toInt (Int.le_refl _) (fun u0 u1 hq g0 => ih u0 u1 (ms_up hm hq) g0) hpost
          · skip
            intro w4 ew4
            exact s_wp_X7_heardElsewhere_9_41 k_a_heard k_lf_huts hx2 (iv_lta (l := 0) (h := 8) (r_nle c1) hx4 k_lf_huts (by decide)) x4.toInt (Int.le_refl _) (fun u0 u1 hq g0 => ih u0 u1 (ms_up hm hq) g0) hpost
  exact loop _ _ _ (ms_init_up _ _) hx4
set_option maxRecDepth 20000 in
theorem s_wp_X7_heardElsewhere_9_0 {a_heard : Nat → Int32} {lf_huts : Int32} {x2 : Int32} {post : Int32 → Prop} (k_a_heard : ∀ j, iv 0 1000 (a_heard j)) (k_lf_huts : iv 1 9 lf_huts) (hx2 : iv 0 8 x2) (hpost : ∀ (r : Int32), post r) : q_wp_X7_heardElsewhere_9_0 a_heard lf_huts x2 post := by
  exact s_wp_X7_heardElsewhere_9_5 k_a_heard k_lf_huts hx2 (iv_w (iv_lit (l := 0) (h := 0) (by decide)) (by decide)) hpost
-- wp_X7_ends_9
set_option maxRecDepth 20000 in
theorem s_wp_X7_ends_9_35 {P4 : Int32 → Int32 → Prop} {a_heard : Nat → Int32} {lf_huts : Int32} {lf_dams : Int32} {x2 : Int32} {x3 : Int32} {post : Int32 → Prop} (k_a_heard : ∀ j, iv 0 1000 (a_heard j)) (k_lf_huts : iv 1 9 lf_huts) (k_lf_dams : iv 0 511 lf_dams) (hx2 : iv 0 511 x2) (hx3 : iv 0 8 x3) (m4 : Int) (hm4 : m4 ≤ x3.toInt) (hP4 : ∀ (x2 : Int32) (x3 : Int32), m4 < x3.toInt → iv 0 511 x2 → iv 0 9 x3 → P4 x2 x3) (hpost : ∀ (r : Int32), iv 0 511 r → post r) : q_wp_X7_ends_9_35 P4 a_heard lf_huts lf_dams x2 x3 post := by
  intro w1 ew1
  have hw1 := iv_eq ew1 (iv_add (l := 1) (h := 9) hx3 (iv_lit (l := 1) (h := 1) (by decide)) (by decide))
  exact hP4 _ _ (ml_up hm4 (inc_lt ew1 hx3 (by decide))) hx2 (iv_w hw1 (by decide))
set_option maxRecDepth 20000 in
theorem s_wp_X7_ends_9_4 {a_heard : Nat → Int32} {lf_huts : Int32} {lf_dams : Int32} {x2 : Int32} {x3 : Int32} {post : Int32 → Prop} (k_a_heard : ∀ j, iv 0 1000 (a_heard j)) (k_lf_huts : iv 0 9 lf_huts) (k_lf_dams : iv 0 511 lf_dams) (hx2 : iv 0 511 x2) (hx3 : iv 0 9 x3) (hpost : ∀ (r : Int32), iv 0 511 r → post r) : q_wp_X7_ends_9_4 a_heard lf_huts lf_dams x2 x3 post := by
  intro P hP
  have loop : ∀ (n : Nat) (x2 : Int32) (x3 : Int32), (9 - x3.toInt < (n : Int)) → (iv 0 511 x2) → (iv 0 9 x3) → P x2 x3 := by
    intro n
    induction n with
    | zero => intro x2 x3 hm hx2 hx3; exact (ms0_up hm hx3).elim
    | succ n ih =>
      intro x2 x3 hm hx2 hx3
      apply hP
      refine ⟨fun c1 => ?_, fun c1 => ?_⟩
      · skip
        exact hpost _ hx2
      · skip
        refine ⟨fun c2 => ?_, fun c2 => ?_⟩
        · skip
          refine ⟨fun c3 => ?_, fun c3 => ?_⟩
          · skip
            exact (iv_emp (iv_ne (l := 1) (h := 0) c3 (iv_lit (l := 0) (h := 0) (by decide)) (iv_lit (l := 0) (h := 0) (by decide)) (by decide)) (by decide)).elim
          · skip
            refine s_wp_X7_heardElsewhere_9_0 k_a_heard (iv_ltb (l := 1) (h := 9) (r_nle c1) hx3 k_lf_huts (by decide)) (iv_lta (l := 0) (h := 8) (r_nle c1) hx3 k_lf_huts (by decide)) (fun r4 => ?_)
            refine ⟨fun c5 => ?_, fun c5 => ?_⟩
            · skip
              exact s_wp_X7_ends_9_35 k_a_heard (iv_ltb (l := 1) (h := 9) (r_nle c1) hx3 k_lf_huts (by decide)) k_lf_dams hx2 (iv_lta (l := 0) (h := 8) (r_nle c1) hx3 k_lf_huts (by decide)) x3.toInt (Int.le_refl _) (fun u0 u1 hq g0 g1 => ih u0 u1 (ms_up hm hq) g0 g1) hpost
            · skip
              intro w6 ew6
              have hw6 := iv_eq ew6 (iv_or 9 (l := 0) (h := 511) hx2 (iv_shl1 (l := 1) (h := 256) (iv_lit (l := 1) (h := 1) (by decide)) (iv_lta (l := 0) (h := 8) (r_nle c1) hx3 k_lf_huts (by decide)) (by decide)) (by decide))
              exact s_wp_X7_ends_9_35 k_a_heard (iv_ltb (l := 1) (h := 9) (r_nle c1) hx3 k_lf_huts (by decide)) k_lf_dams hw6 (iv_lta (l := 0) (h := 8) (r_nle c1) hx3 k_lf_huts (by decide)) x3.toInt (Int.le_refl _) (fun u0 u1 hq g0 g1 => ih u0 u1 (ms_up hm hq) g0 g1) hpost
        · skip
          refine ⟨fun c7 => ?_, fun c7 => ?_⟩
          · skip
            exact s_wp_X7_ends_9_35 k_a_heard (iv_ltb (l := 1) (h := 9) (r_nle c1) hx3 k_lf_huts (by decide)) k_lf_dams hx2 (iv_lta (l := 0) (h := 8) (r_nle c1) hx3 k_lf_huts (by decide)) x3.toInt (Int.le_refl _) (fun u0 u1 hq g0 g1 => ih u0 u1 (ms_up hm hq) g0 g1) hpost
          · skip
            exact (iv_emp (iv_eqa (l := 1) (h := 0) c7 (iv_lit (l := 1) (h := 1) (by decide)) (iv_lit (l := 0) (h := 0) (by decide)) (by decide)) (by decide)).elim
  exact loop _ _ _ (ms_init_up _ _) hx2 hx3
set_option maxRecDepth 20000 in
theorem s_wp_X7_ends_9_0 {a_heard : Nat → Int32} {lf_huts : Int32} {lf_dams : Int32} {post : Int32 → Prop} (k_a_heard : ∀ j, iv 0 1000 (a_heard j)) (k_lf_huts : iv 0 9 lf_huts) (k_lf_dams : iv 0 511 lf_dams) (hpost : ∀ (r : Int32), iv 0 511 r → post r) : q_wp_X7_ends_9_0 a_heard lf_huts lf_dams post := by
  exact s_wp_X7_ends_9_4 k_a_heard k_lf_huts k_lf_dams (iv_w (iv_lit (l := 0) (h := 0) (by decide)) (by decide)) (iv_w (iv_lit (l := 0) (h := 0) (by decide)) (by decide)) hpost
-- wp_X7_couples_9
set_option maxRecDepth 20000 in
theorem s_wp_X7_couples_9_4 {a_heard : Nat → Int32} {lf_huts : Int32} {x2 : Int32} {x3 : Int32} {post : Int32 → Prop} (k_a_heard : ∀ j, iv 0 1000 (a_heard j)) (k_lf_huts : iv 0 9 lf_huts) (hx3 : iv 0 9 x3) (hpost : ∀ (r : Int32), post r) : q_wp_X7_couples_9_4 a_heard lf_huts x2 x3 post := by
  intro P hP
  have loop : ∀ (n : Nat) (x2 : Int32) (x3 : Int32), (9 - x3.toInt < (n : Int)) → (iv 0 9 x3) → P x2 x3 := by
    intro n
    induction n with
    | zero => intro x2 x3 hm hx3; exact (ms0_up hm hx3).elim
    | succ n ih =>
      intro x2 x3 hm hx3
      apply hP
      refine ⟨fun c1 => ?_, fun c1 => ?_⟩
      · skip
        exact hpost _
      · skip
        refine s_wp_X7_heardElsewhere_9_0 k_a_heard (iv_ltb (l := 1) (h := 9) (r_nle c1) hx3 k_lf_huts (by decide)) (iv_lta (l := 0) (h := 8) (r_nle c1) hx3 k_lf_huts (by decide)) (fun r2 => ?_)
        intro w3 ew3
        intro w4 ew4
        have hw4 := iv_eq ew4 (iv_add (l := 1) (h := 9) (iv_lta (l := 0) (h := 8) (r_nle c1) hx3 k_lf_huts (by decide)) (iv_lit (l := 1) (h := 1) (by decide)) (by decide))
        exact ih _ _ (ms_up hm (inc_lt ew4 (iv_lta (l := 0) (h := 8) (r_nle c1) hx3 k_lf_huts (by decide)) (by decide))) (iv_w hw4 (by decide))
  exact loop _ _ _ (ms_init_up _ _) hx3
set_option maxRecDepth 20000 in
theorem s_wp_X7_couples_9_0 {a_heard : Nat → Int32} {lf_huts : Int32} {post : Int32 → Prop} (k_a_heard : ∀ j, iv 0 1000 (a_heard j)) (k_lf_huts : iv 0 9 lf_huts) (hpost : ∀ (r : Int32), post r) : q_wp_X7_couples_9_0 a_heard lf_huts post := by
  exact s_wp_X7_couples_9_4 k_a_heard k_lf_huts (iv_w (iv_lit (l := 0) (h := 0) (by decide)) (by decide)) hpost
-- wp_X7_fewestDams_9
set_option maxRecDepth 20000 in
theorem s_wp_X7_fewestDams_9_85 {P28 : Int32 → Int32 → Int32 → Prop} {a_next : Nat → Int32} {lf_huts : Int32} {lf_dams : Int32} {x2 : Int32} {x3 : Int32} {x4 : Int32} {x5 : Int32} {x6 : Int32} {x7 : Int32} {post : Int32 → Prop} (k_a_next : ∀ j, iv 0 511 (a_next j)) (k_lf_huts : iv 1 9 lf_huts) (k_lf_dams : iv 0 511 lf_dams) (hx2 : iv 0 8 x2) (hx3 : iv 0 8 x3) (hx4 : iv 0 511 x4) (hx5 : iv (-1) 511 x5) (hx6 : iv 0 63 x6) (hx7 : iv 0 511 x7) (m28 : Int) (hm28 : m28 ≤ x7.toInt) (hP28 : ∀ (x5 : Int32) (x6 : Int32) (x7 : Int32), m28 < x7.toInt → iv (-1) 511 x5 → iv 0 63 x6 → iv 0 512 x7 → P28 x5 x6 x7) (hpost : ∀ (r : Int32), iv (-1) 511 r → post r) : q_wp_X7_fewestDams_9_85 P28 a_next lf_huts lf_dams x2 x3 x4 x5 x6 x7 post := by
  intro w1 ew1
  have hw1 := iv_eq ew1 (iv_add (l := 1) (h := 512) hx7 (iv_lit (l := 1) (h := 1) (by decide)) (by decide))
  exact hP28 _ _ _ (ml_up hm28 (inc_lt ew1 hx7 (by decide))) hx5 hx6 (iv_w hw1 (by decide))
set_option maxRecDepth 20000 in
theorem s_wp_X7_fewestDams_9_28 {a_next : Nat → Int32} {lf_huts : Int32} {lf_dams : Int32} {x2 : Int32} {x3 : Int32} {x4 : Int32} {x5 : Int32} {x6 : Int32} {x7 : Int32} {post : Int32 → Prop} (k_a_next : ∀ j, iv 0 511 (a_next j)) (k_lf_huts : iv 1 9 lf_huts) (k_lf_dams : iv 0 511 lf_dams) (hx2 : iv 0 8 x2) (hx3 : iv 0 8 x3) (hx4 : iv 0 511 x4) (hx5 : iv (-1) 511 x5) (hx6 : iv 0 63 x6) (hx7 : iv 0 512 x7) (hpost : ∀ (r : Int32), iv (-1) 511 r → post r) : q_wp_X7_fewestDams_9_28 a_next lf_huts lf_dams x2 x3 x4 x5 x6 x7 post := by
  intro P hP
  have loop : ∀ (n : Nat) (x5 : Int32) (x6 : Int32) (x7 : Int32), (512 - x7.toInt < (n : Int)) → (iv (-1) 511 x5) → (iv 0 63 x6) → (iv 0 512 x7) → P x5 x6 x7 := by
    intro n
    induction n with
    | zero => intro x5 x6 x7 hm hx5 hx6 hx7; exact (ms0_up hm hx7).elim
    | succ n ih =>
      intro x5 x6 x7 hm hx5 hx6 hx7
      apply hP
      refine ⟨fun c1 => ?_, fun c1 => ?_⟩
      · skip
        exact hpost _ hx5
      · skip
        refine ⟨fun c2 => ?_, fun c2 => ?_⟩
        · skip
          exact s_wp_X7_fewestDams_9_85 k_a_next k_lf_huts k_lf_dams hx2 hx3 hx4 hx5 hx6 (iv_lta (l := 0) (h := 511) (r_nle c1) hx7 (iv_shl1 (l := 1) (h := 512) (iv_lit (l := 1) (h := 1) (by decide)) k_lf_huts (by decide)) (by decide)) x7.toInt (Int.le_refl _) (fun u0 u1 u2 hq g0 g1 g2 => ih u0 u1 u2 (ms_up hm hq) g0 g1 g2) hpost
        · skip
          refine s_z_J6_bitCount_0f7a4_0 (iv_w (iv_lta (l := 0) (h := 511) (r_nle c1) hx7 (iv_shl1 (l := 1) (h := 512) (iv_lit (l := 1) (h := 1) (by decide)) k_lf_huts (by decide)) (by decide)) (by decide)) (fun r3 hr3 => ?_)
          refine ⟨fun c4 => ?_, fun c4 => ?_⟩
          · skip
            exact s_wp_X7_fewestDams_9_85 k_a_next k_lf_huts k_lf_dams hx2 hx3 hx4 hx5 hx6 (iv_lta (l := 0) (h := 511) (r_nle c1) hx7 (iv_shl1 (l := 1) (h := 512) (iv_lit (l := 1) (h := 1) (by decide)) k_lf_huts (by decide)) (by decide)) x7.toInt (Int.le_refl _) (fun u0 u1 u2 hq g0 g1 g2 => ih u0 u1 u2 (ms_up hm hq) g0 g1 g2) hpost
          · skip
            refine s_wp_X7_reach_5_0 k_a_next hx2 (iv_lta (l := 0) (h := 511) (r_nle c1) hx7 (iv_shl1 (l := 1) (h := 512) (iv_lit (l := 1) (h := 1) (by decide)) k_lf_huts (by decide)) (by decide)) (fun r5 hr5 => ?_)
            refine ⟨fun c6 => ?_, fun c6 => ?_⟩
            · skip
              refine ⟨fun c7 => ?_, fun c7 => ?_⟩
              · skip
                exact (iv_emp (iv_ne (l := 1) (h := 0) c7 (iv_lit (l := 0) (h := 0) (by decide)) (iv_lit (l := 0) (h := 0) (by decide)) (by decide)) (by decide)).elim
              · skip
                refine s_z_J6_bitCount_0f7a4_0 (iv_w (iv_lta (l := 0) (h := 511) (r_nle c1) hx7 (iv_shl1 (l := 1) (h := 512) (iv_lit (l := 1) (h := 1) (by decide)) k_lf_huts (by decide)) (by decide)) (by decide)) (fun r8 hr8 => ?_)
                exact s_wp_X7_fewestDams_9_85 k_a_next k_lf_huts k_lf_dams hx2 hx3 hx4 (iv_w (iv_lta (l := 0) (h := 511) (r_nle c1) hx7 (iv_shl1 (l := 1) (h := 512) (iv_lit (l := 1) (h := 1) (by decide)) k_lf_huts (by decide)) (by decide)) (by decide)) hr8 (iv_lta (l := 0) (h := 511) (r_nle c1) hx7 (iv_shl1 (l := 1) (h := 512) (iv_lit (l := 1) (h := 1) (by decide)) k_lf_huts (by decide)) (by decide)) x7.toInt (Int.le_refl _) (fun u0 u1 u2 hq g0 g1 g2 => ih u0 u1 u2 (ms_up hm hq) g0 g1 g2) hpost
            · skip
              refine ⟨fun c9 => ?_, fun c9 => ?_⟩
              · skip
                exact s_wp_X7_fewestDams_9_85 k_a_next k_lf_huts k_lf_dams hx2 hx3 hx4 hx5 (iv_w (iv_ltb (l := 1) (h := 63) (r_nle c4) hr3 hx6 (by decide)) (by decide)) (iv_lta (l := 0) (h := 511) (r_nle c1) hx7 (iv_shl1 (l := 1) (h := 512) (iv_lit (l := 1) (h := 1) (by decide)) k_lf_huts (by decide)) (by decide)) x7.toInt (Int.le_refl _) (fun u0 u1 u2 hq g0 g1 g2 => ih u0 u1 u2 (ms_up hm hq) g0 g1 g2) hpost
              · skip
                exact (iv_emp (iv_eqa (l := 1) (h := 0) c9 (iv_lit (l := 1) (h := 1) (by decide)) (iv_lit (l := 0) (h := 0) (by decide)) (by decide)) (by decide)).elim
  exact loop _ _ _ _ (ms_init_up _ _) hx5 hx6 hx7
set_option maxRecDepth 20000 in
theorem s_wp_X7_fewestDams_9_0 {a_next : Nat → Int32} {lf_huts : Int32} {lf_dams : Int32} {x2 : Int32} {x3 : Int32} {post : Int32 → Prop} (k_a_next : ∀ j, iv 0 511 (a_next j)) (k_lf_huts : iv 1 9 lf_huts) (k_lf_dams : iv 0 511 lf_dams) (hx2 : iv 0 8 x2) (hx3 : iv 0 8 x3) (hpost : ∀ (r : Int32), iv (-1) 511 r → post r) : q_wp_X7_fewestDams_9_0 a_next lf_huts lf_dams x2 x3 post := by
  intro w1 ew1
  have hw1 := iv_eq ew1 (iv_or 9 (l := 0) (h := 511) (iv_or 9 (l := 0) (h := 511) k_lf_dams (iv_shl1 (l := 1) (h := 256) (iv_lit (l := 1) (h := 1) (by decide)) hx2 (by decide)) (by decide)) (iv_shl1 (l := 1) (h := 256) (iv_lit (l := 1) (h := 1) (by decide)) hx3 (by decide)) (by decide))
  intro w2 ew2
  have hw2 := iv_eq ew2 (iv_add (l := 2) (h := 10) k_lf_huts (iv_lit (l := 1) (h := 1) (by decide)) (by decide))
  exact s_wp_X7_fewestDams_9_28 k_a_next k_lf_huts k_lf_dams hx2 hx3 hw1 (iv_w (iv_lit (l := (-1)) (h := (-1)) (by decide)) (by decide)) (iv_w hw2 (by decide)) (iv_w (iv_lit (l := 0) (h := 0) (by decide)) (by decide)) hpost
-- wp_X7_together_9_2
set_option maxRecDepth 20000 in
theorem s_wp_X7_together_9_2_59 {P11 : Int32 → Int32 → Int32 → Prop} {a_walked : Nat → Int32} {lf_huts : Int32} {x3 : Int32} {x4 : Int32} {x5 : Int32} {x6 : Int32} {x7 : Int32} {x8 : Int32} {post : Int32 → Prop} (k_a_walked : ∀ j, iv 0 1000 (a_walked j)) (k_lf_huts : iv 1 9 lf_huts) (hx3 : iv 0 8 x3) (hx4 : iv 0 8 x4) (hx6 : iv (-1) 8 x6) (hx7 : iv 0 1000 x7) (hx8 : iv 0 8 x8) (m11 : Int) (hm11 : m11 ≤ x8.toInt) (hP11 : ∀ (x6 : Int32) (x7 : Int32) (x8 : Int32), m11 < x8.toInt → iv (-1) 8 x6 → iv 0 1000 x7 → iv 0 9 x8 → P11 x6 x7 x8) (hpost : ∀ (r : Int32), iv (-1) 1000 r → post r) : q_wp_X7_together_9_2_59 P11 a_walked lf_huts x3 x4 x5 x6 x7 x8 post := by
  intro w1 ew1
  have hw1 := iv_eq ew1 (iv_add (l := 1) (h := 9) hx8 (iv_lit (l := 1) (h := 1) (by decide)) (by decide))
  exact hP11 _ _ _ (ml_up hm11 (inc_lt ew1 hx8 (by decide))) hx6 hx7 (iv_w hw1 (by decide))
set_option maxRecDepth 20000 in
theorem s_wp_X7_together_9_2_11 {a_walked : Nat → Int32} {lf_huts : Int32} {x3 : Int32} {x4 : Int32} {x5 : Int32} {x6 : Int32} {x7 : Int32} {x8 : Int32} {post : Int32 → Prop} (k_a_walked : ∀ j, iv 0 1000 (a_walked j)) (k_lf_huts : iv 0 9 lf_huts) (hx3 : iv 0 8 x3) (hx4 : iv 0 8 x4) (hx6 : iv (-1) 8 x6) (hx7 : iv 0 1000 x7) (hx8 : iv 0 9 x8) (hpost : ∀ (r : Int32), iv (-1) 1000 r → post r) : q_wp_X7_together_9_2_11 a_walked lf_huts x3 x4 x5 x6 x7 x8 post := by
  intro P hP
  have loop : ∀ (n : Nat) (x6 : Int32) (x7 : Int32) (x8 : Int32), (9 - x8.toInt < (n : Int)) → (iv (-1) 8 x6) → (iv 0 1000 x7) → (iv 0 9 x8) → P x6 x7 x8 := by
    intro n
    induction n with
    | zero => intro x6 x7 x8 hm hx6 hx7 hx8; exact (ms0_up hm hx8).elim
    | succ n ih =>
      intro x6 x7 x8 hm hx6 hx7 hx8
      apply hP
      refine ⟨fun c1 => ?_, fun c1 => ?_⟩
      · skip
        refine ⟨fun c2 => ?_, fun c2 => ?_⟩
        · skip
          exact hpost _ (iv_w (iv_eqa (l := (-1)) (h := (-1)) c2 hx6 (iv_lit (l := (-1)) (h := (-1)) (by decide)) (by decide)) (by decide))
        · skip
          refine ⟨fun c3 => ?_, fun c3 => ?_⟩
          · skip
            exact hpost _ (iv_w (iv_ne (l := 0) (h := 8) c2 hx6 (iv_lit (l := (-1)) (h := (-1)) (by decide)) (by decide)) (by decide))
          · skip
            exact hpost _ (iv_w hx7 (by decide))
      · skip
        refine ⟨iv_in (iv_add (l := 0) (h := 80) (iv_mul (l := 0) (h := 72) hx3 (iv_lit (l := 9) (h := 9) (by decide)) (by decide)) (iv_lta (l := 0) (h := 8) (r_nle c1) hx8 k_lf_huts (by decide)) (by decide)) (by decide), ?_⟩
        refine ⟨iv_in (iv_add (l := 0) (h := 80) (iv_mul (l := 0) (h := 72) hx4 (iv_lit (l := 9) (h := 9) (by decide)) (by decide)) (iv_lta (l := 0) (h := 8) (r_nle c1) hx8 k_lf_huts (by decide)) (by decide)) (by decide), ?_⟩
        intro w4 ew4
        have hw4 := iv_eq ew4 (iv_max (l := 0) (h := 1000) (k_a_walked _) (k_a_walked _) (by decide))
        refine ⟨fun c5 => ?_, fun c5 => ?_⟩
        · skip
          exact s_wp_X7_together_9_2_59 k_a_walked (iv_ltb (l := 1) (h := 9) (r_nle c1) hx8 k_lf_huts (by decide)) hx3 hx4 hx6 hx7 (iv_lta (l := 0) (h := 8) (r_nle c1) hx8 k_lf_huts (by decide)) x8.toInt (Int.le_refl _) (fun u0 u1 u2 hq g0 g1 g2 => ih u0 u1 u2 (ms_up hm hq) g0 g1 g2) hpost
        · skip
          exact s_wp_X7_together_9_2_59 k_a_walked (iv_ltb (l := 1) (h := 9) (r_nle c1) hx8 k_lf_huts (by decide)) hx3 hx4 (iv_w (iv_lta (l := 0) (h := 8) (r_nle c1) hx8 k_lf_huts (by decide)) (by decide)) (iv_w (iv_lta (l := 0) (h := 999) (r_nle c5) hw4 hx7 (by decide)) (by decide)) (iv_lta (l := 0) (h := 8) (r_nle c1) hx8 k_lf_huts (by decide)) x8.toInt (Int.le_refl _) (fun u0 u1 u2 hq g0 g1 g2 => ih u0 u1 u2 (ms_up hm hq) g0 g1 g2) hpost
  exact loop _ _ _ _ (ms_init_up _ _) hx6 hx7 hx8
set_option maxRecDepth 20000 in
theorem s_wp_X7_together_9_2_0 {a_walked : Nat → Int32} {lf_huts : Int32} {x3 : Int32} {x4 : Int32} {x5 : Int32} {post : Int32 → Prop} (k_a_walked : ∀ j, iv 0 1000 (a_walked j)) (k_lf_huts : iv 0 9 lf_huts) (hx3 : iv 0 8 x3) (hx4 : iv 0 8 x4) (hpost : ∀ (r : Int32), iv (-1) 1000 r → post r) : q_wp_X7_together_9_2_0 a_walked lf_huts x3 x4 x5 post := by
  exact s_wp_X7_together_9_2_11 k_a_walked k_lf_huts hx3 hx4 (iv_w (iv_lit (l := (-1)) (h := (-1)) (by decide)) (by decide)) (iv_w (iv_lit (l := 1000) (h := 1000) (by decide)) (by decide)) (iv_w (iv_lit (l := 0) (h := 0) (by decide)) (by decide)) hpost
-- wp_X7_together_9_1
set_option maxRecDepth 20000 in
theorem s_wp_X7_together_9_1_59 {P11 : Int32 → Int32 → Int32 → Prop} {a_heard : Nat → Int32} {lf_huts : Int32} {x3 : Int32} {x4 : Int32} {x5 : Int32} {x6 : Int32} {x7 : Int32} {x8 : Int32} {post : Int32 → Prop} (k_a_heard : ∀ j, iv 0 1000 (a_heard j)) (k_lf_huts : iv 1 9 lf_huts) (hx3 : iv 0 8 x3) (hx4 : iv 0 8 x4) (hx6 : iv (-1) 8 x6) (hx7 : iv 0 1000 x7) (hx8 : iv 0 8 x8) (m11 : Int) (hm11 : m11 ≤ x8.toInt) (hP11 : ∀ (x6 : Int32) (x7 : Int32) (x8 : Int32), m11 < x8.toInt → iv (-1) 8 x6 → iv 0 1000 x7 → iv 0 9 x8 → P11 x6 x7 x8) (hpost : ∀ (r : Int32), iv (-1) 1000 r → post r) : q_wp_X7_together_9_1_59 P11 a_heard lf_huts x3 x4 x5 x6 x7 x8 post := by
  intro w1 ew1
  have hw1 := iv_eq ew1 (iv_add (l := 1) (h := 9) hx8 (iv_lit (l := 1) (h := 1) (by decide)) (by decide))
  exact hP11 _ _ _ (ml_up hm11 (inc_lt ew1 hx8 (by decide))) hx6 hx7 (iv_w hw1 (by decide))
set_option maxRecDepth 20000 in
theorem s_wp_X7_together_9_1_11 {a_heard : Nat → Int32} {lf_huts : Int32} {x3 : Int32} {x4 : Int32} {x5 : Int32} {x6 : Int32} {x7 : Int32} {x8 : Int32} {post : Int32 → Prop} (k_a_heard : ∀ j, iv 0 1000 (a_heard j)) (k_lf_huts : iv 1 9 lf_huts) (hx3 : iv 0 8 x3) (hx4 : iv 0 8 x4) (hx6 : iv (-1) 8 x6) (hx7 : iv 0 1000 x7) (hx8 : iv 0 9 x8) (hpost : ∀ (r : Int32), iv (-1) 1000 r → post r) : q_wp_X7_together_9_1_11 a_heard lf_huts x3 x4 x5 x6 x7 x8 post := by
  intro P hP
  have loop : ∀ (n : Nat) (x6 : Int32) (x7 : Int32) (x8 : Int32), (9 - x8.toInt < (n : Int)) → (iv (-1) 8 x6) → (iv 0 1000 x7) → (iv 0 9 x8) → P x6 x7 x8 := by
    intro n
    induction n with
    | zero => intro x6 x7 x8 hm hx6 hx7 hx8; exact (ms0_up hm hx8).elim
    | succ n ih =>
      intro x6 x7 x8 hm hx6 hx7 hx8
      apply hP
      refine ⟨fun c1 => ?_, fun c1 => ?_⟩
      · skip
        refine ⟨fun c2 => ?_, fun c2 => ?_⟩
        · skip
          exact hpost _ (iv_w (iv_eqa (l := (-1)) (h := (-1)) c2 hx6 (iv_lit (l := (-1)) (h := (-1)) (by decide)) (by decide)) (by decide))
        · skip
          refine ⟨fun c3 => ?_, fun c3 => ?_⟩
          · skip
            exact hpost _ (iv_w (iv_ne (l := 0) (h := 8) c2 hx6 (iv_lit (l := (-1)) (h := (-1)) (by decide)) (by decide)) (by decide))
          · skip
            exact hpost _ (iv_w hx7 (by decide))
      · skip
        refine ⟨iv_in (iv_add (l := 0) (h := 80) (iv_mul (l := 0) (h := 72) hx3 (iv_lit (l := 9) (h := 9) (by decide)) (by decide)) (iv_lta (l := 0) (h := 8) (r_nle c1) hx8 k_lf_huts (by decide)) (by decide)) (by decide), ?_⟩
        refine ⟨iv_in (iv_add (l := 0) (h := 80) (iv_mul (l := 0) (h := 72) hx4 (iv_lit (l := 9) (h := 9) (by decide)) (by decide)) (iv_lta (l := 0) (h := 8) (r_nle c1) hx8 k_lf_huts (by decide)) (by decide)) (by decide), ?_⟩
        intro w4 ew4
        have hw4 := iv_eq ew4 (iv_max (l := 0) (h := 1000) (k_a_heard _) (k_a_heard _) (by decide))
        refine ⟨fun c5 => ?_, fun c5 => ?_⟩
        · skip
          exact s_wp_X7_together_9_1_59 k_a_heard k_lf_huts hx3 hx4 hx6 hx7 (iv_lta (l := 0) (h := 8) (r_nle c1) hx8 k_lf_huts (by decide)) x8.toInt (Int.le_refl _) (fun u0 u1 u2 hq g0 g1 g2 => ih u0 u1 u2 (ms_up hm hq) g0 g1 g2) hpost
        · skip
          exact s_wp_X7_together_9_1_59 k_a_heard k_lf_huts hx3 hx4 (iv_w (iv_lta (l := 0) (h := 8) (r_nle c1) hx8 k_lf_huts (by decide)) (by decide)) (iv_w (iv_lta (l := 0) (h := 999) (r_nle c5) hw4 hx7 (by decide)) (by decide)) (iv_lta (l := 0) (h := 8) (r_nle c1) hx8 k_lf_huts (by decide)) x8.toInt (Int.le_refl _) (fun u0 u1 u2 hq g0 g1 g2 => ih u0 u1 u2 (ms_up hm hq) g0 g1 g2) hpost
  exact loop _ _ _ _ (ms_init_up _ _) hx6 hx7 hx8
set_option maxRecDepth 20000 in
theorem s_wp_X7_together_9_1_0 {a_heard : Nat → Int32} {lf_huts : Int32} {x3 : Int32} {x4 : Int32} {x5 : Int32} {post : Int32 → Prop} (k_a_heard : ∀ j, iv 0 1000 (a_heard j)) (k_lf_huts : iv 1 9 lf_huts) (hx3 : iv 0 8 x3) (hx4 : iv 0 8 x4) (hpost : ∀ (r : Int32), iv (-1) 1000 r → post r) : q_wp_X7_together_9_1_0 a_heard lf_huts x3 x4 x5 post := by
  exact s_wp_X7_together_9_1_11 k_a_heard k_lf_huts hx3 hx4 (iv_w (iv_lit (l := (-1)) (h := (-1)) (by decide)) (by decide)) (iv_w (iv_lit (l := 1000) (h := 1000) (by decide)) (by decide)) (iv_w (iv_lit (l := 0) (h := 0) (by decide)) (by decide)) hpost
end
section
-- wr_J7_fill_53178_3
set_option maxRecDepth 20000 in
theorem s_wr_J7_fill_53178_3_5 {la_ladders : Nat → Int32} {x1 : Int32} {x2 : Int32} {x3 : Int32} {post : (Nat → Int32) → Prop} (k_la_ladders : ∀ j, iv 0 9 (la_ladders j)) (hx1 : iv 0 0 x1) (hx2 : iv 0 9 x2) (hx3 : iv 9 9 x3) (hpost : ∀ (la_ladders : Nat → Int32), (∀ j, iv 0 9 (la_ladders j)) → post la_ladders) : q_wr_J7_fill_53178_3_5 la_ladders x1 x2 x3 post := by
  intro P hP
  have loop : ∀ (n : Nat) (x2 : Int32) (la_ladders : Nat → Int32), (9 - x2.toInt < (n : Int)) → (iv 0 9 x2) → (∀ j, iv 0 9 (la_ladders j)) → P x2 la_ladders := by
    intro n
    induction n with
    | zero => intro x2 la_ladders hm hx2 k_la_ladders; exact (ms0_up hm hx2).elim
    | succ n ih =>
      intro x2 la_ladders hm hx2 k_la_ladders
      apply hP
      refine ⟨fun c1 => ?_, fun c1 => ?_⟩
      · skip
        exact hpost _ k_la_ladders
      · skip
        refine ⟨iv_in (iv_lta (l := 0) (h := 8) (r_nle c1) hx2 hx3 (by decide)) (by decide), ?_⟩
        intro a2 ea2
        have k_a2 := iv_upd ea2 k_la_ladders (iv_w hx1 (by decide))
        intro w3 ew3
        have hw3 := iv_eq ew3 (iv_add (l := 1) (h := 9) (iv_lta (l := 0) (h := 8) (r_nle c1) hx2 hx3 (by decide)) (iv_lit (l := 1) (h := 1) (by decide)) (by decide))
        exact ih _ _ (ms_up hm (inc_lt ew3 (iv_lta (l := 0) (h := 8) (r_nle c1) hx2 hx3 (by decide)) (by decide))) (iv_w hw3 (by decide)) k_a2
  exact loop _ _ _ (ms_init_up _ _) hx2 k_la_ladders
set_option maxRecDepth 20000 in
theorem s_wr_J7_fill_53178_3_0 {la_ladders : Nat → Int32} {x1 : Int32} {post : (Nat → Int32) → Prop} (k_la_ladders : ∀ j, iv 0 9 (la_ladders j)) (hx1 : iv 0 0 x1) (hpost : ∀ (la_ladders : Nat → Int32), (∀ j, iv 0 9 (la_ladders j)) → post la_ladders) : q_wr_J7_fill_53178_3_0 la_ladders x1 post := by
  exact s_wr_J7_fill_53178_3_5 k_la_ladders hx1 (iv_w (iv_lit (l := 0) (h := 0) (by decide)) (by decide)) (iv_lit (l := 9) (h := 9) (by decide)) hpost
-- wr_J7_fill_53178_4
set_option maxRecDepth 20000 in
theorem s_wr_J7_fill_53178_4_5 {la_minutes : Nat → Int32} {x1 : Int32} {x2 : Int32} {x3 : Int32} {post : (Nat → Int32) → Prop} (k_la_minutes : ∀ j, iv 0 9 (la_minutes j)) (hx1 : iv 0 0 x1) (hx2 : iv 0 81 x2) (hx3 : iv 81 81 x3) (hpost : ∀ (la_minutes : Nat → Int32), (∀ j, iv 0 9 (la_minutes j)) → post la_minutes) : q_wr_J7_fill_53178_4_5 la_minutes x1 x2 x3 post := by
  intro P hP
  have loop : ∀ (n : Nat) (x2 : Int32) (la_minutes : Nat → Int32), (81 - x2.toInt < (n : Int)) → (iv 0 81 x2) → (∀ j, iv 0 9 (la_minutes j)) → P x2 la_minutes := by
    intro n
    induction n with
    | zero => intro x2 la_minutes hm hx2 k_la_minutes; exact (ms0_up hm hx2).elim
    | succ n ih =>
      intro x2 la_minutes hm hx2 k_la_minutes
      apply hP
      refine ⟨fun c1 => ?_, fun c1 => ?_⟩
      · skip
        exact hpost _ k_la_minutes
      · skip
        refine ⟨iv_in (iv_lta (l := 0) (h := 80) (r_nle c1) hx2 hx3 (by decide)) (by decide), ?_⟩
        intro a2 ea2
        have k_a2 := iv_upd ea2 k_la_minutes (iv_w hx1 (by decide))
        intro w3 ew3
        have hw3 := iv_eq ew3 (iv_add (l := 1) (h := 81) (iv_lta (l := 0) (h := 80) (r_nle c1) hx2 hx3 (by decide)) (iv_lit (l := 1) (h := 1) (by decide)) (by decide))
        exact ih _ _ (ms_up hm (inc_lt ew3 (iv_lta (l := 0) (h := 80) (r_nle c1) hx2 hx3 (by decide)) (by decide))) (iv_w hw3 (by decide)) k_a2
  exact loop _ _ _ (ms_init_up _ _) hx2 k_la_minutes
set_option maxRecDepth 20000 in
theorem s_wr_J7_fill_53178_4_0 {la_minutes : Nat → Int32} {x1 : Int32} {post : (Nat → Int32) → Prop} (k_la_minutes : ∀ j, iv 0 9 (la_minutes j)) (hx1 : iv 0 0 x1) (hpost : ∀ (la_minutes : Nat → Int32), (∀ j, iv 0 9 (la_minutes j)) → post la_minutes) : q_wr_J7_fill_53178_4_0 la_minutes x1 post := by
  exact s_wr_J7_fill_53178_4_5 k_la_minutes hx1 (iv_w (iv_lit (l := 0) (h := 0) (by decide)) (by decide)) (iv_lit (l := 81) (h := 81) (by decide)) hpost
-- wr_J7_fill_53178_9
set_option maxRecDepth 20000 in
theorem s_wr_J7_fill_53178_9_5 {la_known : Nat → Int32} {x1 : Int32} {x2 : Int32} {x3 : Int32} {post : (Nat → Int32) → Prop} (k_la_known : ∀ j, iv 0 31 (la_known j)) (hx1 : iv 0 0 x1) (hx2 : iv 0 6 x2) (hx3 : iv 6 6 x3) (hpost : ∀ (la_known : Nat → Int32), (∀ j, iv 0 31 (la_known j)) → post la_known) : q_wr_J7_fill_53178_9_5 la_known x1 x2 x3 post := by
  intro P hP
  have loop : ∀ (n : Nat) (x2 : Int32) (la_known : Nat → Int32), (6 - x2.toInt < (n : Int)) → (iv 0 6 x2) → (∀ j, iv 0 31 (la_known j)) → P x2 la_known := by
    intro n
    induction n with
    | zero => intro x2 la_known hm hx2 k_la_known; exact (ms0_up hm hx2).elim
    | succ n ih =>
      intro x2 la_known hm hx2 k_la_known
      apply hP
      refine ⟨fun c1 => ?_, fun c1 => ?_⟩
      · skip
        exact hpost _ k_la_known
      · skip
        refine ⟨iv_in (iv_lta (l := 0) (h := 5) (r_nle c1) hx2 hx3 (by decide)) (by decide), ?_⟩
        intro a2 ea2
        have k_a2 := iv_upd ea2 k_la_known (iv_w hx1 (by decide))
        intro w3 ew3
        have hw3 := iv_eq ew3 (iv_add (l := 1) (h := 6) (iv_lta (l := 0) (h := 5) (r_nle c1) hx2 hx3 (by decide)) (iv_lit (l := 1) (h := 1) (by decide)) (by decide))
        exact ih _ _ (ms_up hm (inc_lt ew3 (iv_lta (l := 0) (h := 5) (r_nle c1) hx2 hx3 (by decide)) (by decide))) (iv_w hw3 (by decide)) k_a2
  exact loop _ _ _ (ms_init_up _ _) hx2 k_la_known
set_option maxRecDepth 20000 in
theorem s_wr_J7_fill_53178_9_0 {la_known : Nat → Int32} {x1 : Int32} {post : (Nat → Int32) → Prop} (k_la_known : ∀ j, iv 0 31 (la_known j)) (hx1 : iv 0 0 x1) (hpost : ∀ (la_known : Nat → Int32), (∀ j, iv 0 31 (la_known j)) → post la_known) : q_wr_J7_fill_53178_9_0 la_known x1 post := by
  exact s_wr_J7_fill_53178_9_5 k_la_known hx1 (iv_w (iv_lit (l := 0) (h := 0) (by decide)) (by decide)) (iv_lit (l := 6) (h := 6) (by decide)) hpost
-- wr_X2_clear
set_option maxRecDepth 20000 in
theorem s_wr_X2_clear_0 {lf_huts : Int32} {lf_singers : Int32} {lf_villages : Int32} {lf_dams : Int32} {lf_echoes : Int32} {lf_deep : Int32} {lf_slide : Int32} {la_ladders : Nat → Int32} {la_minutes : Nat → Int32} {la_known : Nat → Int32} {post : (Int32) → (Int32) → (Int32) → (Int32) → (Int32) → (Int32) → (Int32) → (Nat → Int32) → (Nat → Int32) → (Nat → Int32) → Prop} (k_lf_huts : iv 0 9 lf_huts) (k_lf_singers : iv 0 6 lf_singers) (k_lf_villages : iv 0 511 lf_villages) (k_lf_dams : iv 0 511 lf_dams) (k_lf_echoes : iv 0 4 lf_echoes) (k_lf_deep : iv 1 9 lf_deep) (k_lf_slide : iv 0 10 lf_slide) (k_la_ladders : ∀ j, iv 0 9 (la_ladders j)) (k_la_minutes : ∀ j, iv 0 9 (la_minutes j)) (k_la_known : ∀ j, iv 0 31 (la_known j)) (hpost : ∀ (lf_huts : Int32) (lf_singers : Int32) (lf_villages : Int32) (lf_dams : Int32) (lf_echoes : Int32) (lf_deep : Int32) (lf_slide : Int32) (la_ladders : Nat → Int32) (la_minutes : Nat → Int32) (la_known : Nat → Int32), (iv 0 0 lf_huts) → (iv 0 0 lf_singers) → (iv 0 0 lf_villages) → (iv 0 0 lf_dams) → (iv 0 0 lf_echoes) → (iv 2 2 lf_deep) → (iv 5 5 lf_slide) → (∀ j, iv 0 9 (la_ladders j)) → (∀ j, iv 0 9 (la_minutes j)) → (∀ j, iv 0 31 (la_known j)) → post lf_huts lf_singers lf_villages lf_dams lf_echoes lf_deep lf_slide la_ladders la_minutes la_known) : q_wr_X2_clear_0 lf_huts lf_singers lf_villages lf_dams lf_echoes lf_deep lf_slide la_ladders la_minutes la_known post := by
  refine s_wr_J7_fill_53178_3_0 k_la_ladders (iv_lit (l := 0) (h := 0) (by decide)) (fun o1 k_o1 => ?_)
  refine s_wr_J7_fill_53178_4_0 k_la_minutes (iv_lit (l := 0) (h := 0) (by decide)) (fun o2 k_o2 => ?_)
  refine s_wr_J7_fill_53178_9_0 k_la_known (iv_lit (l := 0) (h := 0) (by decide)) (fun o3 k_o3 => ?_)
  exact hpost _ _ _ _ _ _ _ _ _ _ (iv_lit (l := 0) (h := 0) (by decide)) (iv_lit (l := 0) (h := 0) (by decide)) (iv_lit (l := 0) (h := 0) (by decide)) (iv_lit (l := 0) (h := 0) (by decide)) (iv_lit (l := 0) (h := 0) (by decide)) (iv_lit (l := 2) (h := 2) (by decide)) (iv_lit (l := 5) (h := 5) (by decide)) k_o1 k_o2 k_o3
-- wr_X4_clearDraft
set_option maxRecDepth 20000 in
theorem s_wr_X4_clearDraft_0 {lf_huts : Int32} {lf_singers : Int32} {lf_villages : Int32} {lf_dams : Int32} {lf_echoes : Int32} {lf_deep : Int32} {lf_slide : Int32} {la_ladders : Nat → Int32} {la_minutes : Nat → Int32} {la_known : Nat → Int32} {vf_deeds : Int32} {sf_facts : Int32} {cf_voices : Int32} {cf_step : Int32} {f_hutsToldOf : Int32} {f_singersToldOf : Int32} {x1 : Int32} {post : (Int32) → (Int32) → (Int32) → (Int32) → (Int32) → (Int32) → (Int32) → (Nat → Int32) → (Nat → Int32) → (Nat → Int32) → (Int32) → (Int32) → (Int32) → (Int32) → (Int32) → (Int32) → Prop} (k_lf_huts : iv 0 9 lf_huts) (k_lf_singers : iv 0 6 lf_singers) (k_lf_villages : iv 0 511 lf_villages) (k_lf_dams : iv 0 511 lf_dams) (k_lf_echoes : iv 0 4 lf_echoes) (k_lf_deep : iv 1 9 lf_deep) (k_lf_slide : iv 0 10 lf_slide) (k_la_ladders : ∀ j, iv 0 9 (la_ladders j)) (k_la_minutes : ∀ j, iv 0 9 (la_minutes j)) (k_la_known : ∀ j, iv 0 31 (la_known j)) (k_vf_deeds : iv 0 40 vf_deeds) (k_sf_facts : iv 0 10 sf_facts) (k_cf_voices : iv 0 9 cf_voices) (k_cf_step : iv 0 9 cf_step) (hx1 : iv 0 3 x1) (hpost : ∀ (lf_huts : Int32) (lf_singers : Int32) (lf_villages : Int32) (lf_dams : Int32) (lf_echoes : Int32) (lf_deep : Int32) (lf_slide : Int32) (la_ladders : Nat → Int32) (la_minutes : Nat → Int32) (la_known : Nat → Int32) (vf_deeds : Int32) (sf_facts : Int32) (cf_voices : Int32) (cf_step : Int32) (f_hutsToldOf : Int32) (f_singersToldOf : Int32), (iv 0 9 lf_huts) → (iv 0 6 lf_singers) → (iv 0 511 lf_villages) → (iv 0 511 lf_dams) → (iv 0 4 lf_echoes) → (iv 1 9 lf_deep) → (iv 0 10 lf_slide) → (∀ j, iv 0 9 (la_ladders j)) → (∀ j, iv 0 9 (la_minutes j)) → (∀ j, iv 0 31 (la_known j)) → (iv 0 40 vf_deeds) → (iv 0 10 sf_facts) → (iv 0 9 cf_voices) → (iv 0 9 cf_step) → post lf_huts lf_singers lf_villages lf_dams lf_echoes lf_deep lf_slide la_ladders la_minutes la_known vf_deeds sf_facts cf_voices cf_step f_hutsToldOf f_singersToldOf) : q_wr_X4_clearDraft_0 lf_huts lf_singers lf_villages lf_dams lf_echoes lf_deep lf_slide la_ladders la_minutes la_known vf_deeds sf_facts cf_voices cf_step f_hutsToldOf f_singersToldOf x1 post := by
  refine ⟨fun c1 => ?_, fun c1 => ?_⟩
  · skip
    refine ⟨fun c2 => ?_, fun c2 => ?_⟩
    · skip
      refine ⟨fun c3 => ?_, fun c3 => ?_⟩
      · skip
        exact hpost _ _ _ _ _ _ _ _ _ _ _ _ _ _ _ _ k_lf_huts k_lf_singers k_lf_villages k_lf_dams k_lf_echoes k_lf_deep k_lf_slide k_la_ladders k_la_minutes k_la_known k_vf_deeds k_sf_facts (iv_w (iv_lit (l := 0) (h := 0) (by decide)) (by decide)) (iv_w (iv_lit (l := 0) (h := 0) (by decide)) (by decide))
      · skip
        exact hpost _ _ _ _ _ _ _ _ _ _ _ _ _ _ _ _ k_lf_huts k_lf_singers k_lf_villages k_lf_dams k_lf_echoes k_lf_deep k_lf_slide k_la_ladders k_la_minutes k_la_known k_vf_deeds (iv_w (iv_lit (l := 0) (h := 0) (by decide)) (by decide)) k_cf_voices k_cf_step
    · skip
      exact hpost _ _ _ _ _ _ _ _ _ _ _ _ _ _ _ _ k_lf_huts k_lf_singers k_lf_villages k_lf_dams k_lf_echoes k_lf_deep k_lf_slide k_la_ladders k_la_minutes k_la_known (iv_w (iv_lit (l := 0) (h := 0) (by decide)) (by decide)) k_sf_facts k_cf_voices k_cf_step
  · skip
    refine s_wr_X2_clear_0 k_lf_huts k_lf_singers k_lf_villages k_lf_dams k_lf_echoes k_lf_deep k_lf_slide k_la_ladders k_la_minutes k_la_known (fun o4 o5 o6 o7 o8 o9 o10 o11 o12 o13 k_o4 k_o5 k_o6 k_o7 k_o8 k_o9 k_o10 k_o11 k_o12 k_o13 => ?_)
    exact hpost _ _ _ _ _ _ _ _ _ _ _ _ _ _ _ _ (iv_w k_o4 (by decide)) (iv_w k_o5 (by decide)) (iv_w k_o6 (by decide)) (iv_w k_o7 (by decide)) (iv_w k_o8 (by decide)) (iv_w k_o9 (by decide)) (iv_w k_o10 (by decide)) k_o11 k_o12 k_o13 k_vf_deeds k_sf_facts k_cf_voices k_cf_step
-- wr_X4_readNumber
set_option maxRecDepth 20000 in
theorem s_wr_X4_readNumber_59 {P7 : Int32 → (Int32) → Prop} {a_tape : Nat → Int32} {f_length : Int32} {f_kind : Int32} {f_value : Int32} {x1 : Int32} {x2 : Int32} {y0 : Int32} {post : Int32 → (Int32) → (Int32) → Prop} (k_a_tape : ∀ j, iv (-128) 127 (a_tape j)) (k_f_length : iv 1 600 f_length) (k_f_kind : iv 0 4 f_kind) (hx1 : iv 0 599 x1) (hx2 : iv 0 599 x2) (m7 : Int) (hm7 : m7 ≤ x2.toInt) (hP7 : ∀ (x2 : Int32) (f_value : Int32), m7 < x2.toInt → iv 0 600 x2 → P7 x2 f_value) (hpost : ∀ (r : Int32) (f_kind : Int32) (f_value : Int32), iv 0 600 r → (iv 2 4 f_kind) → post r f_kind f_value) : q_wr_X4_readNumber_59 P7 a_tape f_length f_kind f_value x1 x2 y0 post := by
  intro w1 ew1
  have hw1 := iv_eq ew1 (iv_add (l := 1) (h := 600) hx2 (iv_lit (l := 1) (h := 1) (by decide)) (by decide))
  exact hP7 _ _ (ml_up hm7 (inc_lt ew1 hx2 (by decide))) (iv_w hw1 (by decide))
set_option maxRecDepth 20000 in
theorem s_wr_X4_readNumber_81 {a_tape : Nat → Int32} {f_length : Int32} {f_kind : Int32} {f_value : Int32} {x2 : Int32} {y0 : Int32} {post : Int32 → (Int32) → (Int32) → Prop} (k_a_tape : ∀ j, iv (-128) 127 (a_tape j)) (k_f_length : iv 1 600 f_length) (k_f_kind : iv 0 4 f_kind) (hx2 : iv 0 600 x2) (hy0 : iv 2 4 y0) (hpost : ∀ (r : Int32) (f_kind : Int32) (f_value : Int32), iv 0 600 r → (iv 2 4 f_kind) → post r f_kind f_value) : q_wr_X4_readNumber_81 a_tape f_length f_kind f_value x2 y0 post := by
  exact hpost _ _ _ hx2 hy0
set_option maxRecDepth 20000 in
theorem s_wr_X4_readNumber_68 {a_tape : Nat → Int32} {f_length : Int32} {f_kind : Int32} {f_value : Int32} {x1 : Int32} {x2 : Int32} {post : Int32 → (Int32) → (Int32) → Prop} (k_a_tape : ∀ j, iv (-128) 127 (a_tape j)) (k_f_length : iv 1 600 f_length) (k_f_kind : iv 0 4 f_kind) (hx1 : iv 0 599 x1) (hx2 : iv 0 600 x2) (hpost : ∀ (r : Int32) (f_kind : Int32) (f_value : Int32), iv 0 600 r → (iv 2 4 f_kind) → post r f_kind f_value) : q_wr_X4_readNumber_68 a_tape f_length f_kind f_value x1 x2 post := by
  refine ⟨fun c1 => ?_, fun c1 => ?_⟩
  · skip
    exact s_wr_X4_readNumber_81 k_a_tape k_f_length k_f_kind hx2 (iv_w (iv_lit (l := 4) (h := 4) (by decide)) (by decide)) hpost
  · skip
    exact s_wr_X4_readNumber_81 k_a_tape k_f_length k_f_kind hx2 (iv_w (iv_lit (l := 2) (h := 2) (by decide)) (by decide)) hpost
set_option maxRecDepth 20000 in
theorem s_wr_X4_readNumber_7 {a_tape : Nat → Int32} {f_length : Int32} {f_kind : Int32} {f_value : Int32} {x1 : Int32} {x2 : Int32} {post : Int32 → (Int32) → (Int32) → Prop} (k_a_tape : ∀ j, iv (-128) 127 (a_tape j)) (k_f_length : iv 1 600 f_length) (k_f_kind : iv 0 4 f_kind) (hx1 : iv 0 599 x1) (hx2 : iv 0 600 x2) (hpost : ∀ (r : Int32) (f_kind : Int32) (f_value : Int32), iv 0 600 r → (iv 2 4 f_kind) → post r f_kind f_value) : q_wr_X4_readNumber_7 a_tape f_length f_kind f_value x1 x2 post := by
  intro P hP
  have loop : ∀ (n : Nat) (x2 : Int32) (f_value : Int32), (600 - x2.toInt < (n : Int)) → (iv 0 600 x2) → P x2 f_value := by
    intro n
    induction n with
    | zero => intro x2 f_value hm hx2; exact (ms0_up hm hx2).elim
    | succ n ih =>
      intro x2 f_value hm hx2
      apply hP
      refine ⟨fun c1 => ?_, fun c1 => ?_⟩
      · skip
        exact s_wr_X4_readNumber_68 k_a_tape k_f_length k_f_kind hx1 (iv_w (iv_leb (l := 1) (h := 600) (r_le c1) k_f_length hx2 (by decide)) (by decide)) hpost
      · skip
        refine ⟨iv_in (iv_lta (l := 0) (h := 599) (r_nle c1) hx2 k_f_length (by decide)) (by decide), ?_⟩
        refine ⟨fun c2 => ?_, fun c2 => ?_⟩
        · skip
          refine ⟨fun c3 => ?_, fun c3 => ?_⟩
          · skip
            exact s_wr_X4_readNumber_68 k_a_tape k_f_length k_f_kind hx1 (iv_w (iv_lta (l := 0) (h := 599) (r_nle c1) hx2 k_f_length (by decide)) (by decide)) hpost
          · skip
            exact (iv_emp (iv_ne (l := 1) (h := 0) c3 (iv_lit (l := 0) (h := 0) (by decide)) (iv_lit (l := 0) (h := 0) (by decide)) (by decide)) (by decide)).elim
        · skip
          refine ⟨fun c4 => ?_, fun c4 => ?_⟩
          · skip
            refine ⟨fun c5 => ?_, fun c5 => ?_⟩
            · skip
              exact s_wr_X4_readNumber_68 k_a_tape k_f_length k_f_kind hx1 (iv_w (iv_lta (l := 0) (h := 599) (r_nle c1) hx2 k_f_length (by decide)) (by decide)) hpost
            · skip
              exact (iv_emp (iv_ne (l := 1) (h := 0) c5 (iv_lit (l := 0) (h := 0) (by decide)) (iv_lit (l := 0) (h := 0) (by decide)) (by decide)) (by decide)).elim
          · skip
            refine ⟨fun c6 => ?_, fun c6 => ?_⟩
            · skip
              exact (iv_emp (iv_eqa (l := 1) (h := 0) c6 (iv_lit (l := 1) (h := 1) (by decide)) (iv_lit (l := 0) (h := 0) (by decide)) (by decide)) (by decide)).elim
            · skip
              refine ⟨fun c7 => ?_, fun c7 => ?_⟩
              · skip
                exact s_wr_X4_readNumber_59 k_a_tape k_f_length k_f_kind hx1 (iv_lta (l := 0) (h := 599) (r_nle c1) hx2 k_f_length (by decide)) x2.toInt (Int.le_refl _) (fun u0 u1 hq g0 => ih u0 u1 (ms_up hm hq) g0) hpost
              · skip
                refine ⟨iv_in (iv_lta (l := 0) (h := 599) (r_nle c1) hx2 k_f_length (by decide)) (by decide), ?_⟩
                exact s_wr_X4_readNumber_59 k_a_tape k_f_length k_f_kind hx1 (iv_lta (l := 0) (h := 599) (r_nle c1) hx2 k_f_length (by decide)) x2.toInt (Int.le_refl _) (fun u0 u1 hq g0 => ih u0 u1 (ms_up hm hq) g0) hpost
  exact loop _ _ _ (ms_init_up _ _) hx2
set_option maxRecDepth 20000 in
theorem s_wr_X4_readNumber_0 {a_tape : Nat → Int32} {f_length : Int32} {f_kind : Int32} {f_value : Int32} {x1 : Int32} {post : Int32 → (Int32) → (Int32) → Prop} (k_a_tape : ∀ j, iv (-128) 127 (a_tape j)) (k_f_length : iv 1 600 f_length) (k_f_kind : iv 0 4 f_kind) (hx1 : iv 0 599 x1) (hpost : ∀ (r : Int32) (f_kind : Int32) (f_value : Int32), iv 0 600 r → (iv 2 4 f_kind) → post r f_kind f_value) : q_wr_X4_readNumber_0 a_tape f_length f_kind f_value x1 post := by
  exact s_wr_X4_readNumber_7 k_a_tape k_f_length k_f_kind hx1 (iv_w hx1 (by decide)) hpost
-- wr_X4_advance
set_option maxRecDepth 20000 in
theorem s_wr_X4_advance_35 {P5 : Int32 → Prop} {a_tape : Nat → Int32} {f_length : Int32} {f_behind : Int32} {f_kind : Int32} {f_first : Int32} {f_value : Int32} {x1 : Int32} {post : (Int32) → (Int32) → (Int32) → (Int32) → Prop} (k_a_tape : ∀ j, iv (-128) 127 (a_tape j)) (k_f_length : iv 1 600 f_length) (k_f_behind : iv 0 600 f_behind) (k_f_kind : iv 0 4 f_kind) (k_f_first : iv 0 600 f_first) (hx1 : iv 0 599 x1) (m5 : Int) (hm5 : m5 ≤ x1.toInt) (hP5 : ∀ (x1 : Int32), m5 < x1.toInt → iv 0 600 x1 → P5 x1) (hpost : ∀ (f_behind : Int32) (f_kind : Int32) (f_first : Int32) (f_value : Int32), (iv 0 600 f_behind) → (iv 0 4 f_kind) → (iv 0 600 f_first) → post f_behind f_kind f_first f_value) : q_wr_X4_advance_35 P5 a_tape f_length f_behind f_kind f_first f_value x1 post := by
  intro w1 ew1
  have hw1 := iv_eq ew1 (iv_add (l := 1) (h := 600) hx1 (iv_lit (l := 1) (h := 1) (by decide)) (by decide))
  exact hP5 _ (ml_up hm5 (inc_lt ew1 hx1 (by decide))) (iv_w hw1 (by decide))
set_option maxRecDepth 20000 in
theorem s_wr_X4_advance_149 {a_tape : Nat → Int32} {f_length : Int32} {f_behind : Int32} {f_kind : Int32} {f_first : Int32} {f_value : Int32} {x1 : Int32} {post : (Int32) → (Int32) → (Int32) → (Int32) → Prop} (k_a_tape : ∀ j, iv (-128) 127 (a_tape j)) (k_f_length : iv 0 600 f_length) (k_f_behind : iv 0 600 f_behind) (k_f_kind : iv 0 4 f_kind) (k_f_first : iv 0 600 f_first) (hx1 : iv 0 600 x1) (hpost : ∀ (f_behind : Int32) (f_kind : Int32) (f_first : Int32) (f_value : Int32), (iv 0 600 f_behind) → (iv 0 4 f_kind) → (iv 0 600 f_first) → post f_behind f_kind f_first f_value) : q_wr_X4_advance_149 a_tape f_length f_behind f_kind f_first f_value x1 post := by
  exact hpost _ _ _ _ hx1 k_f_kind k_f_first
set_option maxRecDepth 20000 in
theorem s_wr_X4_advance_143 {a_tape : Nat → Int32} {f_length : Int32} {f_behind : Int32} {f_kind : Int32} {f_first : Int32} {f_value : Int32} {x1 : Int32} {y0 : Int32} {post : (Int32) → (Int32) → (Int32) → (Int32) → Prop} (k_a_tape : ∀ j, iv (-128) 127 (a_tape j)) (k_f_length : iv 1 600 f_length) (k_f_behind : iv 0 600 f_behind) (k_f_kind : iv 0 4 f_kind) (k_f_first : iv 0 599 f_first) (hx1 : iv 0 599 x1) (hy0 : iv 3 4 y0) (hpost : ∀ (f_behind : Int32) (f_kind : Int32) (f_first : Int32) (f_value : Int32), (iv 0 600 f_behind) → (iv 0 4 f_kind) → (iv 0 600 f_first) → post f_behind f_kind f_first f_value) : q_wr_X4_advance_143 a_tape f_length f_behind f_kind f_first f_value x1 y0 post := by
  intro w1 ew1
  have hw1 := iv_eq ew1 (iv_add (l := 1) (h := 600) hx1 (iv_lit (l := 1) (h := 1) (by decide)) (by decide))
  exact s_wr_X4_advance_149 k_a_tape (iv_w k_f_length (by decide)) k_f_behind (iv_w hy0 (by decide)) (iv_w k_f_first (by decide)) (iv_w hw1 (by decide)) hpost
set_option maxRecDepth 20000 in
theorem s_wr_X4_advance_79 {a_tape : Nat → Int32} {f_length : Int32} {f_behind : Int32} {f_kind : Int32} {f_first : Int32} {f_value : Int32} {x1 : Int32} {post : (Int32) → (Int32) → (Int32) → (Int32) → Prop} (k_a_tape : ∀ j, iv (-128) 127 (a_tape j)) (k_f_length : iv 1 600 f_length) (k_f_behind : iv 0 600 f_behind) (k_f_kind : iv 1 1 f_kind) (k_f_first : iv 0 599 f_first) (hx1 : iv 0 600 x1) (hpost : ∀ (f_behind : Int32) (f_kind : Int32) (f_first : Int32) (f_value : Int32), (iv 0 600 f_behind) → (iv 0 4 f_kind) → (iv 0 600 f_first) → post f_behind f_kind f_first f_value) : q_wr_X4_advance_79 a_tape f_length f_behind f_kind f_first f_value x1 post := by
  intro P hP
  have loop : ∀ (n : Nat) (x1 : Int32), (600 - x1.toInt < (n : Int)) → (iv 0 600 x1) → P x1 := by
    intro n
    induction n with
    | zero => intro x1 hm hx1; exact (ms0_up hm hx1).elim
    | succ n ih =>
      intro x1 hm hx1
      apply hP
      refine ⟨fun c1 => ?_, fun c1 => ?_⟩
      · skip
        exact s_wr_X4_advance_149 k_a_tape (iv_w k_f_length (by decide)) k_f_behind (iv_w k_f_kind (by decide)) (iv_w k_f_first (by decide)) (iv_w (iv_leb (l := 1) (h := 600) (r_le c1) k_f_length hx1 (by decide)) (by decide)) hpost
      · skip
        refine ⟨iv_in (iv_lta (l := 0) (h := 599) (r_nle c1) hx1 k_f_length (by decide)) (by decide), ?_⟩
        refine ⟨fun c2 => ?_, fun c2 => ?_⟩
        · skip
          refine ⟨fun c3 => ?_, fun c3 => ?_⟩
          · skip
            exact s_wr_X4_advance_149 k_a_tape (iv_w k_f_length (by decide)) k_f_behind (iv_w k_f_kind (by decide)) (iv_w k_f_first (by decide)) (iv_w (iv_lta (l := 0) (h := 599) (r_nle c1) hx1 k_f_length (by decide)) (by decide)) hpost
          · skip
            exact (iv_emp (iv_ne (l := 1) (h := 0) c3 (iv_lit (l := 0) (h := 0) (by decide)) (iv_lit (l := 0) (h := 0) (by decide)) (by decide)) (by decide)).elim
        · skip
          refine ⟨fun c4 => ?_, fun c4 => ?_⟩
          · skip
            refine ⟨fun c5 => ?_, fun c5 => ?_⟩
            · skip
              exact s_wr_X4_advance_149 k_a_tape (iv_w k_f_length (by decide)) k_f_behind (iv_w k_f_kind (by decide)) (iv_w k_f_first (by decide)) (iv_w (iv_lta (l := 0) (h := 599) (r_nle c1) hx1 k_f_length (by decide)) (by decide)) hpost
            · skip
              exact (iv_emp (iv_ne (l := 1) (h := 0) c5 (iv_lit (l := 0) (h := 0) (by decide)) (iv_lit (l := 0) (h := 0) (by decide)) (by decide)) (by decide)).elim
          · skip
            refine ⟨fun c6 => ?_, fun c6 => ?_⟩
            · skip
              exact (iv_emp (iv_eqa (l := 1) (h := 0) c6 (iv_lit (l := 1) (h := 1) (by decide)) (iv_lit (l := 0) (h := 0) (by decide)) (by decide)) (by decide)).elim
            · skip
              intro w7 ew7
              have hw7 := iv_eq ew7 (iv_add (l := 1) (h := 600) (iv_lta (l := 0) (h := 599) (r_nle c1) hx1 k_f_length (by decide)) (iv_lit (l := 1) (h := 1) (by decide)) (by decide))
              exact ih _ (ms_up hm (inc_lt ew7 (iv_lta (l := 0) (h := 599) (r_nle c1) hx1 k_f_length (by decide)) (by decide))) (iv_w hw7 (by decide))
  exact loop _ _ (ms_init_up _ _) hx1
set_option maxRecDepth 20000 in
theorem s_wr_X4_advance_41 {a_tape : Nat → Int32} {f_length : Int32} {f_behind : Int32} {f_kind : Int32} {f_first : Int32} {f_value : Int32} {x1 : Int32} {post : (Int32) → (Int32) → (Int32) → (Int32) → Prop} (k_a_tape : ∀ j, iv (-128) 127 (a_tape j)) (k_f_length : iv 0 600 f_length) (k_f_behind : iv 0 600 f_behind) (k_f_kind : iv 0 4 f_kind) (k_f_first : iv 0 600 f_first) (hx1 : iv 0 600 x1) (hpost : ∀ (f_behind : Int32) (f_kind : Int32) (f_first : Int32) (f_value : Int32), (iv 0 600 f_behind) → (iv 0 4 f_kind) → (iv 0 600 f_first) → post f_behind f_kind f_first f_value) : q_wr_X4_advance_41 a_tape f_length f_behind f_kind f_first f_value x1 post := by
  refine ⟨fun c1 => ?_, fun c1 => ?_⟩
  · skip
    refine ⟨iv_in (iv_lta (l := 0) (h := 599) (r_lt c1) hx1 k_f_length (by decide)) (by decide), ?_⟩
    refine ⟨fun c2 => ?_, fun c2 => ?_⟩
    · skip
      refine ⟨fun c3 => ?_, fun c3 => ?_⟩
      · skip
        refine ⟨iv_in (iv_lta (l := 0) (h := 599) (r_lt c1) hx1 k_f_length (by decide)) (by decide), ?_⟩
        refine ⟨fun c4 => ?_, fun c4 => ?_⟩
        · skip
          refine ⟨fun c5 => ?_, fun c5 => ?_⟩
          · skip
            refine ⟨iv_in (iv_lta (l := 0) (h := 599) (r_lt c1) hx1 k_f_length (by decide)) (by decide), ?_⟩
            refine ⟨fun c6 => ?_, fun c6 => ?_⟩
            · skip
              exact s_wr_X4_advance_143 k_a_tape (iv_ltb (l := 1) (h := 600) (r_lt c1) hx1 k_f_length (by decide)) k_f_behind k_f_kind (iv_lta (l := 0) (h := 599) (r_lt c1) hx1 k_f_length (by decide)) (iv_lta (l := 0) (h := 599) (r_lt c1) hx1 k_f_length (by decide)) (iv_w (iv_lit (l := 4) (h := 4) (by decide)) (by decide)) hpost
            · skip
              exact (iv_emp (iv_eqa (l := 59) (h := 47) c6 (iv_lta (l := (-128)) (h := 47) (r_lt c4) (iv_lta (l := (-128)) (h := 96) (r_lt c2) (k_a_tape _) (iv_lit (l := 97) (h := 97) (by decide)) (by decide)) (iv_lit (l := 48) (h := 48) (by decide)) (by decide)) (iv_lit (l := 59) (h := 59) (by decide)) (by decide)) (by decide)).elim
          · skip
            exact (iv_emp (iv_ne (l := 1) (h := 0) c5 (iv_lit (l := 0) (h := 0) (by decide)) (iv_lit (l := 0) (h := 0) (by decide)) (by decide)) (by decide)).elim
        · skip
          refine ⟨fun c7 => ?_, fun c7 => ?_⟩
          · skip
            refine ⟨fun c8 => ?_, fun c8 => ?_⟩
            · skip
              refine ⟨iv_in (iv_lta (l := 0) (h := 599) (r_lt c1) hx1 k_f_length (by decide)) (by decide), ?_⟩
              refine ⟨fun c9 => ?_, fun c9 => ?_⟩
              · skip
                exact s_wr_X4_advance_143 k_a_tape (iv_ltb (l := 1) (h := 600) (r_lt c1) hx1 k_f_length (by decide)) k_f_behind k_f_kind (iv_lta (l := 0) (h := 599) (r_lt c1) hx1 k_f_length (by decide)) (iv_lta (l := 0) (h := 599) (r_lt c1) hx1 k_f_length (by decide)) (iv_w (iv_lit (l := 4) (h := 4) (by decide)) (by decide)) hpost
              · skip
                exact s_wr_X4_advance_143 k_a_tape (iv_ltb (l := 1) (h := 600) (r_lt c1) hx1 k_f_length (by decide)) k_f_behind k_f_kind (iv_lta (l := 0) (h := 599) (r_lt c1) hx1 k_f_length (by decide)) (iv_lta (l := 0) (h := 599) (r_lt c1) hx1 k_f_length (by decide)) (iv_w (iv_lit (l := 3) (h := 3) (by decide)) (by decide)) hpost
            · skip
              exact (iv_emp (iv_ne (l := 1) (h := 0) c8 (iv_lit (l := 0) (h := 0) (by decide)) (iv_lit (l := 0) (h := 0) (by decide)) (by decide)) (by decide)).elim
          · skip
            refine ⟨fun c10 => ?_, fun c10 => ?_⟩
            · skip
              exact (iv_emp (iv_eqa (l := 1) (h := 0) c10 (iv_lit (l := 1) (h := 1) (by decide)) (iv_lit (l := 0) (h := 0) (by decide)) (by decide)) (by decide)).elim
            · skip
              refine s_wr_X4_readNumber_0 k_a_tape (iv_ltb (l := 1) (h := 600) (r_lt c1) hx1 k_f_length (by decide)) k_f_kind (iv_lta (l := 0) (h := 599) (r_lt c1) hx1 k_f_length (by decide)) (fun r11 o12 o13 hr11 k_o12 => ?_)
              exact s_wr_X4_advance_149 k_a_tape (iv_w (iv_ltb (l := 1) (h := 600) (r_lt c1) hx1 k_f_length (by decide)) (by decide)) k_f_behind (iv_w k_o12 (by decide)) (iv_w (iv_lta (l := 0) (h := 599) (r_lt c1) hx1 k_f_length (by decide)) (by decide)) hr11 hpost
      · skip
        exact (iv_emp (iv_ne (l := 1) (h := 0) c3 (iv_lit (l := 0) (h := 0) (by decide)) (iv_lit (l := 0) (h := 0) (by decide)) (by decide)) (by decide)).elim
    · skip
      refine ⟨fun c14 => ?_, fun c14 => ?_⟩
      · skip
        refine ⟨fun c15 => ?_, fun c15 => ?_⟩
        · skip
          refine ⟨iv_in (iv_lta (l := 0) (h := 599) (r_lt c1) hx1 k_f_length (by decide)) (by decide), ?_⟩
          refine ⟨fun c16 => ?_, fun c16 => ?_⟩
          · skip
            exact (iv_emp (iv_lta (l := 123) (h := 47) (r_lt c16) (iv_ltb (l := 123) (h := 127) (r_lt c14) (iv_lit (l := 122) (h := 122) (by decide)) (iv_leb (l := 97) (h := 127) (r_nlt c2) (iv_lit (l := 97) (h := 97) (by decide)) (k_a_tape _) (by decide)) (by decide)) (iv_lit (l := 48) (h := 48) (by decide)) (by decide)) (by decide)).elim
          · skip
            refine ⟨fun c17 => ?_, fun c17 => ?_⟩
            · skip
              refine ⟨fun c18 => ?_, fun c18 => ?_⟩
              · skip
                refine ⟨iv_in (iv_lta (l := 0) (h := 599) (r_lt c1) hx1 k_f_length (by decide)) (by decide), ?_⟩
                refine ⟨fun c19 => ?_, fun c19 => ?_⟩
                · skip
                  exact s_wr_X4_advance_143 k_a_tape (iv_ltb (l := 1) (h := 600) (r_lt c1) hx1 k_f_length (by decide)) k_f_behind k_f_kind (iv_lta (l := 0) (h := 599) (r_lt c1) hx1 k_f_length (by decide)) (iv_lta (l := 0) (h := 599) (r_lt c1) hx1 k_f_length (by decide)) (iv_w (iv_lit (l := 4) (h := 4) (by decide)) (by decide)) hpost
                · skip
                  exact (iv_emp (iv_eqa (l := 123) (h := 59) c19 (iv_ltb (l := 123) (h := 127) (r_lt c14) (iv_lit (l := 122) (h := 122) (by decide)) (iv_leb (l := 97) (h := 127) (r_nlt c2) (iv_lit (l := 97) (h := 97) (by decide)) (k_a_tape _) (by decide)) (by decide)) (iv_lit (l := 59) (h := 59) (by decide)) (by decide)) (by decide)).elim
              · skip
                exact (iv_emp (iv_ne (l := 1) (h := 0) c18 (iv_lit (l := 0) (h := 0) (by decide)) (iv_lit (l := 0) (h := 0) (by decide)) (by decide)) (by decide)).elim
            · skip
              exact (iv_emp (iv_lea (l := 123) (h := 57) (r_nlt c17) (iv_ltb (l := 123) (h := 127) (r_lt c14) (iv_lit (l := 122) (h := 122) (by decide)) (iv_leb (l := 97) (h := 127) (r_nlt c2) (iv_lit (l := 97) (h := 97) (by decide)) (k_a_tape _) (by decide)) (by decide)) (iv_lit (l := 57) (h := 57) (by decide)) (by decide)) (by decide)).elim
        · skip
          exact (iv_emp (iv_ne (l := 1) (h := 0) c15 (iv_lit (l := 0) (h := 0) (by decide)) (iv_lit (l := 0) (h := 0) (by decide)) (by decide)) (by decide)).elim
      · skip
        refine ⟨fun c20 => ?_, fun c20 => ?_⟩
        · skip
          exact (iv_emp (iv_eqa (l := 1) (h := 0) c20 (iv_lit (l := 1) (h := 1) (by decide)) (iv_lit (l := 0) (h := 0) (by decide)) (by decide)) (by decide)).elim
        · skip
          exact s_wr_X4_advance_79 k_a_tape (iv_ltb (l := 1) (h := 600) (r_lt c1) hx1 k_f_length (by decide)) k_f_behind (iv_lit (l := 1) (h := 1) (by decide)) (iv_lta (l := 0) (h := 599) (r_lt c1) hx1 k_f_length (by decide)) (iv_w (iv_lta (l := 0) (h := 599) (r_lt c1) hx1 k_f_length (by decide)) (by decide)) hpost
  · skip
    exact s_wr_X4_advance_149 k_a_tape k_f_length k_f_behind (iv_w (iv_lit (l := 0) (h := 0) (by decide)) (by decide)) hx1 hx1 hpost
set_option maxRecDepth 20000 in
theorem s_wr_X4_advance_5 {a_tape : Nat → Int32} {f_length : Int32} {f_behind : Int32} {f_kind : Int32} {f_first : Int32} {f_value : Int32} {x1 : Int32} {post : (Int32) → (Int32) → (Int32) → (Int32) → Prop} (k_a_tape : ∀ j, iv (-128) 127 (a_tape j)) (k_f_length : iv 0 600 f_length) (k_f_behind : iv 0 600 f_behind) (k_f_kind : iv 0 4 f_kind) (k_f_first : iv 0 600 f_first) (hx1 : iv 0 600 x1) (hpost : ∀ (f_behind : Int32) (f_kind : Int32) (f_first : Int32) (f_value : Int32), (iv 0 600 f_behind) → (iv 0 4 f_kind) → (iv 0 600 f_first) → post f_behind f_kind f_first f_value) : q_wr_X4_advance_5 a_tape f_length f_behind f_kind f_first f_value x1 post := by
  intro P hP
  have loop : ∀ (n : Nat) (x1 : Int32), (600 - x1.toInt < (n : Int)) → (iv 0 600 x1) → P x1 := by
    intro n
    induction n with
    | zero => intro x1 hm hx1; exact (ms0_up hm hx1).elim
    | succ n ih =>
      intro x1 hm hx1
      apply hP
      refine ⟨fun c1 => ?_, fun c1 => ?_⟩
      · skip
        exact s_wr_X4_advance_41 k_a_tape k_f_length k_f_behind k_f_kind k_f_first hx1 hpost
      · skip
        refine ⟨iv_in (iv_lta (l := 0) (h := 599) (r_nle c1) hx1 k_f_length (by decide)) (by decide), ?_⟩
        refine ⟨fun c2 => ?_, fun c2 => ?_⟩
        · skip
          exact s_wr_X4_advance_35 k_a_tape (iv_ltb (l := 1) (h := 600) (r_nle c1) hx1 k_f_length (by decide)) k_f_behind k_f_kind k_f_first (iv_lta (l := 0) (h := 599) (r_nle c1) hx1 k_f_length (by decide)) x1.toInt (Int.le_refl _) (fun u0 hq g0 => ih u0 (ms_up hm hq) g0) hpost
        · skip
          refine ⟨iv_in (iv_lta (l := 0) (h := 599) (r_nle c1) hx1 k_f_length (by decide)) (by decide), ?_⟩
          refine ⟨fun c3 => ?_, fun c3 => ?_⟩
          · skip
            exact s_wr_X4_advance_41 k_a_tape (iv_w (iv_ltb (l := 1) (h := 600) (r_nle c1) hx1 k_f_length (by decide)) (by decide)) k_f_behind k_f_kind k_f_first (iv_w (iv_lta (l := 0) (h := 599) (r_nle c1) hx1 k_f_length (by decide)) (by decide)) hpost
          · skip
            exact s_wr_X4_advance_35 k_a_tape (iv_ltb (l := 1) (h := 600) (r_nle c1) hx1 k_f_length (by decide)) k_f_behind k_f_kind k_f_first (iv_lta (l := 0) (h := 599) (r_nle c1) hx1 k_f_length (by decide)) x1.toInt (Int.le_refl _) (fun u0 hq g0 => ih u0 (ms_up hm hq) g0) hpost
  exact loop _ _ (ms_init_up _ _) hx1
set_option maxRecDepth 20000 in
theorem s_wr_X4_advance_0 {a_tape : Nat → Int32} {f_length : Int32} {f_behind : Int32} {f_kind : Int32} {f_first : Int32} {f_value : Int32} {post : (Int32) → (Int32) → (Int32) → (Int32) → Prop} (k_a_tape : ∀ j, iv (-128) 127 (a_tape j)) (k_f_length : iv 0 600 f_length) (k_f_behind : iv 0 600 f_behind) (k_f_kind : iv 0 4 f_kind) (k_f_first : iv 0 600 f_first) (hpost : ∀ (f_behind : Int32) (f_kind : Int32) (f_first : Int32) (f_value : Int32), (iv 0 600 f_behind) → (iv 0 4 f_kind) → (iv 0 600 f_first) → post f_behind f_kind f_first f_value) : q_wr_X4_advance_0 a_tape f_length f_behind f_kind f_first f_value post := by
  exact s_wr_X4_advance_5 k_a_tape k_f_length k_f_behind k_f_kind k_f_first k_f_behind hpost
-- wr_X4_isSpelled
theorem s_wr_X4_isSpelled_0 {a_tape : Nat → Int32} {f_behind f_first : Int32} {x1 : Nat} {post : Int32 → Prop} (k_f_behind : iv 0 600 f_behind) (k_f_first : iv 0 600 f_first) (hx1 : x1 < 20) (hpost : ∀ r, iv 0 1 r → post r) : q_wr_X4_isSpelled_0 a_tape f_behind f_first x1 post := by
  refine ⟨hx1, fun he => ?_, fun _ => hpost _ (iv_lit (by decide))⟩
  have hlen := sLen_lt x1 hx1
  unfold q_wr_X4_isSpelled_20
  obtain ⟨L, hL⟩ : ∃ L, L = sLen.getD x1 0 := ⟨_, rfl⟩
  rw [← hL] at he hlen ⊢
  intro P hP
  have e1 : (L : Int) = f_behind.toInt - f_first.toInt := by
    have h1 := congrArg Int32.toInt he
    rw [nI_toInt hlen] at h1
    rw [h1, Int32.toInt_sub]
    obtain ⟨a1, a2⟩ := k_f_behind; obtain ⟨a3, a4⟩ := k_f_first
    exact Int.bmod_eq_of_le (by omega) (by omega)
  have loop : ∀ (n j : Nat), n + j = L + 1 → j ≤ L → P (nI j) := by
    intro n
    induction n with
    | zero => intro j h1 h2; omega
    | succ n ih =>
      intro j h1 h2
      obtain ⟨a1, a2⟩ := k_f_behind; obtain ⟨a3, a4⟩ := k_f_first
      apply hP
      refine ⟨hx1, fun _ => hpost _ (iv_lit (by decide)), fun hc => ?_⟩
      have hj : j < L := Nat.lt_of_not_le (fun h => hc (nI_le h (by omega)))
      have hidx : iv 0 599 (f_first + nI j) := by
        have e : (f_first + nI j).toInt = f_first.toInt + j := by
          rw [Int32.toInt_add, nI_toInt (by omega)]; exact Int.bmod_eq_of_le (by omega) (by omega)
        unfold iv; rw [e]; exact ⟨by omega, by omega⟩
      refine ⟨iv_in hidx (by decide), hx1, vp_in_nI hj hlen, fun _ v hv => ?_, fun _ => hpost _ (iv_lit (by decide))⟩
      rw [hv, show (1 : Int32) = nI 1 from rfl, nI_add]
      exact ih (j + 1) (by omega) (by omega)
  exact loop (L + 1) 0 (by omega) (by omega)
-- wr_X4_wordOf
theorem s_wr_X4_wordOf_0 {a_tape : Nat → Int32} {f_behind f_kind f_first x1 : Int32} {post : Int32 → Prop} (k_f_behind : iv 0 600 f_behind) (k_f_first : iv 0 600 f_first) (hx1 : iv 0 3 x1) (hpost : ∀ r, iv (-1) 19 r → post r) : q_wr_X4_wordOf_0 a_tape f_behind f_kind f_first x1 post := by
  refine ⟨fun _ => ⟨iv_in hx1 (by decide), fun v hv => ?_⟩, fun _ => hpost _ (iv_lit (by decide))⟩
  have hv0 : iv 0 20 v := iv_eq hv (tbi_0 _)
  have hx2 : iv 1 4 (x1 + 1) := iv_add (l := 1) (h := 4) hx1 (iv_lit (l := 1) (h := 1) (by decide)) (by decide)
  intro P hP
  have loop : ∀ (n : Nat) (x2 : Int32), 20 - x2.toInt < (n : Int) → iv 0 20 x2 → P x2 := by
    intro n
    induction n with
    | zero => intro x2 h1 h2; exact (ms0_up h1 h2).elim
    | succ n ih =>
      intro x2 hm hi
      apply hP
      refine ⟨iv_in hx2 (by decide), fun _ => hpost _ (iv_lit (by decide)), fun hc => ?_⟩
      have hi2 : iv 0 19 x2 := iv_lta (l := 0) (h := 19) (r_nle hc) hi (tbi_0 _) (by decide)
      refine ⟨iv_in hi2 (by decide), ?_⟩
      refine s_wr_X4_isSpelled_0 k_f_behind k_f_first (iv_cl hi2 (by decide)) (fun r hr => ⟨fun _ w hw => ?_, fun _ => hpost _ (iv_w hi2 (by decide))⟩)
      exact ih _ (ms_up hm (inc_lt hw hi2 (by decide))) (iv_eq hw (iv_add (l := 0) (h := 20) hi2 (iv_lit (l := 1) (h := 1) (by decide)) (by decide)))
  exact loop _ _ (ms_init_up _ _) hv0
-- wr_X4_tell
set_option maxRecDepth 20000 in
theorem s_tell_0 {lf_huts : Int32} {lf_singers : Int32} {lf_villages : Int32} {lf_dams : Int32} {lf_echoes : Int32} {lf_deep : Int32} {lf_slide : Int32} {la_heights : Nat → Int32} {la_ladders : Nat → Int32} {la_minutes : Nat → Int32} {la_echoFrom : Nat → Int32} {la_echoTo : Nat → Int32} {la_homes : Nat → Int32} {la_talls : Nat → Int32} {la_known : Nat → Int32} {vf_deeds : Int32} {va_kinds : Nat → Int32} {va_firsts : Nat → Int32} {va_seconds : Nat → Int32} {sf_facts : Int32} {sa_heard : Nat → Int32} {sa_huts : Nat → Int32} {sa_minutes : Nat → Int32} {cf_voices : Int32} {cf_step : Int32} {ca_parts : Nat → Int32} {ca_heights : Nat → Int32} {a_numbers : Nat → Int32} {f_hutsToldOf : Int32} {f_singersToldOf : Int32} {x1 : Int32} {post : (Int32) → (Int32) → (Int32) → (Int32) → (Int32) → (Int32) → (Int32) → (Nat → Int32) → (Nat → Int32) → (Nat → Int32) → (Nat → Int32) → (Nat → Int32) → (Nat → Int32) → (Nat → Int32) → (Nat → Int32) → (Int32) → (Nat → Int32) → (Nat → Int32) → (Nat → Int32) → (Int32) → (Nat → Int32) → (Nat → Int32) → (Nat → Int32) → (Int32) → (Int32) → (Nat → Int32) → (Nat → Int32) → (Int32) → (Int32) → Prop} (k_lf_huts : iv 0 8 lf_huts) (k_lf_singers : iv 0 6 lf_singers) (k_lf_villages : iv 0 511 lf_villages) (k_lf_dams : iv 0 511 lf_dams) (k_lf_echoes : iv 0 4 lf_echoes) (k_lf_deep : iv 1 9 lf_deep) (k_lf_slide : iv 0 10 lf_slide) (k_la_heights : ∀ j, iv 0 99 (la_heights j)) (k_la_ladders : ∀ j, iv 0 9 (la_ladders j)) (k_la_minutes : ∀ j, iv 0 9 (la_minutes j)) (k_la_echoFrom : ∀ j, iv 0 8 (la_echoFrom j)) (k_la_echoTo : ∀ j, iv 0 8 (la_echoTo j)) (k_la_homes : ∀ j, iv 0 8 (la_homes j)) (k_la_talls : ∀ j, iv 0 9 (la_talls j)) (k_la_known : ∀ j, iv 0 31 (la_known j)) (k_vf_deeds : iv 0 40 vf_deeds) (k_va_kinds : ∀ j, iv 0 5 (va_kinds j)) (k_va_firsts : ∀ j, iv 0 5 (va_firsts j)) (k_va_seconds : ∀ j, iv (-1) 8 (va_seconds j)) (k_sf_facts : iv 0 10 sf_facts) (k_sa_heard : ∀ j, iv 0 1 (sa_heard j)) (k_sa_huts : ∀ j, iv 0 8 (sa_huts j)) (k_sa_minutes : ∀ j, iv 0 60 (sa_minutes j)) (k_cf_voices : iv 0 9 cf_voices) (k_cf_step : iv 0 9 cf_step) (k_ca_parts : ∀ j, iv 0 3 (ca_parts j)) (k_ca_heights : ∀ j, iv 0 9 (ca_heights j)) (hx1 : iv 0 0 x1) (hn0 : iv 0 99 (a_numbers (Int32.toNatClampNeg (0 : Int32)))) (hpost : ∀ (lf_huts : Int32) (lf_singers : Int32) (lf_villages : Int32) (lf_dams : Int32) (lf_echoes : Int32) (lf_deep : Int32) (lf_slide : Int32) (la_heights : Nat → Int32) (la_ladders : Nat → Int32) (la_minutes : Nat → Int32) (la_echoFrom : Nat → Int32) (la_echoTo : Nat → Int32) (la_homes : Nat → Int32) (la_talls : Nat → Int32) (la_known : Nat → Int32) (vf_deeds : Int32) (va_kinds : Nat → Int32) (va_firsts : Nat → Int32) (va_seconds : Nat → Int32) (sf_facts : Int32) (sa_heard : Nat → Int32) (sa_huts : Nat → Int32) (sa_minutes : Nat → Int32) (cf_voices : Int32) (cf_step : Int32) (ca_parts : Nat → Int32) (ca_heights : Nat → Int32) (f_hutsToldOf : Int32) (f_singersToldOf : Int32), (iv 0 9 lf_huts) → (iv 0 6 lf_singers) → (iv 0 511 lf_villages) → (iv 0 511 lf_dams) → (iv 0 4 lf_echoes) → (iv 1 9 lf_deep) → (iv 0 10 lf_slide) → (∀ j, iv 0 99 (la_heights j)) → (∀ j, iv 0 9 (la_ladders j)) → (∀ j, iv 0 9 (la_minutes j)) → (∀ j, iv 0 8 (la_echoFrom j)) → (∀ j, iv 0 8 (la_echoTo j)) → (∀ j, iv 0 8 (la_homes j)) → (∀ j, iv 0 9 (la_talls j)) → (∀ j, iv 0 31 (la_known j)) → (iv 0 40 vf_deeds) → (∀ j, iv 0 5 (va_kinds j)) → (∀ j, iv 0 5 (va_firsts j)) → (∀ j, iv (-1) 8 (va_seconds j)) → (iv 0 10 sf_facts) → (∀ j, iv 0 1 (sa_heard j)) → (∀ j, iv 0 8 (sa_huts j)) → (∀ j, iv 0 60 (sa_minutes j)) → (iv 0 9 cf_voices) → (iv 0 9 cf_step) → (∀ j, iv 0 3 (ca_parts j)) → (∀ j, iv 0 9 (ca_heights j)) → post lf_huts lf_singers lf_villages lf_dams lf_echoes lf_deep lf_slide la_heights la_ladders la_minutes la_echoFrom la_echoTo la_homes la_talls la_known vf_deeds va_kinds va_firsts va_seconds sf_facts sa_heard sa_huts sa_minutes cf_voices cf_step ca_parts ca_heights f_hutsToldOf f_singersToldOf) : q_wr_X4_tell_0 lf_huts lf_singers lf_villages lf_dams lf_echoes lf_deep lf_slide la_heights la_ladders la_minutes la_echoFrom la_echoTo la_homes la_talls la_known vf_deeds va_kinds va_firsts va_seconds sf_facts sa_heard sa_huts sa_minutes cf_voices cf_step ca_parts ca_heights a_numbers f_hutsToldOf f_singersToldOf x1 post := by
  refine ⟨fun c1 => ?_, fun c1 => ?_⟩
  · skip
    exact (iv_emp (iv_lea (l := 10) (h := 0) (r_le c1) (iv_lit (l := 10) (h := 10) (by decide)) hx1 (by decide)) (by decide)).elim
  · skip
    refine ⟨fun c2 => ?_, fun c2 => ?_, fun c2 => ?_, fun c2 => ?_, fun c2 => ?_, fun c2 => ?_, fun c2 => ?_, fun c2 => ?_, fun c2 => ?_, fun c2 => ?_⟩
    · skip
      exact (iv_sw c2 hx1 (by decide)).elim
    · skip
      refine ⟨iv_in k_lf_huts (by decide), ?_⟩
      intro a3 ea3
      have k_a3 := iv_upd ea3 k_la_heights hn0
      intro w4 ew4
      have hw4 := iv_eq ew4 (iv_add (l := 1) (h := 9) k_lf_huts (iv_lit (l := 1) (h := 1) (by decide)) (by decide))
      exact hpost _ _ _ _ _ _ _ _ _ _ _ _ _ _ _ _ _ _ _ _ _ _ _ _ _ _ _ _ _ (iv_w hw4 (by decide)) k_lf_singers k_lf_villages k_lf_dams k_lf_echoes k_lf_deep k_lf_slide k_a3 k_la_ladders k_la_minutes k_la_echoFrom k_la_echoTo k_la_homes k_la_talls k_la_known k_vf_deeds k_va_kinds k_va_firsts k_va_seconds k_sf_facts k_sa_heard k_sa_huts k_sa_minutes k_cf_voices k_cf_step k_ca_parts k_ca_heights
    · skip
      exact (iv_emp (iv_eqa (l := 1) (h := 0) c2 hx1 (iv_lit (l := 1) (h := 1) (by decide)) (by decide)) (by decide)).elim
    · skip
      exact (iv_emp (iv_eqa (l := 2) (h := 0) c2 hx1 (iv_lit (l := 2) (h := 2) (by decide)) (by decide)) (by decide)).elim
    · skip
      exact (iv_emp (iv_eqa (l := 3) (h := 0) c2 hx1 (iv_lit (l := 3) (h := 3) (by decide)) (by decide)) (by decide)).elim
    · skip
      exact (iv_emp (iv_eqa (l := 4) (h := 0) c2 hx1 (iv_lit (l := 4) (h := 4) (by decide)) (by decide)) (by decide)).elim
    · skip
      exact (iv_emp (iv_eqa (l := 5) (h := 0) c2 hx1 (iv_lit (l := 5) (h := 5) (by decide)) (by decide)) (by decide)).elim
    · skip
      exact (iv_emp (iv_eqa (l := 6) (h := 0) c2 hx1 (iv_lit (l := 6) (h := 6) (by decide)) (by decide)) (by decide)).elim
    · skip
      exact (iv_emp (iv_eqa (l := 7) (h := 0) c2 hx1 (iv_lit (l := 7) (h := 7) (by decide)) (by decide)) (by decide)).elim
    · skip
      exact (iv_emp (iv_eqa (l := 8) (h := 0) c2 hx1 (iv_lit (l := 8) (h := 8) (by decide)) (by decide)) (by decide)).elim
set_option maxRecDepth 20000 in
theorem s_tell_1 {lf_huts : Int32} {lf_singers : Int32} {lf_villages : Int32} {lf_dams : Int32} {lf_echoes : Int32} {lf_deep : Int32} {lf_slide : Int32} {la_heights : Nat → Int32} {la_ladders : Nat → Int32} {la_minutes : Nat → Int32} {la_echoFrom : Nat → Int32} {la_echoTo : Nat → Int32} {la_homes : Nat → Int32} {la_talls : Nat → Int32} {la_known : Nat → Int32} {vf_deeds : Int32} {va_kinds : Nat → Int32} {va_firsts : Nat → Int32} {va_seconds : Nat → Int32} {sf_facts : Int32} {sa_heard : Nat → Int32} {sa_huts : Nat → Int32} {sa_minutes : Nat → Int32} {cf_voices : Int32} {cf_step : Int32} {ca_parts : Nat → Int32} {ca_heights : Nat → Int32} {a_numbers : Nat → Int32} {f_hutsToldOf : Int32} {f_singersToldOf : Int32} {x1 : Int32} {post : (Int32) → (Int32) → (Int32) → (Int32) → (Int32) → (Int32) → (Int32) → (Nat → Int32) → (Nat → Int32) → (Nat → Int32) → (Nat → Int32) → (Nat → Int32) → (Nat → Int32) → (Nat → Int32) → (Nat → Int32) → (Int32) → (Nat → Int32) → (Nat → Int32) → (Nat → Int32) → (Int32) → (Nat → Int32) → (Nat → Int32) → (Nat → Int32) → (Int32) → (Int32) → (Nat → Int32) → (Nat → Int32) → (Int32) → (Int32) → Prop} (k_lf_huts : iv 0 9 lf_huts) (k_lf_singers : iv 0 6 lf_singers) (k_lf_villages : iv 0 511 lf_villages) (k_lf_dams : iv 0 511 lf_dams) (k_lf_echoes : iv 0 4 lf_echoes) (k_lf_deep : iv 1 9 lf_deep) (k_lf_slide : iv 0 10 lf_slide) (k_la_heights : ∀ j, iv 0 99 (la_heights j)) (k_la_ladders : ∀ j, iv 0 9 (la_ladders j)) (k_la_minutes : ∀ j, iv 0 9 (la_minutes j)) (k_la_echoFrom : ∀ j, iv 0 8 (la_echoFrom j)) (k_la_echoTo : ∀ j, iv 0 8 (la_echoTo j)) (k_la_homes : ∀ j, iv 0 8 (la_homes j)) (k_la_talls : ∀ j, iv 0 9 (la_talls j)) (k_la_known : ∀ j, iv 0 31 (la_known j)) (k_vf_deeds : iv 0 40 vf_deeds) (k_va_kinds : ∀ j, iv 0 5 (va_kinds j)) (k_va_firsts : ∀ j, iv 0 5 (va_firsts j)) (k_va_seconds : ∀ j, iv (-1) 8 (va_seconds j)) (k_sf_facts : iv 0 10 sf_facts) (k_sa_heard : ∀ j, iv 0 1 (sa_heard j)) (k_sa_huts : ∀ j, iv 0 8 (sa_huts j)) (k_sa_minutes : ∀ j, iv 0 60 (sa_minutes j)) (k_cf_voices : iv 0 9 cf_voices) (k_cf_step : iv 0 9 cf_step) (k_ca_parts : ∀ j, iv 0 3 (ca_parts j)) (k_ca_heights : ∀ j, iv 0 9 (ca_heights j)) (hx1 : iv 1 1 x1) (hn0 : iv 0 8 (a_numbers (Int32.toNatClampNeg (0 : Int32)))) (hpost : ∀ (lf_huts : Int32) (lf_singers : Int32) (lf_villages : Int32) (lf_dams : Int32) (lf_echoes : Int32) (lf_deep : Int32) (lf_slide : Int32) (la_heights : Nat → Int32) (la_ladders : Nat → Int32) (la_minutes : Nat → Int32) (la_echoFrom : Nat → Int32) (la_echoTo : Nat → Int32) (la_homes : Nat → Int32) (la_talls : Nat → Int32) (la_known : Nat → Int32) (vf_deeds : Int32) (va_kinds : Nat → Int32) (va_firsts : Nat → Int32) (va_seconds : Nat → Int32) (sf_facts : Int32) (sa_heard : Nat → Int32) (sa_huts : Nat → Int32) (sa_minutes : Nat → Int32) (cf_voices : Int32) (cf_step : Int32) (ca_parts : Nat → Int32) (ca_heights : Nat → Int32) (f_hutsToldOf : Int32) (f_singersToldOf : Int32), (iv 0 9 lf_huts) → (iv 0 6 lf_singers) → (iv 0 511 lf_villages) → (iv 0 511 lf_dams) → (iv 0 4 lf_echoes) → (iv 1 9 lf_deep) → (iv 0 10 lf_slide) → (∀ j, iv 0 99 (la_heights j)) → (∀ j, iv 0 9 (la_ladders j)) → (∀ j, iv 0 9 (la_minutes j)) → (∀ j, iv 0 8 (la_echoFrom j)) → (∀ j, iv 0 8 (la_echoTo j)) → (∀ j, iv 0 8 (la_homes j)) → (∀ j, iv 0 9 (la_talls j)) → (∀ j, iv 0 31 (la_known j)) → (iv 0 40 vf_deeds) → (∀ j, iv 0 5 (va_kinds j)) → (∀ j, iv 0 5 (va_firsts j)) → (∀ j, iv (-1) 8 (va_seconds j)) → (iv 0 10 sf_facts) → (∀ j, iv 0 1 (sa_heard j)) → (∀ j, iv 0 8 (sa_huts j)) → (∀ j, iv 0 60 (sa_minutes j)) → (iv 0 9 cf_voices) → (iv 0 9 cf_step) → (∀ j, iv 0 3 (ca_parts j)) → (∀ j, iv 0 9 (ca_heights j)) → post lf_huts lf_singers lf_villages lf_dams lf_echoes lf_deep lf_slide la_heights la_ladders la_minutes la_echoFrom la_echoTo la_homes la_talls la_known vf_deeds va_kinds va_firsts va_seconds sf_facts sa_heard sa_huts sa_minutes cf_voices cf_step ca_parts ca_heights f_hutsToldOf f_singersToldOf) : q_wr_X4_tell_0 lf_huts lf_singers lf_villages lf_dams lf_echoes lf_deep lf_slide la_heights la_ladders la_minutes la_echoFrom la_echoTo la_homes la_talls la_known vf_deeds va_kinds va_firsts va_seconds sf_facts sa_heard sa_huts sa_minutes cf_voices cf_step ca_parts ca_heights a_numbers f_hutsToldOf f_singersToldOf x1 post := by
  refine ⟨fun c1 => ?_, fun c1 => ?_⟩
  · skip
    exact (iv_emp (iv_lea (l := 10) (h := 1) (r_le c1) (iv_lit (l := 10) (h := 10) (by decide)) hx1 (by decide)) (by decide)).elim
  · skip
    refine ⟨fun c2 => ?_, fun c2 => ?_, fun c2 => ?_, fun c2 => ?_, fun c2 => ?_, fun c2 => ?_, fun c2 => ?_, fun c2 => ?_, fun c2 => ?_, fun c2 => ?_⟩
    · skip
      exact (iv_sw c2 hx1 (by decide)).elim
    · skip
      exact (iv_emp (iv_eqa (l := 1) (h := 0) c2 hx1 (iv_lit (l := 0) (h := 0) (by decide)) (by decide)) (by decide)).elim
    · skip
      intro w3 ew3
      have hw3 := iv_eq ew3 (iv_or 9 (l := 0) (h := 511) k_lf_villages (iv_shl1 (l := 1) (h := 256) (iv_lit (l := 1) (h := 1) (by decide)) hn0 (by decide)) (by decide))
      intro w4 ew4
      exact hpost _ _ _ _ _ _ _ _ _ _ _ _ _ _ _ _ _ _ _ _ _ _ _ _ _ _ _ _ _ k_lf_huts k_lf_singers hw3 k_lf_dams k_lf_echoes k_lf_deep k_lf_slide k_la_heights k_la_ladders k_la_minutes k_la_echoFrom k_la_echoTo k_la_homes k_la_talls k_la_known k_vf_deeds k_va_kinds k_va_firsts k_va_seconds k_sf_facts k_sa_heard k_sa_huts k_sa_minutes k_cf_voices k_cf_step k_ca_parts k_ca_heights
    · skip
      exact (iv_emp (iv_eqa (l := 2) (h := 1) c2 hx1 (iv_lit (l := 2) (h := 2) (by decide)) (by decide)) (by decide)).elim
    · skip
      exact (iv_emp (iv_eqa (l := 3) (h := 1) c2 hx1 (iv_lit (l := 3) (h := 3) (by decide)) (by decide)) (by decide)).elim
    · skip
      exact (iv_emp (iv_eqa (l := 4) (h := 1) c2 hx1 (iv_lit (l := 4) (h := 4) (by decide)) (by decide)) (by decide)).elim
    · skip
      exact (iv_emp (iv_eqa (l := 5) (h := 1) c2 hx1 (iv_lit (l := 5) (h := 5) (by decide)) (by decide)) (by decide)).elim
    · skip
      exact (iv_emp (iv_eqa (l := 6) (h := 1) c2 hx1 (iv_lit (l := 6) (h := 6) (by decide)) (by decide)) (by decide)).elim
    · skip
      exact (iv_emp (iv_eqa (l := 7) (h := 1) c2 hx1 (iv_lit (l := 7) (h := 7) (by decide)) (by decide)) (by decide)).elim
    · skip
      exact (iv_emp (iv_eqa (l := 8) (h := 1) c2 hx1 (iv_lit (l := 8) (h := 8) (by decide)) (by decide)) (by decide)).elim
set_option maxRecDepth 20000 in
theorem s_tell_2 {lf_huts : Int32} {lf_singers : Int32} {lf_villages : Int32} {lf_dams : Int32} {lf_echoes : Int32} {lf_deep : Int32} {lf_slide : Int32} {la_heights : Nat → Int32} {la_ladders : Nat → Int32} {la_minutes : Nat → Int32} {la_echoFrom : Nat → Int32} {la_echoTo : Nat → Int32} {la_homes : Nat → Int32} {la_talls : Nat → Int32} {la_known : Nat → Int32} {vf_deeds : Int32} {va_kinds : Nat → Int32} {va_firsts : Nat → Int32} {va_seconds : Nat → Int32} {sf_facts : Int32} {sa_heard : Nat → Int32} {sa_huts : Nat → Int32} {sa_minutes : Nat → Int32} {cf_voices : Int32} {cf_step : Int32} {ca_parts : Nat → Int32} {ca_heights : Nat → Int32} {a_numbers : Nat → Int32} {f_hutsToldOf : Int32} {f_singersToldOf : Int32} {x1 : Int32} {post : (Int32) → (Int32) → (Int32) → (Int32) → (Int32) → (Int32) → (Int32) → (Nat → Int32) → (Nat → Int32) → (Nat → Int32) → (Nat → Int32) → (Nat → Int32) → (Nat → Int32) → (Nat → Int32) → (Nat → Int32) → (Int32) → (Nat → Int32) → (Nat → Int32) → (Nat → Int32) → (Int32) → (Nat → Int32) → (Nat → Int32) → (Nat → Int32) → (Int32) → (Int32) → (Nat → Int32) → (Nat → Int32) → (Int32) → (Int32) → Prop} (k_lf_huts : iv 0 9 lf_huts) (k_lf_singers : iv 0 6 lf_singers) (k_lf_villages : iv 0 511 lf_villages) (k_lf_dams : iv 0 511 lf_dams) (k_lf_echoes : iv 0 4 lf_echoes) (k_lf_deep : iv 1 9 lf_deep) (k_lf_slide : iv 0 10 lf_slide) (k_la_heights : ∀ j, iv 0 99 (la_heights j)) (k_la_ladders : ∀ j, iv 0 9 (la_ladders j)) (k_la_minutes : ∀ j, iv 0 9 (la_minutes j)) (k_la_echoFrom : ∀ j, iv 0 8 (la_echoFrom j)) (k_la_echoTo : ∀ j, iv 0 8 (la_echoTo j)) (k_la_homes : ∀ j, iv 0 8 (la_homes j)) (k_la_talls : ∀ j, iv 0 9 (la_talls j)) (k_la_known : ∀ j, iv 0 31 (la_known j)) (k_vf_deeds : iv 0 40 vf_deeds) (k_va_kinds : ∀ j, iv 0 5 (va_kinds j)) (k_va_firsts : ∀ j, iv 0 5 (va_firsts j)) (k_va_seconds : ∀ j, iv (-1) 8 (va_seconds j)) (k_sf_facts : iv 0 10 sf_facts) (k_sa_heard : ∀ j, iv 0 1 (sa_heard j)) (k_sa_huts : ∀ j, iv 0 8 (sa_huts j)) (k_sa_minutes : ∀ j, iv 0 60 (sa_minutes j)) (k_cf_voices : iv 0 9 cf_voices) (k_cf_step : iv 0 9 cf_step) (k_ca_parts : ∀ j, iv 0 3 (ca_parts j)) (k_ca_heights : ∀ j, iv 0 9 (ca_heights j)) (hx1 : iv 2 2 x1) (hn0 : iv 0 8 (a_numbers (Int32.toNatClampNeg (0 : Int32)))) (hpost : ∀ (lf_huts : Int32) (lf_singers : Int32) (lf_villages : Int32) (lf_dams : Int32) (lf_echoes : Int32) (lf_deep : Int32) (lf_slide : Int32) (la_heights : Nat → Int32) (la_ladders : Nat → Int32) (la_minutes : Nat → Int32) (la_echoFrom : Nat → Int32) (la_echoTo : Nat → Int32) (la_homes : Nat → Int32) (la_talls : Nat → Int32) (la_known : Nat → Int32) (vf_deeds : Int32) (va_kinds : Nat → Int32) (va_firsts : Nat → Int32) (va_seconds : Nat → Int32) (sf_facts : Int32) (sa_heard : Nat → Int32) (sa_huts : Nat → Int32) (sa_minutes : Nat → Int32) (cf_voices : Int32) (cf_step : Int32) (ca_parts : Nat → Int32) (ca_heights : Nat → Int32) (f_hutsToldOf : Int32) (f_singersToldOf : Int32), (iv 0 9 lf_huts) → (iv 0 6 lf_singers) → (iv 0 511 lf_villages) → (iv 0 511 lf_dams) → (iv 0 4 lf_echoes) → (iv 1 9 lf_deep) → (iv 0 10 lf_slide) → (∀ j, iv 0 99 (la_heights j)) → (∀ j, iv 0 9 (la_ladders j)) → (∀ j, iv 0 9 (la_minutes j)) → (∀ j, iv 0 8 (la_echoFrom j)) → (∀ j, iv 0 8 (la_echoTo j)) → (∀ j, iv 0 8 (la_homes j)) → (∀ j, iv 0 9 (la_talls j)) → (∀ j, iv 0 31 (la_known j)) → (iv 0 40 vf_deeds) → (∀ j, iv 0 5 (va_kinds j)) → (∀ j, iv 0 5 (va_firsts j)) → (∀ j, iv (-1) 8 (va_seconds j)) → (iv 0 10 sf_facts) → (∀ j, iv 0 1 (sa_heard j)) → (∀ j, iv 0 8 (sa_huts j)) → (∀ j, iv 0 60 (sa_minutes j)) → (iv 0 9 cf_voices) → (iv 0 9 cf_step) → (∀ j, iv 0 3 (ca_parts j)) → (∀ j, iv 0 9 (ca_heights j)) → post lf_huts lf_singers lf_villages lf_dams lf_echoes lf_deep lf_slide la_heights la_ladders la_minutes la_echoFrom la_echoTo la_homes la_talls la_known vf_deeds va_kinds va_firsts va_seconds sf_facts sa_heard sa_huts sa_minutes cf_voices cf_step ca_parts ca_heights f_hutsToldOf f_singersToldOf) : q_wr_X4_tell_0 lf_huts lf_singers lf_villages lf_dams lf_echoes lf_deep lf_slide la_heights la_ladders la_minutes la_echoFrom la_echoTo la_homes la_talls la_known vf_deeds va_kinds va_firsts va_seconds sf_facts sa_heard sa_huts sa_minutes cf_voices cf_step ca_parts ca_heights a_numbers f_hutsToldOf f_singersToldOf x1 post := by
  refine ⟨fun c1 => ?_, fun c1 => ?_⟩
  · skip
    exact (iv_emp (iv_lea (l := 10) (h := 2) (r_le c1) (iv_lit (l := 10) (h := 10) (by decide)) hx1 (by decide)) (by decide)).elim
  · skip
    refine ⟨fun c2 => ?_, fun c2 => ?_, fun c2 => ?_, fun c2 => ?_, fun c2 => ?_, fun c2 => ?_, fun c2 => ?_, fun c2 => ?_, fun c2 => ?_, fun c2 => ?_⟩
    · skip
      exact (iv_sw c2 hx1 (by decide)).elim
    · skip
      exact (iv_emp (iv_eqa (l := 2) (h := 0) c2 hx1 (iv_lit (l := 0) (h := 0) (by decide)) (by decide)) (by decide)).elim
    · skip
      exact (iv_emp (iv_eqa (l := 2) (h := 1) c2 hx1 (iv_lit (l := 1) (h := 1) (by decide)) (by decide)) (by decide)).elim
    · skip
      intro w3 ew3
      have hw3 := iv_eq ew3 (iv_or 9 (l := 0) (h := 511) k_lf_dams (iv_shl1 (l := 1) (h := 256) (iv_lit (l := 1) (h := 1) (by decide)) hn0 (by decide)) (by decide))
      intro w4 ew4
      exact hpost _ _ _ _ _ _ _ _ _ _ _ _ _ _ _ _ _ _ _ _ _ _ _ _ _ _ _ _ _ k_lf_huts k_lf_singers k_lf_villages hw3 k_lf_echoes k_lf_deep k_lf_slide k_la_heights k_la_ladders k_la_minutes k_la_echoFrom k_la_echoTo k_la_homes k_la_talls k_la_known k_vf_deeds k_va_kinds k_va_firsts k_va_seconds k_sf_facts k_sa_heard k_sa_huts k_sa_minutes k_cf_voices k_cf_step k_ca_parts k_ca_heights
    · skip
      exact (iv_emp (iv_eqa (l := 3) (h := 2) c2 hx1 (iv_lit (l := 3) (h := 3) (by decide)) (by decide)) (by decide)).elim
    · skip
      exact (iv_emp (iv_eqa (l := 4) (h := 2) c2 hx1 (iv_lit (l := 4) (h := 4) (by decide)) (by decide)) (by decide)).elim
    · skip
      exact (iv_emp (iv_eqa (l := 5) (h := 2) c2 hx1 (iv_lit (l := 5) (h := 5) (by decide)) (by decide)) (by decide)).elim
    · skip
      exact (iv_emp (iv_eqa (l := 6) (h := 2) c2 hx1 (iv_lit (l := 6) (h := 6) (by decide)) (by decide)) (by decide)).elim
    · skip
      exact (iv_emp (iv_eqa (l := 7) (h := 2) c2 hx1 (iv_lit (l := 7) (h := 7) (by decide)) (by decide)) (by decide)).elim
    · skip
      exact (iv_emp (iv_eqa (l := 8) (h := 2) c2 hx1 (iv_lit (l := 8) (h := 8) (by decide)) (by decide)) (by decide)).elim
set_option maxRecDepth 20000 in
theorem s_tell_3 {lf_huts : Int32} {lf_singers : Int32} {lf_villages : Int32} {lf_dams : Int32} {lf_echoes : Int32} {lf_deep : Int32} {lf_slide : Int32} {la_heights : Nat → Int32} {la_ladders : Nat → Int32} {la_minutes : Nat → Int32} {la_echoFrom : Nat → Int32} {la_echoTo : Nat → Int32} {la_homes : Nat → Int32} {la_talls : Nat → Int32} {la_known : Nat → Int32} {vf_deeds : Int32} {va_kinds : Nat → Int32} {va_firsts : Nat → Int32} {va_seconds : Nat → Int32} {sf_facts : Int32} {sa_heard : Nat → Int32} {sa_huts : Nat → Int32} {sa_minutes : Nat → Int32} {cf_voices : Int32} {cf_step : Int32} {ca_parts : Nat → Int32} {ca_heights : Nat → Int32} {a_numbers : Nat → Int32} {f_hutsToldOf : Int32} {f_singersToldOf : Int32} {x1 : Int32} {post : (Int32) → (Int32) → (Int32) → (Int32) → (Int32) → (Int32) → (Int32) → (Nat → Int32) → (Nat → Int32) → (Nat → Int32) → (Nat → Int32) → (Nat → Int32) → (Nat → Int32) → (Nat → Int32) → (Nat → Int32) → (Int32) → (Nat → Int32) → (Nat → Int32) → (Nat → Int32) → (Int32) → (Nat → Int32) → (Nat → Int32) → (Nat → Int32) → (Int32) → (Int32) → (Nat → Int32) → (Nat → Int32) → (Int32) → (Int32) → Prop} (k_lf_huts : iv 0 9 lf_huts) (k_lf_singers : iv 0 6 lf_singers) (k_lf_villages : iv 0 511 lf_villages) (k_lf_dams : iv 0 511 lf_dams) (k_lf_echoes : iv 0 4 lf_echoes) (k_lf_deep : iv 1 9 lf_deep) (k_lf_slide : iv 0 10 lf_slide) (k_la_heights : ∀ j, iv 0 99 (la_heights j)) (k_la_ladders : ∀ j, iv 0 9 (la_ladders j)) (k_la_minutes : ∀ j, iv 0 9 (la_minutes j)) (k_la_echoFrom : ∀ j, iv 0 8 (la_echoFrom j)) (k_la_echoTo : ∀ j, iv 0 8 (la_echoTo j)) (k_la_homes : ∀ j, iv 0 8 (la_homes j)) (k_la_talls : ∀ j, iv 0 9 (la_talls j)) (k_la_known : ∀ j, iv 0 31 (la_known j)) (k_vf_deeds : iv 0 40 vf_deeds) (k_va_kinds : ∀ j, iv 0 5 (va_kinds j)) (k_va_firsts : ∀ j, iv 0 5 (va_firsts j)) (k_va_seconds : ∀ j, iv (-1) 8 (va_seconds j)) (k_sf_facts : iv 0 10 sf_facts) (k_sa_heard : ∀ j, iv 0 1 (sa_heard j)) (k_sa_huts : ∀ j, iv 0 8 (sa_huts j)) (k_sa_minutes : ∀ j, iv 0 60 (sa_minutes j)) (k_cf_voices : iv 0 9 cf_voices) (k_cf_step : iv 0 9 cf_step) (k_ca_parts : ∀ j, iv 0 3 (ca_parts j)) (k_ca_heights : ∀ j, iv 0 9 (ca_heights j)) (hx1 : iv 3 3 x1) (hn0 : iv 1 9 (a_numbers (Int32.toNatClampNeg (0 : Int32)))) (hpost : ∀ (lf_huts : Int32) (lf_singers : Int32) (lf_villages : Int32) (lf_dams : Int32) (lf_echoes : Int32) (lf_deep : Int32) (lf_slide : Int32) (la_heights : Nat → Int32) (la_ladders : Nat → Int32) (la_minutes : Nat → Int32) (la_echoFrom : Nat → Int32) (la_echoTo : Nat → Int32) (la_homes : Nat → Int32) (la_talls : Nat → Int32) (la_known : Nat → Int32) (vf_deeds : Int32) (va_kinds : Nat → Int32) (va_firsts : Nat → Int32) (va_seconds : Nat → Int32) (sf_facts : Int32) (sa_heard : Nat → Int32) (sa_huts : Nat → Int32) (sa_minutes : Nat → Int32) (cf_voices : Int32) (cf_step : Int32) (ca_parts : Nat → Int32) (ca_heights : Nat → Int32) (f_hutsToldOf : Int32) (f_singersToldOf : Int32), (iv 0 9 lf_huts) → (iv 0 6 lf_singers) → (iv 0 511 lf_villages) → (iv 0 511 lf_dams) → (iv 0 4 lf_echoes) → (iv 1 9 lf_deep) → (iv 0 10 lf_slide) → (∀ j, iv 0 99 (la_heights j)) → (∀ j, iv 0 9 (la_ladders j)) → (∀ j, iv 0 9 (la_minutes j)) → (∀ j, iv 0 8 (la_echoFrom j)) → (∀ j, iv 0 8 (la_echoTo j)) → (∀ j, iv 0 8 (la_homes j)) → (∀ j, iv 0 9 (la_talls j)) → (∀ j, iv 0 31 (la_known j)) → (iv 0 40 vf_deeds) → (∀ j, iv 0 5 (va_kinds j)) → (∀ j, iv 0 5 (va_firsts j)) → (∀ j, iv (-1) 8 (va_seconds j)) → (iv 0 10 sf_facts) → (∀ j, iv 0 1 (sa_heard j)) → (∀ j, iv 0 8 (sa_huts j)) → (∀ j, iv 0 60 (sa_minutes j)) → (iv 0 9 cf_voices) → (iv 0 9 cf_step) → (∀ j, iv 0 3 (ca_parts j)) → (∀ j, iv 0 9 (ca_heights j)) → post lf_huts lf_singers lf_villages lf_dams lf_echoes lf_deep lf_slide la_heights la_ladders la_minutes la_echoFrom la_echoTo la_homes la_talls la_known vf_deeds va_kinds va_firsts va_seconds sf_facts sa_heard sa_huts sa_minutes cf_voices cf_step ca_parts ca_heights f_hutsToldOf f_singersToldOf) : q_wr_X4_tell_0 lf_huts lf_singers lf_villages lf_dams lf_echoes lf_deep lf_slide la_heights la_ladders la_minutes la_echoFrom la_echoTo la_homes la_talls la_known vf_deeds va_kinds va_firsts va_seconds sf_facts sa_heard sa_huts sa_minutes cf_voices cf_step ca_parts ca_heights a_numbers f_hutsToldOf f_singersToldOf x1 post := by
  refine ⟨fun c1 => ?_, fun c1 => ?_⟩
  · skip
    exact (iv_emp (iv_lea (l := 10) (h := 3) (r_le c1) (iv_lit (l := 10) (h := 10) (by decide)) hx1 (by decide)) (by decide)).elim
  · skip
    refine ⟨fun c2 => ?_, fun c2 => ?_, fun c2 => ?_, fun c2 => ?_, fun c2 => ?_, fun c2 => ?_, fun c2 => ?_, fun c2 => ?_, fun c2 => ?_, fun c2 => ?_⟩
    · skip
      exact (iv_sw c2 hx1 (by decide)).elim
    · skip
      exact (iv_emp (iv_eqa (l := 3) (h := 0) c2 hx1 (iv_lit (l := 0) (h := 0) (by decide)) (by decide)) (by decide)).elim
    · skip
      exact (iv_emp (iv_eqa (l := 3) (h := 1) c2 hx1 (iv_lit (l := 1) (h := 1) (by decide)) (by decide)) (by decide)).elim
    · skip
      exact (iv_emp (iv_eqa (l := 3) (h := 2) c2 hx1 (iv_lit (l := 2) (h := 2) (by decide)) (by decide)) (by decide)).elim
    · skip
      exact hpost _ _ _ _ _ _ _ _ _ _ _ _ _ _ _ _ _ _ _ _ _ _ _ _ _ _ _ _ _ k_lf_huts k_lf_singers k_lf_villages k_lf_dams k_lf_echoes hn0 k_lf_slide k_la_heights k_la_ladders k_la_minutes k_la_echoFrom k_la_echoTo k_la_homes k_la_talls k_la_known k_vf_deeds k_va_kinds k_va_firsts k_va_seconds k_sf_facts k_sa_heard k_sa_huts k_sa_minutes k_cf_voices k_cf_step k_ca_parts k_ca_heights
    · skip
      exact (iv_emp (iv_eqa (l := 4) (h := 3) c2 hx1 (iv_lit (l := 4) (h := 4) (by decide)) (by decide)) (by decide)).elim
    · skip
      exact (iv_emp (iv_eqa (l := 5) (h := 3) c2 hx1 (iv_lit (l := 5) (h := 5) (by decide)) (by decide)) (by decide)).elim
    · skip
      exact (iv_emp (iv_eqa (l := 6) (h := 3) c2 hx1 (iv_lit (l := 6) (h := 6) (by decide)) (by decide)) (by decide)).elim
    · skip
      exact (iv_emp (iv_eqa (l := 7) (h := 3) c2 hx1 (iv_lit (l := 7) (h := 7) (by decide)) (by decide)) (by decide)).elim
    · skip
      exact (iv_emp (iv_eqa (l := 8) (h := 3) c2 hx1 (iv_lit (l := 8) (h := 8) (by decide)) (by decide)) (by decide)).elim
set_option maxRecDepth 20000 in
theorem s_tell_4 {lf_huts : Int32} {lf_singers : Int32} {lf_villages : Int32} {lf_dams : Int32} {lf_echoes : Int32} {lf_deep : Int32} {lf_slide : Int32} {la_heights : Nat → Int32} {la_ladders : Nat → Int32} {la_minutes : Nat → Int32} {la_echoFrom : Nat → Int32} {la_echoTo : Nat → Int32} {la_homes : Nat → Int32} {la_talls : Nat → Int32} {la_known : Nat → Int32} {vf_deeds : Int32} {va_kinds : Nat → Int32} {va_firsts : Nat → Int32} {va_seconds : Nat → Int32} {sf_facts : Int32} {sa_heard : Nat → Int32} {sa_huts : Nat → Int32} {sa_minutes : Nat → Int32} {cf_voices : Int32} {cf_step : Int32} {ca_parts : Nat → Int32} {ca_heights : Nat → Int32} {a_numbers : Nat → Int32} {f_hutsToldOf : Int32} {f_singersToldOf : Int32} {x1 : Int32} {post : (Int32) → (Int32) → (Int32) → (Int32) → (Int32) → (Int32) → (Int32) → (Nat → Int32) → (Nat → Int32) → (Nat → Int32) → (Nat → Int32) → (Nat → Int32) → (Nat → Int32) → (Nat → Int32) → (Nat → Int32) → (Int32) → (Nat → Int32) → (Nat → Int32) → (Nat → Int32) → (Int32) → (Nat → Int32) → (Nat → Int32) → (Nat → Int32) → (Int32) → (Int32) → (Nat → Int32) → (Nat → Int32) → (Int32) → (Int32) → Prop} (k_lf_huts : iv 0 9 lf_huts) (k_lf_singers : iv 0 6 lf_singers) (k_lf_villages : iv 0 511 lf_villages) (k_lf_dams : iv 0 511 lf_dams) (k_lf_echoes : iv 0 4 lf_echoes) (k_lf_deep : iv 1 9 lf_deep) (k_lf_slide : iv 0 10 lf_slide) (k_la_heights : ∀ j, iv 0 99 (la_heights j)) (k_la_ladders : ∀ j, iv 0 9 (la_ladders j)) (k_la_minutes : ∀ j, iv 0 9 (la_minutes j)) (k_la_echoFrom : ∀ j, iv 0 8 (la_echoFrom j)) (k_la_echoTo : ∀ j, iv 0 8 (la_echoTo j)) (k_la_homes : ∀ j, iv 0 8 (la_homes j)) (k_la_talls : ∀ j, iv 0 9 (la_talls j)) (k_la_known : ∀ j, iv 0 31 (la_known j)) (k_vf_deeds : iv 0 40 vf_deeds) (k_va_kinds : ∀ j, iv 0 5 (va_kinds j)) (k_va_firsts : ∀ j, iv 0 5 (va_firsts j)) (k_va_seconds : ∀ j, iv (-1) 8 (va_seconds j)) (k_sf_facts : iv 0 10 sf_facts) (k_sa_heard : ∀ j, iv 0 1 (sa_heard j)) (k_sa_huts : ∀ j, iv 0 8 (sa_huts j)) (k_sa_minutes : ∀ j, iv 0 60 (sa_minutes j)) (k_cf_voices : iv 0 9 cf_voices) (k_cf_step : iv 0 9 cf_step) (k_ca_parts : ∀ j, iv 0 3 (ca_parts j)) (k_ca_heights : ∀ j, iv 0 9 (ca_heights j)) (hx1 : iv 4 4 x1) (hn0 : iv 0 10 (a_numbers (Int32.toNatClampNeg (0 : Int32)))) (hpost : ∀ (lf_huts : Int32) (lf_singers : Int32) (lf_villages : Int32) (lf_dams : Int32) (lf_echoes : Int32) (lf_deep : Int32) (lf_slide : Int32) (la_heights : Nat → Int32) (la_ladders : Nat → Int32) (la_minutes : Nat → Int32) (la_echoFrom : Nat → Int32) (la_echoTo : Nat → Int32) (la_homes : Nat → Int32) (la_talls : Nat → Int32) (la_known : Nat → Int32) (vf_deeds : Int32) (va_kinds : Nat → Int32) (va_firsts : Nat → Int32) (va_seconds : Nat → Int32) (sf_facts : Int32) (sa_heard : Nat → Int32) (sa_huts : Nat → Int32) (sa_minutes : Nat → Int32) (cf_voices : Int32) (cf_step : Int32) (ca_parts : Nat → Int32) (ca_heights : Nat → Int32) (f_hutsToldOf : Int32) (f_singersToldOf : Int32), (iv 0 9 lf_huts) → (iv 0 6 lf_singers) → (iv 0 511 lf_villages) → (iv 0 511 lf_dams) → (iv 0 4 lf_echoes) → (iv 1 9 lf_deep) → (iv 0 10 lf_slide) → (∀ j, iv 0 99 (la_heights j)) → (∀ j, iv 0 9 (la_ladders j)) → (∀ j, iv 0 9 (la_minutes j)) → (∀ j, iv 0 8 (la_echoFrom j)) → (∀ j, iv 0 8 (la_echoTo j)) → (∀ j, iv 0 8 (la_homes j)) → (∀ j, iv 0 9 (la_talls j)) → (∀ j, iv 0 31 (la_known j)) → (iv 0 40 vf_deeds) → (∀ j, iv 0 5 (va_kinds j)) → (∀ j, iv 0 5 (va_firsts j)) → (∀ j, iv (-1) 8 (va_seconds j)) → (iv 0 10 sf_facts) → (∀ j, iv 0 1 (sa_heard j)) → (∀ j, iv 0 8 (sa_huts j)) → (∀ j, iv 0 60 (sa_minutes j)) → (iv 0 9 cf_voices) → (iv 0 9 cf_step) → (∀ j, iv 0 3 (ca_parts j)) → (∀ j, iv 0 9 (ca_heights j)) → post lf_huts lf_singers lf_villages lf_dams lf_echoes lf_deep lf_slide la_heights la_ladders la_minutes la_echoFrom la_echoTo la_homes la_talls la_known vf_deeds va_kinds va_firsts va_seconds sf_facts sa_heard sa_huts sa_minutes cf_voices cf_step ca_parts ca_heights f_hutsToldOf f_singersToldOf) : q_wr_X4_tell_0 lf_huts lf_singers lf_villages lf_dams lf_echoes lf_deep lf_slide la_heights la_ladders la_minutes la_echoFrom la_echoTo la_homes la_talls la_known vf_deeds va_kinds va_firsts va_seconds sf_facts sa_heard sa_huts sa_minutes cf_voices cf_step ca_parts ca_heights a_numbers f_hutsToldOf f_singersToldOf x1 post := by
  refine ⟨fun c1 => ?_, fun c1 => ?_⟩
  · skip
    exact (iv_emp (iv_lea (l := 10) (h := 4) (r_le c1) (iv_lit (l := 10) (h := 10) (by decide)) hx1 (by decide)) (by decide)).elim
  · skip
    refine ⟨fun c2 => ?_, fun c2 => ?_, fun c2 => ?_, fun c2 => ?_, fun c2 => ?_, fun c2 => ?_, fun c2 => ?_, fun c2 => ?_, fun c2 => ?_, fun c2 => ?_⟩
    · skip
      exact (iv_sw c2 hx1 (by decide)).elim
    · skip
      exact (iv_emp (iv_eqa (l := 4) (h := 0) c2 hx1 (iv_lit (l := 0) (h := 0) (by decide)) (by decide)) (by decide)).elim
    · skip
      exact (iv_emp (iv_eqa (l := 4) (h := 1) c2 hx1 (iv_lit (l := 1) (h := 1) (by decide)) (by decide)) (by decide)).elim
    · skip
      exact (iv_emp (iv_eqa (l := 4) (h := 2) c2 hx1 (iv_lit (l := 2) (h := 2) (by decide)) (by decide)) (by decide)).elim
    · skip
      exact (iv_emp (iv_eqa (l := 4) (h := 3) c2 hx1 (iv_lit (l := 3) (h := 3) (by decide)) (by decide)) (by decide)).elim
    · skip
      exact hpost _ _ _ _ _ _ _ _ _ _ _ _ _ _ _ _ _ _ _ _ _ _ _ _ _ _ _ _ _ k_lf_huts k_lf_singers k_lf_villages k_lf_dams k_lf_echoes k_lf_deep hn0 k_la_heights k_la_ladders k_la_minutes k_la_echoFrom k_la_echoTo k_la_homes k_la_talls k_la_known k_vf_deeds k_va_kinds k_va_firsts k_va_seconds k_sf_facts k_sa_heard k_sa_huts k_sa_minutes k_cf_voices k_cf_step k_ca_parts k_ca_heights
    · skip
      exact (iv_emp (iv_eqa (l := 5) (h := 4) c2 hx1 (iv_lit (l := 5) (h := 5) (by decide)) (by decide)) (by decide)).elim
    · skip
      exact (iv_emp (iv_eqa (l := 6) (h := 4) c2 hx1 (iv_lit (l := 6) (h := 6) (by decide)) (by decide)) (by decide)).elim
    · skip
      exact (iv_emp (iv_eqa (l := 7) (h := 4) c2 hx1 (iv_lit (l := 7) (h := 7) (by decide)) (by decide)) (by decide)).elim
    · skip
      exact (iv_emp (iv_eqa (l := 8) (h := 4) c2 hx1 (iv_lit (l := 8) (h := 8) (by decide)) (by decide)) (by decide)).elim
set_option maxRecDepth 20000 in
theorem s_tell_5 {lf_huts : Int32} {lf_singers : Int32} {lf_villages : Int32} {lf_dams : Int32} {lf_echoes : Int32} {lf_deep : Int32} {lf_slide : Int32} {la_heights : Nat → Int32} {la_ladders : Nat → Int32} {la_minutes : Nat → Int32} {la_echoFrom : Nat → Int32} {la_echoTo : Nat → Int32} {la_homes : Nat → Int32} {la_talls : Nat → Int32} {la_known : Nat → Int32} {vf_deeds : Int32} {va_kinds : Nat → Int32} {va_firsts : Nat → Int32} {va_seconds : Nat → Int32} {sf_facts : Int32} {sa_heard : Nat → Int32} {sa_huts : Nat → Int32} {sa_minutes : Nat → Int32} {cf_voices : Int32} {cf_step : Int32} {ca_parts : Nat → Int32} {ca_heights : Nat → Int32} {a_numbers : Nat → Int32} {f_hutsToldOf : Int32} {f_singersToldOf : Int32} {x1 : Int32} {post : (Int32) → (Int32) → (Int32) → (Int32) → (Int32) → (Int32) → (Int32) → (Nat → Int32) → (Nat → Int32) → (Nat → Int32) → (Nat → Int32) → (Nat → Int32) → (Nat → Int32) → (Nat → Int32) → (Nat → Int32) → (Int32) → (Nat → Int32) → (Nat → Int32) → (Nat → Int32) → (Int32) → (Nat → Int32) → (Nat → Int32) → (Nat → Int32) → (Int32) → (Int32) → (Nat → Int32) → (Nat → Int32) → (Int32) → (Int32) → Prop} (k_lf_huts : iv 0 9 lf_huts) (k_lf_singers : iv 0 6 lf_singers) (k_lf_villages : iv 0 511 lf_villages) (k_lf_dams : iv 0 511 lf_dams) (k_lf_echoes : iv 0 4 lf_echoes) (k_lf_deep : iv 1 9 lf_deep) (k_lf_slide : iv 0 10 lf_slide) (k_la_heights : ∀ j, iv 0 99 (la_heights j)) (k_la_ladders : ∀ j, iv 0 9 (la_ladders j)) (k_la_minutes : ∀ j, iv 0 9 (la_minutes j)) (k_la_echoFrom : ∀ j, iv 0 8 (la_echoFrom j)) (k_la_echoTo : ∀ j, iv 0 8 (la_echoTo j)) (k_la_homes : ∀ j, iv 0 8 (la_homes j)) (k_la_talls : ∀ j, iv 0 9 (la_talls j)) (k_la_known : ∀ j, iv 0 31 (la_known j)) (k_vf_deeds : iv 0 40 vf_deeds) (k_va_kinds : ∀ j, iv 0 5 (va_kinds j)) (k_va_firsts : ∀ j, iv 0 5 (va_firsts j)) (k_va_seconds : ∀ j, iv (-1) 8 (va_seconds j)) (k_sf_facts : iv 0 10 sf_facts) (k_sa_heard : ∀ j, iv 0 1 (sa_heard j)) (k_sa_huts : ∀ j, iv 0 8 (sa_huts j)) (k_sa_minutes : ∀ j, iv 0 60 (sa_minutes j)) (k_cf_voices : iv 0 9 cf_voices) (k_cf_step : iv 0 9 cf_step) (k_ca_parts : ∀ j, iv 0 3 (ca_parts j)) (k_ca_heights : ∀ j, iv 0 9 (ca_heights j)) (hx1 : iv 5 5 x1) (hn0 : iv 0 8 (a_numbers (Int32.toNatClampNeg (0 : Int32)))) (hn1 : iv 0 8 (a_numbers (Int32.toNatClampNeg (1 : Int32)))) (hn2 : iv 1 9 (a_numbers (Int32.toNatClampNeg (2 : Int32)))) (hpost : ∀ (lf_huts : Int32) (lf_singers : Int32) (lf_villages : Int32) (lf_dams : Int32) (lf_echoes : Int32) (lf_deep : Int32) (lf_slide : Int32) (la_heights : Nat → Int32) (la_ladders : Nat → Int32) (la_minutes : Nat → Int32) (la_echoFrom : Nat → Int32) (la_echoTo : Nat → Int32) (la_homes : Nat → Int32) (la_talls : Nat → Int32) (la_known : Nat → Int32) (vf_deeds : Int32) (va_kinds : Nat → Int32) (va_firsts : Nat → Int32) (va_seconds : Nat → Int32) (sf_facts : Int32) (sa_heard : Nat → Int32) (sa_huts : Nat → Int32) (sa_minutes : Nat → Int32) (cf_voices : Int32) (cf_step : Int32) (ca_parts : Nat → Int32) (ca_heights : Nat → Int32) (f_hutsToldOf : Int32) (f_singersToldOf : Int32), (iv 0 9 lf_huts) → (iv 0 6 lf_singers) → (iv 0 511 lf_villages) → (iv 0 511 lf_dams) → (iv 0 4 lf_echoes) → (iv 1 9 lf_deep) → (iv 0 10 lf_slide) → (∀ j, iv 0 99 (la_heights j)) → (∀ j, iv 0 9 (la_ladders j)) → (∀ j, iv 0 9 (la_minutes j)) → (∀ j, iv 0 8 (la_echoFrom j)) → (∀ j, iv 0 8 (la_echoTo j)) → (∀ j, iv 0 8 (la_homes j)) → (∀ j, iv 0 9 (la_talls j)) → (∀ j, iv 0 31 (la_known j)) → (iv 0 40 vf_deeds) → (∀ j, iv 0 5 (va_kinds j)) → (∀ j, iv 0 5 (va_firsts j)) → (∀ j, iv (-1) 8 (va_seconds j)) → (iv 0 10 sf_facts) → (∀ j, iv 0 1 (sa_heard j)) → (∀ j, iv 0 8 (sa_huts j)) → (∀ j, iv 0 60 (sa_minutes j)) → (iv 0 9 cf_voices) → (iv 0 9 cf_step) → (∀ j, iv 0 3 (ca_parts j)) → (∀ j, iv 0 9 (ca_heights j)) → post lf_huts lf_singers lf_villages lf_dams lf_echoes lf_deep lf_slide la_heights la_ladders la_minutes la_echoFrom la_echoTo la_homes la_talls la_known vf_deeds va_kinds va_firsts va_seconds sf_facts sa_heard sa_huts sa_minutes cf_voices cf_step ca_parts ca_heights f_hutsToldOf f_singersToldOf) : q_wr_X4_tell_0 lf_huts lf_singers lf_villages lf_dams lf_echoes lf_deep lf_slide la_heights la_ladders la_minutes la_echoFrom la_echoTo la_homes la_talls la_known vf_deeds va_kinds va_firsts va_seconds sf_facts sa_heard sa_huts sa_minutes cf_voices cf_step ca_parts ca_heights a_numbers f_hutsToldOf f_singersToldOf x1 post := by
  refine ⟨fun c1 => ?_, fun c1 => ?_⟩
  · skip
    exact (iv_emp (iv_lea (l := 10) (h := 5) (r_le c1) (iv_lit (l := 10) (h := 10) (by decide)) hx1 (by decide)) (by decide)).elim
  · skip
    refine ⟨fun c2 => ?_, fun c2 => ?_, fun c2 => ?_, fun c2 => ?_, fun c2 => ?_, fun c2 => ?_, fun c2 => ?_, fun c2 => ?_, fun c2 => ?_, fun c2 => ?_⟩
    · skip
      exact (iv_sw c2 hx1 (by decide)).elim
    · skip
      exact (iv_emp (iv_eqa (l := 5) (h := 0) c2 hx1 (iv_lit (l := 0) (h := 0) (by decide)) (by decide)) (by decide)).elim
    · skip
      exact (iv_emp (iv_eqa (l := 5) (h := 1) c2 hx1 (iv_lit (l := 1) (h := 1) (by decide)) (by decide)) (by decide)).elim
    · skip
      exact (iv_emp (iv_eqa (l := 5) (h := 2) c2 hx1 (iv_lit (l := 2) (h := 2) (by decide)) (by decide)) (by decide)).elim
    · skip
      exact (iv_emp (iv_eqa (l := 5) (h := 3) c2 hx1 (iv_lit (l := 3) (h := 3) (by decide)) (by decide)) (by decide)).elim
    · skip
      exact (iv_emp (iv_eqa (l := 5) (h := 4) c2 hx1 (iv_lit (l := 4) (h := 4) (by decide)) (by decide)) (by decide)).elim
    · skip
      refine ⟨iv_in (iv_add (l := 0) (h := 80) (iv_mul (l := 0) (h := 72) hn0 (iv_lit (l := 9) (h := 9) (by decide)) (by decide)) hn1 (by decide)) (by decide), ?_⟩
      intro a3 ea3
      have k_a3 := iv_upd ea3 k_la_minutes (iv_w hn2 (by decide))
      refine ⟨iv_in (iv_add (l := 0) (h := 80) (iv_mul (l := 0) (h := 72) hn1 (iv_lit (l := 9) (h := 9) (by decide)) (by decide)) hn0 (by decide)) (by decide), ?_⟩
      intro a4 ea4
      have k_a4 := iv_upd ea4 k_a3 (iv_w hn2 (by decide))
      intro w5 ew5
      exact hpost _ _ _ _ _ _ _ _ _ _ _ _ _ _ _ _ _ _ _ _ _ _ _ _ _ _ _ _ _ k_lf_huts k_lf_singers k_lf_villages k_lf_dams k_lf_echoes k_lf_deep k_lf_slide k_la_heights k_la_ladders k_a4 k_la_echoFrom k_la_echoTo k_la_homes k_la_talls k_la_known k_vf_deeds k_va_kinds k_va_firsts k_va_seconds k_sf_facts k_sa_heard k_sa_huts k_sa_minutes k_cf_voices k_cf_step k_ca_parts k_ca_heights
    · skip
      exact (iv_emp (iv_eqa (l := 6) (h := 5) c2 hx1 (iv_lit (l := 6) (h := 6) (by decide)) (by decide)) (by decide)).elim
    · skip
      exact (iv_emp (iv_eqa (l := 7) (h := 5) c2 hx1 (iv_lit (l := 7) (h := 7) (by decide)) (by decide)) (by decide)).elim
    · skip
      exact (iv_emp (iv_eqa (l := 8) (h := 5) c2 hx1 (iv_lit (l := 8) (h := 8) (by decide)) (by decide)) (by decide)).elim
set_option maxRecDepth 20000 in
theorem s_tell_6 {lf_huts : Int32} {lf_singers : Int32} {lf_villages : Int32} {lf_dams : Int32} {lf_echoes : Int32} {lf_deep : Int32} {lf_slide : Int32} {la_heights : Nat → Int32} {la_ladders : Nat → Int32} {la_minutes : Nat → Int32} {la_echoFrom : Nat → Int32} {la_echoTo : Nat → Int32} {la_homes : Nat → Int32} {la_talls : Nat → Int32} {la_known : Nat → Int32} {vf_deeds : Int32} {va_kinds : Nat → Int32} {va_firsts : Nat → Int32} {va_seconds : Nat → Int32} {sf_facts : Int32} {sa_heard : Nat → Int32} {sa_huts : Nat → Int32} {sa_minutes : Nat → Int32} {cf_voices : Int32} {cf_step : Int32} {ca_parts : Nat → Int32} {ca_heights : Nat → Int32} {a_numbers : Nat → Int32} {f_hutsToldOf : Int32} {f_singersToldOf : Int32} {x1 : Int32} {post : (Int32) → (Int32) → (Int32) → (Int32) → (Int32) → (Int32) → (Int32) → (Nat → Int32) → (Nat → Int32) → (Nat → Int32) → (Nat → Int32) → (Nat → Int32) → (Nat → Int32) → (Nat → Int32) → (Nat → Int32) → (Int32) → (Nat → Int32) → (Nat → Int32) → (Nat → Int32) → (Int32) → (Nat → Int32) → (Nat → Int32) → (Nat → Int32) → (Int32) → (Int32) → (Nat → Int32) → (Nat → Int32) → (Int32) → (Int32) → Prop} (k_lf_huts : iv 0 9 lf_huts) (k_lf_singers : iv 0 6 lf_singers) (k_lf_villages : iv 0 511 lf_villages) (k_lf_dams : iv 0 511 lf_dams) (k_lf_echoes : iv 0 3 lf_echoes) (k_lf_deep : iv 1 9 lf_deep) (k_lf_slide : iv 0 10 lf_slide) (k_la_heights : ∀ j, iv 0 99 (la_heights j)) (k_la_ladders : ∀ j, iv 0 9 (la_ladders j)) (k_la_minutes : ∀ j, iv 0 9 (la_minutes j)) (k_la_echoFrom : ∀ j, iv 0 8 (la_echoFrom j)) (k_la_echoTo : ∀ j, iv 0 8 (la_echoTo j)) (k_la_homes : ∀ j, iv 0 8 (la_homes j)) (k_la_talls : ∀ j, iv 0 9 (la_talls j)) (k_la_known : ∀ j, iv 0 31 (la_known j)) (k_vf_deeds : iv 0 40 vf_deeds) (k_va_kinds : ∀ j, iv 0 5 (va_kinds j)) (k_va_firsts : ∀ j, iv 0 5 (va_firsts j)) (k_va_seconds : ∀ j, iv (-1) 8 (va_seconds j)) (k_sf_facts : iv 0 10 sf_facts) (k_sa_heard : ∀ j, iv 0 1 (sa_heard j)) (k_sa_huts : ∀ j, iv 0 8 (sa_huts j)) (k_sa_minutes : ∀ j, iv 0 60 (sa_minutes j)) (k_cf_voices : iv 0 9 cf_voices) (k_cf_step : iv 0 9 cf_step) (k_ca_parts : ∀ j, iv 0 3 (ca_parts j)) (k_ca_heights : ∀ j, iv 0 9 (ca_heights j)) (hx1 : iv 6 6 x1) (hn0 : iv 0 8 (a_numbers (Int32.toNatClampNeg (0 : Int32)))) (hn1 : iv 0 8 (a_numbers (Int32.toNatClampNeg (1 : Int32)))) (hpost : ∀ (lf_huts : Int32) (lf_singers : Int32) (lf_villages : Int32) (lf_dams : Int32) (lf_echoes : Int32) (lf_deep : Int32) (lf_slide : Int32) (la_heights : Nat → Int32) (la_ladders : Nat → Int32) (la_minutes : Nat → Int32) (la_echoFrom : Nat → Int32) (la_echoTo : Nat → Int32) (la_homes : Nat → Int32) (la_talls : Nat → Int32) (la_known : Nat → Int32) (vf_deeds : Int32) (va_kinds : Nat → Int32) (va_firsts : Nat → Int32) (va_seconds : Nat → Int32) (sf_facts : Int32) (sa_heard : Nat → Int32) (sa_huts : Nat → Int32) (sa_minutes : Nat → Int32) (cf_voices : Int32) (cf_step : Int32) (ca_parts : Nat → Int32) (ca_heights : Nat → Int32) (f_hutsToldOf : Int32) (f_singersToldOf : Int32), (iv 0 9 lf_huts) → (iv 0 6 lf_singers) → (iv 0 511 lf_villages) → (iv 0 511 lf_dams) → (iv 0 4 lf_echoes) → (iv 1 9 lf_deep) → (iv 0 10 lf_slide) → (∀ j, iv 0 99 (la_heights j)) → (∀ j, iv 0 9 (la_ladders j)) → (∀ j, iv 0 9 (la_minutes j)) → (∀ j, iv 0 8 (la_echoFrom j)) → (∀ j, iv 0 8 (la_echoTo j)) → (∀ j, iv 0 8 (la_homes j)) → (∀ j, iv 0 9 (la_talls j)) → (∀ j, iv 0 31 (la_known j)) → (iv 0 40 vf_deeds) → (∀ j, iv 0 5 (va_kinds j)) → (∀ j, iv 0 5 (va_firsts j)) → (∀ j, iv (-1) 8 (va_seconds j)) → (iv 0 10 sf_facts) → (∀ j, iv 0 1 (sa_heard j)) → (∀ j, iv 0 8 (sa_huts j)) → (∀ j, iv 0 60 (sa_minutes j)) → (iv 0 9 cf_voices) → (iv 0 9 cf_step) → (∀ j, iv 0 3 (ca_parts j)) → (∀ j, iv 0 9 (ca_heights j)) → post lf_huts lf_singers lf_villages lf_dams lf_echoes lf_deep lf_slide la_heights la_ladders la_minutes la_echoFrom la_echoTo la_homes la_talls la_known vf_deeds va_kinds va_firsts va_seconds sf_facts sa_heard sa_huts sa_minutes cf_voices cf_step ca_parts ca_heights f_hutsToldOf f_singersToldOf) : q_wr_X4_tell_0 lf_huts lf_singers lf_villages lf_dams lf_echoes lf_deep lf_slide la_heights la_ladders la_minutes la_echoFrom la_echoTo la_homes la_talls la_known vf_deeds va_kinds va_firsts va_seconds sf_facts sa_heard sa_huts sa_minutes cf_voices cf_step ca_parts ca_heights a_numbers f_hutsToldOf f_singersToldOf x1 post := by
  refine ⟨fun c1 => ?_, fun c1 => ?_⟩
  · skip
    exact (iv_emp (iv_lea (l := 10) (h := 6) (r_le c1) (iv_lit (l := 10) (h := 10) (by decide)) hx1 (by decide)) (by decide)).elim
  · skip
    refine ⟨fun c2 => ?_, fun c2 => ?_, fun c2 => ?_, fun c2 => ?_, fun c2 => ?_, fun c2 => ?_, fun c2 => ?_, fun c2 => ?_, fun c2 => ?_, fun c2 => ?_⟩
    · skip
      exact (iv_sw c2 hx1 (by decide)).elim
    · skip
      exact (iv_emp (iv_eqa (l := 6) (h := 0) c2 hx1 (iv_lit (l := 0) (h := 0) (by decide)) (by decide)) (by decide)).elim
    · skip
      exact (iv_emp (iv_eqa (l := 6) (h := 1) c2 hx1 (iv_lit (l := 1) (h := 1) (by decide)) (by decide)) (by decide)).elim
    · skip
      exact (iv_emp (iv_eqa (l := 6) (h := 2) c2 hx1 (iv_lit (l := 2) (h := 2) (by decide)) (by decide)) (by decide)).elim
    · skip
      exact (iv_emp (iv_eqa (l := 6) (h := 3) c2 hx1 (iv_lit (l := 3) (h := 3) (by decide)) (by decide)) (by decide)).elim
    · skip
      exact (iv_emp (iv_eqa (l := 6) (h := 4) c2 hx1 (iv_lit (l := 4) (h := 4) (by decide)) (by decide)) (by decide)).elim
    · skip
      exact (iv_emp (iv_eqa (l := 6) (h := 5) c2 hx1 (iv_lit (l := 5) (h := 5) (by decide)) (by decide)) (by decide)).elim
    · skip
      refine ⟨iv_in k_lf_echoes (by decide), ?_⟩
      intro a3 ea3
      have k_a3 := iv_upd ea3 k_la_echoFrom hn0
      refine ⟨iv_in k_lf_echoes (by decide), ?_⟩
      intro a4 ea4
      have k_a4 := iv_upd ea4 k_la_echoTo hn1
      intro w5 ew5
      have hw5 := iv_eq ew5 (iv_add (l := 1) (h := 4) k_lf_echoes (iv_lit (l := 1) (h := 1) (by decide)) (by decide))
      intro w6 ew6
      exact hpost _ _ _ _ _ _ _ _ _ _ _ _ _ _ _ _ _ _ _ _ _ _ _ _ _ _ _ _ _ k_lf_huts k_lf_singers k_lf_villages k_lf_dams (iv_w hw5 (by decide)) k_lf_deep k_lf_slide k_la_heights k_la_ladders k_la_minutes k_a3 k_a4 k_la_homes k_la_talls k_la_known k_vf_deeds k_va_kinds k_va_firsts k_va_seconds k_sf_facts k_sa_heard k_sa_huts k_sa_minutes k_cf_voices k_cf_step k_ca_parts k_ca_heights
    · skip
      exact (iv_emp (iv_eqa (l := 7) (h := 6) c2 hx1 (iv_lit (l := 7) (h := 7) (by decide)) (by decide)) (by decide)).elim
    · skip
      exact (iv_emp (iv_eqa (l := 8) (h := 6) c2 hx1 (iv_lit (l := 8) (h := 8) (by decide)) (by decide)) (by decide)).elim
set_option maxRecDepth 20000 in
theorem s_tell_7 {lf_huts : Int32} {lf_singers : Int32} {lf_villages : Int32} {lf_dams : Int32} {lf_echoes : Int32} {lf_deep : Int32} {lf_slide : Int32} {la_heights : Nat → Int32} {la_ladders : Nat → Int32} {la_minutes : Nat → Int32} {la_echoFrom : Nat → Int32} {la_echoTo : Nat → Int32} {la_homes : Nat → Int32} {la_talls : Nat → Int32} {la_known : Nat → Int32} {vf_deeds : Int32} {va_kinds : Nat → Int32} {va_firsts : Nat → Int32} {va_seconds : Nat → Int32} {sf_facts : Int32} {sa_heard : Nat → Int32} {sa_huts : Nat → Int32} {sa_minutes : Nat → Int32} {cf_voices : Int32} {cf_step : Int32} {ca_parts : Nat → Int32} {ca_heights : Nat → Int32} {a_numbers : Nat → Int32} {f_hutsToldOf : Int32} {f_singersToldOf : Int32} {x1 : Int32} {post : (Int32) → (Int32) → (Int32) → (Int32) → (Int32) → (Int32) → (Int32) → (Nat → Int32) → (Nat → Int32) → (Nat → Int32) → (Nat → Int32) → (Nat → Int32) → (Nat → Int32) → (Nat → Int32) → (Nat → Int32) → (Int32) → (Nat → Int32) → (Nat → Int32) → (Nat → Int32) → (Int32) → (Nat → Int32) → (Nat → Int32) → (Nat → Int32) → (Int32) → (Int32) → (Nat → Int32) → (Nat → Int32) → (Int32) → (Int32) → Prop} (k_lf_huts : iv 0 9 lf_huts) (k_lf_singers : iv 0 6 lf_singers) (k_lf_villages : iv 0 511 lf_villages) (k_lf_dams : iv 0 511 lf_dams) (k_lf_echoes : iv 0 4 lf_echoes) (k_lf_deep : iv 1 9 lf_deep) (k_lf_slide : iv 0 10 lf_slide) (k_la_heights : ∀ j, iv 0 99 (la_heights j)) (k_la_ladders : ∀ j, iv 0 9 (la_ladders j)) (k_la_minutes : ∀ j, iv 0 9 (la_minutes j)) (k_la_echoFrom : ∀ j, iv 0 8 (la_echoFrom j)) (k_la_echoTo : ∀ j, iv 0 8 (la_echoTo j)) (k_la_homes : ∀ j, iv 0 8 (la_homes j)) (k_la_talls : ∀ j, iv 0 9 (la_talls j)) (k_la_known : ∀ j, iv 0 31 (la_known j)) (k_vf_deeds : iv 0 40 vf_deeds) (k_va_kinds : ∀ j, iv 0 5 (va_kinds j)) (k_va_firsts : ∀ j, iv 0 5 (va_firsts j)) (k_va_seconds : ∀ j, iv (-1) 8 (va_seconds j)) (k_sf_facts : iv 0 10 sf_facts) (k_sa_heard : ∀ j, iv 0 1 (sa_heard j)) (k_sa_huts : ∀ j, iv 0 8 (sa_huts j)) (k_sa_minutes : ∀ j, iv 0 60 (sa_minutes j)) (k_cf_voices : iv 0 9 cf_voices) (k_cf_step : iv 0 9 cf_step) (k_ca_parts : ∀ j, iv 0 3 (ca_parts j)) (k_ca_heights : ∀ j, iv 0 9 (ca_heights j)) (hx1 : iv 7 7 x1) (hn0 : iv 0 8 (a_numbers (Int32.toNatClampNeg (0 : Int32)))) (hn1 : iv 0 9 (a_numbers (Int32.toNatClampNeg (1 : Int32)))) (hpost : ∀ (lf_huts : Int32) (lf_singers : Int32) (lf_villages : Int32) (lf_dams : Int32) (lf_echoes : Int32) (lf_deep : Int32) (lf_slide : Int32) (la_heights : Nat → Int32) (la_ladders : Nat → Int32) (la_minutes : Nat → Int32) (la_echoFrom : Nat → Int32) (la_echoTo : Nat → Int32) (la_homes : Nat → Int32) (la_talls : Nat → Int32) (la_known : Nat → Int32) (vf_deeds : Int32) (va_kinds : Nat → Int32) (va_firsts : Nat → Int32) (va_seconds : Nat → Int32) (sf_facts : Int32) (sa_heard : Nat → Int32) (sa_huts : Nat → Int32) (sa_minutes : Nat → Int32) (cf_voices : Int32) (cf_step : Int32) (ca_parts : Nat → Int32) (ca_heights : Nat → Int32) (f_hutsToldOf : Int32) (f_singersToldOf : Int32), (iv 0 9 lf_huts) → (iv 0 6 lf_singers) → (iv 0 511 lf_villages) → (iv 0 511 lf_dams) → (iv 0 4 lf_echoes) → (iv 1 9 lf_deep) → (iv 0 10 lf_slide) → (∀ j, iv 0 99 (la_heights j)) → (∀ j, iv 0 9 (la_ladders j)) → (∀ j, iv 0 9 (la_minutes j)) → (∀ j, iv 0 8 (la_echoFrom j)) → (∀ j, iv 0 8 (la_echoTo j)) → (∀ j, iv 0 8 (la_homes j)) → (∀ j, iv 0 9 (la_talls j)) → (∀ j, iv 0 31 (la_known j)) → (iv 0 40 vf_deeds) → (∀ j, iv 0 5 (va_kinds j)) → (∀ j, iv 0 5 (va_firsts j)) → (∀ j, iv (-1) 8 (va_seconds j)) → (iv 0 10 sf_facts) → (∀ j, iv 0 1 (sa_heard j)) → (∀ j, iv 0 8 (sa_huts j)) → (∀ j, iv 0 60 (sa_minutes j)) → (iv 0 9 cf_voices) → (iv 0 9 cf_step) → (∀ j, iv 0 3 (ca_parts j)) → (∀ j, iv 0 9 (ca_heights j)) → post lf_huts lf_singers lf_villages lf_dams lf_echoes lf_deep lf_slide la_heights la_ladders la_minutes la_echoFrom la_echoTo la_homes la_talls la_known vf_deeds va_kinds va_firsts va_seconds sf_facts sa_heard sa_huts sa_minutes cf_voices cf_step ca_parts ca_heights f_hutsToldOf f_singersToldOf) : q_wr_X4_tell_0 lf_huts lf_singers lf_villages lf_dams lf_echoes lf_deep lf_slide la_heights la_ladders la_minutes la_echoFrom la_echoTo la_homes la_talls la_known vf_deeds va_kinds va_firsts va_seconds sf_facts sa_heard sa_huts sa_minutes cf_voices cf_step ca_parts ca_heights a_numbers f_hutsToldOf f_singersToldOf x1 post := by
  refine ⟨fun c1 => ?_, fun c1 => ?_⟩
  · skip
    exact (iv_emp (iv_lea (l := 10) (h := 7) (r_le c1) (iv_lit (l := 10) (h := 10) (by decide)) hx1 (by decide)) (by decide)).elim
  · skip
    refine ⟨fun c2 => ?_, fun c2 => ?_, fun c2 => ?_, fun c2 => ?_, fun c2 => ?_, fun c2 => ?_, fun c2 => ?_, fun c2 => ?_, fun c2 => ?_, fun c2 => ?_⟩
    · skip
      exact (iv_sw c2 hx1 (by decide)).elim
    · skip
      exact (iv_emp (iv_eqa (l := 7) (h := 0) c2 hx1 (iv_lit (l := 0) (h := 0) (by decide)) (by decide)) (by decide)).elim
    · skip
      exact (iv_emp (iv_eqa (l := 7) (h := 1) c2 hx1 (iv_lit (l := 1) (h := 1) (by decide)) (by decide)) (by decide)).elim
    · skip
      exact (iv_emp (iv_eqa (l := 7) (h := 2) c2 hx1 (iv_lit (l := 2) (h := 2) (by decide)) (by decide)) (by decide)).elim
    · skip
      exact (iv_emp (iv_eqa (l := 7) (h := 3) c2 hx1 (iv_lit (l := 3) (h := 3) (by decide)) (by decide)) (by decide)).elim
    · skip
      exact (iv_emp (iv_eqa (l := 7) (h := 4) c2 hx1 (iv_lit (l := 4) (h := 4) (by decide)) (by decide)) (by decide)).elim
    · skip
      exact (iv_emp (iv_eqa (l := 7) (h := 5) c2 hx1 (iv_lit (l := 5) (h := 5) (by decide)) (by decide)) (by decide)).elim
    · skip
      exact (iv_emp (iv_eqa (l := 7) (h := 6) c2 hx1 (iv_lit (l := 6) (h := 6) (by decide)) (by decide)) (by decide)).elim
    · skip
      refine ⟨iv_in hn0 (by decide), ?_⟩
      intro a3 ea3
      have k_a3 := iv_upd ea3 k_la_ladders hn1
      intro w4 ew4
      exact hpost _ _ _ _ _ _ _ _ _ _ _ _ _ _ _ _ _ _ _ _ _ _ _ _ _ _ _ _ _ k_lf_huts k_lf_singers k_lf_villages k_lf_dams k_lf_echoes k_lf_deep k_lf_slide k_la_heights k_a3 k_la_minutes k_la_echoFrom k_la_echoTo k_la_homes k_la_talls k_la_known k_vf_deeds k_va_kinds k_va_firsts k_va_seconds k_sf_facts k_sa_heard k_sa_huts k_sa_minutes k_cf_voices k_cf_step k_ca_parts k_ca_heights
    · skip
      exact (iv_emp (iv_eqa (l := 8) (h := 7) c2 hx1 (iv_lit (l := 8) (h := 8) (by decide)) (by decide)) (by decide)).elim
set_option maxRecDepth 20000 in
theorem s_tell_8 {lf_huts : Int32} {lf_singers : Int32} {lf_villages : Int32} {lf_dams : Int32} {lf_echoes : Int32} {lf_deep : Int32} {lf_slide : Int32} {la_heights : Nat → Int32} {la_ladders : Nat → Int32} {la_minutes : Nat → Int32} {la_echoFrom : Nat → Int32} {la_echoTo : Nat → Int32} {la_homes : Nat → Int32} {la_talls : Nat → Int32} {la_known : Nat → Int32} {vf_deeds : Int32} {va_kinds : Nat → Int32} {va_firsts : Nat → Int32} {va_seconds : Nat → Int32} {sf_facts : Int32} {sa_heard : Nat → Int32} {sa_huts : Nat → Int32} {sa_minutes : Nat → Int32} {cf_voices : Int32} {cf_step : Int32} {ca_parts : Nat → Int32} {ca_heights : Nat → Int32} {a_numbers : Nat → Int32} {f_hutsToldOf : Int32} {f_singersToldOf : Int32} {x1 : Int32} {post : (Int32) → (Int32) → (Int32) → (Int32) → (Int32) → (Int32) → (Int32) → (Nat → Int32) → (Nat → Int32) → (Nat → Int32) → (Nat → Int32) → (Nat → Int32) → (Nat → Int32) → (Nat → Int32) → (Nat → Int32) → (Int32) → (Nat → Int32) → (Nat → Int32) → (Nat → Int32) → (Int32) → (Nat → Int32) → (Nat → Int32) → (Nat → Int32) → (Int32) → (Int32) → (Nat → Int32) → (Nat → Int32) → (Int32) → (Int32) → Prop} (k_lf_huts : iv 0 9 lf_huts) (k_lf_singers : iv 0 5 lf_singers) (k_lf_villages : iv 0 511 lf_villages) (k_lf_dams : iv 0 511 lf_dams) (k_lf_echoes : iv 0 4 lf_echoes) (k_lf_deep : iv 1 9 lf_deep) (k_lf_slide : iv 0 10 lf_slide) (k_la_heights : ∀ j, iv 0 99 (la_heights j)) (k_la_ladders : ∀ j, iv 0 9 (la_ladders j)) (k_la_minutes : ∀ j, iv 0 9 (la_minutes j)) (k_la_echoFrom : ∀ j, iv 0 8 (la_echoFrom j)) (k_la_echoTo : ∀ j, iv 0 8 (la_echoTo j)) (k_la_homes : ∀ j, iv 0 8 (la_homes j)) (k_la_talls : ∀ j, iv 0 9 (la_talls j)) (k_la_known : ∀ j, iv 0 31 (la_known j)) (k_vf_deeds : iv 0 40 vf_deeds) (k_va_kinds : ∀ j, iv 0 5 (va_kinds j)) (k_va_firsts : ∀ j, iv 0 5 (va_firsts j)) (k_va_seconds : ∀ j, iv (-1) 8 (va_seconds j)) (k_sf_facts : iv 0 10 sf_facts) (k_sa_heard : ∀ j, iv 0 1 (sa_heard j)) (k_sa_huts : ∀ j, iv 0 8 (sa_huts j)) (k_sa_minutes : ∀ j, iv 0 60 (sa_minutes j)) (k_cf_voices : iv 0 9 cf_voices) (k_cf_step : iv 0 9 cf_step) (k_ca_parts : ∀ j, iv 0 3 (ca_parts j)) (k_ca_heights : ∀ j, iv 0 9 (ca_heights j)) (hx1 : iv 8 8 x1) (hn0 : iv 0 8 (a_numbers (Int32.toNatClampNeg (0 : Int32)))) (hn1 : iv 0 9 (a_numbers (Int32.toNatClampNeg (1 : Int32)))) (hpost : ∀ (lf_huts : Int32) (lf_singers : Int32) (lf_villages : Int32) (lf_dams : Int32) (lf_echoes : Int32) (lf_deep : Int32) (lf_slide : Int32) (la_heights : Nat → Int32) (la_ladders : Nat → Int32) (la_minutes : Nat → Int32) (la_echoFrom : Nat → Int32) (la_echoTo : Nat → Int32) (la_homes : Nat → Int32) (la_talls : Nat → Int32) (la_known : Nat → Int32) (vf_deeds : Int32) (va_kinds : Nat → Int32) (va_firsts : Nat → Int32) (va_seconds : Nat → Int32) (sf_facts : Int32) (sa_heard : Nat → Int32) (sa_huts : Nat → Int32) (sa_minutes : Nat → Int32) (cf_voices : Int32) (cf_step : Int32) (ca_parts : Nat → Int32) (ca_heights : Nat → Int32) (f_hutsToldOf : Int32) (f_singersToldOf : Int32), (iv 0 9 lf_huts) → (iv 0 6 lf_singers) → (iv 0 511 lf_villages) → (iv 0 511 lf_dams) → (iv 0 4 lf_echoes) → (iv 1 9 lf_deep) → (iv 0 10 lf_slide) → (∀ j, iv 0 99 (la_heights j)) → (∀ j, iv 0 9 (la_ladders j)) → (∀ j, iv 0 9 (la_minutes j)) → (∀ j, iv 0 8 (la_echoFrom j)) → (∀ j, iv 0 8 (la_echoTo j)) → (∀ j, iv 0 8 (la_homes j)) → (∀ j, iv 0 9 (la_talls j)) → (∀ j, iv 0 31 (la_known j)) → (iv 0 40 vf_deeds) → (∀ j, iv 0 5 (va_kinds j)) → (∀ j, iv 0 5 (va_firsts j)) → (∀ j, iv (-1) 8 (va_seconds j)) → (iv 0 10 sf_facts) → (∀ j, iv 0 1 (sa_heard j)) → (∀ j, iv 0 8 (sa_huts j)) → (∀ j, iv 0 60 (sa_minutes j)) → (iv 0 9 cf_voices) → (iv 0 9 cf_step) → (∀ j, iv 0 3 (ca_parts j)) → (∀ j, iv 0 9 (ca_heights j)) → post lf_huts lf_singers lf_villages lf_dams lf_echoes lf_deep lf_slide la_heights la_ladders la_minutes la_echoFrom la_echoTo la_homes la_talls la_known vf_deeds va_kinds va_firsts va_seconds sf_facts sa_heard sa_huts sa_minutes cf_voices cf_step ca_parts ca_heights f_hutsToldOf f_singersToldOf) : q_wr_X4_tell_0 lf_huts lf_singers lf_villages lf_dams lf_echoes lf_deep lf_slide la_heights la_ladders la_minutes la_echoFrom la_echoTo la_homes la_talls la_known vf_deeds va_kinds va_firsts va_seconds sf_facts sa_heard sa_huts sa_minutes cf_voices cf_step ca_parts ca_heights a_numbers f_hutsToldOf f_singersToldOf x1 post := by
  refine ⟨fun c1 => ?_, fun c1 => ?_⟩
  · skip
    exact (iv_emp (iv_lea (l := 10) (h := 8) (r_le c1) (iv_lit (l := 10) (h := 10) (by decide)) hx1 (by decide)) (by decide)).elim
  · skip
    refine ⟨fun c2 => ?_, fun c2 => ?_, fun c2 => ?_, fun c2 => ?_, fun c2 => ?_, fun c2 => ?_, fun c2 => ?_, fun c2 => ?_, fun c2 => ?_, fun c2 => ?_⟩
    · skip
      exact (iv_sw c2 hx1 (by decide)).elim
    · skip
      exact (iv_emp (iv_eqa (l := 8) (h := 0) c2 hx1 (iv_lit (l := 0) (h := 0) (by decide)) (by decide)) (by decide)).elim
    · skip
      exact (iv_emp (iv_eqa (l := 8) (h := 1) c2 hx1 (iv_lit (l := 1) (h := 1) (by decide)) (by decide)) (by decide)).elim
    · skip
      exact (iv_emp (iv_eqa (l := 8) (h := 2) c2 hx1 (iv_lit (l := 2) (h := 2) (by decide)) (by decide)) (by decide)).elim
    · skip
      exact (iv_emp (iv_eqa (l := 8) (h := 3) c2 hx1 (iv_lit (l := 3) (h := 3) (by decide)) (by decide)) (by decide)).elim
    · skip
      exact (iv_emp (iv_eqa (l := 8) (h := 4) c2 hx1 (iv_lit (l := 4) (h := 4) (by decide)) (by decide)) (by decide)).elim
    · skip
      exact (iv_emp (iv_eqa (l := 8) (h := 5) c2 hx1 (iv_lit (l := 5) (h := 5) (by decide)) (by decide)) (by decide)).elim
    · skip
      exact (iv_emp (iv_eqa (l := 8) (h := 6) c2 hx1 (iv_lit (l := 6) (h := 6) (by decide)) (by decide)) (by decide)).elim
    · skip
      exact (iv_emp (iv_eqa (l := 8) (h := 7) c2 hx1 (iv_lit (l := 7) (h := 7) (by decide)) (by decide)) (by decide)).elim
    · skip
      refine ⟨iv_in k_lf_singers (by decide), ?_⟩
      intro a3 ea3
      have k_a3 := iv_upd ea3 k_la_homes hn0
      refine ⟨iv_in k_lf_singers (by decide), ?_⟩
      intro a4 ea4
      have k_a4 := iv_upd ea4 k_la_talls hn1
      intro w5 ew5
      have hw5 := iv_eq ew5 (iv_add (l := 1) (h := 6) k_lf_singers (iv_lit (l := 1) (h := 1) (by decide)) (by decide))
      intro w6 ew6
      exact hpost _ _ _ _ _ _ _ _ _ _ _ _ _ _ _ _ _ _ _ _ _ _ _ _ _ _ _ _ _ k_lf_huts (iv_w hw5 (by decide)) k_lf_villages k_lf_dams k_lf_echoes k_lf_deep k_lf_slide k_la_heights k_la_ladders k_la_minutes k_la_echoFrom k_la_echoTo k_a3 k_a4 k_la_known k_vf_deeds k_va_kinds k_va_firsts k_va_seconds k_sf_facts k_sa_heard k_sa_huts k_sa_minutes k_cf_voices k_cf_step k_ca_parts k_ca_heights
set_option maxRecDepth 20000 in
theorem s_tell_9 {lf_huts : Int32} {lf_singers : Int32} {lf_villages : Int32} {lf_dams : Int32} {lf_echoes : Int32} {lf_deep : Int32} {lf_slide : Int32} {la_heights : Nat → Int32} {la_ladders : Nat → Int32} {la_minutes : Nat → Int32} {la_echoFrom : Nat → Int32} {la_echoTo : Nat → Int32} {la_homes : Nat → Int32} {la_talls : Nat → Int32} {la_known : Nat → Int32} {vf_deeds : Int32} {va_kinds : Nat → Int32} {va_firsts : Nat → Int32} {va_seconds : Nat → Int32} {sf_facts : Int32} {sa_heard : Nat → Int32} {sa_huts : Nat → Int32} {sa_minutes : Nat → Int32} {cf_voices : Int32} {cf_step : Int32} {ca_parts : Nat → Int32} {ca_heights : Nat → Int32} {a_numbers : Nat → Int32} {f_hutsToldOf : Int32} {f_singersToldOf : Int32} {x1 : Int32} {post : (Int32) → (Int32) → (Int32) → (Int32) → (Int32) → (Int32) → (Int32) → (Nat → Int32) → (Nat → Int32) → (Nat → Int32) → (Nat → Int32) → (Nat → Int32) → (Nat → Int32) → (Nat → Int32) → (Nat → Int32) → (Int32) → (Nat → Int32) → (Nat → Int32) → (Nat → Int32) → (Int32) → (Nat → Int32) → (Nat → Int32) → (Nat → Int32) → (Int32) → (Int32) → (Nat → Int32) → (Nat → Int32) → (Int32) → (Int32) → Prop} (k_lf_huts : iv 0 9 lf_huts) (k_lf_singers : iv 0 6 lf_singers) (k_lf_villages : iv 0 511 lf_villages) (k_lf_dams : iv 0 511 lf_dams) (k_lf_echoes : iv 0 4 lf_echoes) (k_lf_deep : iv 1 9 lf_deep) (k_lf_slide : iv 0 10 lf_slide) (k_la_heights : ∀ j, iv 0 99 (la_heights j)) (k_la_ladders : ∀ j, iv 0 9 (la_ladders j)) (k_la_minutes : ∀ j, iv 0 9 (la_minutes j)) (k_la_echoFrom : ∀ j, iv 0 8 (la_echoFrom j)) (k_la_echoTo : ∀ j, iv 0 8 (la_echoTo j)) (k_la_homes : ∀ j, iv 0 8 (la_homes j)) (k_la_talls : ∀ j, iv 0 9 (la_talls j)) (k_la_known : ∀ j, iv 0 31 (la_known j)) (k_vf_deeds : iv 0 40 vf_deeds) (k_va_kinds : ∀ j, iv 0 5 (va_kinds j)) (k_va_firsts : ∀ j, iv 0 5 (va_firsts j)) (k_va_seconds : ∀ j, iv (-1) 8 (va_seconds j)) (k_sf_facts : iv 0 10 sf_facts) (k_sa_heard : ∀ j, iv 0 1 (sa_heard j)) (k_sa_huts : ∀ j, iv 0 8 (sa_huts j)) (k_sa_minutes : ∀ j, iv 0 60 (sa_minutes j)) (k_cf_voices : iv 0 9 cf_voices) (k_cf_step : iv 0 9 cf_step) (k_ca_parts : ∀ j, iv 0 3 (ca_parts j)) (k_ca_heights : ∀ j, iv 0 9 (ca_heights j)) (hx1 : iv 9 9 x1) (hn0 : iv 0 5 (a_numbers (Int32.toNatClampNeg (0 : Int32)))) (hn1 : iv 0 4 (a_numbers (Int32.toNatClampNeg (1 : Int32)))) (hpost : ∀ (lf_huts : Int32) (lf_singers : Int32) (lf_villages : Int32) (lf_dams : Int32) (lf_echoes : Int32) (lf_deep : Int32) (lf_slide : Int32) (la_heights : Nat → Int32) (la_ladders : Nat → Int32) (la_minutes : Nat → Int32) (la_echoFrom : Nat → Int32) (la_echoTo : Nat → Int32) (la_homes : Nat → Int32) (la_talls : Nat → Int32) (la_known : Nat → Int32) (vf_deeds : Int32) (va_kinds : Nat → Int32) (va_firsts : Nat → Int32) (va_seconds : Nat → Int32) (sf_facts : Int32) (sa_heard : Nat → Int32) (sa_huts : Nat → Int32) (sa_minutes : Nat → Int32) (cf_voices : Int32) (cf_step : Int32) (ca_parts : Nat → Int32) (ca_heights : Nat → Int32) (f_hutsToldOf : Int32) (f_singersToldOf : Int32), (iv 0 9 lf_huts) → (iv 0 6 lf_singers) → (iv 0 511 lf_villages) → (iv 0 511 lf_dams) → (iv 0 4 lf_echoes) → (iv 1 9 lf_deep) → (iv 0 10 lf_slide) → (∀ j, iv 0 99 (la_heights j)) → (∀ j, iv 0 9 (la_ladders j)) → (∀ j, iv 0 9 (la_minutes j)) → (∀ j, iv 0 8 (la_echoFrom j)) → (∀ j, iv 0 8 (la_echoTo j)) → (∀ j, iv 0 8 (la_homes j)) → (∀ j, iv 0 9 (la_talls j)) → (∀ j, iv 0 31 (la_known j)) → (iv 0 40 vf_deeds) → (∀ j, iv 0 5 (va_kinds j)) → (∀ j, iv 0 5 (va_firsts j)) → (∀ j, iv (-1) 8 (va_seconds j)) → (iv 0 10 sf_facts) → (∀ j, iv 0 1 (sa_heard j)) → (∀ j, iv 0 8 (sa_huts j)) → (∀ j, iv 0 60 (sa_minutes j)) → (iv 0 9 cf_voices) → (iv 0 9 cf_step) → (∀ j, iv 0 3 (ca_parts j)) → (∀ j, iv 0 9 (ca_heights j)) → post lf_huts lf_singers lf_villages lf_dams lf_echoes lf_deep lf_slide la_heights la_ladders la_minutes la_echoFrom la_echoTo la_homes la_talls la_known vf_deeds va_kinds va_firsts va_seconds sf_facts sa_heard sa_huts sa_minutes cf_voices cf_step ca_parts ca_heights f_hutsToldOf f_singersToldOf) : q_wr_X4_tell_0 lf_huts lf_singers lf_villages lf_dams lf_echoes lf_deep lf_slide la_heights la_ladders la_minutes la_echoFrom la_echoTo la_homes la_talls la_known vf_deeds va_kinds va_firsts va_seconds sf_facts sa_heard sa_huts sa_minutes cf_voices cf_step ca_parts ca_heights a_numbers f_hutsToldOf f_singersToldOf x1 post := by
  refine ⟨fun c1 => ?_, fun c1 => ?_⟩
  · skip
    exact (iv_emp (iv_lea (l := 10) (h := 9) (r_le c1) (iv_lit (l := 10) (h := 10) (by decide)) hx1 (by decide)) (by decide)).elim
  · skip
    refine ⟨fun c2 => ?_, fun c2 => ?_, fun c2 => ?_, fun c2 => ?_, fun c2 => ?_, fun c2 => ?_, fun c2 => ?_, fun c2 => ?_, fun c2 => ?_, fun c2 => ?_⟩
    · skip
      refine ⟨iv_in hn0 (by decide), ?_⟩
      intro w3 ew3
      have hw3 := iv_eq ew3 (iv_or 5 (l := 0) (h := 31) (k_la_known _) (iv_shl1 (l := 1) (h := 16) (iv_lit (l := 1) (h := 1) (by decide)) hn1 (by decide)) (by decide))
      refine ⟨iv_in hn0 (by decide), ?_⟩
      intro a4 ea4
      have k_a4 := iv_upd ea4 k_la_known hw3
      intro w5 ew5
      exact hpost _ _ _ _ _ _ _ _ _ _ _ _ _ _ _ _ _ _ _ _ _ _ _ _ _ _ _ _ _ k_lf_huts k_lf_singers k_lf_villages k_lf_dams k_lf_echoes k_lf_deep k_lf_slide k_la_heights k_la_ladders k_la_minutes k_la_echoFrom k_la_echoTo k_la_homes k_la_talls k_a4 k_vf_deeds k_va_kinds k_va_firsts k_va_seconds k_sf_facts k_sa_heard k_sa_huts k_sa_minutes k_cf_voices k_cf_step k_ca_parts k_ca_heights
    · skip
      exact (iv_emp (iv_eqa (l := 9) (h := 0) c2 hx1 (iv_lit (l := 0) (h := 0) (by decide)) (by decide)) (by decide)).elim
    · skip
      exact (iv_emp (iv_eqa (l := 9) (h := 1) c2 hx1 (iv_lit (l := 1) (h := 1) (by decide)) (by decide)) (by decide)).elim
    · skip
      exact (iv_emp (iv_eqa (l := 9) (h := 2) c2 hx1 (iv_lit (l := 2) (h := 2) (by decide)) (by decide)) (by decide)).elim
    · skip
      exact (iv_emp (iv_eqa (l := 9) (h := 3) c2 hx1 (iv_lit (l := 3) (h := 3) (by decide)) (by decide)) (by decide)).elim
    · skip
      exact (iv_emp (iv_eqa (l := 9) (h := 4) c2 hx1 (iv_lit (l := 4) (h := 4) (by decide)) (by decide)) (by decide)).elim
    · skip
      exact (iv_emp (iv_eqa (l := 9) (h := 5) c2 hx1 (iv_lit (l := 5) (h := 5) (by decide)) (by decide)) (by decide)).elim
    · skip
      exact (iv_emp (iv_eqa (l := 9) (h := 6) c2 hx1 (iv_lit (l := 6) (h := 6) (by decide)) (by decide)) (by decide)).elim
    · skip
      exact (iv_emp (iv_eqa (l := 9) (h := 7) c2 hx1 (iv_lit (l := 7) (h := 7) (by decide)) (by decide)) (by decide)).elim
    · skip
      exact (iv_emp (iv_eqa (l := 9) (h := 8) c2 hx1 (iv_lit (l := 8) (h := 8) (by decide)) (by decide)) (by decide)).elim
set_option maxRecDepth 20000 in
theorem s_tell_10 {lf_huts : Int32} {lf_singers : Int32} {lf_villages : Int32} {lf_dams : Int32} {lf_echoes : Int32} {lf_deep : Int32} {lf_slide : Int32} {la_heights : Nat → Int32} {la_ladders : Nat → Int32} {la_minutes : Nat → Int32} {la_echoFrom : Nat → Int32} {la_echoTo : Nat → Int32} {la_homes : Nat → Int32} {la_talls : Nat → Int32} {la_known : Nat → Int32} {vf_deeds : Int32} {va_kinds : Nat → Int32} {va_firsts : Nat → Int32} {va_seconds : Nat → Int32} {sf_facts : Int32} {sa_heard : Nat → Int32} {sa_huts : Nat → Int32} {sa_minutes : Nat → Int32} {cf_voices : Int32} {cf_step : Int32} {ca_parts : Nat → Int32} {ca_heights : Nat → Int32} {a_numbers : Nat → Int32} {f_hutsToldOf : Int32} {f_singersToldOf : Int32} {x1 : Int32} {post : (Int32) → (Int32) → (Int32) → (Int32) → (Int32) → (Int32) → (Int32) → (Nat → Int32) → (Nat → Int32) → (Nat → Int32) → (Nat → Int32) → (Nat → Int32) → (Nat → Int32) → (Nat → Int32) → (Nat → Int32) → (Int32) → (Nat → Int32) → (Nat → Int32) → (Nat → Int32) → (Int32) → (Nat → Int32) → (Nat → Int32) → (Nat → Int32) → (Int32) → (Int32) → (Nat → Int32) → (Nat → Int32) → (Int32) → (Int32) → Prop} (k_lf_huts : iv 0 9 lf_huts) (k_lf_singers : iv 0 6 lf_singers) (k_lf_villages : iv 0 511 lf_villages) (k_lf_dams : iv 0 511 lf_dams) (k_lf_echoes : iv 0 4 lf_echoes) (k_lf_deep : iv 1 9 lf_deep) (k_lf_slide : iv 0 10 lf_slide) (k_la_heights : ∀ j, iv 0 99 (la_heights j)) (k_la_ladders : ∀ j, iv 0 9 (la_ladders j)) (k_la_minutes : ∀ j, iv 0 9 (la_minutes j)) (k_la_echoFrom : ∀ j, iv 0 8 (la_echoFrom j)) (k_la_echoTo : ∀ j, iv 0 8 (la_echoTo j)) (k_la_homes : ∀ j, iv 0 8 (la_homes j)) (k_la_talls : ∀ j, iv 0 9 (la_talls j)) (k_la_known : ∀ j, iv 0 31 (la_known j)) (k_vf_deeds : iv 0 39 vf_deeds) (k_va_kinds : ∀ j, iv 0 5 (va_kinds j)) (k_va_firsts : ∀ j, iv 0 5 (va_firsts j)) (k_va_seconds : ∀ j, iv (-1) 8 (va_seconds j)) (k_sf_facts : iv 0 10 sf_facts) (k_sa_heard : ∀ j, iv 0 1 (sa_heard j)) (k_sa_huts : ∀ j, iv 0 8 (sa_huts j)) (k_sa_minutes : ∀ j, iv 0 60 (sa_minutes j)) (k_cf_voices : iv 0 9 cf_voices) (k_cf_step : iv 0 9 cf_step) (k_ca_parts : ∀ j, iv 0 3 (ca_parts j)) (k_ca_heights : ∀ j, iv 0 9 (ca_heights j)) (hx1 : iv 10 10 x1) (hn0 : iv 0 5 (a_numbers (Int32.toNatClampNeg (0 : Int32)))) (hn1 : iv 0 4 (a_numbers (Int32.toNatClampNeg (1 : Int32)))) (hpost : ∀ (lf_huts : Int32) (lf_singers : Int32) (lf_villages : Int32) (lf_dams : Int32) (lf_echoes : Int32) (lf_deep : Int32) (lf_slide : Int32) (la_heights : Nat → Int32) (la_ladders : Nat → Int32) (la_minutes : Nat → Int32) (la_echoFrom : Nat → Int32) (la_echoTo : Nat → Int32) (la_homes : Nat → Int32) (la_talls : Nat → Int32) (la_known : Nat → Int32) (vf_deeds : Int32) (va_kinds : Nat → Int32) (va_firsts : Nat → Int32) (va_seconds : Nat → Int32) (sf_facts : Int32) (sa_heard : Nat → Int32) (sa_huts : Nat → Int32) (sa_minutes : Nat → Int32) (cf_voices : Int32) (cf_step : Int32) (ca_parts : Nat → Int32) (ca_heights : Nat → Int32) (f_hutsToldOf : Int32) (f_singersToldOf : Int32), (iv 0 9 lf_huts) → (iv 0 6 lf_singers) → (iv 0 511 lf_villages) → (iv 0 511 lf_dams) → (iv 0 4 lf_echoes) → (iv 1 9 lf_deep) → (iv 0 10 lf_slide) → (∀ j, iv 0 99 (la_heights j)) → (∀ j, iv 0 9 (la_ladders j)) → (∀ j, iv 0 9 (la_minutes j)) → (∀ j, iv 0 8 (la_echoFrom j)) → (∀ j, iv 0 8 (la_echoTo j)) → (∀ j, iv 0 8 (la_homes j)) → (∀ j, iv 0 9 (la_talls j)) → (∀ j, iv 0 31 (la_known j)) → (iv 0 40 vf_deeds) → (∀ j, iv 0 5 (va_kinds j)) → (∀ j, iv 0 5 (va_firsts j)) → (∀ j, iv (-1) 8 (va_seconds j)) → (iv 0 10 sf_facts) → (∀ j, iv 0 1 (sa_heard j)) → (∀ j, iv 0 8 (sa_huts j)) → (∀ j, iv 0 60 (sa_minutes j)) → (iv 0 9 cf_voices) → (iv 0 9 cf_step) → (∀ j, iv 0 3 (ca_parts j)) → (∀ j, iv 0 9 (ca_heights j)) → post lf_huts lf_singers lf_villages lf_dams lf_echoes lf_deep lf_slide la_heights la_ladders la_minutes la_echoFrom la_echoTo la_homes la_talls la_known vf_deeds va_kinds va_firsts va_seconds sf_facts sa_heard sa_huts sa_minutes cf_voices cf_step ca_parts ca_heights f_hutsToldOf f_singersToldOf) : q_wr_X4_tell_0 lf_huts lf_singers lf_villages lf_dams lf_echoes lf_deep lf_slide la_heights la_ladders la_minutes la_echoFrom la_echoTo la_homes la_talls la_known vf_deeds va_kinds va_firsts va_seconds sf_facts sa_heard sa_huts sa_minutes cf_voices cf_step ca_parts ca_heights a_numbers f_hutsToldOf f_singersToldOf x1 post := by
  refine ⟨fun c1 => ?_, fun c1 => ?_⟩
  · skip
    refine ⟨fun c2 => ?_, fun c2 => ?_⟩
    · skip
      exact (iv_emp (iv_lea (l := 16) (h := 10) (r_le c2) (iv_lit (l := 16) (h := 16) (by decide)) hx1 (by decide)) (by decide)).elim
    · skip
      refine ⟨iv_in hx1 (by decide), ?_⟩
      refine ⟨fun c3 => ?_, fun c3 => ?_⟩
      · skip
        exact (iv_emp (iv_lea (l := 2) (h := 1) (r_le c3) (tbe_1 (l := 2) (h := 2) hx1 (by decide +kernel)) (iv_lit (l := 1) (h := 1) (by decide)) (by decide)) (by decide)).elim
      · skip
        refine ⟨fun c4 => ?_, fun c4 => ?_⟩
        · skip
          exact (iv_emp (iv_lea (l := 40) (h := 39) (r_le c4) (iv_lit (l := 40) (h := 40) (by decide)) k_vf_deeds (by decide)) (by decide)).elim
        · skip
          refine ⟨iv_in k_vf_deeds (by decide), ?_⟩
          intro a5 ea5
          have k_a5 := iv_upd ea5 k_va_kinds (iv_w (iv_sub (l := 0) (h := 0) hx1 (iv_lit (l := 10) (h := 10) (by decide)) (by decide)) (by decide))
          refine ⟨iv_in k_vf_deeds (by decide), ?_⟩
          intro a6 ea6
          have k_a6 := iv_upd ea6 k_va_firsts hn0
          refine ⟨iv_in k_vf_deeds (by decide), ?_⟩
          intro a7 ea7
          have k_a7 := iv_upd ea7 k_va_seconds (iv_w hn1 (by decide))
          intro w8 ew8
          have hw8 := iv_eq ew8 (iv_add (l := 1) (h := 40) k_vf_deeds (iv_lit (l := 1) (h := 1) (by decide)) (by decide))
          exact hpost _ _ _ _ _ _ _ _ _ _ _ _ _ _ _ _ _ _ _ _ _ _ _ _ _ _ _ _ _ k_lf_huts k_lf_singers k_lf_villages k_lf_dams k_lf_echoes k_lf_deep k_lf_slide k_la_heights k_la_ladders k_la_minutes k_la_echoFrom k_la_echoTo k_la_homes k_la_talls k_la_known (iv_w hw8 (by decide)) k_a5 k_a6 k_a7 k_sf_facts k_sa_heard k_sa_huts k_sa_minutes k_cf_voices k_cf_step k_ca_parts k_ca_heights
  · skip
    exact (iv_emp (iv_lta (l := 10) (h := 9) (r_nle c1) hx1 (iv_lit (l := 10) (h := 10) (by decide)) (by decide)) (by decide)).elim
set_option maxRecDepth 20000 in
theorem s_tell_11 {lf_huts : Int32} {lf_singers : Int32} {lf_villages : Int32} {lf_dams : Int32} {lf_echoes : Int32} {lf_deep : Int32} {lf_slide : Int32} {la_heights : Nat → Int32} {la_ladders : Nat → Int32} {la_minutes : Nat → Int32} {la_echoFrom : Nat → Int32} {la_echoTo : Nat → Int32} {la_homes : Nat → Int32} {la_talls : Nat → Int32} {la_known : Nat → Int32} {vf_deeds : Int32} {va_kinds : Nat → Int32} {va_firsts : Nat → Int32} {va_seconds : Nat → Int32} {sf_facts : Int32} {sa_heard : Nat → Int32} {sa_huts : Nat → Int32} {sa_minutes : Nat → Int32} {cf_voices : Int32} {cf_step : Int32} {ca_parts : Nat → Int32} {ca_heights : Nat → Int32} {a_numbers : Nat → Int32} {f_hutsToldOf : Int32} {f_singersToldOf : Int32} {x1 : Int32} {post : (Int32) → (Int32) → (Int32) → (Int32) → (Int32) → (Int32) → (Int32) → (Nat → Int32) → (Nat → Int32) → (Nat → Int32) → (Nat → Int32) → (Nat → Int32) → (Nat → Int32) → (Nat → Int32) → (Nat → Int32) → (Int32) → (Nat → Int32) → (Nat → Int32) → (Nat → Int32) → (Int32) → (Nat → Int32) → (Nat → Int32) → (Nat → Int32) → (Int32) → (Int32) → (Nat → Int32) → (Nat → Int32) → (Int32) → (Int32) → Prop} (k_lf_huts : iv 0 9 lf_huts) (k_lf_singers : iv 0 6 lf_singers) (k_lf_villages : iv 0 511 lf_villages) (k_lf_dams : iv 0 511 lf_dams) (k_lf_echoes : iv 0 4 lf_echoes) (k_lf_deep : iv 1 9 lf_deep) (k_lf_slide : iv 0 10 lf_slide) (k_la_heights : ∀ j, iv 0 99 (la_heights j)) (k_la_ladders : ∀ j, iv 0 9 (la_ladders j)) (k_la_minutes : ∀ j, iv 0 9 (la_minutes j)) (k_la_echoFrom : ∀ j, iv 0 8 (la_echoFrom j)) (k_la_echoTo : ∀ j, iv 0 8 (la_echoTo j)) (k_la_homes : ∀ j, iv 0 8 (la_homes j)) (k_la_talls : ∀ j, iv 0 9 (la_talls j)) (k_la_known : ∀ j, iv 0 31 (la_known j)) (k_vf_deeds : iv 0 39 vf_deeds) (k_va_kinds : ∀ j, iv 0 5 (va_kinds j)) (k_va_firsts : ∀ j, iv 0 5 (va_firsts j)) (k_va_seconds : ∀ j, iv (-1) 8 (va_seconds j)) (k_sf_facts : iv 0 10 sf_facts) (k_sa_heard : ∀ j, iv 0 1 (sa_heard j)) (k_sa_huts : ∀ j, iv 0 8 (sa_huts j)) (k_sa_minutes : ∀ j, iv 0 60 (sa_minutes j)) (k_cf_voices : iv 0 9 cf_voices) (k_cf_step : iv 0 9 cf_step) (k_ca_parts : ∀ j, iv 0 3 (ca_parts j)) (k_ca_heights : ∀ j, iv 0 9 (ca_heights j)) (hx1 : iv 11 11 x1) (hn0 : iv 0 5 (a_numbers (Int32.toNatClampNeg (0 : Int32)))) (hn1 : iv 0 4 (a_numbers (Int32.toNatClampNeg (1 : Int32)))) (hpost : ∀ (lf_huts : Int32) (lf_singers : Int32) (lf_villages : Int32) (lf_dams : Int32) (lf_echoes : Int32) (lf_deep : Int32) (lf_slide : Int32) (la_heights : Nat → Int32) (la_ladders : Nat → Int32) (la_minutes : Nat → Int32) (la_echoFrom : Nat → Int32) (la_echoTo : Nat → Int32) (la_homes : Nat → Int32) (la_talls : Nat → Int32) (la_known : Nat → Int32) (vf_deeds : Int32) (va_kinds : Nat → Int32) (va_firsts : Nat → Int32) (va_seconds : Nat → Int32) (sf_facts : Int32) (sa_heard : Nat → Int32) (sa_huts : Nat → Int32) (sa_minutes : Nat → Int32) (cf_voices : Int32) (cf_step : Int32) (ca_parts : Nat → Int32) (ca_heights : Nat → Int32) (f_hutsToldOf : Int32) (f_singersToldOf : Int32), (iv 0 9 lf_huts) → (iv 0 6 lf_singers) → (iv 0 511 lf_villages) → (iv 0 511 lf_dams) → (iv 0 4 lf_echoes) → (iv 1 9 lf_deep) → (iv 0 10 lf_slide) → (∀ j, iv 0 99 (la_heights j)) → (∀ j, iv 0 9 (la_ladders j)) → (∀ j, iv 0 9 (la_minutes j)) → (∀ j, iv 0 8 (la_echoFrom j)) → (∀ j, iv 0 8 (la_echoTo j)) → (∀ j, iv 0 8 (la_homes j)) → (∀ j, iv 0 9 (la_talls j)) → (∀ j, iv 0 31 (la_known j)) → (iv 0 40 vf_deeds) → (∀ j, iv 0 5 (va_kinds j)) → (∀ j, iv 0 5 (va_firsts j)) → (∀ j, iv (-1) 8 (va_seconds j)) → (iv 0 10 sf_facts) → (∀ j, iv 0 1 (sa_heard j)) → (∀ j, iv 0 8 (sa_huts j)) → (∀ j, iv 0 60 (sa_minutes j)) → (iv 0 9 cf_voices) → (iv 0 9 cf_step) → (∀ j, iv 0 3 (ca_parts j)) → (∀ j, iv 0 9 (ca_heights j)) → post lf_huts lf_singers lf_villages lf_dams lf_echoes lf_deep lf_slide la_heights la_ladders la_minutes la_echoFrom la_echoTo la_homes la_talls la_known vf_deeds va_kinds va_firsts va_seconds sf_facts sa_heard sa_huts sa_minutes cf_voices cf_step ca_parts ca_heights f_hutsToldOf f_singersToldOf) : q_wr_X4_tell_0 lf_huts lf_singers lf_villages lf_dams lf_echoes lf_deep lf_slide la_heights la_ladders la_minutes la_echoFrom la_echoTo la_homes la_talls la_known vf_deeds va_kinds va_firsts va_seconds sf_facts sa_heard sa_huts sa_minutes cf_voices cf_step ca_parts ca_heights a_numbers f_hutsToldOf f_singersToldOf x1 post := by
  refine ⟨fun c1 => ?_, fun c1 => ?_⟩
  · skip
    refine ⟨fun c2 => ?_, fun c2 => ?_⟩
    · skip
      exact (iv_emp (iv_lea (l := 16) (h := 11) (r_le c2) (iv_lit (l := 16) (h := 16) (by decide)) hx1 (by decide)) (by decide)).elim
    · skip
      refine ⟨iv_in hx1 (by decide), ?_⟩
      refine ⟨fun c3 => ?_, fun c3 => ?_⟩
      · skip
        exact (iv_emp (iv_lea (l := 2) (h := 1) (r_le c3) (tbe_1 (l := 2) (h := 2) hx1 (by decide +kernel)) (iv_lit (l := 1) (h := 1) (by decide)) (by decide)) (by decide)).elim
      · skip
        refine ⟨fun c4 => ?_, fun c4 => ?_⟩
        · skip
          exact (iv_emp (iv_lea (l := 40) (h := 39) (r_le c4) (iv_lit (l := 40) (h := 40) (by decide)) k_vf_deeds (by decide)) (by decide)).elim
        · skip
          refine ⟨iv_in k_vf_deeds (by decide), ?_⟩
          intro a5 ea5
          have k_a5 := iv_upd ea5 k_va_kinds (iv_w (iv_sub (l := 1) (h := 1) hx1 (iv_lit (l := 10) (h := 10) (by decide)) (by decide)) (by decide))
          refine ⟨iv_in k_vf_deeds (by decide), ?_⟩
          intro a6 ea6
          have k_a6 := iv_upd ea6 k_va_firsts hn0
          refine ⟨iv_in k_vf_deeds (by decide), ?_⟩
          intro a7 ea7
          have k_a7 := iv_upd ea7 k_va_seconds (iv_w hn1 (by decide))
          intro w8 ew8
          have hw8 := iv_eq ew8 (iv_add (l := 1) (h := 40) k_vf_deeds (iv_lit (l := 1) (h := 1) (by decide)) (by decide))
          exact hpost _ _ _ _ _ _ _ _ _ _ _ _ _ _ _ _ _ _ _ _ _ _ _ _ _ _ _ _ _ k_lf_huts k_lf_singers k_lf_villages k_lf_dams k_lf_echoes k_lf_deep k_lf_slide k_la_heights k_la_ladders k_la_minutes k_la_echoFrom k_la_echoTo k_la_homes k_la_talls k_la_known (iv_w hw8 (by decide)) k_a5 k_a6 k_a7 k_sf_facts k_sa_heard k_sa_huts k_sa_minutes k_cf_voices k_cf_step k_ca_parts k_ca_heights
  · skip
    exact (iv_emp (iv_lta (l := 11) (h := 9) (r_nle c1) hx1 (iv_lit (l := 10) (h := 10) (by decide)) (by decide)) (by decide)).elim
set_option maxRecDepth 20000 in
theorem s_tell_12 {lf_huts : Int32} {lf_singers : Int32} {lf_villages : Int32} {lf_dams : Int32} {lf_echoes : Int32} {lf_deep : Int32} {lf_slide : Int32} {la_heights : Nat → Int32} {la_ladders : Nat → Int32} {la_minutes : Nat → Int32} {la_echoFrom : Nat → Int32} {la_echoTo : Nat → Int32} {la_homes : Nat → Int32} {la_talls : Nat → Int32} {la_known : Nat → Int32} {vf_deeds : Int32} {va_kinds : Nat → Int32} {va_firsts : Nat → Int32} {va_seconds : Nat → Int32} {sf_facts : Int32} {sa_heard : Nat → Int32} {sa_huts : Nat → Int32} {sa_minutes : Nat → Int32} {cf_voices : Int32} {cf_step : Int32} {ca_parts : Nat → Int32} {ca_heights : Nat → Int32} {a_numbers : Nat → Int32} {f_hutsToldOf : Int32} {f_singersToldOf : Int32} {x1 : Int32} {post : (Int32) → (Int32) → (Int32) → (Int32) → (Int32) → (Int32) → (Int32) → (Nat → Int32) → (Nat → Int32) → (Nat → Int32) → (Nat → Int32) → (Nat → Int32) → (Nat → Int32) → (Nat → Int32) → (Nat → Int32) → (Int32) → (Nat → Int32) → (Nat → Int32) → (Nat → Int32) → (Int32) → (Nat → Int32) → (Nat → Int32) → (Nat → Int32) → (Int32) → (Int32) → (Nat → Int32) → (Nat → Int32) → (Int32) → (Int32) → Prop} (k_lf_huts : iv 0 9 lf_huts) (k_lf_singers : iv 0 6 lf_singers) (k_lf_villages : iv 0 511 lf_villages) (k_lf_dams : iv 0 511 lf_dams) (k_lf_echoes : iv 0 4 lf_echoes) (k_lf_deep : iv 1 9 lf_deep) (k_lf_slide : iv 0 10 lf_slide) (k_la_heights : ∀ j, iv 0 99 (la_heights j)) (k_la_ladders : ∀ j, iv 0 9 (la_ladders j)) (k_la_minutes : ∀ j, iv 0 9 (la_minutes j)) (k_la_echoFrom : ∀ j, iv 0 8 (la_echoFrom j)) (k_la_echoTo : ∀ j, iv 0 8 (la_echoTo j)) (k_la_homes : ∀ j, iv 0 8 (la_homes j)) (k_la_talls : ∀ j, iv 0 9 (la_talls j)) (k_la_known : ∀ j, iv 0 31 (la_known j)) (k_vf_deeds : iv 0 39 vf_deeds) (k_va_kinds : ∀ j, iv 0 5 (va_kinds j)) (k_va_firsts : ∀ j, iv 0 5 (va_firsts j)) (k_va_seconds : ∀ j, iv (-1) 8 (va_seconds j)) (k_sf_facts : iv 0 10 sf_facts) (k_sa_heard : ∀ j, iv 0 1 (sa_heard j)) (k_sa_huts : ∀ j, iv 0 8 (sa_huts j)) (k_sa_minutes : ∀ j, iv 0 60 (sa_minutes j)) (k_cf_voices : iv 0 9 cf_voices) (k_cf_step : iv 0 9 cf_step) (k_ca_parts : ∀ j, iv 0 3 (ca_parts j)) (k_ca_heights : ∀ j, iv 0 9 (ca_heights j)) (hx1 : iv 12 12 x1) (hn0 : iv 0 5 (a_numbers (Int32.toNatClampNeg (0 : Int32)))) (hn1 : iv 0 4 (a_numbers (Int32.toNatClampNeg (1 : Int32)))) (hpost : ∀ (lf_huts : Int32) (lf_singers : Int32) (lf_villages : Int32) (lf_dams : Int32) (lf_echoes : Int32) (lf_deep : Int32) (lf_slide : Int32) (la_heights : Nat → Int32) (la_ladders : Nat → Int32) (la_minutes : Nat → Int32) (la_echoFrom : Nat → Int32) (la_echoTo : Nat → Int32) (la_homes : Nat → Int32) (la_talls : Nat → Int32) (la_known : Nat → Int32) (vf_deeds : Int32) (va_kinds : Nat → Int32) (va_firsts : Nat → Int32) (va_seconds : Nat → Int32) (sf_facts : Int32) (sa_heard : Nat → Int32) (sa_huts : Nat → Int32) (sa_minutes : Nat → Int32) (cf_voices : Int32) (cf_step : Int32) (ca_parts : Nat → Int32) (ca_heights : Nat → Int32) (f_hutsToldOf : Int32) (f_singersToldOf : Int32), (iv 0 9 lf_huts) → (iv 0 6 lf_singers) → (iv 0 511 lf_villages) → (iv 0 511 lf_dams) → (iv 0 4 lf_echoes) → (iv 1 9 lf_deep) → (iv 0 10 lf_slide) → (∀ j, iv 0 99 (la_heights j)) → (∀ j, iv 0 9 (la_ladders j)) → (∀ j, iv 0 9 (la_minutes j)) → (∀ j, iv 0 8 (la_echoFrom j)) → (∀ j, iv 0 8 (la_echoTo j)) → (∀ j, iv 0 8 (la_homes j)) → (∀ j, iv 0 9 (la_talls j)) → (∀ j, iv 0 31 (la_known j)) → (iv 0 40 vf_deeds) → (∀ j, iv 0 5 (va_kinds j)) → (∀ j, iv 0 5 (va_firsts j)) → (∀ j, iv (-1) 8 (va_seconds j)) → (iv 0 10 sf_facts) → (∀ j, iv 0 1 (sa_heard j)) → (∀ j, iv 0 8 (sa_huts j)) → (∀ j, iv 0 60 (sa_minutes j)) → (iv 0 9 cf_voices) → (iv 0 9 cf_step) → (∀ j, iv 0 3 (ca_parts j)) → (∀ j, iv 0 9 (ca_heights j)) → post lf_huts lf_singers lf_villages lf_dams lf_echoes lf_deep lf_slide la_heights la_ladders la_minutes la_echoFrom la_echoTo la_homes la_talls la_known vf_deeds va_kinds va_firsts va_seconds sf_facts sa_heard sa_huts sa_minutes cf_voices cf_step ca_parts ca_heights f_hutsToldOf f_singersToldOf) : q_wr_X4_tell_0 lf_huts lf_singers lf_villages lf_dams lf_echoes lf_deep lf_slide la_heights la_ladders la_minutes la_echoFrom la_echoTo la_homes la_talls la_known vf_deeds va_kinds va_firsts va_seconds sf_facts sa_heard sa_huts sa_minutes cf_voices cf_step ca_parts ca_heights a_numbers f_hutsToldOf f_singersToldOf x1 post := by
  refine ⟨fun c1 => ?_, fun c1 => ?_⟩
  · skip
    refine ⟨fun c2 => ?_, fun c2 => ?_⟩
    · skip
      exact (iv_emp (iv_lea (l := 16) (h := 12) (r_le c2) (iv_lit (l := 16) (h := 16) (by decide)) hx1 (by decide)) (by decide)).elim
    · skip
      refine ⟨iv_in hx1 (by decide), ?_⟩
      refine ⟨fun c3 => ?_, fun c3 => ?_⟩
      · skip
        exact (iv_emp (iv_lea (l := 2) (h := 1) (r_le c3) (tbe_1 (l := 2) (h := 2) hx1 (by decide +kernel)) (iv_lit (l := 1) (h := 1) (by decide)) (by decide)) (by decide)).elim
      · skip
        refine ⟨fun c4 => ?_, fun c4 => ?_⟩
        · skip
          exact (iv_emp (iv_lea (l := 40) (h := 39) (r_le c4) (iv_lit (l := 40) (h := 40) (by decide)) k_vf_deeds (by decide)) (by decide)).elim
        · skip
          refine ⟨iv_in k_vf_deeds (by decide), ?_⟩
          intro a5 ea5
          have k_a5 := iv_upd ea5 k_va_kinds (iv_w (iv_sub (l := 2) (h := 2) hx1 (iv_lit (l := 10) (h := 10) (by decide)) (by decide)) (by decide))
          refine ⟨iv_in k_vf_deeds (by decide), ?_⟩
          intro a6 ea6
          have k_a6 := iv_upd ea6 k_va_firsts hn0
          refine ⟨iv_in k_vf_deeds (by decide), ?_⟩
          intro a7 ea7
          have k_a7 := iv_upd ea7 k_va_seconds (iv_w hn1 (by decide))
          intro w8 ew8
          have hw8 := iv_eq ew8 (iv_add (l := 1) (h := 40) k_vf_deeds (iv_lit (l := 1) (h := 1) (by decide)) (by decide))
          exact hpost _ _ _ _ _ _ _ _ _ _ _ _ _ _ _ _ _ _ _ _ _ _ _ _ _ _ _ _ _ k_lf_huts k_lf_singers k_lf_villages k_lf_dams k_lf_echoes k_lf_deep k_lf_slide k_la_heights k_la_ladders k_la_minutes k_la_echoFrom k_la_echoTo k_la_homes k_la_talls k_la_known (iv_w hw8 (by decide)) k_a5 k_a6 k_a7 k_sf_facts k_sa_heard k_sa_huts k_sa_minutes k_cf_voices k_cf_step k_ca_parts k_ca_heights
  · skip
    exact (iv_emp (iv_lta (l := 12) (h := 9) (r_nle c1) hx1 (iv_lit (l := 10) (h := 10) (by decide)) (by decide)) (by decide)).elim
set_option maxRecDepth 20000 in
theorem s_tell_13 {lf_huts : Int32} {lf_singers : Int32} {lf_villages : Int32} {lf_dams : Int32} {lf_echoes : Int32} {lf_deep : Int32} {lf_slide : Int32} {la_heights : Nat → Int32} {la_ladders : Nat → Int32} {la_minutes : Nat → Int32} {la_echoFrom : Nat → Int32} {la_echoTo : Nat → Int32} {la_homes : Nat → Int32} {la_talls : Nat → Int32} {la_known : Nat → Int32} {vf_deeds : Int32} {va_kinds : Nat → Int32} {va_firsts : Nat → Int32} {va_seconds : Nat → Int32} {sf_facts : Int32} {sa_heard : Nat → Int32} {sa_huts : Nat → Int32} {sa_minutes : Nat → Int32} {cf_voices : Int32} {cf_step : Int32} {ca_parts : Nat → Int32} {ca_heights : Nat → Int32} {a_numbers : Nat → Int32} {f_hutsToldOf : Int32} {f_singersToldOf : Int32} {x1 : Int32} {post : (Int32) → (Int32) → (Int32) → (Int32) → (Int32) → (Int32) → (Int32) → (Nat → Int32) → (Nat → Int32) → (Nat → Int32) → (Nat → Int32) → (Nat → Int32) → (Nat → Int32) → (Nat → Int32) → (Nat → Int32) → (Int32) → (Nat → Int32) → (Nat → Int32) → (Nat → Int32) → (Int32) → (Nat → Int32) → (Nat → Int32) → (Nat → Int32) → (Int32) → (Int32) → (Nat → Int32) → (Nat → Int32) → (Int32) → (Int32) → Prop} (k_lf_huts : iv 0 9 lf_huts) (k_lf_singers : iv 0 6 lf_singers) (k_lf_villages : iv 0 511 lf_villages) (k_lf_dams : iv 0 511 lf_dams) (k_lf_echoes : iv 0 4 lf_echoes) (k_lf_deep : iv 1 9 lf_deep) (k_lf_slide : iv 0 10 lf_slide) (k_la_heights : ∀ j, iv 0 99 (la_heights j)) (k_la_ladders : ∀ j, iv 0 9 (la_ladders j)) (k_la_minutes : ∀ j, iv 0 9 (la_minutes j)) (k_la_echoFrom : ∀ j, iv 0 8 (la_echoFrom j)) (k_la_echoTo : ∀ j, iv 0 8 (la_echoTo j)) (k_la_homes : ∀ j, iv 0 8 (la_homes j)) (k_la_talls : ∀ j, iv 0 9 (la_talls j)) (k_la_known : ∀ j, iv 0 31 (la_known j)) (k_vf_deeds : iv 0 39 vf_deeds) (k_va_kinds : ∀ j, iv 0 5 (va_kinds j)) (k_va_firsts : ∀ j, iv 0 5 (va_firsts j)) (k_va_seconds : ∀ j, iv (-1) 8 (va_seconds j)) (k_sf_facts : iv 0 10 sf_facts) (k_sa_heard : ∀ j, iv 0 1 (sa_heard j)) (k_sa_huts : ∀ j, iv 0 8 (sa_huts j)) (k_sa_minutes : ∀ j, iv 0 60 (sa_minutes j)) (k_cf_voices : iv 0 9 cf_voices) (k_cf_step : iv 0 9 cf_step) (k_ca_parts : ∀ j, iv 0 3 (ca_parts j)) (k_ca_heights : ∀ j, iv 0 9 (ca_heights j)) (hx1 : iv 13 13 x1) (hn0 : iv 0 5 (a_numbers (Int32.toNatClampNeg (0 : Int32)))) (hn1 : iv 0 8 (a_numbers (Int32.toNatClampNeg (1 : Int32)))) (hpost : ∀ (lf_huts : Int32) (lf_singers : Int32) (lf_villages : Int32) (lf_dams : Int32) (lf_echoes : Int32) (lf_deep : Int32) (lf_slide : Int32) (la_heights : Nat → Int32) (la_ladders : Nat → Int32) (la_minutes : Nat → Int32) (la_echoFrom : Nat → Int32) (la_echoTo : Nat → Int32) (la_homes : Nat → Int32) (la_talls : Nat → Int32) (la_known : Nat → Int32) (vf_deeds : Int32) (va_kinds : Nat → Int32) (va_firsts : Nat → Int32) (va_seconds : Nat → Int32) (sf_facts : Int32) (sa_heard : Nat → Int32) (sa_huts : Nat → Int32) (sa_minutes : Nat → Int32) (cf_voices : Int32) (cf_step : Int32) (ca_parts : Nat → Int32) (ca_heights : Nat → Int32) (f_hutsToldOf : Int32) (f_singersToldOf : Int32), (iv 0 9 lf_huts) → (iv 0 6 lf_singers) → (iv 0 511 lf_villages) → (iv 0 511 lf_dams) → (iv 0 4 lf_echoes) → (iv 1 9 lf_deep) → (iv 0 10 lf_slide) → (∀ j, iv 0 99 (la_heights j)) → (∀ j, iv 0 9 (la_ladders j)) → (∀ j, iv 0 9 (la_minutes j)) → (∀ j, iv 0 8 (la_echoFrom j)) → (∀ j, iv 0 8 (la_echoTo j)) → (∀ j, iv 0 8 (la_homes j)) → (∀ j, iv 0 9 (la_talls j)) → (∀ j, iv 0 31 (la_known j)) → (iv 0 40 vf_deeds) → (∀ j, iv 0 5 (va_kinds j)) → (∀ j, iv 0 5 (va_firsts j)) → (∀ j, iv (-1) 8 (va_seconds j)) → (iv 0 10 sf_facts) → (∀ j, iv 0 1 (sa_heard j)) → (∀ j, iv 0 8 (sa_huts j)) → (∀ j, iv 0 60 (sa_minutes j)) → (iv 0 9 cf_voices) → (iv 0 9 cf_step) → (∀ j, iv 0 3 (ca_parts j)) → (∀ j, iv 0 9 (ca_heights j)) → post lf_huts lf_singers lf_villages lf_dams lf_echoes lf_deep lf_slide la_heights la_ladders la_minutes la_echoFrom la_echoTo la_homes la_talls la_known vf_deeds va_kinds va_firsts va_seconds sf_facts sa_heard sa_huts sa_minutes cf_voices cf_step ca_parts ca_heights f_hutsToldOf f_singersToldOf) : q_wr_X4_tell_0 lf_huts lf_singers lf_villages lf_dams lf_echoes lf_deep lf_slide la_heights la_ladders la_minutes la_echoFrom la_echoTo la_homes la_talls la_known vf_deeds va_kinds va_firsts va_seconds sf_facts sa_heard sa_huts sa_minutes cf_voices cf_step ca_parts ca_heights a_numbers f_hutsToldOf f_singersToldOf x1 post := by
  refine ⟨fun c1 => ?_, fun c1 => ?_⟩
  · skip
    refine ⟨fun c2 => ?_, fun c2 => ?_⟩
    · skip
      exact (iv_emp (iv_lea (l := 16) (h := 13) (r_le c2) (iv_lit (l := 16) (h := 16) (by decide)) hx1 (by decide)) (by decide)).elim
    · skip
      refine ⟨iv_in hx1 (by decide), ?_⟩
      refine ⟨fun c3 => ?_, fun c3 => ?_⟩
      · skip
        exact (iv_emp (iv_lea (l := 2) (h := 1) (r_le c3) (tbe_1 (l := 2) (h := 2) hx1 (by decide +kernel)) (iv_lit (l := 1) (h := 1) (by decide)) (by decide)) (by decide)).elim
      · skip
        refine ⟨fun c4 => ?_, fun c4 => ?_⟩
        · skip
          exact (iv_emp (iv_lea (l := 40) (h := 39) (r_le c4) (iv_lit (l := 40) (h := 40) (by decide)) k_vf_deeds (by decide)) (by decide)).elim
        · skip
          refine ⟨iv_in k_vf_deeds (by decide), ?_⟩
          intro a5 ea5
          have k_a5 := iv_upd ea5 k_va_kinds (iv_w (iv_sub (l := 3) (h := 3) hx1 (iv_lit (l := 10) (h := 10) (by decide)) (by decide)) (by decide))
          refine ⟨iv_in k_vf_deeds (by decide), ?_⟩
          intro a6 ea6
          have k_a6 := iv_upd ea6 k_va_firsts hn0
          refine ⟨iv_in k_vf_deeds (by decide), ?_⟩
          intro a7 ea7
          have k_a7 := iv_upd ea7 k_va_seconds (iv_w hn1 (by decide))
          intro w8 ew8
          have hw8 := iv_eq ew8 (iv_add (l := 1) (h := 40) k_vf_deeds (iv_lit (l := 1) (h := 1) (by decide)) (by decide))
          exact hpost _ _ _ _ _ _ _ _ _ _ _ _ _ _ _ _ _ _ _ _ _ _ _ _ _ _ _ _ _ k_lf_huts k_lf_singers k_lf_villages k_lf_dams k_lf_echoes k_lf_deep k_lf_slide k_la_heights k_la_ladders k_la_minutes k_la_echoFrom k_la_echoTo k_la_homes k_la_talls k_la_known (iv_w hw8 (by decide)) k_a5 k_a6 k_a7 k_sf_facts k_sa_heard k_sa_huts k_sa_minutes k_cf_voices k_cf_step k_ca_parts k_ca_heights
  · skip
    exact (iv_emp (iv_lta (l := 13) (h := 9) (r_nle c1) hx1 (iv_lit (l := 10) (h := 10) (by decide)) (by decide)) (by decide)).elim
set_option maxRecDepth 20000 in
theorem s_tell_14 {lf_huts : Int32} {lf_singers : Int32} {lf_villages : Int32} {lf_dams : Int32} {lf_echoes : Int32} {lf_deep : Int32} {lf_slide : Int32} {la_heights : Nat → Int32} {la_ladders : Nat → Int32} {la_minutes : Nat → Int32} {la_echoFrom : Nat → Int32} {la_echoTo : Nat → Int32} {la_homes : Nat → Int32} {la_talls : Nat → Int32} {la_known : Nat → Int32} {vf_deeds : Int32} {va_kinds : Nat → Int32} {va_firsts : Nat → Int32} {va_seconds : Nat → Int32} {sf_facts : Int32} {sa_heard : Nat → Int32} {sa_huts : Nat → Int32} {sa_minutes : Nat → Int32} {cf_voices : Int32} {cf_step : Int32} {ca_parts : Nat → Int32} {ca_heights : Nat → Int32} {a_numbers : Nat → Int32} {f_hutsToldOf : Int32} {f_singersToldOf : Int32} {x1 : Int32} {post : (Int32) → (Int32) → (Int32) → (Int32) → (Int32) → (Int32) → (Int32) → (Nat → Int32) → (Nat → Int32) → (Nat → Int32) → (Nat → Int32) → (Nat → Int32) → (Nat → Int32) → (Nat → Int32) → (Nat → Int32) → (Int32) → (Nat → Int32) → (Nat → Int32) → (Nat → Int32) → (Int32) → (Nat → Int32) → (Nat → Int32) → (Nat → Int32) → (Int32) → (Int32) → (Nat → Int32) → (Nat → Int32) → (Int32) → (Int32) → Prop} (k_lf_huts : iv 0 9 lf_huts) (k_lf_singers : iv 0 6 lf_singers) (k_lf_villages : iv 0 511 lf_villages) (k_lf_dams : iv 0 511 lf_dams) (k_lf_echoes : iv 0 4 lf_echoes) (k_lf_deep : iv 1 9 lf_deep) (k_lf_slide : iv 0 10 lf_slide) (k_la_heights : ∀ j, iv 0 99 (la_heights j)) (k_la_ladders : ∀ j, iv 0 9 (la_ladders j)) (k_la_minutes : ∀ j, iv 0 9 (la_minutes j)) (k_la_echoFrom : ∀ j, iv 0 8 (la_echoFrom j)) (k_la_echoTo : ∀ j, iv 0 8 (la_echoTo j)) (k_la_homes : ∀ j, iv 0 8 (la_homes j)) (k_la_talls : ∀ j, iv 0 9 (la_talls j)) (k_la_known : ∀ j, iv 0 31 (la_known j)) (k_vf_deeds : iv 0 39 vf_deeds) (k_va_kinds : ∀ j, iv 0 5 (va_kinds j)) (k_va_firsts : ∀ j, iv 0 5 (va_firsts j)) (k_va_seconds : ∀ j, iv (-1) 8 (va_seconds j)) (k_sf_facts : iv 0 10 sf_facts) (k_sa_heard : ∀ j, iv 0 1 (sa_heard j)) (k_sa_huts : ∀ j, iv 0 8 (sa_huts j)) (k_sa_minutes : ∀ j, iv 0 60 (sa_minutes j)) (k_cf_voices : iv 0 9 cf_voices) (k_cf_step : iv 0 9 cf_step) (k_ca_parts : ∀ j, iv 0 3 (ca_parts j)) (k_ca_heights : ∀ j, iv 0 9 (ca_heights j)) (hx1 : iv 14 14 x1) (hn0 : iv 0 5 (a_numbers (Int32.toNatClampNeg (0 : Int32)))) (hpost : ∀ (lf_huts : Int32) (lf_singers : Int32) (lf_villages : Int32) (lf_dams : Int32) (lf_echoes : Int32) (lf_deep : Int32) (lf_slide : Int32) (la_heights : Nat → Int32) (la_ladders : Nat → Int32) (la_minutes : Nat → Int32) (la_echoFrom : Nat → Int32) (la_echoTo : Nat → Int32) (la_homes : Nat → Int32) (la_talls : Nat → Int32) (la_known : Nat → Int32) (vf_deeds : Int32) (va_kinds : Nat → Int32) (va_firsts : Nat → Int32) (va_seconds : Nat → Int32) (sf_facts : Int32) (sa_heard : Nat → Int32) (sa_huts : Nat → Int32) (sa_minutes : Nat → Int32) (cf_voices : Int32) (cf_step : Int32) (ca_parts : Nat → Int32) (ca_heights : Nat → Int32) (f_hutsToldOf : Int32) (f_singersToldOf : Int32), (iv 0 9 lf_huts) → (iv 0 6 lf_singers) → (iv 0 511 lf_villages) → (iv 0 511 lf_dams) → (iv 0 4 lf_echoes) → (iv 1 9 lf_deep) → (iv 0 10 lf_slide) → (∀ j, iv 0 99 (la_heights j)) → (∀ j, iv 0 9 (la_ladders j)) → (∀ j, iv 0 9 (la_minutes j)) → (∀ j, iv 0 8 (la_echoFrom j)) → (∀ j, iv 0 8 (la_echoTo j)) → (∀ j, iv 0 8 (la_homes j)) → (∀ j, iv 0 9 (la_talls j)) → (∀ j, iv 0 31 (la_known j)) → (iv 0 40 vf_deeds) → (∀ j, iv 0 5 (va_kinds j)) → (∀ j, iv 0 5 (va_firsts j)) → (∀ j, iv (-1) 8 (va_seconds j)) → (iv 0 10 sf_facts) → (∀ j, iv 0 1 (sa_heard j)) → (∀ j, iv 0 8 (sa_huts j)) → (∀ j, iv 0 60 (sa_minutes j)) → (iv 0 9 cf_voices) → (iv 0 9 cf_step) → (∀ j, iv 0 3 (ca_parts j)) → (∀ j, iv 0 9 (ca_heights j)) → post lf_huts lf_singers lf_villages lf_dams lf_echoes lf_deep lf_slide la_heights la_ladders la_minutes la_echoFrom la_echoTo la_homes la_talls la_known vf_deeds va_kinds va_firsts va_seconds sf_facts sa_heard sa_huts sa_minutes cf_voices cf_step ca_parts ca_heights f_hutsToldOf f_singersToldOf) : q_wr_X4_tell_0 lf_huts lf_singers lf_villages lf_dams lf_echoes lf_deep lf_slide la_heights la_ladders la_minutes la_echoFrom la_echoTo la_homes la_talls la_known vf_deeds va_kinds va_firsts va_seconds sf_facts sa_heard sa_huts sa_minutes cf_voices cf_step ca_parts ca_heights a_numbers f_hutsToldOf f_singersToldOf x1 post := by
  refine ⟨fun c1 => ?_, fun c1 => ?_⟩
  · skip
    refine ⟨fun c2 => ?_, fun c2 => ?_⟩
    · skip
      exact (iv_emp (iv_lea (l := 16) (h := 14) (r_le c2) (iv_lit (l := 16) (h := 16) (by decide)) hx1 (by decide)) (by decide)).elim
    · skip
      refine ⟨iv_in hx1 (by decide), ?_⟩
      refine ⟨fun c3 => ?_, fun c3 => ?_⟩
      · skip
        refine ⟨fun c4 => ?_, fun c4 => ?_⟩
        · skip
          exact (iv_emp (iv_lea (l := 40) (h := 39) (r_le c4) (iv_lit (l := 40) (h := 40) (by decide)) k_vf_deeds (by decide)) (by decide)).elim
        · skip
          refine ⟨iv_in k_vf_deeds (by decide), ?_⟩
          intro a5 ea5
          have k_a5 := iv_upd ea5 k_va_kinds (iv_w (iv_sub (l := 4) (h := 4) hx1 (iv_lit (l := 10) (h := 10) (by decide)) (by decide)) (by decide))
          refine ⟨iv_in k_vf_deeds (by decide), ?_⟩
          intro a6 ea6
          have k_a6 := iv_upd ea6 k_va_firsts hn0
          refine ⟨iv_in k_vf_deeds (by decide), ?_⟩
          intro a7 ea7
          have k_a7 := iv_upd ea7 k_va_seconds (iv_w (iv_lit (l := (-1)) (h := (-1)) (by decide)) (by decide))
          intro w8 ew8
          have hw8 := iv_eq ew8 (iv_add (l := 1) (h := 40) k_vf_deeds (iv_lit (l := 1) (h := 1) (by decide)) (by decide))
          exact hpost _ _ _ _ _ _ _ _ _ _ _ _ _ _ _ _ _ _ _ _ _ _ _ _ _ _ _ _ _ k_lf_huts k_lf_singers k_lf_villages k_lf_dams k_lf_echoes k_lf_deep k_lf_slide k_la_heights k_la_ladders k_la_minutes k_la_echoFrom k_la_echoTo k_la_homes k_la_talls k_la_known (iv_w hw8 (by decide)) k_a5 k_a6 k_a7 k_sf_facts k_sa_heard k_sa_huts k_sa_minutes k_cf_voices k_cf_step k_ca_parts k_ca_heights
      · skip
        exact (iv_emp (iv_lta (l := 1) (h := 0) (r_nle c3) (iv_lit (l := 1) (h := 1) (by decide)) (tbe_1 (l := 1) (h := 1) hx1 (by decide +kernel)) (by decide)) (by decide)).elim
  · skip
    exact (iv_emp (iv_lta (l := 14) (h := 9) (r_nle c1) hx1 (iv_lit (l := 10) (h := 10) (by decide)) (by decide)) (by decide)).elim
set_option maxRecDepth 20000 in
theorem s_tell_15 {lf_huts : Int32} {lf_singers : Int32} {lf_villages : Int32} {lf_dams : Int32} {lf_echoes : Int32} {lf_deep : Int32} {lf_slide : Int32} {la_heights : Nat → Int32} {la_ladders : Nat → Int32} {la_minutes : Nat → Int32} {la_echoFrom : Nat → Int32} {la_echoTo : Nat → Int32} {la_homes : Nat → Int32} {la_talls : Nat → Int32} {la_known : Nat → Int32} {vf_deeds : Int32} {va_kinds : Nat → Int32} {va_firsts : Nat → Int32} {va_seconds : Nat → Int32} {sf_facts : Int32} {sa_heard : Nat → Int32} {sa_huts : Nat → Int32} {sa_minutes : Nat → Int32} {cf_voices : Int32} {cf_step : Int32} {ca_parts : Nat → Int32} {ca_heights : Nat → Int32} {a_numbers : Nat → Int32} {f_hutsToldOf : Int32} {f_singersToldOf : Int32} {x1 : Int32} {post : (Int32) → (Int32) → (Int32) → (Int32) → (Int32) → (Int32) → (Int32) → (Nat → Int32) → (Nat → Int32) → (Nat → Int32) → (Nat → Int32) → (Nat → Int32) → (Nat → Int32) → (Nat → Int32) → (Nat → Int32) → (Int32) → (Nat → Int32) → (Nat → Int32) → (Nat → Int32) → (Int32) → (Nat → Int32) → (Nat → Int32) → (Nat → Int32) → (Int32) → (Int32) → (Nat → Int32) → (Nat → Int32) → (Int32) → (Int32) → Prop} (k_lf_huts : iv 0 9 lf_huts) (k_lf_singers : iv 0 6 lf_singers) (k_lf_villages : iv 0 511 lf_villages) (k_lf_dams : iv 0 511 lf_dams) (k_lf_echoes : iv 0 4 lf_echoes) (k_lf_deep : iv 1 9 lf_deep) (k_lf_slide : iv 0 10 lf_slide) (k_la_heights : ∀ j, iv 0 99 (la_heights j)) (k_la_ladders : ∀ j, iv 0 9 (la_ladders j)) (k_la_minutes : ∀ j, iv 0 9 (la_minutes j)) (k_la_echoFrom : ∀ j, iv 0 8 (la_echoFrom j)) (k_la_echoTo : ∀ j, iv 0 8 (la_echoTo j)) (k_la_homes : ∀ j, iv 0 8 (la_homes j)) (k_la_talls : ∀ j, iv 0 9 (la_talls j)) (k_la_known : ∀ j, iv 0 31 (la_known j)) (k_vf_deeds : iv 0 39 vf_deeds) (k_va_kinds : ∀ j, iv 0 5 (va_kinds j)) (k_va_firsts : ∀ j, iv 0 5 (va_firsts j)) (k_va_seconds : ∀ j, iv (-1) 8 (va_seconds j)) (k_sf_facts : iv 0 10 sf_facts) (k_sa_heard : ∀ j, iv 0 1 (sa_heard j)) (k_sa_huts : ∀ j, iv 0 8 (sa_huts j)) (k_sa_minutes : ∀ j, iv 0 60 (sa_minutes j)) (k_cf_voices : iv 0 9 cf_voices) (k_cf_step : iv 0 9 cf_step) (k_ca_parts : ∀ j, iv 0 3 (ca_parts j)) (k_ca_heights : ∀ j, iv 0 9 (ca_heights j)) (hx1 : iv 15 15 x1) (hn0 : iv 0 5 (a_numbers (Int32.toNatClampNeg (0 : Int32)))) (hpost : ∀ (lf_huts : Int32) (lf_singers : Int32) (lf_villages : Int32) (lf_dams : Int32) (lf_echoes : Int32) (lf_deep : Int32) (lf_slide : Int32) (la_heights : Nat → Int32) (la_ladders : Nat → Int32) (la_minutes : Nat → Int32) (la_echoFrom : Nat → Int32) (la_echoTo : Nat → Int32) (la_homes : Nat → Int32) (la_talls : Nat → Int32) (la_known : Nat → Int32) (vf_deeds : Int32) (va_kinds : Nat → Int32) (va_firsts : Nat → Int32) (va_seconds : Nat → Int32) (sf_facts : Int32) (sa_heard : Nat → Int32) (sa_huts : Nat → Int32) (sa_minutes : Nat → Int32) (cf_voices : Int32) (cf_step : Int32) (ca_parts : Nat → Int32) (ca_heights : Nat → Int32) (f_hutsToldOf : Int32) (f_singersToldOf : Int32), (iv 0 9 lf_huts) → (iv 0 6 lf_singers) → (iv 0 511 lf_villages) → (iv 0 511 lf_dams) → (iv 0 4 lf_echoes) → (iv 1 9 lf_deep) → (iv 0 10 lf_slide) → (∀ j, iv 0 99 (la_heights j)) → (∀ j, iv 0 9 (la_ladders j)) → (∀ j, iv 0 9 (la_minutes j)) → (∀ j, iv 0 8 (la_echoFrom j)) → (∀ j, iv 0 8 (la_echoTo j)) → (∀ j, iv 0 8 (la_homes j)) → (∀ j, iv 0 9 (la_talls j)) → (∀ j, iv 0 31 (la_known j)) → (iv 0 40 vf_deeds) → (∀ j, iv 0 5 (va_kinds j)) → (∀ j, iv 0 5 (va_firsts j)) → (∀ j, iv (-1) 8 (va_seconds j)) → (iv 0 10 sf_facts) → (∀ j, iv 0 1 (sa_heard j)) → (∀ j, iv 0 8 (sa_huts j)) → (∀ j, iv 0 60 (sa_minutes j)) → (iv 0 9 cf_voices) → (iv 0 9 cf_step) → (∀ j, iv 0 3 (ca_parts j)) → (∀ j, iv 0 9 (ca_heights j)) → post lf_huts lf_singers lf_villages lf_dams lf_echoes lf_deep lf_slide la_heights la_ladders la_minutes la_echoFrom la_echoTo la_homes la_talls la_known vf_deeds va_kinds va_firsts va_seconds sf_facts sa_heard sa_huts sa_minutes cf_voices cf_step ca_parts ca_heights f_hutsToldOf f_singersToldOf) : q_wr_X4_tell_0 lf_huts lf_singers lf_villages lf_dams lf_echoes lf_deep lf_slide la_heights la_ladders la_minutes la_echoFrom la_echoTo la_homes la_talls la_known vf_deeds va_kinds va_firsts va_seconds sf_facts sa_heard sa_huts sa_minutes cf_voices cf_step ca_parts ca_heights a_numbers f_hutsToldOf f_singersToldOf x1 post := by
  refine ⟨fun c1 => ?_, fun c1 => ?_⟩
  · skip
    refine ⟨fun c2 => ?_, fun c2 => ?_⟩
    · skip
      exact (iv_emp (iv_lea (l := 16) (h := 15) (r_le c2) (iv_lit (l := 16) (h := 16) (by decide)) hx1 (by decide)) (by decide)).elim
    · skip
      refine ⟨iv_in hx1 (by decide), ?_⟩
      refine ⟨fun c3 => ?_, fun c3 => ?_⟩
      · skip
        refine ⟨fun c4 => ?_, fun c4 => ?_⟩
        · skip
          exact (iv_emp (iv_lea (l := 40) (h := 39) (r_le c4) (iv_lit (l := 40) (h := 40) (by decide)) k_vf_deeds (by decide)) (by decide)).elim
        · skip
          refine ⟨iv_in k_vf_deeds (by decide), ?_⟩
          intro a5 ea5
          have k_a5 := iv_upd ea5 k_va_kinds (iv_w (iv_sub (l := 5) (h := 5) hx1 (iv_lit (l := 10) (h := 10) (by decide)) (by decide)) (by decide))
          refine ⟨iv_in k_vf_deeds (by decide), ?_⟩
          intro a6 ea6
          have k_a6 := iv_upd ea6 k_va_firsts hn0
          refine ⟨iv_in k_vf_deeds (by decide), ?_⟩
          intro a7 ea7
          have k_a7 := iv_upd ea7 k_va_seconds (iv_w (iv_lit (l := (-1)) (h := (-1)) (by decide)) (by decide))
          intro w8 ew8
          have hw8 := iv_eq ew8 (iv_add (l := 1) (h := 40) k_vf_deeds (iv_lit (l := 1) (h := 1) (by decide)) (by decide))
          exact hpost _ _ _ _ _ _ _ _ _ _ _ _ _ _ _ _ _ _ _ _ _ _ _ _ _ _ _ _ _ k_lf_huts k_lf_singers k_lf_villages k_lf_dams k_lf_echoes k_lf_deep k_lf_slide k_la_heights k_la_ladders k_la_minutes k_la_echoFrom k_la_echoTo k_la_homes k_la_talls k_la_known (iv_w hw8 (by decide)) k_a5 k_a6 k_a7 k_sf_facts k_sa_heard k_sa_huts k_sa_minutes k_cf_voices k_cf_step k_ca_parts k_ca_heights
      · skip
        exact (iv_emp (iv_lta (l := 1) (h := 0) (r_nle c3) (iv_lit (l := 1) (h := 1) (by decide)) (tbe_1 (l := 1) (h := 1) hx1 (by decide +kernel)) (by decide)) (by decide)).elim
  · skip
    exact (iv_emp (iv_lta (l := 15) (h := 9) (r_nle c1) hx1 (iv_lit (l := 10) (h := 10) (by decide)) (by decide)) (by decide)).elim
set_option maxRecDepth 20000 in
theorem s_tell_16 {lf_huts : Int32} {lf_singers : Int32} {lf_villages : Int32} {lf_dams : Int32} {lf_echoes : Int32} {lf_deep : Int32} {lf_slide : Int32} {la_heights : Nat → Int32} {la_ladders : Nat → Int32} {la_minutes : Nat → Int32} {la_echoFrom : Nat → Int32} {la_echoTo : Nat → Int32} {la_homes : Nat → Int32} {la_talls : Nat → Int32} {la_known : Nat → Int32} {vf_deeds : Int32} {va_kinds : Nat → Int32} {va_firsts : Nat → Int32} {va_seconds : Nat → Int32} {sf_facts : Int32} {sa_heard : Nat → Int32} {sa_huts : Nat → Int32} {sa_minutes : Nat → Int32} {cf_voices : Int32} {cf_step : Int32} {ca_parts : Nat → Int32} {ca_heights : Nat → Int32} {a_numbers : Nat → Int32} {f_hutsToldOf : Int32} {f_singersToldOf : Int32} {x1 : Int32} {post : (Int32) → (Int32) → (Int32) → (Int32) → (Int32) → (Int32) → (Int32) → (Nat → Int32) → (Nat → Int32) → (Nat → Int32) → (Nat → Int32) → (Nat → Int32) → (Nat → Int32) → (Nat → Int32) → (Nat → Int32) → (Int32) → (Nat → Int32) → (Nat → Int32) → (Nat → Int32) → (Int32) → (Nat → Int32) → (Nat → Int32) → (Nat → Int32) → (Int32) → (Int32) → (Nat → Int32) → (Nat → Int32) → (Int32) → (Int32) → Prop} (k_lf_huts : iv 0 9 lf_huts) (k_lf_singers : iv 0 6 lf_singers) (k_lf_villages : iv 0 511 lf_villages) (k_lf_dams : iv 0 511 lf_dams) (k_lf_echoes : iv 0 4 lf_echoes) (k_lf_deep : iv 1 9 lf_deep) (k_lf_slide : iv 0 10 lf_slide) (k_la_heights : ∀ j, iv 0 99 (la_heights j)) (k_la_ladders : ∀ j, iv 0 9 (la_ladders j)) (k_la_minutes : ∀ j, iv 0 9 (la_minutes j)) (k_la_echoFrom : ∀ j, iv 0 8 (la_echoFrom j)) (k_la_echoTo : ∀ j, iv 0 8 (la_echoTo j)) (k_la_homes : ∀ j, iv 0 8 (la_homes j)) (k_la_talls : ∀ j, iv 0 9 (la_talls j)) (k_la_known : ∀ j, iv 0 31 (la_known j)) (k_vf_deeds : iv 0 40 vf_deeds) (k_va_kinds : ∀ j, iv 0 5 (va_kinds j)) (k_va_firsts : ∀ j, iv 0 5 (va_firsts j)) (k_va_seconds : ∀ j, iv (-1) 8 (va_seconds j)) (k_sf_facts : iv 0 9 sf_facts) (k_sa_heard : ∀ j, iv 0 1 (sa_heard j)) (k_sa_huts : ∀ j, iv 0 8 (sa_huts j)) (k_sa_minutes : ∀ j, iv 0 60 (sa_minutes j)) (k_cf_voices : iv 0 9 cf_voices) (k_cf_step : iv 0 9 cf_step) (k_ca_parts : ∀ j, iv 0 3 (ca_parts j)) (k_ca_heights : ∀ j, iv 0 9 (ca_heights j)) (hx1 : iv 16 16 x1) (hn0 : iv 0 8 (a_numbers (Int32.toNatClampNeg (0 : Int32)))) (hn1 : iv 0 60 (a_numbers (Int32.toNatClampNeg (1 : Int32)))) (hpost : ∀ (lf_huts : Int32) (lf_singers : Int32) (lf_villages : Int32) (lf_dams : Int32) (lf_echoes : Int32) (lf_deep : Int32) (lf_slide : Int32) (la_heights : Nat → Int32) (la_ladders : Nat → Int32) (la_minutes : Nat → Int32) (la_echoFrom : Nat → Int32) (la_echoTo : Nat → Int32) (la_homes : Nat → Int32) (la_talls : Nat → Int32) (la_known : Nat → Int32) (vf_deeds : Int32) (va_kinds : Nat → Int32) (va_firsts : Nat → Int32) (va_seconds : Nat → Int32) (sf_facts : Int32) (sa_heard : Nat → Int32) (sa_huts : Nat → Int32) (sa_minutes : Nat → Int32) (cf_voices : Int32) (cf_step : Int32) (ca_parts : Nat → Int32) (ca_heights : Nat → Int32) (f_hutsToldOf : Int32) (f_singersToldOf : Int32), (iv 0 9 lf_huts) → (iv 0 6 lf_singers) → (iv 0 511 lf_villages) → (iv 0 511 lf_dams) → (iv 0 4 lf_echoes) → (iv 1 9 lf_deep) → (iv 0 10 lf_slide) → (∀ j, iv 0 99 (la_heights j)) → (∀ j, iv 0 9 (la_ladders j)) → (∀ j, iv 0 9 (la_minutes j)) → (∀ j, iv 0 8 (la_echoFrom j)) → (∀ j, iv 0 8 (la_echoTo j)) → (∀ j, iv 0 8 (la_homes j)) → (∀ j, iv 0 9 (la_talls j)) → (∀ j, iv 0 31 (la_known j)) → (iv 0 40 vf_deeds) → (∀ j, iv 0 5 (va_kinds j)) → (∀ j, iv 0 5 (va_firsts j)) → (∀ j, iv (-1) 8 (va_seconds j)) → (iv 0 10 sf_facts) → (∀ j, iv 0 1 (sa_heard j)) → (∀ j, iv 0 8 (sa_huts j)) → (∀ j, iv 0 60 (sa_minutes j)) → (iv 0 9 cf_voices) → (iv 0 9 cf_step) → (∀ j, iv 0 3 (ca_parts j)) → (∀ j, iv 0 9 (ca_heights j)) → post lf_huts lf_singers lf_villages lf_dams lf_echoes lf_deep lf_slide la_heights la_ladders la_minutes la_echoFrom la_echoTo la_homes la_talls la_known vf_deeds va_kinds va_firsts va_seconds sf_facts sa_heard sa_huts sa_minutes cf_voices cf_step ca_parts ca_heights f_hutsToldOf f_singersToldOf) : q_wr_X4_tell_0 lf_huts lf_singers lf_villages lf_dams lf_echoes lf_deep lf_slide la_heights la_ladders la_minutes la_echoFrom la_echoTo la_homes la_talls la_known vf_deeds va_kinds va_firsts va_seconds sf_facts sa_heard sa_huts sa_minutes cf_voices cf_step ca_parts ca_heights a_numbers f_hutsToldOf f_singersToldOf x1 post := by
  refine ⟨fun c1 => ?_, fun c1 => ?_⟩
  · skip
    refine ⟨fun c2 => ?_, fun c2 => ?_⟩
    · skip
      refine ⟨fun c3 => ?_, fun c3 => ?_⟩
      · skip
        exact (iv_emp (iv_lea (l := 18) (h := 16) (r_le c3) (iv_lit (l := 18) (h := 18) (by decide)) hx1 (by decide)) (by decide)).elim
      · skip
        refine ⟨fun c4 => ?_, fun c4 => ?_⟩
        · skip
          exact (iv_emp (iv_ne (l := 17) (h := 16) c4 hx1 (iv_lit (l := 16) (h := 16) (by decide)) (by decide)) (by decide)).elim
        · skip
          refine ⟨fun c5 => ?_, fun c5 => ?_⟩
          · skip
            exact (iv_emp (iv_lea (l := 10) (h := 9) (r_le c5) (iv_lit (l := 10) (h := 10) (by decide)) k_sf_facts (by decide)) (by decide)).elim
          · skip
            refine ⟨iv_in k_sf_facts (by decide), ?_⟩
            intro a6 ea6
            have k_a6 := iv_upd ea6 k_sa_heard (iv_w (iv_lit (l := 1) (h := 1) (by decide)) (by decide))
            refine ⟨iv_in k_sf_facts (by decide), ?_⟩
            intro a7 ea7
            have k_a7 := iv_upd ea7 k_sa_huts hn0
            refine ⟨iv_in k_sf_facts (by decide), ?_⟩
            intro a8 ea8
            have k_a8 := iv_upd ea8 k_sa_minutes hn1
            intro w9 ew9
            have hw9 := iv_eq ew9 (iv_add (l := 1) (h := 10) k_sf_facts (iv_lit (l := 1) (h := 1) (by decide)) (by decide))
            exact hpost _ _ _ _ _ _ _ _ _ _ _ _ _ _ _ _ _ _ _ _ _ _ _ _ _ _ _ _ _ k_lf_huts k_lf_singers k_lf_villages k_lf_dams k_lf_echoes k_lf_deep k_lf_slide k_la_heights k_la_ladders k_la_minutes k_la_echoFrom k_la_echoTo k_la_homes k_la_talls k_la_known k_vf_deeds k_va_kinds k_va_firsts k_va_seconds (iv_w hw9 (by decide)) k_a6 k_a7 k_a8 k_cf_voices k_cf_step k_ca_parts k_ca_heights
    · skip
      exact (iv_emp (iv_lta (l := 16) (h := 15) (r_nle c2) hx1 (iv_lit (l := 16) (h := 16) (by decide)) (by decide)) (by decide)).elim
  · skip
    exact (iv_emp (iv_lta (l := 16) (h := 9) (r_nle c1) hx1 (iv_lit (l := 10) (h := 10) (by decide)) (by decide)) (by decide)).elim
set_option maxRecDepth 20000 in
theorem s_tell_17 {lf_huts : Int32} {lf_singers : Int32} {lf_villages : Int32} {lf_dams : Int32} {lf_echoes : Int32} {lf_deep : Int32} {lf_slide : Int32} {la_heights : Nat → Int32} {la_ladders : Nat → Int32} {la_minutes : Nat → Int32} {la_echoFrom : Nat → Int32} {la_echoTo : Nat → Int32} {la_homes : Nat → Int32} {la_talls : Nat → Int32} {la_known : Nat → Int32} {vf_deeds : Int32} {va_kinds : Nat → Int32} {va_firsts : Nat → Int32} {va_seconds : Nat → Int32} {sf_facts : Int32} {sa_heard : Nat → Int32} {sa_huts : Nat → Int32} {sa_minutes : Nat → Int32} {cf_voices : Int32} {cf_step : Int32} {ca_parts : Nat → Int32} {ca_heights : Nat → Int32} {a_numbers : Nat → Int32} {f_hutsToldOf : Int32} {f_singersToldOf : Int32} {x1 : Int32} {post : (Int32) → (Int32) → (Int32) → (Int32) → (Int32) → (Int32) → (Int32) → (Nat → Int32) → (Nat → Int32) → (Nat → Int32) → (Nat → Int32) → (Nat → Int32) → (Nat → Int32) → (Nat → Int32) → (Nat → Int32) → (Int32) → (Nat → Int32) → (Nat → Int32) → (Nat → Int32) → (Int32) → (Nat → Int32) → (Nat → Int32) → (Nat → Int32) → (Int32) → (Int32) → (Nat → Int32) → (Nat → Int32) → (Int32) → (Int32) → Prop} (k_lf_huts : iv 0 9 lf_huts) (k_lf_singers : iv 0 6 lf_singers) (k_lf_villages : iv 0 511 lf_villages) (k_lf_dams : iv 0 511 lf_dams) (k_lf_echoes : iv 0 4 lf_echoes) (k_lf_deep : iv 1 9 lf_deep) (k_lf_slide : iv 0 10 lf_slide) (k_la_heights : ∀ j, iv 0 99 (la_heights j)) (k_la_ladders : ∀ j, iv 0 9 (la_ladders j)) (k_la_minutes : ∀ j, iv 0 9 (la_minutes j)) (k_la_echoFrom : ∀ j, iv 0 8 (la_echoFrom j)) (k_la_echoTo : ∀ j, iv 0 8 (la_echoTo j)) (k_la_homes : ∀ j, iv 0 8 (la_homes j)) (k_la_talls : ∀ j, iv 0 9 (la_talls j)) (k_la_known : ∀ j, iv 0 31 (la_known j)) (k_vf_deeds : iv 0 40 vf_deeds) (k_va_kinds : ∀ j, iv 0 5 (va_kinds j)) (k_va_firsts : ∀ j, iv 0 5 (va_firsts j)) (k_va_seconds : ∀ j, iv (-1) 8 (va_seconds j)) (k_sf_facts : iv 0 9 sf_facts) (k_sa_heard : ∀ j, iv 0 1 (sa_heard j)) (k_sa_huts : ∀ j, iv 0 8 (sa_huts j)) (k_sa_minutes : ∀ j, iv 0 60 (sa_minutes j)) (k_cf_voices : iv 0 9 cf_voices) (k_cf_step : iv 0 9 cf_step) (k_ca_parts : ∀ j, iv 0 3 (ca_parts j)) (k_ca_heights : ∀ j, iv 0 9 (ca_heights j)) (hx1 : iv 17 17 x1) (hn0 : iv 0 8 (a_numbers (Int32.toNatClampNeg (0 : Int32)))) (hn1 : iv 0 60 (a_numbers (Int32.toNatClampNeg (1 : Int32)))) (hpost : ∀ (lf_huts : Int32) (lf_singers : Int32) (lf_villages : Int32) (lf_dams : Int32) (lf_echoes : Int32) (lf_deep : Int32) (lf_slide : Int32) (la_heights : Nat → Int32) (la_ladders : Nat → Int32) (la_minutes : Nat → Int32) (la_echoFrom : Nat → Int32) (la_echoTo : Nat → Int32) (la_homes : Nat → Int32) (la_talls : Nat → Int32) (la_known : Nat → Int32) (vf_deeds : Int32) (va_kinds : Nat → Int32) (va_firsts : Nat → Int32) (va_seconds : Nat → Int32) (sf_facts : Int32) (sa_heard : Nat → Int32) (sa_huts : Nat → Int32) (sa_minutes : Nat → Int32) (cf_voices : Int32) (cf_step : Int32) (ca_parts : Nat → Int32) (ca_heights : Nat → Int32) (f_hutsToldOf : Int32) (f_singersToldOf : Int32), (iv 0 9 lf_huts) → (iv 0 6 lf_singers) → (iv 0 511 lf_villages) → (iv 0 511 lf_dams) → (iv 0 4 lf_echoes) → (iv 1 9 lf_deep) → (iv 0 10 lf_slide) → (∀ j, iv 0 99 (la_heights j)) → (∀ j, iv 0 9 (la_ladders j)) → (∀ j, iv 0 9 (la_minutes j)) → (∀ j, iv 0 8 (la_echoFrom j)) → (∀ j, iv 0 8 (la_echoTo j)) → (∀ j, iv 0 8 (la_homes j)) → (∀ j, iv 0 9 (la_talls j)) → (∀ j, iv 0 31 (la_known j)) → (iv 0 40 vf_deeds) → (∀ j, iv 0 5 (va_kinds j)) → (∀ j, iv 0 5 (va_firsts j)) → (∀ j, iv (-1) 8 (va_seconds j)) → (iv 0 10 sf_facts) → (∀ j, iv 0 1 (sa_heard j)) → (∀ j, iv 0 8 (sa_huts j)) → (∀ j, iv 0 60 (sa_minutes j)) → (iv 0 9 cf_voices) → (iv 0 9 cf_step) → (∀ j, iv 0 3 (ca_parts j)) → (∀ j, iv 0 9 (ca_heights j)) → post lf_huts lf_singers lf_villages lf_dams lf_echoes lf_deep lf_slide la_heights la_ladders la_minutes la_echoFrom la_echoTo la_homes la_talls la_known vf_deeds va_kinds va_firsts va_seconds sf_facts sa_heard sa_huts sa_minutes cf_voices cf_step ca_parts ca_heights f_hutsToldOf f_singersToldOf) : q_wr_X4_tell_0 lf_huts lf_singers lf_villages lf_dams lf_echoes lf_deep lf_slide la_heights la_ladders la_minutes la_echoFrom la_echoTo la_homes la_talls la_known vf_deeds va_kinds va_firsts va_seconds sf_facts sa_heard sa_huts sa_minutes cf_voices cf_step ca_parts ca_heights a_numbers f_hutsToldOf f_singersToldOf x1 post := by
  refine ⟨fun c1 => ?_, fun c1 => ?_⟩
  · skip
    refine ⟨fun c2 => ?_, fun c2 => ?_⟩
    · skip
      refine ⟨fun c3 => ?_, fun c3 => ?_⟩
      · skip
        exact (iv_emp (iv_lea (l := 18) (h := 17) (r_le c3) (iv_lit (l := 18) (h := 18) (by decide)) hx1 (by decide)) (by decide)).elim
      · skip
        refine ⟨fun c4 => ?_, fun c4 => ?_⟩
        · skip
          refine ⟨fun c5 => ?_, fun c5 => ?_⟩
          · skip
            exact (iv_emp (iv_lea (l := 10) (h := 9) (r_le c5) (iv_lit (l := 10) (h := 10) (by decide)) k_sf_facts (by decide)) (by decide)).elim
          · skip
            refine ⟨iv_in k_sf_facts (by decide), ?_⟩
            intro a6 ea6
            have k_a6 := iv_upd ea6 k_sa_heard (iv_w (iv_lit (l := 0) (h := 0) (by decide)) (by decide))
            refine ⟨iv_in k_sf_facts (by decide), ?_⟩
            intro a7 ea7
            have k_a7 := iv_upd ea7 k_sa_huts hn0
            refine ⟨iv_in k_sf_facts (by decide), ?_⟩
            intro a8 ea8
            have k_a8 := iv_upd ea8 k_sa_minutes hn1
            intro w9 ew9
            have hw9 := iv_eq ew9 (iv_add (l := 1) (h := 10) k_sf_facts (iv_lit (l := 1) (h := 1) (by decide)) (by decide))
            exact hpost _ _ _ _ _ _ _ _ _ _ _ _ _ _ _ _ _ _ _ _ _ _ _ _ _ _ _ _ _ k_lf_huts k_lf_singers k_lf_villages k_lf_dams k_lf_echoes k_lf_deep k_lf_slide k_la_heights k_la_ladders k_la_minutes k_la_echoFrom k_la_echoTo k_la_homes k_la_talls k_la_known k_vf_deeds k_va_kinds k_va_firsts k_va_seconds (iv_w hw9 (by decide)) k_a6 k_a7 k_a8 k_cf_voices k_cf_step k_ca_parts k_ca_heights
        · skip
          exact (iv_emp (iv_eqa (l := 17) (h := 16) c4 hx1 (iv_lit (l := 16) (h := 16) (by decide)) (by decide)) (by decide)).elim
    · skip
      exact (iv_emp (iv_lta (l := 17) (h := 15) (r_nle c2) hx1 (iv_lit (l := 16) (h := 16) (by decide)) (by decide)) (by decide)).elim
  · skip
    exact (iv_emp (iv_lta (l := 17) (h := 9) (r_nle c1) hx1 (iv_lit (l := 10) (h := 10) (by decide)) (by decide)) (by decide)).elim
set_option maxRecDepth 20000 in
theorem s_tell_18 {lf_huts : Int32} {lf_singers : Int32} {lf_villages : Int32} {lf_dams : Int32} {lf_echoes : Int32} {lf_deep : Int32} {lf_slide : Int32} {la_heights : Nat → Int32} {la_ladders : Nat → Int32} {la_minutes : Nat → Int32} {la_echoFrom : Nat → Int32} {la_echoTo : Nat → Int32} {la_homes : Nat → Int32} {la_talls : Nat → Int32} {la_known : Nat → Int32} {vf_deeds : Int32} {va_kinds : Nat → Int32} {va_firsts : Nat → Int32} {va_seconds : Nat → Int32} {sf_facts : Int32} {sa_heard : Nat → Int32} {sa_huts : Nat → Int32} {sa_minutes : Nat → Int32} {cf_voices : Int32} {cf_step : Int32} {ca_parts : Nat → Int32} {ca_heights : Nat → Int32} {a_numbers : Nat → Int32} {f_hutsToldOf : Int32} {f_singersToldOf : Int32} {x1 : Int32} {post : (Int32) → (Int32) → (Int32) → (Int32) → (Int32) → (Int32) → (Int32) → (Nat → Int32) → (Nat → Int32) → (Nat → Int32) → (Nat → Int32) → (Nat → Int32) → (Nat → Int32) → (Nat → Int32) → (Nat → Int32) → (Int32) → (Nat → Int32) → (Nat → Int32) → (Nat → Int32) → (Int32) → (Nat → Int32) → (Nat → Int32) → (Nat → Int32) → (Int32) → (Int32) → (Nat → Int32) → (Nat → Int32) → (Int32) → (Int32) → Prop} (k_lf_huts : iv 0 9 lf_huts) (k_lf_singers : iv 0 6 lf_singers) (k_lf_villages : iv 0 511 lf_villages) (k_lf_dams : iv 0 511 lf_dams) (k_lf_echoes : iv 0 4 lf_echoes) (k_lf_deep : iv 1 9 lf_deep) (k_lf_slide : iv 0 10 lf_slide) (k_la_heights : ∀ j, iv 0 99 (la_heights j)) (k_la_ladders : ∀ j, iv 0 9 (la_ladders j)) (k_la_minutes : ∀ j, iv 0 9 (la_minutes j)) (k_la_echoFrom : ∀ j, iv 0 8 (la_echoFrom j)) (k_la_echoTo : ∀ j, iv 0 8 (la_echoTo j)) (k_la_homes : ∀ j, iv 0 8 (la_homes j)) (k_la_talls : ∀ j, iv 0 9 (la_talls j)) (k_la_known : ∀ j, iv 0 31 (la_known j)) (k_vf_deeds : iv 0 40 vf_deeds) (k_va_kinds : ∀ j, iv 0 5 (va_kinds j)) (k_va_firsts : ∀ j, iv 0 5 (va_firsts j)) (k_va_seconds : ∀ j, iv (-1) 8 (va_seconds j)) (k_sf_facts : iv 0 10 sf_facts) (k_sa_heard : ∀ j, iv 0 1 (sa_heard j)) (k_sa_huts : ∀ j, iv 0 8 (sa_huts j)) (k_sa_minutes : ∀ j, iv 0 60 (sa_minutes j)) (k_cf_voices : iv 0 8 cf_voices) (k_cf_step : iv 0 9 cf_step) (k_ca_parts : ∀ j, iv 0 3 (ca_parts j)) (k_ca_heights : ∀ j, iv 0 9 (ca_heights j)) (hx1 : iv 18 18 x1) (hn0 : iv 0 3 (a_numbers (Int32.toNatClampNeg (0 : Int32)))) (hn1 : iv 0 9 (a_numbers (Int32.toNatClampNeg (1 : Int32)))) (hpost : ∀ (lf_huts : Int32) (lf_singers : Int32) (lf_villages : Int32) (lf_dams : Int32) (lf_echoes : Int32) (lf_deep : Int32) (lf_slide : Int32) (la_heights : Nat → Int32) (la_ladders : Nat → Int32) (la_minutes : Nat → Int32) (la_echoFrom : Nat → Int32) (la_echoTo : Nat → Int32) (la_homes : Nat → Int32) (la_talls : Nat → Int32) (la_known : Nat → Int32) (vf_deeds : Int32) (va_kinds : Nat → Int32) (va_firsts : Nat → Int32) (va_seconds : Nat → Int32) (sf_facts : Int32) (sa_heard : Nat → Int32) (sa_huts : Nat → Int32) (sa_minutes : Nat → Int32) (cf_voices : Int32) (cf_step : Int32) (ca_parts : Nat → Int32) (ca_heights : Nat → Int32) (f_hutsToldOf : Int32) (f_singersToldOf : Int32), (iv 0 9 lf_huts) → (iv 0 6 lf_singers) → (iv 0 511 lf_villages) → (iv 0 511 lf_dams) → (iv 0 4 lf_echoes) → (iv 1 9 lf_deep) → (iv 0 10 lf_slide) → (∀ j, iv 0 99 (la_heights j)) → (∀ j, iv 0 9 (la_ladders j)) → (∀ j, iv 0 9 (la_minutes j)) → (∀ j, iv 0 8 (la_echoFrom j)) → (∀ j, iv 0 8 (la_echoTo j)) → (∀ j, iv 0 8 (la_homes j)) → (∀ j, iv 0 9 (la_talls j)) → (∀ j, iv 0 31 (la_known j)) → (iv 0 40 vf_deeds) → (∀ j, iv 0 5 (va_kinds j)) → (∀ j, iv 0 5 (va_firsts j)) → (∀ j, iv (-1) 8 (va_seconds j)) → (iv 0 10 sf_facts) → (∀ j, iv 0 1 (sa_heard j)) → (∀ j, iv 0 8 (sa_huts j)) → (∀ j, iv 0 60 (sa_minutes j)) → (iv 0 9 cf_voices) → (iv 0 9 cf_step) → (∀ j, iv 0 3 (ca_parts j)) → (∀ j, iv 0 9 (ca_heights j)) → post lf_huts lf_singers lf_villages lf_dams lf_echoes lf_deep lf_slide la_heights la_ladders la_minutes la_echoFrom la_echoTo la_homes la_talls la_known vf_deeds va_kinds va_firsts va_seconds sf_facts sa_heard sa_huts sa_minutes cf_voices cf_step ca_parts ca_heights f_hutsToldOf f_singersToldOf) : q_wr_X4_tell_0 lf_huts lf_singers lf_villages lf_dams lf_echoes lf_deep lf_slide la_heights la_ladders la_minutes la_echoFrom la_echoTo la_homes la_talls la_known vf_deeds va_kinds va_firsts va_seconds sf_facts sa_heard sa_huts sa_minutes cf_voices cf_step ca_parts ca_heights a_numbers f_hutsToldOf f_singersToldOf x1 post := by
  refine ⟨fun c1 => ?_, fun c1 => ?_⟩
  · skip
    refine ⟨fun c2 => ?_, fun c2 => ?_⟩
    · skip
      refine ⟨fun c3 => ?_, fun c3 => ?_⟩
      · skip
        refine ⟨fun c4 => ?_, fun c4 => ?_⟩
        · skip
          exact (iv_emp (iv_ne (l := 19) (h := 18) c4 hx1 (iv_lit (l := 18) (h := 18) (by decide)) (by decide)) (by decide)).elim
        · skip
          refine ⟨fun c5 => ?_, fun c5 => ?_⟩
          · skip
            exact (iv_emp (iv_lea (l := 9) (h := 8) (r_le c5) (iv_lit (l := 9) (h := 9) (by decide)) k_cf_voices (by decide)) (by decide)).elim
          · skip
            refine ⟨iv_in k_cf_voices (by decide), ?_⟩
            intro a6 ea6
            have k_a6 := iv_upd ea6 k_ca_parts hn0
            refine ⟨iv_in k_cf_voices (by decide), ?_⟩
            intro a7 ea7
            have k_a7 := iv_upd ea7 k_ca_heights hn1
            intro w8 ew8
            have hw8 := iv_eq ew8 (iv_add (l := 1) (h := 9) k_cf_voices (iv_lit (l := 1) (h := 1) (by decide)) (by decide))
            exact hpost _ _ _ _ _ _ _ _ _ _ _ _ _ _ _ _ _ _ _ _ _ _ _ _ _ _ _ _ _ k_lf_huts k_lf_singers k_lf_villages k_lf_dams k_lf_echoes k_lf_deep k_lf_slide k_la_heights k_la_ladders k_la_minutes k_la_echoFrom k_la_echoTo k_la_homes k_la_talls k_la_known k_vf_deeds k_va_kinds k_va_firsts k_va_seconds k_sf_facts k_sa_heard k_sa_huts k_sa_minutes (iv_w hw8 (by decide)) k_cf_step k_a6 k_a7
      · skip
        exact (iv_emp (iv_lta (l := 18) (h := 17) (r_nle c3) hx1 (iv_lit (l := 18) (h := 18) (by decide)) (by decide)) (by decide)).elim
    · skip
      exact (iv_emp (iv_lta (l := 18) (h := 15) (r_nle c2) hx1 (iv_lit (l := 16) (h := 16) (by decide)) (by decide)) (by decide)).elim
  · skip
    exact (iv_emp (iv_lta (l := 18) (h := 9) (r_nle c1) hx1 (iv_lit (l := 10) (h := 10) (by decide)) (by decide)) (by decide)).elim
set_option maxRecDepth 20000 in
theorem s_tell_19 {lf_huts : Int32} {lf_singers : Int32} {lf_villages : Int32} {lf_dams : Int32} {lf_echoes : Int32} {lf_deep : Int32} {lf_slide : Int32} {la_heights : Nat → Int32} {la_ladders : Nat → Int32} {la_minutes : Nat → Int32} {la_echoFrom : Nat → Int32} {la_echoTo : Nat → Int32} {la_homes : Nat → Int32} {la_talls : Nat → Int32} {la_known : Nat → Int32} {vf_deeds : Int32} {va_kinds : Nat → Int32} {va_firsts : Nat → Int32} {va_seconds : Nat → Int32} {sf_facts : Int32} {sa_heard : Nat → Int32} {sa_huts : Nat → Int32} {sa_minutes : Nat → Int32} {cf_voices : Int32} {cf_step : Int32} {ca_parts : Nat → Int32} {ca_heights : Nat → Int32} {a_numbers : Nat → Int32} {f_hutsToldOf : Int32} {f_singersToldOf : Int32} {x1 : Int32} {post : (Int32) → (Int32) → (Int32) → (Int32) → (Int32) → (Int32) → (Int32) → (Nat → Int32) → (Nat → Int32) → (Nat → Int32) → (Nat → Int32) → (Nat → Int32) → (Nat → Int32) → (Nat → Int32) → (Nat → Int32) → (Int32) → (Nat → Int32) → (Nat → Int32) → (Nat → Int32) → (Int32) → (Nat → Int32) → (Nat → Int32) → (Nat → Int32) → (Int32) → (Int32) → (Nat → Int32) → (Nat → Int32) → (Int32) → (Int32) → Prop} (k_lf_huts : iv 0 9 lf_huts) (k_lf_singers : iv 0 6 lf_singers) (k_lf_villages : iv 0 511 lf_villages) (k_lf_dams : iv 0 511 lf_dams) (k_lf_echoes : iv 0 4 lf_echoes) (k_lf_deep : iv 1 9 lf_deep) (k_lf_slide : iv 0 10 lf_slide) (k_la_heights : ∀ j, iv 0 99 (la_heights j)) (k_la_ladders : ∀ j, iv 0 9 (la_ladders j)) (k_la_minutes : ∀ j, iv 0 9 (la_minutes j)) (k_la_echoFrom : ∀ j, iv 0 8 (la_echoFrom j)) (k_la_echoTo : ∀ j, iv 0 8 (la_echoTo j)) (k_la_homes : ∀ j, iv 0 8 (la_homes j)) (k_la_talls : ∀ j, iv 0 9 (la_talls j)) (k_la_known : ∀ j, iv 0 31 (la_known j)) (k_vf_deeds : iv 0 40 vf_deeds) (k_va_kinds : ∀ j, iv 0 5 (va_kinds j)) (k_va_firsts : ∀ j, iv 0 5 (va_firsts j)) (k_va_seconds : ∀ j, iv (-1) 8 (va_seconds j)) (k_sf_facts : iv 0 10 sf_facts) (k_sa_heard : ∀ j, iv 0 1 (sa_heard j)) (k_sa_huts : ∀ j, iv 0 8 (sa_huts j)) (k_sa_minutes : ∀ j, iv 0 60 (sa_minutes j)) (k_cf_voices : iv 0 9 cf_voices) (k_cf_step : iv 0 9 cf_step) (k_ca_parts : ∀ j, iv 0 3 (ca_parts j)) (k_ca_heights : ∀ j, iv 0 9 (ca_heights j)) (hx1 : iv 19 19 x1) (hn0 : iv 0 9 (a_numbers (Int32.toNatClampNeg (0 : Int32)))) (hpost : ∀ (lf_huts : Int32) (lf_singers : Int32) (lf_villages : Int32) (lf_dams : Int32) (lf_echoes : Int32) (lf_deep : Int32) (lf_slide : Int32) (la_heights : Nat → Int32) (la_ladders : Nat → Int32) (la_minutes : Nat → Int32) (la_echoFrom : Nat → Int32) (la_echoTo : Nat → Int32) (la_homes : Nat → Int32) (la_talls : Nat → Int32) (la_known : Nat → Int32) (vf_deeds : Int32) (va_kinds : Nat → Int32) (va_firsts : Nat → Int32) (va_seconds : Nat → Int32) (sf_facts : Int32) (sa_heard : Nat → Int32) (sa_huts : Nat → Int32) (sa_minutes : Nat → Int32) (cf_voices : Int32) (cf_step : Int32) (ca_parts : Nat → Int32) (ca_heights : Nat → Int32) (f_hutsToldOf : Int32) (f_singersToldOf : Int32), (iv 0 9 lf_huts) → (iv 0 6 lf_singers) → (iv 0 511 lf_villages) → (iv 0 511 lf_dams) → (iv 0 4 lf_echoes) → (iv 1 9 lf_deep) → (iv 0 10 lf_slide) → (∀ j, iv 0 99 (la_heights j)) → (∀ j, iv 0 9 (la_ladders j)) → (∀ j, iv 0 9 (la_minutes j)) → (∀ j, iv 0 8 (la_echoFrom j)) → (∀ j, iv 0 8 (la_echoTo j)) → (∀ j, iv 0 8 (la_homes j)) → (∀ j, iv 0 9 (la_talls j)) → (∀ j, iv 0 31 (la_known j)) → (iv 0 40 vf_deeds) → (∀ j, iv 0 5 (va_kinds j)) → (∀ j, iv 0 5 (va_firsts j)) → (∀ j, iv (-1) 8 (va_seconds j)) → (iv 0 10 sf_facts) → (∀ j, iv 0 1 (sa_heard j)) → (∀ j, iv 0 8 (sa_huts j)) → (∀ j, iv 0 60 (sa_minutes j)) → (iv 0 9 cf_voices) → (iv 0 9 cf_step) → (∀ j, iv 0 3 (ca_parts j)) → (∀ j, iv 0 9 (ca_heights j)) → post lf_huts lf_singers lf_villages lf_dams lf_echoes lf_deep lf_slide la_heights la_ladders la_minutes la_echoFrom la_echoTo la_homes la_talls la_known vf_deeds va_kinds va_firsts va_seconds sf_facts sa_heard sa_huts sa_minutes cf_voices cf_step ca_parts ca_heights f_hutsToldOf f_singersToldOf) : q_wr_X4_tell_0 lf_huts lf_singers lf_villages lf_dams lf_echoes lf_deep lf_slide la_heights la_ladders la_minutes la_echoFrom la_echoTo la_homes la_talls la_known vf_deeds va_kinds va_firsts va_seconds sf_facts sa_heard sa_huts sa_minutes cf_voices cf_step ca_parts ca_heights a_numbers f_hutsToldOf f_singersToldOf x1 post := by
  refine ⟨fun c1 => ?_, fun c1 => ?_⟩
  · skip
    refine ⟨fun c2 => ?_, fun c2 => ?_⟩
    · skip
      refine ⟨fun c3 => ?_, fun c3 => ?_⟩
      · skip
        refine ⟨fun c4 => ?_, fun c4 => ?_⟩
        · skip
          intro w5 ew5
          have hw5 := iv_eq ew5 hn0
          exact hpost _ _ _ _ _ _ _ _ _ _ _ _ _ _ _ _ _ _ _ _ _ _ _ _ _ _ _ _ _ k_lf_huts k_lf_singers k_lf_villages k_lf_dams k_lf_echoes k_lf_deep k_lf_slide k_la_heights k_la_ladders k_la_minutes k_la_echoFrom k_la_echoTo k_la_homes k_la_talls k_la_known k_vf_deeds k_va_kinds k_va_firsts k_va_seconds k_sf_facts k_sa_heard k_sa_huts k_sa_minutes k_cf_voices hw5 k_ca_parts k_ca_heights
        · skip
          exact (iv_emp (iv_eqa (l := 19) (h := 18) c4 hx1 (iv_lit (l := 18) (h := 18) (by decide)) (by decide)) (by decide)).elim
      · skip
        exact (iv_emp (iv_lta (l := 19) (h := 17) (r_nle c3) hx1 (iv_lit (l := 18) (h := 18) (by decide)) (by decide)) (by decide)).elim
    · skip
      exact (iv_emp (iv_lta (l := 19) (h := 15) (r_nle c2) hx1 (iv_lit (l := 16) (h := 16) (by decide)) (by decide)) (by decide)).elim
  · skip
    exact (iv_emp (iv_lta (l := 19) (h := 9) (r_nle c1) hx1 (iv_lit (l := 10) (h := 10) (by decide)) (by decide)) (by decide)).elim
set_option maxRecDepth 20000 in
theorem s_wr_X4_tell_0 {lf_huts : Int32} {lf_singers : Int32} {lf_villages : Int32} {lf_dams : Int32} {lf_echoes : Int32} {lf_deep : Int32} {lf_slide : Int32} {la_heights : Nat → Int32} {la_ladders : Nat → Int32} {la_minutes : Nat → Int32} {la_echoFrom : Nat → Int32} {la_echoTo : Nat → Int32} {la_homes : Nat → Int32} {la_talls : Nat → Int32} {la_known : Nat → Int32} {vf_deeds : Int32} {va_kinds : Nat → Int32} {va_firsts : Nat → Int32} {va_seconds : Nat → Int32} {sf_facts : Int32} {sa_heard : Nat → Int32} {sa_huts : Nat → Int32} {sa_minutes : Nat → Int32} {cf_voices : Int32} {cf_step : Int32} {ca_parts : Nat → Int32} {ca_heights : Nat → Int32} {a_numbers : Nat → Int32} {f_hutsToldOf : Int32} {f_singersToldOf : Int32} {x1 : Int32} {post : (Int32) → (Int32) → (Int32) → (Int32) → (Int32) → (Int32) → (Int32) → (Nat → Int32) → (Nat → Int32) → (Nat → Int32) → (Nat → Int32) → (Nat → Int32) → (Nat → Int32) → (Nat → Int32) → (Nat → Int32) → (Int32) → (Nat → Int32) → (Nat → Int32) → (Nat → Int32) → (Int32) → (Nat → Int32) → (Nat → Int32) → (Nat → Int32) → (Int32) → (Int32) → (Nat → Int32) → (Nat → Int32) → (Int32) → (Int32) → Prop} (k_lf_huts : iv 0 9 lf_huts) (k_lf_singers : iv 0 6 lf_singers) (k_lf_villages : iv 0 511 lf_villages) (k_lf_dams : iv 0 511 lf_dams) (k_lf_echoes : iv 0 4 lf_echoes) (k_lf_deep : iv 1 9 lf_deep) (k_lf_slide : iv 0 10 lf_slide) (k_la_heights : ∀ j, iv 0 99 (la_heights j)) (k_la_ladders : ∀ j, iv 0 9 (la_ladders j)) (k_la_minutes : ∀ j, iv 0 9 (la_minutes j)) (k_la_echoFrom : ∀ j, iv 0 8 (la_echoFrom j)) (k_la_echoTo : ∀ j, iv 0 8 (la_echoTo j)) (k_la_homes : ∀ j, iv 0 8 (la_homes j)) (k_la_talls : ∀ j, iv 0 9 (la_talls j)) (k_la_known : ∀ j, iv 0 31 (la_known j)) (k_vf_deeds : iv 0 40 vf_deeds) (k_va_kinds : ∀ j, iv 0 5 (va_kinds j)) (k_va_firsts : ∀ j, iv 0 5 (va_firsts j)) (k_va_seconds : ∀ j, iv (-1) 8 (va_seconds j)) (k_sf_facts : iv 0 10 sf_facts) (k_sa_heard : ∀ j, iv 0 1 (sa_heard j)) (k_sa_huts : ∀ j, iv 0 8 (sa_huts j)) (k_sa_minutes : ∀ j, iv 0 60 (sa_minutes j)) (k_cf_voices : iv 0 9 cf_voices) (k_cf_step : iv 0 9 cf_step) (k_ca_parts : ∀ j, iv 0 3 (ca_parts j)) (k_ca_heights : ∀ j, iv 0 9 (ca_heights j)) (hx1 : iv 0 19 x1) (hF : rNF x1 lf_huts lf_echoes lf_singers vf_deeds sf_facts cf_voices) (hB : rNB x1 a_numbers (tbf_1 x1.toNatClampNeg).toNatClampNeg) (hpost : ∀ (lf_huts : Int32) (lf_singers : Int32) (lf_villages : Int32) (lf_dams : Int32) (lf_echoes : Int32) (lf_deep : Int32) (lf_slide : Int32) (la_heights : Nat → Int32) (la_ladders : Nat → Int32) (la_minutes : Nat → Int32) (la_echoFrom : Nat → Int32) (la_echoTo : Nat → Int32) (la_homes : Nat → Int32) (la_talls : Nat → Int32) (la_known : Nat → Int32) (vf_deeds : Int32) (va_kinds : Nat → Int32) (va_firsts : Nat → Int32) (va_seconds : Nat → Int32) (sf_facts : Int32) (sa_heard : Nat → Int32) (sa_huts : Nat → Int32) (sa_minutes : Nat → Int32) (cf_voices : Int32) (cf_step : Int32) (ca_parts : Nat → Int32) (ca_heights : Nat → Int32) (f_hutsToldOf : Int32) (f_singersToldOf : Int32), (iv 0 9 lf_huts) → (iv 0 6 lf_singers) → (iv 0 511 lf_villages) → (iv 0 511 lf_dams) → (iv 0 4 lf_echoes) → (iv 1 9 lf_deep) → (iv 0 10 lf_slide) → (∀ j, iv 0 99 (la_heights j)) → (∀ j, iv 0 9 (la_ladders j)) → (∀ j, iv 0 9 (la_minutes j)) → (∀ j, iv 0 8 (la_echoFrom j)) → (∀ j, iv 0 8 (la_echoTo j)) → (∀ j, iv 0 8 (la_homes j)) → (∀ j, iv 0 9 (la_talls j)) → (∀ j, iv 0 31 (la_known j)) → (iv 0 40 vf_deeds) → (∀ j, iv 0 5 (va_kinds j)) → (∀ j, iv 0 5 (va_firsts j)) → (∀ j, iv (-1) 8 (va_seconds j)) → (iv 0 10 sf_facts) → (∀ j, iv 0 1 (sa_heard j)) → (∀ j, iv 0 8 (sa_huts j)) → (∀ j, iv 0 60 (sa_minutes j)) → (iv 0 9 cf_voices) → (iv 0 9 cf_step) → (∀ j, iv 0 3 (ca_parts j)) → (∀ j, iv 0 9 (ca_heights j)) → post lf_huts lf_singers lf_villages lf_dams lf_echoes lf_deep lf_slide la_heights la_ladders la_minutes la_echoFrom la_echoTo la_homes la_talls la_known vf_deeds va_kinds va_firsts va_seconds sf_facts sa_heard sa_huts sa_minutes cf_voices cf_step ca_parts ca_heights f_hutsToldOf f_singersToldOf) : q_wr_X4_tell_0 lf_huts lf_singers lf_villages lf_dams lf_echoes lf_deep lf_slide la_heights la_ladders la_minutes la_echoFrom la_echoTo la_homes la_talls la_known vf_deeds va_kinds va_firsts va_seconds sf_facts sa_heard sa_huts sa_minutes cf_voices cf_step ca_parts ca_heights a_numbers f_hutsToldOf f_singersToldOf x1 post := by
  obtain ⟨w, rfl, -, w2, hw⟩ := iv_nI hx1 (by decide)
  rcases (by omega : w = 0 ∨ w = 1 ∨ w = 2 ∨ w = 3 ∨ w = 4 ∨ w = 5 ∨ w = 6 ∨ w = 7 ∨ w = 8 ∨ w = 9 ∨ w = 10 ∨ w = 11 ∨ w = 12 ∨ w = 13 ∨ w = 14 ∨ w = 15 ∨ w = 16 ∨ w = 17 ∨ w = 18 ∨ w = 19) with rfl | rfl | rfl | rfl | rfl | rfl | rfl | rfl | rfl | rfl | rfl | rfl | rfl | rfl | rfl | rfl | rfl | rfl | rfl | rfl
  · exact s_tell_0 (iv_ne (l := 0) (h := 8) (hF.1 rfl) k_lf_huts (iv_lit (x := 9) (l := 9) (h := 9) (by decide)) (by decide)) k_lf_singers k_lf_villages k_lf_dams k_lf_echoes k_lf_deep k_lf_slide k_la_heights k_la_ladders k_la_minutes k_la_echoFrom k_la_echoTo k_la_homes k_la_talls k_la_known k_vf_deeds k_va_kinds k_va_firsts k_va_seconds k_sf_facts k_sa_heard k_sa_huts k_sa_minutes k_cf_voices k_cf_step k_ca_parts k_ca_heights (iv_lit (by decide +kernel)) (rb_iv (hB 0 (by decide +kernel)) (by decide +kernel)) hpost
  · exact s_tell_1 k_lf_huts k_lf_singers k_lf_villages k_lf_dams k_lf_echoes k_lf_deep k_lf_slide k_la_heights k_la_ladders k_la_minutes k_la_echoFrom k_la_echoTo k_la_homes k_la_talls k_la_known k_vf_deeds k_va_kinds k_va_firsts k_va_seconds k_sf_facts k_sa_heard k_sa_huts k_sa_minutes k_cf_voices k_cf_step k_ca_parts k_ca_heights (iv_lit (by decide +kernel)) (rb_iv (hB 0 (by decide +kernel)) (by decide +kernel)) hpost
  · exact s_tell_2 k_lf_huts k_lf_singers k_lf_villages k_lf_dams k_lf_echoes k_lf_deep k_lf_slide k_la_heights k_la_ladders k_la_minutes k_la_echoFrom k_la_echoTo k_la_homes k_la_talls k_la_known k_vf_deeds k_va_kinds k_va_firsts k_va_seconds k_sf_facts k_sa_heard k_sa_huts k_sa_minutes k_cf_voices k_cf_step k_ca_parts k_ca_heights (iv_lit (by decide +kernel)) (rb_iv (hB 0 (by decide +kernel)) (by decide +kernel)) hpost
  · exact s_tell_3 k_lf_huts k_lf_singers k_lf_villages k_lf_dams k_lf_echoes k_lf_deep k_lf_slide k_la_heights k_la_ladders k_la_minutes k_la_echoFrom k_la_echoTo k_la_homes k_la_talls k_la_known k_vf_deeds k_va_kinds k_va_firsts k_va_seconds k_sf_facts k_sa_heard k_sa_huts k_sa_minutes k_cf_voices k_cf_step k_ca_parts k_ca_heights (iv_lit (by decide +kernel)) (rb_iv (hB 0 (by decide +kernel)) (by decide +kernel)) hpost
  · exact s_tell_4 k_lf_huts k_lf_singers k_lf_villages k_lf_dams k_lf_echoes k_lf_deep k_lf_slide k_la_heights k_la_ladders k_la_minutes k_la_echoFrom k_la_echoTo k_la_homes k_la_talls k_la_known k_vf_deeds k_va_kinds k_va_firsts k_va_seconds k_sf_facts k_sa_heard k_sa_huts k_sa_minutes k_cf_voices k_cf_step k_ca_parts k_ca_heights (iv_lit (by decide +kernel)) (rb_iv (hB 0 (by decide +kernel)) (by decide +kernel)) hpost
  · exact s_tell_5 k_lf_huts k_lf_singers k_lf_villages k_lf_dams k_lf_echoes k_lf_deep k_lf_slide k_la_heights k_la_ladders k_la_minutes k_la_echoFrom k_la_echoTo k_la_homes k_la_talls k_la_known k_vf_deeds k_va_kinds k_va_firsts k_va_seconds k_sf_facts k_sa_heard k_sa_huts k_sa_minutes k_cf_voices k_cf_step k_ca_parts k_ca_heights (iv_lit (by decide +kernel)) (rb_iv (hB 0 (by decide +kernel)) (by decide +kernel)) (rb_iv (hB 1 (by decide +kernel)) (by decide +kernel)) (rb_iv (hB 2 (by decide +kernel)) (by decide +kernel)) hpost
  · exact s_tell_6 k_lf_huts k_lf_singers k_lf_villages k_lf_dams (iv_ne (l := 0) (h := 3) (hF.2.1 rfl) k_lf_echoes (iv_lit (x := 4) (l := 4) (h := 4) (by decide)) (by decide)) k_lf_deep k_lf_slide k_la_heights k_la_ladders k_la_minutes k_la_echoFrom k_la_echoTo k_la_homes k_la_talls k_la_known k_vf_deeds k_va_kinds k_va_firsts k_va_seconds k_sf_facts k_sa_heard k_sa_huts k_sa_minutes k_cf_voices k_cf_step k_ca_parts k_ca_heights (iv_lit (by decide +kernel)) (rb_iv (hB 0 (by decide +kernel)) (by decide +kernel)) (rb_iv (hB 1 (by decide +kernel)) (by decide +kernel)) hpost
  · exact s_tell_7 k_lf_huts k_lf_singers k_lf_villages k_lf_dams k_lf_echoes k_lf_deep k_lf_slide k_la_heights k_la_ladders k_la_minutes k_la_echoFrom k_la_echoTo k_la_homes k_la_talls k_la_known k_vf_deeds k_va_kinds k_va_firsts k_va_seconds k_sf_facts k_sa_heard k_sa_huts k_sa_minutes k_cf_voices k_cf_step k_ca_parts k_ca_heights (iv_lit (by decide +kernel)) (rb_iv (hB 0 (by decide +kernel)) (by decide +kernel)) (rb_iv (hB 1 (by decide +kernel)) (by decide +kernel)) hpost
  · exact s_tell_8 k_lf_huts (iv_ne (l := 0) (h := 5) (hF.2.2.1 rfl) k_lf_singers (iv_lit (x := 6) (l := 6) (h := 6) (by decide)) (by decide)) k_lf_villages k_lf_dams k_lf_echoes k_lf_deep k_lf_slide k_la_heights k_la_ladders k_la_minutes k_la_echoFrom k_la_echoTo k_la_homes k_la_talls k_la_known k_vf_deeds k_va_kinds k_va_firsts k_va_seconds k_sf_facts k_sa_heard k_sa_huts k_sa_minutes k_cf_voices k_cf_step k_ca_parts k_ca_heights (iv_lit (by decide +kernel)) (rb_iv (hB 0 (by decide +kernel)) (by decide +kernel)) (rb_iv (hB 1 (by decide +kernel)) (by decide +kernel)) hpost
  · exact s_tell_9 k_lf_huts k_lf_singers k_lf_villages k_lf_dams k_lf_echoes k_lf_deep k_lf_slide k_la_heights k_la_ladders k_la_minutes k_la_echoFrom k_la_echoTo k_la_homes k_la_talls k_la_known k_vf_deeds k_va_kinds k_va_firsts k_va_seconds k_sf_facts k_sa_heard k_sa_huts k_sa_minutes k_cf_voices k_cf_step k_ca_parts k_ca_heights (iv_lit (by decide +kernel)) (rb_iv (hB 0 (by decide +kernel)) (by decide +kernel)) (rb_iv (hB 1 (by decide +kernel)) (by decide +kernel)) hpost
  · exact s_tell_10 k_lf_huts k_lf_singers k_lf_villages k_lf_dams k_lf_echoes k_lf_deep k_lf_slide k_la_heights k_la_ladders k_la_minutes k_la_echoFrom k_la_echoTo k_la_homes k_la_talls k_la_known (iv_ne (l := 0) (h := 39) (hF.2.2.2.1 (by decide +kernel)) k_vf_deeds (iv_lit (x := 40) (l := 40) (h := 40) (by decide)) (by decide)) k_va_kinds k_va_firsts k_va_seconds k_sf_facts k_sa_heard k_sa_huts k_sa_minutes k_cf_voices k_cf_step k_ca_parts k_ca_heights (iv_lit (by decide +kernel)) (rb_iv (hB 0 (by decide +kernel)) (by decide +kernel)) (rb_iv (hB 1 (by decide +kernel)) (by decide +kernel)) hpost
  · exact s_tell_11 k_lf_huts k_lf_singers k_lf_villages k_lf_dams k_lf_echoes k_lf_deep k_lf_slide k_la_heights k_la_ladders k_la_minutes k_la_echoFrom k_la_echoTo k_la_homes k_la_talls k_la_known (iv_ne (l := 0) (h := 39) (hF.2.2.2.1 (by decide +kernel)) k_vf_deeds (iv_lit (x := 40) (l := 40) (h := 40) (by decide)) (by decide)) k_va_kinds k_va_firsts k_va_seconds k_sf_facts k_sa_heard k_sa_huts k_sa_minutes k_cf_voices k_cf_step k_ca_parts k_ca_heights (iv_lit (by decide +kernel)) (rb_iv (hB 0 (by decide +kernel)) (by decide +kernel)) (rb_iv (hB 1 (by decide +kernel)) (by decide +kernel)) hpost
  · exact s_tell_12 k_lf_huts k_lf_singers k_lf_villages k_lf_dams k_lf_echoes k_lf_deep k_lf_slide k_la_heights k_la_ladders k_la_minutes k_la_echoFrom k_la_echoTo k_la_homes k_la_talls k_la_known (iv_ne (l := 0) (h := 39) (hF.2.2.2.1 (by decide +kernel)) k_vf_deeds (iv_lit (x := 40) (l := 40) (h := 40) (by decide)) (by decide)) k_va_kinds k_va_firsts k_va_seconds k_sf_facts k_sa_heard k_sa_huts k_sa_minutes k_cf_voices k_cf_step k_ca_parts k_ca_heights (iv_lit (by decide +kernel)) (rb_iv (hB 0 (by decide +kernel)) (by decide +kernel)) (rb_iv (hB 1 (by decide +kernel)) (by decide +kernel)) hpost
  · exact s_tell_13 k_lf_huts k_lf_singers k_lf_villages k_lf_dams k_lf_echoes k_lf_deep k_lf_slide k_la_heights k_la_ladders k_la_minutes k_la_echoFrom k_la_echoTo k_la_homes k_la_talls k_la_known (iv_ne (l := 0) (h := 39) (hF.2.2.2.1 (by decide +kernel)) k_vf_deeds (iv_lit (x := 40) (l := 40) (h := 40) (by decide)) (by decide)) k_va_kinds k_va_firsts k_va_seconds k_sf_facts k_sa_heard k_sa_huts k_sa_minutes k_cf_voices k_cf_step k_ca_parts k_ca_heights (iv_lit (by decide +kernel)) (rb_iv (hB 0 (by decide +kernel)) (by decide +kernel)) (rb_iv (hB 1 (by decide +kernel)) (by decide +kernel)) hpost
  · exact s_tell_14 k_lf_huts k_lf_singers k_lf_villages k_lf_dams k_lf_echoes k_lf_deep k_lf_slide k_la_heights k_la_ladders k_la_minutes k_la_echoFrom k_la_echoTo k_la_homes k_la_talls k_la_known (iv_ne (l := 0) (h := 39) (hF.2.2.2.1 (by decide +kernel)) k_vf_deeds (iv_lit (x := 40) (l := 40) (h := 40) (by decide)) (by decide)) k_va_kinds k_va_firsts k_va_seconds k_sf_facts k_sa_heard k_sa_huts k_sa_minutes k_cf_voices k_cf_step k_ca_parts k_ca_heights (iv_lit (by decide +kernel)) (rb_iv (hB 0 (by decide +kernel)) (by decide +kernel)) hpost
  · exact s_tell_15 k_lf_huts k_lf_singers k_lf_villages k_lf_dams k_lf_echoes k_lf_deep k_lf_slide k_la_heights k_la_ladders k_la_minutes k_la_echoFrom k_la_echoTo k_la_homes k_la_talls k_la_known (iv_ne (l := 0) (h := 39) (hF.2.2.2.1 (by decide +kernel)) k_vf_deeds (iv_lit (x := 40) (l := 40) (h := 40) (by decide)) (by decide)) k_va_kinds k_va_firsts k_va_seconds k_sf_facts k_sa_heard k_sa_huts k_sa_minutes k_cf_voices k_cf_step k_ca_parts k_ca_heights (iv_lit (by decide +kernel)) (rb_iv (hB 0 (by decide +kernel)) (by decide +kernel)) hpost
  · exact s_tell_16 k_lf_huts k_lf_singers k_lf_villages k_lf_dams k_lf_echoes k_lf_deep k_lf_slide k_la_heights k_la_ladders k_la_minutes k_la_echoFrom k_la_echoTo k_la_homes k_la_talls k_la_known k_vf_deeds k_va_kinds k_va_firsts k_va_seconds (iv_ne (l := 0) (h := 9) (hF.2.2.2.2.1 (Or.inl rfl)) k_sf_facts (iv_lit (x := 10) (l := 10) (h := 10) (by decide)) (by decide)) k_sa_heard k_sa_huts k_sa_minutes k_cf_voices k_cf_step k_ca_parts k_ca_heights (iv_lit (by decide +kernel)) (rb_iv (hB 0 (by decide +kernel)) (by decide +kernel)) (rb_iv (hB 1 (by decide +kernel)) (by decide +kernel)) hpost
  · exact s_tell_17 k_lf_huts k_lf_singers k_lf_villages k_lf_dams k_lf_echoes k_lf_deep k_lf_slide k_la_heights k_la_ladders k_la_minutes k_la_echoFrom k_la_echoTo k_la_homes k_la_talls k_la_known k_vf_deeds k_va_kinds k_va_firsts k_va_seconds (iv_ne (l := 0) (h := 9) (hF.2.2.2.2.1 (Or.inr rfl)) k_sf_facts (iv_lit (x := 10) (l := 10) (h := 10) (by decide)) (by decide)) k_sa_heard k_sa_huts k_sa_minutes k_cf_voices k_cf_step k_ca_parts k_ca_heights (iv_lit (by decide +kernel)) (rb_iv (hB 0 (by decide +kernel)) (by decide +kernel)) (rb_iv (hB 1 (by decide +kernel)) (by decide +kernel)) hpost
  · exact s_tell_18 k_lf_huts k_lf_singers k_lf_villages k_lf_dams k_lf_echoes k_lf_deep k_lf_slide k_la_heights k_la_ladders k_la_minutes k_la_echoFrom k_la_echoTo k_la_homes k_la_talls k_la_known k_vf_deeds k_va_kinds k_va_firsts k_va_seconds k_sf_facts k_sa_heard k_sa_huts k_sa_minutes (iv_ne (l := 0) (h := 8) (hF.2.2.2.2.2 rfl) k_cf_voices (iv_lit (x := 9) (l := 9) (h := 9) (by decide)) (by decide)) k_cf_step k_ca_parts k_ca_heights (iv_lit (by decide +kernel)) (rb_iv (hB 0 (by decide +kernel)) (by decide +kernel)) (rb_iv (hB 1 (by decide +kernel)) (by decide +kernel)) hpost
  · exact s_tell_19 k_lf_huts k_lf_singers k_lf_villages k_lf_dams k_lf_echoes k_lf_deep k_lf_slide k_la_heights k_la_ladders k_la_minutes k_la_echoFrom k_la_echoTo k_la_homes k_la_talls k_la_known k_vf_deeds k_va_kinds k_va_firsts k_va_seconds k_sf_facts k_sa_heard k_sa_huts k_sa_minutes k_cf_voices k_cf_step k_ca_parts k_ca_heights (iv_lit (by decide +kernel)) (rb_iv (hB 0 (by decide +kernel)) (by decide +kernel)) hpost
-- wr_X4_readLine
theorem s_isFull_30 {lf_huts lf_singers lf_echoes vf_deeds sf_facts cf_voices x1 : Int32} {post : Int32 → Prop} (hx1 : iv 0 19 x1) (hr : x1.toInt < 10 ∨ 16 ≤ x1.toInt) (h1 : post 1) (h0 : rNF x1 lf_huts lf_echoes lf_singers vf_deeds sf_facts cf_voices → post 0) : q_wr_X4_isFull_30 lf_huts lf_singers lf_echoes vf_deeds sf_facts cf_voices x1 post := by
  obtain ⟨a1, a2⟩ := hx1
  have z : ∀ (k : Int32) (n : Int), k.toInt = n → x1 = k → x1.toInt = n := fun k n hk h => by rw [h]; exact hk
  refine ⟨fun h => h0 ⟨fun e2 => absurd e2 (by omega), fun e2 => absurd e2 (by omega), fun e2 => absurd e2 (by omega), fun e2 => absurd e2 (by omega), fun e2 => absurd e2 (by omega), fun e2 => absurd e2 (by omega)⟩, fun h => have e := z _ 0 rfl h; ⟨fun hc => h0 ⟨fun _ => hc, fun e2 => absurd e2 (by omega), fun e2 => absurd e2 (by omega), fun e2 => absurd e2 (by omega), fun e2 => absurd e2 (by omega), fun e2 => absurd e2 (by omega)⟩, fun _ => h1⟩, fun h => have e := z _ 1 rfl h; h0 ⟨fun e2 => absurd e2 (by omega), fun e2 => absurd e2 (by omega), fun e2 => absurd e2 (by omega), fun e2 => absurd e2 (by omega), fun e2 => absurd e2 (by omega), fun e2 => absurd e2 (by omega)⟩, fun h => have e := z _ 2 rfl h; h0 ⟨fun e2 => absurd e2 (by omega), fun e2 => absurd e2 (by omega), fun e2 => absurd e2 (by omega), fun e2 => absurd e2 (by omega), fun e2 => absurd e2 (by omega), fun e2 => absurd e2 (by omega)⟩, fun h => have e := z _ 3 rfl h; h0 ⟨fun e2 => absurd e2 (by omega), fun e2 => absurd e2 (by omega), fun e2 => absurd e2 (by omega), fun e2 => absurd e2 (by omega), fun e2 => absurd e2 (by omega), fun e2 => absurd e2 (by omega)⟩, fun h => have e := z _ 4 rfl h; h0 ⟨fun e2 => absurd e2 (by omega), fun e2 => absurd e2 (by omega), fun e2 => absurd e2 (by omega), fun e2 => absurd e2 (by omega), fun e2 => absurd e2 (by omega), fun e2 => absurd e2 (by omega)⟩, fun h => have e := z _ 5 rfl h; h0 ⟨fun e2 => absurd e2 (by omega), fun e2 => absurd e2 (by omega), fun e2 => absurd e2 (by omega), fun e2 => absurd e2 (by omega), fun e2 => absurd e2 (by omega), fun e2 => absurd e2 (by omega)⟩, fun h => have e := z _ 6 rfl h; ⟨fun hc => h0 ⟨fun e2 => absurd e2 (by omega), fun _ => hc, fun e2 => absurd e2 (by omega), fun e2 => absurd e2 (by omega), fun e2 => absurd e2 (by omega), fun e2 => absurd e2 (by omega)⟩, fun _ => h1⟩, fun h => have e := z _ 7 rfl h; h0 ⟨fun e2 => absurd e2 (by omega), fun e2 => absurd e2 (by omega), fun e2 => absurd e2 (by omega), fun e2 => absurd e2 (by omega), fun e2 => absurd e2 (by omega), fun e2 => absurd e2 (by omega)⟩, fun h => have e := z _ 8 rfl h; ⟨fun hc => h0 ⟨fun e2 => absurd e2 (by omega), fun e2 => absurd e2 (by omega), fun _ => hc, fun e2 => absurd e2 (by omega), fun e2 => absurd e2 (by omega), fun e2 => absurd e2 (by omega)⟩, fun _ => h1⟩, fun h => have e := z _ 9 rfl h; h0 ⟨fun e2 => absurd e2 (by omega), fun e2 => absurd e2 (by omega), fun e2 => absurd e2 (by omega), fun e2 => absurd e2 (by omega), fun e2 => absurd e2 (by omega), fun e2 => absurd e2 (by omega)⟩, fun h => have e := z _ 10 rfl h; absurd hr (by omega), fun h => have e := z _ 11 rfl h; absurd hr (by omega), fun h => have e := z _ 12 rfl h; absurd hr (by omega), fun h => have e := z _ 13 rfl h; absurd hr (by omega), fun h => have e := z _ 14 rfl h; absurd hr (by omega), fun h => have e := z _ 15 rfl h; absurd hr (by omega), fun h => have e := z _ 16 rfl h; ⟨fun hc => h0 ⟨fun e2 => absurd e2 (by omega), fun e2 => absurd e2 (by omega), fun e2 => absurd e2 (by omega), fun e2 => absurd e2 (by omega), fun _ => hc, fun e2 => absurd e2 (by omega)⟩, fun _ => h1⟩, fun h => have e := z _ 17 rfl h; ⟨fun hc => h0 ⟨fun e2 => absurd e2 (by omega), fun e2 => absurd e2 (by omega), fun e2 => absurd e2 (by omega), fun e2 => absurd e2 (by omega), fun _ => hc, fun e2 => absurd e2 (by omega)⟩, fun _ => h1⟩, fun h => have e := z _ 18 rfl h; ⟨fun hc => h0 ⟨fun e2 => absurd e2 (by omega), fun e2 => absurd e2 (by omega), fun e2 => absurd e2 (by omega), fun e2 => absurd e2 (by omega), fun e2 => absurd e2 (by omega), fun _ => hc⟩, fun _ => h1⟩⟩
theorem s_isFull {lf_huts lf_singers lf_echoes vf_deeds sf_facts cf_voices x1 : Int32} {post : Int32 → Prop} (hx1 : iv 0 19 x1) (h1 : post 1) (h0 : rNF x1 lf_huts lf_echoes lf_singers vf_deeds sf_facts cf_voices → post 0) : q_wr_X4_isFull_0 lf_huts lf_singers lf_echoes vf_deeds sf_facts cf_voices x1 post := by
  have e10 : (10 : Int32).toInt = 10 := rfl
  have e16 : (16 : Int32).toInt = 16 := rfl
  refine ⟨fun h => s_isFull_30 hx1 (Or.inl (by have := r_lt h; omega)) h1 h0, fun h => ⟨fun h2 => s_isFull_30 hx1 (Or.inr (by have := r_le h2; omega)) h1 h0, fun h2 => ⟨fun hc => h0 ?_, fun _ => h1⟩⟩⟩
  have g1 := r_nlt h; have g2 := r_nle h2
  exact ⟨fun e2 => absurd e2 (by omega), fun e2 => absurd e2 (by omega), fun e2 => absurd e2 (by omega), fun _ => hc, fun e2 => absurd e2 (by omega), fun e2 => absurd e2 (by omega)⟩
theorem s_canBe {a_numbers : Nat → Int32} {x1 x2 : Int32} {post : Int32 → Prop} (hx1 : iv 0 19 x1) (hx2 : iv 0 2 x2) (h0 : post 0) (h1 : (¬ a_numbers x2.toNatClampNeg < tbf_2 (x1.toNatClampNeg * 3 + x2.toNatClampNeg) ∧ a_numbers x2.toNatClampNeg ≤ tbf_3 (x1.toNatClampNeg * 3 + x2.toNatClampNeg)) → post 1) : q_wr_X4_canBe_0 a_numbers x1 x2 post := by
  intro v hv
  obtain ⟨w, rfl, -, w2, hw⟩ := iv_nI hx1 (by decide)
  obtain ⟨j, rfl, -, j2, hj⟩ := iv_nI hx2 (by decide)
  have e : v = nI (w * 3 + j) := by rw [hv, show (3 : Int32) = nI 3 from rfl, pk_mul, nI_add]
  subst e
  rw [nI_clamp hw, nI_clamp hj] at h1
  rw [nI_clamp hj, nI_clamp (show w * 3 + j < 2 ^ 31 by omega)]
  have i1 : vp_in (nI j) 3 := vp_in_nI (by omega) (by omega)
  have i2 : vp_in (nI (w * 3 + j)) 60 := vp_in_nI (by omega) (by omega)
  refine ⟨i1, i2, fun _ => h0, fun c1 => ⟨i1, i2, fun c2 => ?_, fun _ => h0⟩⟩
  have k := h1 ⟨c1, c2⟩
  have k52 : q_wr_X4_canBe_52 a_numbers post := ⟨fun _ => h0, fun _ => k⟩
  exact ⟨fun _ => k, fun _ => ⟨fun _ => k52, fun _ => ⟨fun _ => k, fun _ => k52⟩⟩⟩
set_option maxRecDepth 20000 in
theorem s_wr_X4_readLine_0 {lf_huts : Int32} {lf_singers : Int32} {lf_villages : Int32} {lf_dams : Int32} {lf_echoes : Int32} {lf_deep : Int32} {lf_slide : Int32} {la_heights : Nat → Int32} {la_ladders : Nat → Int32} {la_minutes : Nat → Int32} {la_echoFrom : Nat → Int32} {la_echoTo : Nat → Int32} {la_homes : Nat → Int32} {la_talls : Nat → Int32} {la_known : Nat → Int32} {vf_deeds : Int32} {va_kinds : Nat → Int32} {va_firsts : Nat → Int32} {va_seconds : Nat → Int32} {sf_facts : Int32} {sa_heard : Nat → Int32} {sa_huts : Nat → Int32} {sa_minutes : Nat → Int32} {cf_voices : Int32} {cf_step : Int32} {ca_parts : Nat → Int32} {ca_heights : Nat → Int32} {f_fault : Int32} {f_faultPlace : Int32} {a_numbers : Nat → Int32} {a_tape : Nat → Int32} {f_length : Int32} {f_behind : Int32} {f_kind : Int32} {f_first : Int32} {f_value : Int32} {f_hutsToldOf : Int32} {f_singersToldOf : Int32} {x1 : Int32} {post : (Int32) → (Int32) → (Int32) → (Int32) → (Int32) → (Int32) → (Int32) → (Nat → Int32) → (Nat → Int32) → (Nat → Int32) → (Nat → Int32) → (Nat → Int32) → (Nat → Int32) → (Nat → Int32) → (Nat → Int32) → (Int32) → (Nat → Int32) → (Nat → Int32) → (Nat → Int32) → (Int32) → (Nat → Int32) → (Nat → Int32) → (Nat → Int32) → (Int32) → (Int32) → (Nat → Int32) → (Nat → Int32) → (Int32) → (Int32) → (Nat → Int32) → (Int32) → (Int32) → (Int32) → (Int32) → (Int32) → (Int32) → Prop} (k_lf_huts : iv 0 9 lf_huts) (k_lf_singers : iv 0 6 lf_singers) (k_lf_villages : iv 0 511 lf_villages) (k_lf_dams : iv 0 511 lf_dams) (k_lf_echoes : iv 0 4 lf_echoes) (k_lf_deep : iv 1 9 lf_deep) (k_lf_slide : iv 0 10 lf_slide) (k_la_heights : ∀ j, iv 0 99 (la_heights j)) (k_la_ladders : ∀ j, iv 0 9 (la_ladders j)) (k_la_minutes : ∀ j, iv 0 9 (la_minutes j)) (k_la_echoFrom : ∀ j, iv 0 8 (la_echoFrom j)) (k_la_echoTo : ∀ j, iv 0 8 (la_echoTo j)) (k_la_homes : ∀ j, iv 0 8 (la_homes j)) (k_la_talls : ∀ j, iv 0 9 (la_talls j)) (k_la_known : ∀ j, iv 0 31 (la_known j)) (k_vf_deeds : iv 0 40 vf_deeds) (k_va_kinds : ∀ j, iv 0 5 (va_kinds j)) (k_va_firsts : ∀ j, iv 0 5 (va_firsts j)) (k_va_seconds : ∀ j, iv (-1) 8 (va_seconds j)) (k_sf_facts : iv 0 10 sf_facts) (k_sa_heard : ∀ j, iv 0 1 (sa_heard j)) (k_sa_huts : ∀ j, iv 0 8 (sa_huts j)) (k_sa_minutes : ∀ j, iv 0 60 (sa_minutes j)) (k_cf_voices : iv 0 9 cf_voices) (k_cf_step : iv 0 9 cf_step) (k_ca_parts : ∀ j, iv 0 3 (ca_parts j)) (k_ca_heights : ∀ j, iv 0 9 (ca_heights j)) (k_f_fault : iv 0 4 f_fault) (k_f_faultPlace : iv (-1) 600 f_faultPlace) (k_a_tape : ∀ j, iv (-128) 127 (a_tape j)) (k_f_length : iv 0 600 f_length) (k_f_behind : iv 0 600 f_behind) (k_f_kind : iv 0 4 f_kind) (k_f_first : iv 0 600 f_first) (hx1 : iv 0 3 x1) (hpost : ∀ (lf_huts : Int32) (lf_singers : Int32) (lf_villages : Int32) (lf_dams : Int32) (lf_echoes : Int32) (lf_deep : Int32) (lf_slide : Int32) (la_heights : Nat → Int32) (la_ladders : Nat → Int32) (la_minutes : Nat → Int32) (la_echoFrom : Nat → Int32) (la_echoTo : Nat → Int32) (la_homes : Nat → Int32) (la_talls : Nat → Int32) (la_known : Nat → Int32) (vf_deeds : Int32) (va_kinds : Nat → Int32) (va_firsts : Nat → Int32) (va_seconds : Nat → Int32) (sf_facts : Int32) (sa_heard : Nat → Int32) (sa_huts : Nat → Int32) (sa_minutes : Nat → Int32) (cf_voices : Int32) (cf_step : Int32) (ca_parts : Nat → Int32) (ca_heights : Nat → Int32) (f_fault : Int32) (f_faultPlace : Int32) (a_numbers : Nat → Int32) (f_behind : Int32) (f_kind : Int32) (f_first : Int32) (f_value : Int32) (f_hutsToldOf : Int32) (f_singersToldOf : Int32), (iv 0 9 lf_huts) → (iv 0 6 lf_singers) → (iv 0 511 lf_villages) → (iv 0 511 lf_dams) → (iv 0 4 lf_echoes) → (iv 1 9 lf_deep) → (iv 0 10 lf_slide) → (∀ j, iv 0 99 (la_heights j)) → (∀ j, iv 0 9 (la_ladders j)) → (∀ j, iv 0 9 (la_minutes j)) → (∀ j, iv 0 8 (la_echoFrom j)) → (∀ j, iv 0 8 (la_echoTo j)) → (∀ j, iv 0 8 (la_homes j)) → (∀ j, iv 0 9 (la_talls j)) → (∀ j, iv 0 31 (la_known j)) → (iv 0 40 vf_deeds) → (∀ j, iv 0 5 (va_kinds j)) → (∀ j, iv 0 5 (va_firsts j)) → (∀ j, iv (-1) 8 (va_seconds j)) → (iv 0 10 sf_facts) → (∀ j, iv 0 1 (sa_heard j)) → (∀ j, iv 0 8 (sa_huts j)) → (∀ j, iv 0 60 (sa_minutes j)) → (iv 0 9 cf_voices) → (iv 0 9 cf_step) → (∀ j, iv 0 3 (ca_parts j)) → (∀ j, iv 0 9 (ca_heights j)) → (iv 0 4 f_fault) → (iv (-1) 600 f_faultPlace) → (iv 0 600 f_behind) → (iv 0 4 f_kind) → (iv 0 600 f_first) → post lf_huts lf_singers lf_villages lf_dams lf_echoes lf_deep lf_slide la_heights la_ladders la_minutes la_echoFrom la_echoTo la_homes la_talls la_known vf_deeds va_kinds va_firsts va_seconds sf_facts sa_heard sa_huts sa_minutes cf_voices cf_step ca_parts ca_heights f_fault f_faultPlace a_numbers f_behind f_kind f_first f_value f_hutsToldOf f_singersToldOf) : q_wr_X4_readLine_0 lf_huts lf_singers lf_villages lf_dams lf_echoes lf_deep lf_slide la_heights la_ladders la_minutes la_echoFrom la_echoTo la_homes la_talls la_known vf_deeds va_kinds va_firsts va_seconds sf_facts sa_heard sa_huts sa_minutes cf_voices cf_step ca_parts ca_heights f_fault f_faultPlace a_numbers a_tape f_length f_behind f_kind f_first f_value f_hutsToldOf f_singersToldOf x1 post := by
  refine s_wr_X4_wordOf_0 k_f_behind k_f_first hx1 (fun w hw => ⟨fun hne => ?_, fun _ => ?_⟩)
  rotate_left
  · exact hpost _ _ _ _ _ _ _ _ _ _ _ _ _ _ _ _ _ _ _ _ _ _ _ _ _ _ _ _ _ _ _ _ _ _ _ _ k_lf_huts k_lf_singers k_lf_villages k_lf_dams k_lf_echoes k_lf_deep k_lf_slide k_la_heights k_la_ladders k_la_minutes k_la_echoFrom k_la_echoTo k_la_homes k_la_talls k_la_known k_vf_deeds k_va_kinds k_va_firsts k_va_seconds k_sf_facts k_sa_heard k_sa_huts k_sa_minutes k_cf_voices k_cf_step k_ca_parts k_ca_heights (iv_lit (by decide)) (iv_w k_f_first (by decide)) k_f_behind k_f_kind k_f_first
  have hw2 : iv 0 19 w := iv_ne (l := 0) (h := 19) hne hw (iv_lit (x := -1) (l := -1) (h := -1) (by decide)) (by decide)
  have core : ∀ (ff fp : Int32), iv 0 4 ff → iv (-1) 600 fp → (ff = 0 → rNF w lf_huts lf_echoes lf_singers vf_deeds sf_facts cf_voices) → q_wr_X4_readLine_33 lf_huts lf_singers lf_villages lf_dams lf_echoes lf_deep lf_slide la_heights la_ladders la_minutes la_echoFrom la_echoTo la_homes la_talls la_known vf_deeds va_kinds va_firsts va_seconds sf_facts sa_heard sa_huts sa_minutes cf_voices cf_step ca_parts ca_heights ff fp a_numbers a_tape f_length f_behind f_kind f_first f_value f_hutsToldOf f_singersToldOf w post := by
    intro ff fp hff hfp hnf
    refine s_wr_X4_advance_0 k_a_tape k_f_length k_f_behind k_f_kind k_f_first (fun Nf_behind Nf_kind Nf_first Nf_value hf_behind hf_kind hf_first => ?_)
    intro P hP
    have loop : ∀ (n : Nat) (x3 : Int32) (ff : Int32) (fp : Int32) (nums : Nat → Int32) (b : Int32) (kd : Int32) (fi : Int32) (va : Int32), 3 - x3.toInt < (n : Int) → iv 0 3 x3 → iv 0 4 ff → iv (-1) 600 fp → iv 0 600 b → iv 0 4 kd → iv 0 600 fi → (ff = 0 → rNF w lf_huts lf_echoes lf_singers vf_deeds sf_facts cf_voices ∧ rNB w nums x3.toNatClampNeg) → P x3 ff fp nums b kd fi va := by
      intro n
      induction n with
      | zero => intro x3 ff fp nums b kd fi va hm h3 _ _ _ _ _ _; exact (ms0_up hm h3).elim
      | succ n ih =>
        intro x3 ff fp nums b kd fi va hm h3 hff hfp hb hkd hfi hinv
        have fin0 : ∀ (ff2 fp2 : Int32), iv 0 4 ff2 → iv (-1) 600 fp2 → post lf_huts lf_singers lf_villages lf_dams lf_echoes lf_deep lf_slide la_heights la_ladders la_minutes la_echoFrom la_echoTo la_homes la_talls la_known vf_deeds va_kinds va_firsts va_seconds sf_facts sa_heard sa_huts sa_minutes cf_voices cf_step ca_parts ca_heights ff2 fp2 nums b kd fi va f_hutsToldOf f_singersToldOf := fun ff2 fp2 g1 g2 => hpost _ _ _ _ _ _ _ _ _ _ _ _ _ _ _ _ _ _ _ _ _ _ _ _ _ _ _ _ _ _ _ _ _ _ _ _ k_lf_huts k_lf_singers k_lf_villages k_lf_dams k_lf_echoes k_lf_deep k_lf_slide k_la_heights k_la_ladders k_la_minutes k_la_echoFrom k_la_echoTo k_la_homes k_la_talls k_la_known k_vf_deeds k_va_kinds k_va_firsts k_va_seconds k_sf_facts k_sa_heard k_sa_huts k_sa_minutes k_cf_voices k_cf_step k_ca_parts k_ca_heights g1 g2 hb hkd hfi
        apply hP
        refine ⟨iv_in hw2 (by decide), fun hc => ⟨fun _ => ⟨fun hz => ?_, fun hz => ?_⟩, fun _ => fin0 _ _ (iv_lit (by decide)) (iv_w hfi (by decide))⟩, fun hc => ⟨fun _ => ?_, fun _ => fin0 _ _ (iv_lit (by decide)) (iv_w hfi (by decide))⟩⟩
        · exact s_wr_X4_advance_0 k_a_tape k_f_length hb hkd hfi (fun Nf_behind Nf_kind Nf_first Nf_value hf_behind hf_kind hf_first => hpost _ _ _ _ _ _ _ _ _ _ _ _ _ _ _ _ _ _ _ _ _ _ _ _ _ _ _ _ _ _ _ _ _ _ _ _ k_lf_huts k_lf_singers k_lf_villages k_lf_dams k_lf_echoes k_lf_deep k_lf_slide k_la_heights k_la_ladders k_la_minutes k_la_echoFrom k_la_echoTo k_la_homes k_la_talls k_la_known k_vf_deeds k_va_kinds k_va_firsts k_va_seconds k_sf_facts k_sa_heard k_sa_huts k_sa_minutes k_cf_voices k_cf_step k_ca_parts k_ca_heights hff hfp hf_behind hf_kind hf_first)
        · obtain ⟨q1, q2⟩ := hinv hz
          refine s_wr_X4_tell_0 k_lf_huts k_lf_singers k_lf_villages k_lf_dams k_lf_echoes k_lf_deep k_lf_slide k_la_heights k_la_ladders k_la_minutes k_la_echoFrom k_la_echoTo k_la_homes k_la_talls k_la_known k_vf_deeds k_va_kinds k_va_firsts k_va_seconds k_sf_facts k_sa_heard k_sa_huts k_sa_minutes k_cf_voices k_cf_step k_ca_parts k_ca_heights hw2 q1 (fun j hj => q2 j (Nat.lt_of_lt_of_le hj (by have e1 : (tbf_1 w.toNatClampNeg).toNatClampNeg = (tbf_1 w.toNatClampNeg).toInt.toNat := rfl; have e2 : x3.toNatClampNeg = x3.toInt.toNat := rfl; have := r_le hc; omega))) (fun Tlf_huts Tlf_singers Tlf_villages Tlf_dams Tlf_echoes Tlf_deep Tlf_slide Tla_heights Tla_ladders Tla_minutes Tla_echoFrom Tla_echoTo Tla_homes Tla_talls Tla_known Tvf_deeds Tva_kinds Tva_firsts Tva_seconds Tsf_facts Tsa_heard Tsa_huts Tsa_minutes Tcf_voices Tcf_step Tca_parts Tca_heights Tf_hutsToldOf Tf_singersToldOf tlf_huts tlf_singers tlf_villages tlf_dams tlf_echoes tlf_deep tlf_slide tla_heights tla_ladders tla_minutes tla_echoFrom tla_echoTo tla_homes tla_talls tla_known tvf_deeds tva_kinds tva_firsts tva_seconds tsf_facts tsa_heard tsa_huts tsa_minutes tcf_voices tcf_step tca_parts tca_heights => ?_)
          exact s_wr_X4_advance_0 k_a_tape k_f_length hb hkd hfi (fun Nf_behind Nf_kind Nf_first Nf_value hf_behind hf_kind hf_first => hpost _ _ _ _ _ _ _ _ _ _ _ _ _ _ _ _ _ _ _ _ _ _ _ _ _ _ _ _ _ _ _ _ _ _ _ _ tlf_huts tlf_singers tlf_villages tlf_dams tlf_echoes tlf_deep tlf_slide tla_heights tla_ladders tla_minutes tla_echoFrom tla_echoTo tla_homes tla_talls tla_known tvf_deeds tva_kinds tva_firsts tva_seconds tsf_facts tsa_heard tsa_huts tsa_minutes tcf_voices tcf_step tca_parts tca_heights hff hfp hf_behind hf_kind hf_first)
        · have h32 : iv 0 2 x3 := iv_lta (l := 0) (h := 2) (r_nle hc) h3 (tbi_1 _) (by decide)
          refine ⟨iv_in h32 (by decide), fun nums1 e1 => ?_⟩
          have K : ∀ (ff2 fp2 : Int32), iv 0 4 ff2 → iv (-1) 600 fp2 → (ff2 = 0 → rNF w lf_huts lf_echoes lf_singers vf_deeds sf_facts cf_voices ∧ rNB w nums1 (x3.toNatClampNeg + 1)) → q_wr_X4_readLine_89 P lf_huts lf_singers lf_villages lf_dams lf_echoes lf_deep lf_slide la_heights la_ladders la_minutes la_echoFrom la_echoTo la_homes la_talls la_known vf_deeds va_kinds va_firsts va_seconds sf_facts sa_heard sa_huts sa_minutes cf_voices cf_step ca_parts ca_heights ff2 fp2 nums1 a_tape f_length b kd fi va f_hutsToldOf f_singersToldOf w x3 post := by
            intro ff2 fp2 g1 g2 g3
            refine s_wr_X4_advance_0 k_a_tape k_f_length hb hkd hfi (fun Nf_behind Nf_kind Nf_first Nf_value hf_behind hf_kind hf_first v hv => ?_)
            refine ih v _ _ _ _ _ _ _ (ms_up hm (inc_lt hv h32 (by decide))) (iv_eq hv (iv_add (l := 0) (h := 3) h32 (iv_lit (l := 1) (h := 1) (by decide)) (by decide))) g1 g2 hf_behind hf_kind hf_first (fun h => ⟨(g3 h).1, ?_⟩)
            have e3 : v.toNatClampNeg = x3.toNatClampNeg + 1 := by
              obtain ⟨j, rfl, -, j2, hj⟩ := iv_nI h32 (by decide)
              rw [hv, show (1 : Int32) = nI 1 from rfl, nI_add, nI_clamp (by omega), nI_clamp hj]
            rw [e3]; exact (g3 h).2
          refine s_canBe hw2 h32 ⟨fun h => absurd rfl h, fun _ => ⟨fun hz => K _ _ hff hfp (fun h => absurd h hz), fun hz => K _ _ (iv_lit (by decide)) (iv_w hfi (by decide)) (fun h => absurd h (by decide))⟩⟩ (fun hcb => ⟨fun _ => K _ _ hff hfp (fun h => ⟨(hinv h).1, fun j hj => ?_⟩), fun h => absurd h (by decide)⟩)
          by_cases hjx : j = x3.toNatClampNeg
          · rw [hjx]; exact hcb
          · rw [e1]; unfold upd; rw [if_neg hjx]; exact (hinv h).2 j (by omega)
    exact loop _ _ _ _ _ _ _ _ _ (ms_init_up _ _) (iv_lit (by decide)) hff hfp hf_behind hf_kind hf_first (fun h => ⟨hnf h, fun j hj => (Nat.not_lt_zero j (show j < 0 from hj)).elim⟩)
  exact s_isFull hw2 ⟨fun h => absurd h (by decide), fun _ => ⟨fun hz => core _ _ k_f_fault k_f_faultPlace (fun h => absurd h hz), fun _ => core _ _ (iv_lit (by decide)) (iv_w k_f_first (by decide)) (fun h => absurd h (by decide))⟩⟩ (fun hnf => ⟨fun _ => core _ _ k_f_fault k_f_faultPlace (fun _ => hnf), fun h => absurd rfl h⟩)
end
section
-- wr_X4_read_23
set_option maxRecDepth 20000 in
theorem s_wr_X4_read_23_78 {lf_huts : Int32} {lf_singers : Int32} {lf_villages : Int32} {lf_dams : Int32} {lf_echoes : Int32} {lf_deep : Int32} {lf_slide : Int32} {la_heights : Nat → Int32} {la_ladders : Nat → Int32} {la_minutes : Nat → Int32} {la_echoFrom : Nat → Int32} {la_echoTo : Nat → Int32} {la_homes : Nat → Int32} {la_talls : Nat → Int32} {la_known : Nat → Int32} {vf_deeds : Int32} {va_kinds : Nat → Int32} {va_firsts : Nat → Int32} {va_seconds : Nat → Int32} {sf_facts : Int32} {sa_heard : Nat → Int32} {sa_huts : Nat → Int32} {sa_minutes : Nat → Int32} {cf_voices : Int32} {cf_step : Int32} {ca_parts : Nat → Int32} {ca_heights : Nat → Int32} {f_fault : Int32} {f_faultPlace : Int32} {a_numbers : Nat → Int32} {a_tape : Nat → Int32} {f_length : Int32} {f_behind : Int32} {f_kind : Int32} {f_first : Int32} {f_value : Int32} {f_hutsToldOf : Int32} {f_singersToldOf : Int32} {z_from : Nat → Int32} {x3 : Int32} {post : (Int32) → (Int32) → (Int32) → (Int32) → (Int32) → (Int32) → (Int32) → (Nat → Int32) → (Nat → Int32) → (Nat → Int32) → (Nat → Int32) → (Nat → Int32) → (Nat → Int32) → (Nat → Int32) → (Nat → Int32) → (Int32) → (Nat → Int32) → (Nat → Int32) → (Nat → Int32) → (Int32) → (Nat → Int32) → (Nat → Int32) → (Nat → Int32) → (Int32) → (Int32) → (Nat → Int32) → (Nat → Int32) → (Int32) → (Int32) → (Nat → Int32) → (Nat → Int32) → (Int32) → (Int32) → (Int32) → (Int32) → (Int32) → (Int32) → (Int32) → Prop} (k_lf_huts : iv 0 9 lf_huts) (k_lf_singers : iv 0 6 lf_singers) (k_lf_villages : iv 0 511 lf_villages) (k_lf_dams : iv 0 511 lf_dams) (k_lf_echoes : iv 0 4 lf_echoes) (k_lf_deep : iv 1 9 lf_deep) (k_lf_slide : iv 0 10 lf_slide) (k_la_heights : ∀ j, iv 0 99 (la_heights j)) (k_la_ladders : ∀ j, iv 0 9 (la_ladders j)) (k_la_minutes : ∀ j, iv 0 9 (la_minutes j)) (k_la_echoFrom : ∀ j, iv 0 8 (la_echoFrom j)) (k_la_echoTo : ∀ j, iv 0 8 (la_echoTo j)) (k_la_homes : ∀ j, iv 0 8 (la_homes j)) (k_la_talls : ∀ j, iv 0 9 (la_talls j)) (k_la_known : ∀ j, iv 0 31 (la_known j)) (k_vf_deeds : iv 0 40 vf_deeds) (k_va_kinds : ∀ j, iv 0 5 (va_kinds j)) (k_va_firsts : ∀ j, iv 0 5 (va_firsts j)) (k_va_seconds : ∀ j, iv (-1) 8 (va_seconds j)) (k_sf_facts : iv 0 10 sf_facts) (k_sa_heard : ∀ j, iv 0 1 (sa_heard j)) (k_sa_huts : ∀ j, iv 0 8 (sa_huts j)) (k_sa_minutes : ∀ j, iv 0 60 (sa_minutes j)) (k_cf_voices : iv 0 9 cf_voices) (k_cf_step : iv 0 9 cf_step) (k_ca_parts : ∀ j, iv 0 3 (ca_parts j)) (k_ca_heights : ∀ j, iv 0 9 (ca_heights j)) (k_f_fault : iv 0 4 f_fault) (k_f_faultPlace : iv (-1) 600 f_faultPlace) (k_a_tape : ∀ j, iv (-128) 127 (a_tape j)) (k_f_length : iv 0 600 f_length) (k_f_behind : iv 0 600 f_behind) (k_f_kind : iv 0 4 f_kind) (k_f_first : iv 0 600 f_first) (k_z_from : ∀ j, iv (-128) 127 (z_from j)) (hx3 : iv 0 3 x3) (hpost : ∀ (lf_huts : Int32) (lf_singers : Int32) (lf_villages : Int32) (lf_dams : Int32) (lf_echoes : Int32) (lf_deep : Int32) (lf_slide : Int32) (la_heights : Nat → Int32) (la_ladders : Nat → Int32) (la_minutes : Nat → Int32) (la_echoFrom : Nat → Int32) (la_echoTo : Nat → Int32) (la_homes : Nat → Int32) (la_talls : Nat → Int32) (la_known : Nat → Int32) (vf_deeds : Int32) (va_kinds : Nat → Int32) (va_firsts : Nat → Int32) (va_seconds : Nat → Int32) (sf_facts : Int32) (sa_heard : Nat → Int32) (sa_huts : Nat → Int32) (sa_minutes : Nat → Int32) (cf_voices : Int32) (cf_step : Int32) (ca_parts : Nat → Int32) (ca_heights : Nat → Int32) (f_fault : Int32) (f_faultPlace : Int32) (a_numbers : Nat → Int32) (a_tape : Nat → Int32) (f_length : Int32) (f_behind : Int32) (f_kind : Int32) (f_first : Int32) (f_value : Int32) (f_hutsToldOf : Int32) (f_singersToldOf : Int32), (iv 0 9 lf_huts) → (iv 0 6 lf_singers) → (iv 0 511 lf_villages) → (iv 0 511 lf_dams) → (iv 0 4 lf_echoes) → (iv 1 9 lf_deep) → (iv 0 10 lf_slide) → (∀ j, iv 0 99 (la_heights j)) → (∀ j, iv 0 9 (la_ladders j)) → (∀ j, iv 0 9 (la_minutes j)) → (∀ j, iv 0 8 (la_echoFrom j)) → (∀ j, iv 0 8 (la_echoTo j)) → (∀ j, iv 0 8 (la_homes j)) → (∀ j, iv 0 9 (la_talls j)) → (∀ j, iv 0 31 (la_known j)) → (iv 0 40 vf_deeds) → (∀ j, iv 0 5 (va_kinds j)) → (∀ j, iv 0 5 (va_firsts j)) → (∀ j, iv (-1) 8 (va_seconds j)) → (iv 0 10 sf_facts) → (∀ j, iv 0 1 (sa_heard j)) → (∀ j, iv 0 8 (sa_huts j)) → (∀ j, iv 0 60 (sa_minutes j)) → (iv 0 9 cf_voices) → (iv 0 9 cf_step) → (∀ j, iv 0 3 (ca_parts j)) → (∀ j, iv 0 9 (ca_heights j)) → (iv 0 4 f_fault) → (iv (-1) 600 f_faultPlace) → (∀ j, iv (-128) 127 (a_tape j)) → (iv 0 600 f_length) → (iv 0 600 f_behind) → (iv 0 4 f_kind) → (iv 0 600 f_first) → post lf_huts lf_singers lf_villages lf_dams lf_echoes lf_deep lf_slide la_heights la_ladders la_minutes la_echoFrom la_echoTo la_homes la_talls la_known vf_deeds va_kinds va_firsts va_seconds sf_facts sa_heard sa_huts sa_minutes cf_voices cf_step ca_parts ca_heights f_fault f_faultPlace a_numbers a_tape f_length f_behind f_kind f_first f_value f_hutsToldOf f_singersToldOf) : q_wr_X4_read_23_78 lf_huts lf_singers lf_villages lf_dams lf_echoes lf_deep lf_slide la_heights la_ladders la_minutes la_echoFrom la_echoTo la_homes la_talls la_known vf_deeds va_kinds va_firsts va_seconds sf_facts sa_heard sa_huts sa_minutes cf_voices cf_step ca_parts ca_heights f_fault f_faultPlace a_numbers a_tape f_length f_behind f_kind f_first f_value f_hutsToldOf f_singersToldOf z_from x3 post := by
  refine ⟨fun c1 => ?_, fun c1 => ?_⟩
  · skip
    exact hpost _ _ _ _ _ _ _ _ _ _ _ _ _ _ _ _ _ _ _ _ _ _ _ _ _ _ _ _ _ _ _ _ _ _ _ _ _ _ k_lf_huts k_lf_singers k_lf_villages k_lf_dams k_lf_echoes k_lf_deep k_lf_slide k_la_heights k_la_ladders k_la_minutes k_la_echoFrom k_la_echoTo k_la_homes k_la_talls k_la_known k_vf_deeds k_va_kinds k_va_firsts k_va_seconds k_sf_facts k_sa_heard k_sa_huts k_sa_minutes k_cf_voices k_cf_step k_ca_parts k_ca_heights (iv_w (iv_ne (l := 1) (h := 4) c1 k_f_fault (iv_lit (l := 0) (h := 0) (by decide)) (by decide)) (by decide)) k_f_faultPlace k_a_tape k_f_length k_f_behind k_f_kind k_f_first
  · skip
    refine ⟨fun c2 => ?_, fun c2 => ?_⟩
    · skip
      exact hpost _ _ _ _ _ _ _ _ _ _ _ _ _ _ _ _ _ _ _ _ _ _ _ _ _ _ _ _ _ _ _ _ _ _ _ _ _ _ k_lf_huts k_lf_singers k_lf_villages k_lf_dams k_lf_echoes k_lf_deep k_lf_slide k_la_heights k_la_ladders k_la_minutes k_la_echoFrom k_la_echoTo k_la_homes k_la_talls k_la_known k_vf_deeds k_va_kinds k_va_firsts k_va_seconds k_sf_facts k_sa_heard k_sa_huts k_sa_minutes k_cf_voices k_cf_step k_ca_parts k_ca_heights (iv_w (iv_eqa (l := 0) (h := 0) c1 k_f_fault (iv_lit (l := 0) (h := 0) (by decide)) (by decide)) (by decide)) k_f_faultPlace k_a_tape k_f_length k_f_behind k_f_kind k_f_first
    · skip
      refine ⟨fun c3 => ?_, fun c3 => ?_⟩
      · skip
        refine ⟨fun c4 => ?_, fun c4 => ?_⟩
        · skip
          exact (iv_emp (iv_eqa (l := 1) (h := 0) c4 (iv_lit (l := 1) (h := 1) (by decide)) (iv_lit (l := 0) (h := 0) (by decide)) (by decide)) (by decide)).elim
        · skip
          refine ⟨fun c5 => ?_, fun c5 => ?_⟩
          · skip
            exact (iv_emp (iv_ne (l := 1) (h := 0) c5 (iv_eqa (l := 0) (h := 0) c1 k_f_fault (iv_lit (l := 0) (h := 0) (by decide)) (by decide)) (iv_lit (l := 0) (h := 0) (by decide)) (by decide)) (by decide)).elim
          · skip
            exact hpost _ _ _ _ _ _ _ _ _ _ _ _ _ _ _ _ _ _ _ _ _ _ _ _ _ _ _ _ _ _ _ _ _ _ _ _ _ _ k_lf_huts k_lf_singers k_lf_villages k_lf_dams k_lf_echoes k_lf_deep k_lf_slide k_la_heights k_la_ladders k_la_minutes k_la_echoFrom k_la_echoTo k_la_homes k_la_talls k_la_known k_vf_deeds k_va_kinds k_va_firsts k_va_seconds k_sf_facts k_sa_heard k_sa_huts k_sa_minutes k_cf_voices k_cf_step k_ca_parts k_ca_heights (iv_w (iv_lit (l := 4) (h := 4) (by decide)) (by decide)) (iv_w k_f_length (by decide)) k_a_tape k_f_length k_f_behind k_f_kind k_f_first
      · skip
        refine ⟨fun c6 => ?_, fun c6 => ?_⟩
        · skip
          refine ⟨fun c7 => ?_, fun c7 => ?_⟩
          · skip
            exact hpost _ _ _ _ _ _ _ _ _ _ _ _ _ _ _ _ _ _ _ _ _ _ _ _ _ _ _ _ _ _ _ _ _ _ _ _ _ _ k_lf_huts k_lf_singers k_lf_villages k_lf_dams k_lf_echoes k_lf_deep k_lf_slide k_la_heights k_la_ladders k_la_minutes k_la_echoFrom k_la_echoTo k_la_homes k_la_talls k_la_known k_vf_deeds k_va_kinds k_va_firsts k_va_seconds k_sf_facts k_sa_heard k_sa_huts k_sa_minutes k_cf_voices k_cf_step k_ca_parts k_ca_heights (iv_w (iv_eqa (l := 0) (h := 0) c1 k_f_fault (iv_lit (l := 0) (h := 0) (by decide)) (by decide)) (by decide)) k_f_faultPlace k_a_tape k_f_length k_f_behind k_f_kind k_f_first
          · skip
            exact (iv_emp (iv_ne (l := 1) (h := 0) c7 (iv_lit (l := 0) (h := 0) (by decide)) (iv_lit (l := 0) (h := 0) (by decide)) (by decide)) (by decide)).elim
        · skip
          refine ⟨fun c8 => ?_, fun c8 => ?_⟩
          · skip
            exact (iv_emp (iv_eqa (l := 1) (h := 0) c8 (iv_lit (l := 1) (h := 1) (by decide)) (iv_lit (l := 0) (h := 0) (by decide)) (by decide)) (by decide)).elim
          · skip
            refine ⟨fun c9 => ?_, fun c9 => ?_⟩
            · skip
              exact (iv_emp (iv_ne (l := 1) (h := 0) c9 (iv_eqa (l := 0) (h := 0) c1 k_f_fault (iv_lit (l := 0) (h := 0) (by decide)) (by decide)) (iv_lit (l := 0) (h := 0) (by decide)) (by decide)) (by decide)).elim
            · skip
              exact hpost _ _ _ _ _ _ _ _ _ _ _ _ _ _ _ _ _ _ _ _ _ _ _ _ _ _ _ _ _ _ _ _ _ _ _ _ _ _ k_lf_huts k_lf_singers k_lf_villages k_lf_dams k_lf_echoes k_lf_deep k_lf_slide k_la_heights k_la_ladders k_la_minutes k_la_echoFrom k_la_echoTo k_la_homes k_la_talls k_la_known k_vf_deeds k_va_kinds k_va_firsts k_va_seconds k_sf_facts k_sa_heard k_sa_huts k_sa_minutes k_cf_voices k_cf_step k_ca_parts k_ca_heights (iv_w (iv_lit (l := 4) (h := 4) (by decide)) (by decide)) (iv_w k_f_length (by decide)) k_a_tape k_f_length k_f_behind k_f_kind k_f_first
set_option maxRecDepth 20000 in
theorem s_wr_X4_read_23_43 {lf_huts : Int32} {lf_singers : Int32} {lf_villages : Int32} {lf_dams : Int32} {lf_echoes : Int32} {lf_deep : Int32} {lf_slide : Int32} {la_heights : Nat → Int32} {la_ladders : Nat → Int32} {la_minutes : Nat → Int32} {la_echoFrom : Nat → Int32} {la_echoTo : Nat → Int32} {la_homes : Nat → Int32} {la_talls : Nat → Int32} {la_known : Nat → Int32} {vf_deeds : Int32} {va_kinds : Nat → Int32} {va_firsts : Nat → Int32} {va_seconds : Nat → Int32} {sf_facts : Int32} {sa_heard : Nat → Int32} {sa_huts : Nat → Int32} {sa_minutes : Nat → Int32} {cf_voices : Int32} {cf_step : Int32} {ca_parts : Nat → Int32} {ca_heights : Nat → Int32} {f_fault : Int32} {f_faultPlace : Int32} {a_numbers : Nat → Int32} {a_tape : Nat → Int32} {f_length : Int32} {f_behind : Int32} {f_kind : Int32} {f_first : Int32} {f_value : Int32} {f_hutsToldOf : Int32} {f_singersToldOf : Int32} {z_from : Nat → Int32} {x3 : Int32} {x4 : Int32} {post : (Int32) → (Int32) → (Int32) → (Int32) → (Int32) → (Int32) → (Int32) → (Nat → Int32) → (Nat → Int32) → (Nat → Int32) → (Nat → Int32) → (Nat → Int32) → (Nat → Int32) → (Nat → Int32) → (Nat → Int32) → (Int32) → (Nat → Int32) → (Nat → Int32) → (Nat → Int32) → (Int32) → (Nat → Int32) → (Nat → Int32) → (Nat → Int32) → (Int32) → (Int32) → (Nat → Int32) → (Nat → Int32) → (Int32) → (Int32) → (Nat → Int32) → (Nat → Int32) → (Int32) → (Int32) → (Int32) → (Int32) → (Int32) → (Int32) → (Int32) → Prop} (k_lf_huts : iv 0 9 lf_huts) (k_lf_singers : iv 0 6 lf_singers) (k_lf_villages : iv 0 511 lf_villages) (k_lf_dams : iv 0 511 lf_dams) (k_lf_echoes : iv 0 4 lf_echoes) (k_lf_deep : iv 1 9 lf_deep) (k_lf_slide : iv 0 10 lf_slide) (k_la_heights : ∀ j, iv 0 99 (la_heights j)) (k_la_ladders : ∀ j, iv 0 9 (la_ladders j)) (k_la_minutes : ∀ j, iv 0 9 (la_minutes j)) (k_la_echoFrom : ∀ j, iv 0 8 (la_echoFrom j)) (k_la_echoTo : ∀ j, iv 0 8 (la_echoTo j)) (k_la_homes : ∀ j, iv 0 8 (la_homes j)) (k_la_talls : ∀ j, iv 0 9 (la_talls j)) (k_la_known : ∀ j, iv 0 31 (la_known j)) (k_vf_deeds : iv 0 40 vf_deeds) (k_va_kinds : ∀ j, iv 0 5 (va_kinds j)) (k_va_firsts : ∀ j, iv 0 5 (va_firsts j)) (k_va_seconds : ∀ j, iv (-1) 8 (va_seconds j)) (k_sf_facts : iv 0 10 sf_facts) (k_sa_heard : ∀ j, iv 0 1 (sa_heard j)) (k_sa_huts : ∀ j, iv 0 8 (sa_huts j)) (k_sa_minutes : ∀ j, iv 0 60 (sa_minutes j)) (k_cf_voices : iv 0 9 cf_voices) (k_cf_step : iv 0 9 cf_step) (k_ca_parts : ∀ j, iv 0 3 (ca_parts j)) (k_ca_heights : ∀ j, iv 0 9 (ca_heights j)) (k_f_fault : iv 0 4 f_fault) (k_f_faultPlace : iv (-1) 600 f_faultPlace) (k_a_tape : ∀ j, iv (-128) 127 (a_tape j)) (k_f_length : iv 0 600 f_length) (k_f_behind : iv 0 600 f_behind) (k_f_kind : iv 0 4 f_kind) (k_f_first : iv 0 600 f_first) (k_z_from : ∀ j, iv (-128) 127 (z_from j)) (hx3 : iv 0 3 x3) (hx4 : iv 0 600 x4) (hpost : ∀ (lf_huts : Int32) (lf_singers : Int32) (lf_villages : Int32) (lf_dams : Int32) (lf_echoes : Int32) (lf_deep : Int32) (lf_slide : Int32) (la_heights : Nat → Int32) (la_ladders : Nat → Int32) (la_minutes : Nat → Int32) (la_echoFrom : Nat → Int32) (la_echoTo : Nat → Int32) (la_homes : Nat → Int32) (la_talls : Nat → Int32) (la_known : Nat → Int32) (vf_deeds : Int32) (va_kinds : Nat → Int32) (va_firsts : Nat → Int32) (va_seconds : Nat → Int32) (sf_facts : Int32) (sa_heard : Nat → Int32) (sa_huts : Nat → Int32) (sa_minutes : Nat → Int32) (cf_voices : Int32) (cf_step : Int32) (ca_parts : Nat → Int32) (ca_heights : Nat → Int32) (f_fault : Int32) (f_faultPlace : Int32) (a_numbers : Nat → Int32) (a_tape : Nat → Int32) (f_length : Int32) (f_behind : Int32) (f_kind : Int32) (f_first : Int32) (f_value : Int32) (f_hutsToldOf : Int32) (f_singersToldOf : Int32), (iv 0 9 lf_huts) → (iv 0 6 lf_singers) → (iv 0 511 lf_villages) → (iv 0 511 lf_dams) → (iv 0 4 lf_echoes) → (iv 1 9 lf_deep) → (iv 0 10 lf_slide) → (∀ j, iv 0 99 (la_heights j)) → (∀ j, iv 0 9 (la_ladders j)) → (∀ j, iv 0 9 (la_minutes j)) → (∀ j, iv 0 8 (la_echoFrom j)) → (∀ j, iv 0 8 (la_echoTo j)) → (∀ j, iv 0 8 (la_homes j)) → (∀ j, iv 0 9 (la_talls j)) → (∀ j, iv 0 31 (la_known j)) → (iv 0 40 vf_deeds) → (∀ j, iv 0 5 (va_kinds j)) → (∀ j, iv 0 5 (va_firsts j)) → (∀ j, iv (-1) 8 (va_seconds j)) → (iv 0 10 sf_facts) → (∀ j, iv 0 1 (sa_heard j)) → (∀ j, iv 0 8 (sa_huts j)) → (∀ j, iv 0 60 (sa_minutes j)) → (iv 0 9 cf_voices) → (iv 0 9 cf_step) → (∀ j, iv 0 3 (ca_parts j)) → (∀ j, iv 0 9 (ca_heights j)) → (iv 0 4 f_fault) → (iv (-1) 600 f_faultPlace) → (∀ j, iv (-128) 127 (a_tape j)) → (iv 0 600 f_length) → (iv 0 600 f_behind) → (iv 0 4 f_kind) → (iv 0 600 f_first) → post lf_huts lf_singers lf_villages lf_dams lf_echoes lf_deep lf_slide la_heights la_ladders la_minutes la_echoFrom la_echoTo la_homes la_talls la_known vf_deeds va_kinds va_firsts va_seconds sf_facts sa_heard sa_huts sa_minutes cf_voices cf_step ca_parts ca_heights f_fault f_faultPlace a_numbers a_tape f_length f_behind f_kind f_first f_value f_hutsToldOf f_singersToldOf) : q_wr_X4_read_23_43 lf_huts lf_singers lf_villages lf_dams lf_echoes lf_deep lf_slide la_heights la_ladders la_minutes la_echoFrom la_echoTo la_homes la_talls la_known vf_deeds va_kinds va_firsts va_seconds sf_facts sa_heard sa_huts sa_minutes cf_voices cf_step ca_parts ca_heights f_fault f_faultPlace a_numbers a_tape f_length f_behind f_kind f_first f_value f_hutsToldOf f_singersToldOf z_from x3 x4 post := by
  intro P hP
  have loop : ∀ (n : Nat) (x4 : Int32) (lf_huts : Int32) (lf_singers : Int32) (lf_villages : Int32) (lf_dams : Int32) (lf_echoes : Int32) (lf_deep : Int32) (lf_slide : Int32) (la_heights : Nat → Int32) (la_ladders : Nat → Int32) (la_minutes : Nat → Int32) (la_echoFrom : Nat → Int32) (la_echoTo : Nat → Int32) (la_homes : Nat → Int32) (la_talls : Nat → Int32) (la_known : Nat → Int32) (vf_deeds : Int32) (va_kinds : Nat → Int32) (va_firsts : Nat → Int32) (va_seconds : Nat → Int32) (sf_facts : Int32) (sa_heard : Nat → Int32) (sa_huts : Nat → Int32) (sa_minutes : Nat → Int32) (cf_voices : Int32) (cf_step : Int32) (ca_parts : Nat → Int32) (ca_heights : Nat → Int32) (f_fault : Int32) (f_faultPlace : Int32) (a_numbers : Nat → Int32) (f_behind : Int32) (f_kind : Int32) (f_first : Int32) (f_value : Int32) (f_hutsToldOf : Int32) (f_singersToldOf : Int32), (600 - x4.toInt < (n : Int)) → (iv 0 600 x4) → (iv 0 9 lf_huts) → (iv 0 6 lf_singers) → (iv 0 511 lf_villages) → (iv 0 511 lf_dams) → (iv 0 4 lf_echoes) → (iv 1 9 lf_deep) → (iv 0 10 lf_slide) → (∀ j, iv 0 99 (la_heights j)) → (∀ j, iv 0 9 (la_ladders j)) → (∀ j, iv 0 9 (la_minutes j)) → (∀ j, iv 0 8 (la_echoFrom j)) → (∀ j, iv 0 8 (la_echoTo j)) → (∀ j, iv 0 8 (la_homes j)) → (∀ j, iv 0 9 (la_talls j)) → (∀ j, iv 0 31 (la_known j)) → (iv 0 40 vf_deeds) → (∀ j, iv 0 5 (va_kinds j)) → (∀ j, iv 0 5 (va_firsts j)) → (∀ j, iv (-1) 8 (va_seconds j)) → (iv 0 10 sf_facts) → (∀ j, iv 0 1 (sa_heard j)) → (∀ j, iv 0 8 (sa_huts j)) → (∀ j, iv 0 60 (sa_minutes j)) → (iv 0 9 cf_voices) → (iv 0 9 cf_step) → (∀ j, iv 0 3 (ca_parts j)) → (∀ j, iv 0 9 (ca_heights j)) → (iv 0 4 f_fault) → (iv (-1) 600 f_faultPlace) → (iv 0 600 f_behind) → (iv 0 4 f_kind) → (iv 0 600 f_first) → P x4 lf_huts lf_singers lf_villages lf_dams lf_echoes lf_deep lf_slide la_heights la_ladders la_minutes la_echoFrom la_echoTo la_homes la_talls la_known vf_deeds va_kinds va_firsts va_seconds sf_facts sa_heard sa_huts sa_minutes cf_voices cf_step ca_parts ca_heights f_fault f_faultPlace a_numbers f_behind f_kind f_first f_value f_hutsToldOf f_singersToldOf := by
    intro n
    induction n with
    | zero => intro x4 lf_huts lf_singers lf_villages lf_dams lf_echoes lf_deep lf_slide la_heights la_ladders la_minutes la_echoFrom la_echoTo la_homes la_talls la_known vf_deeds va_kinds va_firsts va_seconds sf_facts sa_heard sa_huts sa_minutes cf_voices cf_step ca_parts ca_heights f_fault f_faultPlace a_numbers f_behind f_kind f_first f_value f_hutsToldOf f_singersToldOf hm hx4 k_lf_huts k_lf_singers k_lf_villages k_lf_dams k_lf_echoes k_lf_deep k_lf_slide k_la_heights k_la_ladders k_la_minutes k_la_echoFrom k_la_echoTo k_la_homes k_la_talls k_la_known k_vf_deeds k_va_kinds k_va_firsts k_va_seconds k_sf_facts k_sa_heard k_sa_huts k_sa_minutes k_cf_voices k_cf_step k_ca_parts k_ca_heights k_f_fault k_f_faultPlace k_f_behind k_f_kind k_f_first; exact (ms0_up hm hx4).elim
    | succ n ih =>
      intro x4 lf_huts lf_singers lf_villages lf_dams lf_echoes lf_deep lf_slide la_heights la_ladders la_minutes la_echoFrom la_echoTo la_homes la_talls la_known vf_deeds va_kinds va_firsts va_seconds sf_facts sa_heard sa_huts sa_minutes cf_voices cf_step ca_parts ca_heights f_fault f_faultPlace a_numbers f_behind f_kind f_first f_value f_hutsToldOf f_singersToldOf hm hx4 k_lf_huts k_lf_singers k_lf_villages k_lf_dams k_lf_echoes k_lf_deep k_lf_slide k_la_heights k_la_ladders k_la_minutes k_la_echoFrom k_la_echoTo k_la_homes k_la_talls k_la_known k_vf_deeds k_va_kinds k_va_firsts k_va_seconds k_sf_facts k_sa_heard k_sa_huts k_sa_minutes k_cf_voices k_cf_step k_ca_parts k_ca_heights k_f_fault k_f_faultPlace k_f_behind k_f_kind k_f_first
      apply hP
      refine ⟨fun c1 => ?_, fun c1 => ?_⟩
      · skip
        exact s_wr_X4_read_23_78 k_lf_huts k_lf_singers k_lf_villages k_lf_dams k_lf_echoes k_lf_deep k_lf_slide k_la_heights k_la_ladders k_la_minutes k_la_echoFrom k_la_echoTo k_la_homes k_la_talls k_la_known k_vf_deeds k_va_kinds k_va_firsts k_va_seconds k_sf_facts k_sa_heard k_sa_huts k_sa_minutes k_cf_voices k_cf_step k_ca_parts k_ca_heights k_f_fault k_f_faultPlace k_a_tape k_f_length k_f_behind k_f_kind k_f_first k_z_from hx3 hpost
      · skip
        refine ⟨fun c2 => ?_, fun c2 => ?_⟩
        · skip
          exact s_wr_X4_read_23_78 k_lf_huts k_lf_singers k_lf_villages k_lf_dams k_lf_echoes k_lf_deep k_lf_slide k_la_heights k_la_ladders k_la_minutes k_la_echoFrom k_la_echoTo k_la_homes k_la_talls k_la_known k_vf_deeds k_va_kinds k_va_firsts k_va_seconds k_sf_facts k_sa_heard k_sa_huts k_sa_minutes k_cf_voices k_cf_step k_ca_parts k_ca_heights k_f_fault k_f_faultPlace k_a_tape (iv_w (iv_ltb (l := 1) (h := 600) (r_nle c1) hx4 k_f_length (by decide)) (by decide)) k_f_behind (iv_w (iv_eqa (l := 0) (h := 0) c2 k_f_kind (iv_lit (l := 0) (h := 0) (by decide)) (by decide)) (by decide)) k_f_first k_z_from hx3 hpost
        · skip
          refine ⟨fun c3 => ?_, fun c3 => ?_⟩
          · skip
            exact s_wr_X4_read_23_78 k_lf_huts k_lf_singers k_lf_villages k_lf_dams k_lf_echoes k_lf_deep k_lf_slide k_la_heights k_la_ladders k_la_minutes k_la_echoFrom k_la_echoTo k_la_homes k_la_talls k_la_known k_vf_deeds k_va_kinds k_va_firsts k_va_seconds k_sf_facts k_sa_heard k_sa_huts k_sa_minutes k_cf_voices k_cf_step k_ca_parts k_ca_heights (iv_w (iv_eqa (l := 1) (h := 1) c3 k_f_fault (iv_lit (l := 1) (h := 1) (by decide)) (by decide)) (by decide)) k_f_faultPlace k_a_tape (iv_w (iv_ltb (l := 1) (h := 600) (r_nle c1) hx4 k_f_length (by decide)) (by decide)) k_f_behind (iv_w (iv_ne (l := 1) (h := 4) c2 k_f_kind (iv_lit (l := 0) (h := 0) (by decide)) (by decide)) (by decide)) k_f_first k_z_from hx3 hpost
          · skip
            refine s_wr_X4_readLine_0 k_lf_huts k_lf_singers k_lf_villages k_lf_dams k_lf_echoes k_lf_deep k_lf_slide k_la_heights k_la_ladders k_la_minutes k_la_echoFrom k_la_echoTo k_la_homes k_la_talls k_la_known k_vf_deeds k_va_kinds k_va_firsts k_va_seconds k_sf_facts k_sa_heard k_sa_huts k_sa_minutes k_cf_voices k_cf_step k_ca_parts k_ca_heights k_f_fault k_f_faultPlace k_a_tape (iv_w (iv_ltb (l := 1) (h := 600) (r_nle c1) hx4 k_f_length (by decide)) (by decide)) k_f_behind (iv_w (iv_ne (l := 1) (h := 4) c2 k_f_kind (iv_lit (l := 0) (h := 0) (by decide)) (by decide)) (by decide)) k_f_first hx3 (fun o4 o5 o6 o7 o8 o9 o10 o11 o12 o13 o14 o15 o16 o17 o18 o19 o20 o21 o22 o23 o24 o25 o26 o27 o28 o29 o30 o31 o32 o33 o34 o35 o36 o37 o38 o39 k_o4 k_o5 k_o6 k_o7 k_o8 k_o9 k_o10 k_o11 k_o12 k_o13 k_o14 k_o15 k_o16 k_o17 k_o18 k_o19 k_o20 k_o21 k_o22 k_o23 k_o24 k_o25 k_o26 k_o27 k_o28 k_o29 k_o30 k_o31 k_o32 k_o34 k_o35 k_o36 => ?_)
            intro w40 ew40
            have hw40 := iv_eq ew40 (iv_add (l := 1) (h := 600) (iv_lta (l := 0) (h := 599) (r_nle c1) hx4 k_f_length (by decide)) (iv_lit (l := 1) (h := 1) (by decide)) (by decide))
            exact ih _ _ _ _ _ _ _ _ _ _ _ _ _ _ _ _ _ _ _ _ _ _ _ _ _ _ _ _ _ _ _ _ _ _ _ _ _ (ms_up hm (inc_lt ew40 (iv_lta (l := 0) (h := 599) (r_nle c1) hx4 k_f_length (by decide)) (by decide))) (iv_w hw40 (by decide)) k_o4 k_o5 k_o6 k_o7 k_o8 k_o9 k_o10 k_o11 k_o12 k_o13 k_o14 k_o15 k_o16 k_o17 k_o18 k_o19 k_o20 k_o21 k_o22 k_o23 k_o24 k_o25 k_o26 k_o27 k_o28 k_o29 k_o30 k_o31 k_o32 k_o34 k_o35 k_o36
  exact loop _ _ _ _ _ _ _ _ _ _ _ _ _ _ _ _ _ _ _ _ _ _ _ _ _ _ _ _ _ _ _ _ _ _ _ _ _ _ (ms_init_up _ _) hx4 k_lf_huts k_lf_singers k_lf_villages k_lf_dams k_lf_echoes k_lf_deep k_lf_slide k_la_heights k_la_ladders k_la_minutes k_la_echoFrom k_la_echoTo k_la_homes k_la_talls k_la_known k_vf_deeds k_va_kinds k_va_firsts k_va_seconds k_sf_facts k_sa_heard k_sa_huts k_sa_minutes k_cf_voices k_cf_step k_ca_parts k_ca_heights k_f_fault k_f_faultPlace k_f_behind k_f_kind k_f_first
set_option maxRecDepth 20000 in
theorem s_wr_X4_read_23_0 {lf_huts : Int32} {lf_singers : Int32} {lf_villages : Int32} {lf_dams : Int32} {lf_echoes : Int32} {lf_deep : Int32} {lf_slide : Int32} {la_heights : Nat → Int32} {la_ladders : Nat → Int32} {la_minutes : Nat → Int32} {la_echoFrom : Nat → Int32} {la_echoTo : Nat → Int32} {la_homes : Nat → Int32} {la_talls : Nat → Int32} {la_known : Nat → Int32} {vf_deeds : Int32} {va_kinds : Nat → Int32} {va_firsts : Nat → Int32} {va_seconds : Nat → Int32} {sf_facts : Int32} {sa_heard : Nat → Int32} {sa_huts : Nat → Int32} {sa_minutes : Nat → Int32} {cf_voices : Int32} {cf_step : Int32} {ca_parts : Nat → Int32} {ca_heights : Nat → Int32} {f_fault : Int32} {f_faultPlace : Int32} {a_numbers : Nat → Int32} {a_tape : Nat → Int32} {f_length : Int32} {f_behind : Int32} {f_kind : Int32} {f_first : Int32} {f_value : Int32} {f_hutsToldOf : Int32} {f_singersToldOf : Int32} {z_from : Nat → Int32} {x2 : Int32} {x3 : Int32} {post : (Int32) → (Int32) → (Int32) → (Int32) → (Int32) → (Int32) → (Int32) → (Nat → Int32) → (Nat → Int32) → (Nat → Int32) → (Nat → Int32) → (Nat → Int32) → (Nat → Int32) → (Nat → Int32) → (Nat → Int32) → (Int32) → (Nat → Int32) → (Nat → Int32) → (Nat → Int32) → (Int32) → (Nat → Int32) → (Nat → Int32) → (Nat → Int32) → (Int32) → (Int32) → (Nat → Int32) → (Nat → Int32) → (Int32) → (Int32) → (Nat → Int32) → (Nat → Int32) → (Int32) → (Int32) → (Int32) → (Int32) → (Int32) → (Int32) → (Int32) → Prop} (k_lf_huts : iv 0 9 lf_huts) (k_lf_singers : iv 0 6 lf_singers) (k_lf_villages : iv 0 511 lf_villages) (k_lf_dams : iv 0 511 lf_dams) (k_lf_echoes : iv 0 4 lf_echoes) (k_lf_deep : iv 1 9 lf_deep) (k_lf_slide : iv 0 10 lf_slide) (k_la_heights : ∀ j, iv 0 99 (la_heights j)) (k_la_ladders : ∀ j, iv 0 9 (la_ladders j)) (k_la_minutes : ∀ j, iv 0 9 (la_minutes j)) (k_la_echoFrom : ∀ j, iv 0 8 (la_echoFrom j)) (k_la_echoTo : ∀ j, iv 0 8 (la_echoTo j)) (k_la_homes : ∀ j, iv 0 8 (la_homes j)) (k_la_talls : ∀ j, iv 0 9 (la_talls j)) (k_la_known : ∀ j, iv 0 31 (la_known j)) (k_vf_deeds : iv 0 40 vf_deeds) (k_va_kinds : ∀ j, iv 0 5 (va_kinds j)) (k_va_firsts : ∀ j, iv 0 5 (va_firsts j)) (k_va_seconds : ∀ j, iv (-1) 8 (va_seconds j)) (k_sf_facts : iv 0 10 sf_facts) (k_sa_heard : ∀ j, iv 0 1 (sa_heard j)) (k_sa_huts : ∀ j, iv 0 8 (sa_huts j)) (k_sa_minutes : ∀ j, iv 0 60 (sa_minutes j)) (k_cf_voices : iv 0 9 cf_voices) (k_cf_step : iv 0 9 cf_step) (k_ca_parts : ∀ j, iv 0 3 (ca_parts j)) (k_ca_heights : ∀ j, iv 0 9 (ca_heights j)) (k_f_fault : iv 0 4 f_fault) (k_f_faultPlace : iv (-1) 600 f_faultPlace) (k_a_tape : ∀ j, iv (-128) 127 (a_tape j)) (k_f_length : iv 0 600 f_length) (k_f_behind : iv 0 600 f_behind) (k_f_kind : iv 0 4 f_kind) (k_f_first : iv 0 600 f_first) (k_z_from : ∀ j, iv (-128) 127 (z_from j)) (hx2 : iv 0 600 x2) (hx3 : iv 0 3 x3) (hpost : ∀ (lf_huts : Int32) (lf_singers : Int32) (lf_villages : Int32) (lf_dams : Int32) (lf_echoes : Int32) (lf_deep : Int32) (lf_slide : Int32) (la_heights : Nat → Int32) (la_ladders : Nat → Int32) (la_minutes : Nat → Int32) (la_echoFrom : Nat → Int32) (la_echoTo : Nat → Int32) (la_homes : Nat → Int32) (la_talls : Nat → Int32) (la_known : Nat → Int32) (vf_deeds : Int32) (va_kinds : Nat → Int32) (va_firsts : Nat → Int32) (va_seconds : Nat → Int32) (sf_facts : Int32) (sa_heard : Nat → Int32) (sa_huts : Nat → Int32) (sa_minutes : Nat → Int32) (cf_voices : Int32) (cf_step : Int32) (ca_parts : Nat → Int32) (ca_heights : Nat → Int32) (f_fault : Int32) (f_faultPlace : Int32) (a_numbers : Nat → Int32) (a_tape : Nat → Int32) (f_length : Int32) (f_behind : Int32) (f_kind : Int32) (f_first : Int32) (f_value : Int32) (f_hutsToldOf : Int32) (f_singersToldOf : Int32), (iv 0 9 lf_huts) → (iv 0 6 lf_singers) → (iv 0 511 lf_villages) → (iv 0 511 lf_dams) → (iv 0 4 lf_echoes) → (iv 1 9 lf_deep) → (iv 0 10 lf_slide) → (∀ j, iv 0 99 (la_heights j)) → (∀ j, iv 0 9 (la_ladders j)) → (∀ j, iv 0 9 (la_minutes j)) → (∀ j, iv 0 8 (la_echoFrom j)) → (∀ j, iv 0 8 (la_echoTo j)) → (∀ j, iv 0 8 (la_homes j)) → (∀ j, iv 0 9 (la_talls j)) → (∀ j, iv 0 31 (la_known j)) → (iv 0 40 vf_deeds) → (∀ j, iv 0 5 (va_kinds j)) → (∀ j, iv 0 5 (va_firsts j)) → (∀ j, iv (-1) 8 (va_seconds j)) → (iv 0 10 sf_facts) → (∀ j, iv 0 1 (sa_heard j)) → (∀ j, iv 0 8 (sa_huts j)) → (∀ j, iv 0 60 (sa_minutes j)) → (iv 0 9 cf_voices) → (iv 0 9 cf_step) → (∀ j, iv 0 3 (ca_parts j)) → (∀ j, iv 0 9 (ca_heights j)) → (iv 0 4 f_fault) → (iv (-1) 600 f_faultPlace) → (∀ j, iv (-128) 127 (a_tape j)) → (iv 0 600 f_length) → (iv 0 600 f_behind) → (iv 0 4 f_kind) → (iv 0 600 f_first) → post lf_huts lf_singers lf_villages lf_dams lf_echoes lf_deep lf_slide la_heights la_ladders la_minutes la_echoFrom la_echoTo la_homes la_talls la_known vf_deeds va_kinds va_firsts va_seconds sf_facts sa_heard sa_huts sa_minutes cf_voices cf_step ca_parts ca_heights f_fault f_faultPlace a_numbers a_tape f_length f_behind f_kind f_first f_value f_hutsToldOf f_singersToldOf) : q_wr_X4_read_23_0 lf_huts lf_singers lf_villages lf_dams lf_echoes lf_deep lf_slide la_heights la_ladders la_minutes la_echoFrom la_echoTo la_homes la_talls la_known vf_deeds va_kinds va_firsts va_seconds sf_facts sa_heard sa_huts sa_minutes cf_voices cf_step ca_parts ca_heights f_fault f_faultPlace a_numbers a_tape f_length f_behind f_kind f_first f_value f_hutsToldOf f_singersToldOf z_from x2 x3 post := by
  refine ⟨iv_nn hx2 (by decide), ?_⟩
  refine ⟨iv_len (iv_lit (l := 0) (h := 0) (by decide)) hx2 (by decide), ?_⟩
  refine ⟨iv_len (iv_lit (l := 0) (h := 0) (by decide)) hx2 (by decide), ?_⟩
  refine ⟨fun i _ => iv_fitB (k_z_from _), ?_⟩
  intro a1 ea1
  have k_a1 := iv_cpy ea1 k_z_from k_a_tape
  refine s_wr_X4_clearDraft_0 k_lf_huts k_lf_singers k_lf_villages k_lf_dams k_lf_echoes k_lf_deep k_lf_slide k_la_ladders k_la_minutes k_la_known k_vf_deeds k_sf_facts k_cf_voices k_cf_step hx3 (fun o2 o3 o4 o5 o6 o7 o8 o9 o10 o11 o12 o13 o14 o15 o16 o17 k_o2 k_o3 k_o4 k_o5 k_o6 k_o7 k_o8 k_o9 k_o10 k_o11 k_o12 k_o13 k_o14 k_o15 => ?_)
  refine s_wr_X4_advance_0 k_a1 hx2 (iv_w (iv_lit (l := 0) (h := 0) (by decide)) (by decide)) k_f_kind k_f_first (fun o18 o19 o20 o21 k_o18 k_o19 k_o20 => ?_)
  exact s_wr_X4_read_23_43 k_o2 k_o3 k_o4 k_o5 k_o6 k_o7 k_o8 k_la_heights k_o9 k_o10 k_la_echoFrom k_la_echoTo k_la_homes k_la_talls k_o11 k_o12 k_va_kinds k_va_firsts k_va_seconds k_o13 k_sa_heard k_sa_huts k_sa_minutes k_o14 k_o15 k_ca_parts k_ca_heights (iv_w (iv_lit (l := 0) (h := 0) (by decide)) (by decide)) (iv_w (iv_lit (l := (-1)) (h := (-1)) (by decide)) (by decide)) k_a1 hx2 k_o18 k_o19 k_o20 k_z_from hx3 (iv_w (iv_lit (l := 0) (h := 0) (by decide)) (by decide)) hpost
-- wk0_X5_measure_3
set_option maxRecDepth 20000 in
theorem s_wk0_X5_measure_3_69 {P2 : Int32 → (Nat → Int32) → (Nat → Int32) → Prop} {P19 : Int32 → (Nat → Int32) → (Nat → Int32) → Prop} {a_gaps : Nat → Int32} {a_behind : Nat → Int32} {cf_voices : Int32} {cf_step : Int32} {ca_parts : Nat → Int32} {ca_heights : Nat → Int32} {x2 : Int32} {x3 : Int32} {post : (Nat → Int32) → (Nat → Int32) → Prop} (k_a_behind : ∀ j, iv 0 511 (a_behind j)) (k_cf_voices : iv 1 9 cf_voices) (k_cf_step : iv 0 9 cf_step) (k_ca_parts : ∀ j, iv 0 3 (ca_parts j)) (k_ca_heights : ∀ j, iv 0 9 (ca_heights j)) (hx2 : iv 0 8 x2) (hx3 : iv 0 8 x3) (m2 : Int) (hm2 : m2 ≤ x2.toInt) (hP2 : ∀ (x2 : Int32) (a_gaps : Nat → Int32) (a_behind : Nat → Int32), m2 < x2.toInt → iv 0 9 x2 → (∀ j, iv 0 511 (a_behind j)) → P2 x2 a_gaps a_behind) (m19 : Int) (hm19 : m19 ≤ x3.toInt) (hP19 : ∀ (x3 : Int32) (a_gaps : Nat → Int32) (a_behind : Nat → Int32), m19 < x3.toInt → iv 0 9 x3 → (∀ j, iv 0 511 (a_behind j)) → P19 x3 a_gaps a_behind) (hpost : ∀ (a_gaps : Nat → Int32) (a_behind : Nat → Int32), (∀ j, iv 0 511 (a_behind j)) → post a_gaps a_behind) : q_wk0_X5_measure_3_69 P2 P19 a_gaps a_behind cf_voices cf_step ca_parts ca_heights x2 x3 post := by
  intro w1 ew1
  have hw1 := iv_eq ew1 (iv_add (l := 1) (h := 9) hx3 (iv_lit (l := 1) (h := 1) (by decide)) (by decide))
  exact hP19 _ _ _ (ml_up hm19 (inc_lt ew1 hx3 (by decide))) (iv_w hw1 (by decide)) k_a_behind
set_option maxRecDepth 20000 in
theorem s_wk0_X5_measure_3_19 {P2 : Int32 → (Nat → Int32) → (Nat → Int32) → Prop} {a_gaps : Nat → Int32} {a_behind : Nat → Int32} {cf_voices : Int32} {cf_step : Int32} {ca_parts : Nat → Int32} {ca_heights : Nat → Int32} {x2 : Int32} {x3 : Int32} {post : (Nat → Int32) → (Nat → Int32) → Prop} (k_a_behind : ∀ j, iv 0 511 (a_behind j)) (k_cf_voices : iv 1 9 cf_voices) (k_cf_step : iv 0 9 cf_step) (k_ca_parts : ∀ j, iv 0 3 (ca_parts j)) (k_ca_heights : ∀ j, iv 0 9 (ca_heights j)) (hx2 : iv 0 8 x2) (hx3 : iv 0 9 x3) (m2 : Int) (hm2 : m2 ≤ x2.toInt) (hP2 : ∀ (x2 : Int32) (a_gaps : Nat → Int32) (a_behind : Nat → Int32), m2 < x2.toInt → iv 0 9 x2 → (∀ j, iv 0 511 (a_behind j)) → P2 x2 a_gaps a_behind) (hpost : ∀ (a_gaps : Nat → Int32) (a_behind : Nat → Int32), (∀ j, iv 0 511 (a_behind j)) → post a_gaps a_behind) : q_wk0_X5_measure_3_19 P2 a_gaps a_behind cf_voices cf_step ca_parts ca_heights x2 x3 post := by
  intro P hP
  have loop : ∀ (n : Nat) (x3 : Int32) (a_gaps : Nat → Int32) (a_behind : Nat → Int32), (9 - x3.toInt < (n : Int)) → (iv 0 9 x3) → (∀ j, iv 0 511 (a_behind j)) → P x3 a_gaps a_behind := by
    intro n
    induction n with
    | zero => intro x3 a_gaps a_behind hm hx3 k_a_behind; exact (ms0_up hm hx3).elim
    | succ n ih =>
      intro x3 a_gaps a_behind hm hx3 k_a_behind
      apply hP
      refine ⟨fun c1 => ?_, fun c1 => ?_⟩
      · skip
        intro w2 ew2
        have hw2 := iv_eq ew2 (iv_add (l := 1) (h := 9) hx2 (iv_lit (l := 1) (h := 1) (by decide)) (by decide))
        exact hP2 _ _ _ (ml_up hm2 (inc_lt ew2 hx2 (by decide))) (iv_w hw2 (by decide)) k_a_behind
      · skip
        refine ⟨iv_in hx2 (by decide), ?_⟩
        refine ⟨iv_in (iv_lta (l := 0) (h := 8) (r_nle c1) hx3 k_cf_voices (by decide)) (by decide), ?_⟩
        refine ⟨fun c3 => ?_, fun c3 => ?_⟩
        · skip
          refine ⟨iv_in (iv_lta (l := 0) (h := 8) (r_nle c1) hx3 k_cf_voices (by decide)) (by decide), ?_⟩
          refine ⟨iv_in hx2 (by decide), ?_⟩
          refine ⟨iv_in (iv_add (l := 0) (h := 80) (iv_mul (l := 0) (h := 72) hx2 (iv_lit (l := 9) (h := 9) (by decide)) (by decide)) (iv_lta (l := 0) (h := 8) (r_nle c1) hx3 k_cf_voices (by decide)) (by decide)) (by decide), ?_⟩
          intro a4 ea4
          refine ⟨fun c5 => ?_, fun c5 => ?_⟩
          · skip
            exact s_wk0_X5_measure_3_69 k_a_behind k_cf_voices (iv_w (iv_lta (l := 0) (h := 8) (r_lt c5) k_cf_step (iv_max (l := 0) (h := 9) (iv_lit (l := 0) (h := 0) (by decide)) (iv_sub (l := (-9)) (h := 9) (k_ca_heights _) (k_ca_heights _) (by decide)) (by decide)) (by decide)) (by decide)) k_ca_parts k_ca_heights hx2 (iv_lta (l := 0) (h := 8) (r_nle c1) hx3 k_cf_voices (by decide)) m2 hm2 hP2 x3.toInt (Int.le_refl _) (fun u0 u1 u2 hq g0 g1 => ih u0 u1 u2 (ms_up hm hq) g0 g1) hpost
          · skip
            refine ⟨iv_in hx2 (by decide), ?_⟩
            intro w6 ew6
            have hw6 := iv_eq ew6 (iv_or 9 (l := 0) (h := 511) (k_a_behind _) (iv_shl1 (l := 1) (h := 256) (iv_lit (l := 1) (h := 1) (by decide)) (iv_lta (l := 0) (h := 8) (r_nle c1) hx3 k_cf_voices (by decide)) (by decide)) (by decide))
            refine ⟨iv_in hx2 (by decide), ?_⟩
            intro a7 ea7
            have k_a7 := iv_upd ea7 k_a_behind hw6
            exact s_wk0_X5_measure_3_69 k_a7 k_cf_voices k_cf_step k_ca_parts k_ca_heights hx2 (iv_lta (l := 0) (h := 8) (r_nle c1) hx3 k_cf_voices (by decide)) m2 hm2 hP2 x3.toInt (Int.le_refl _) (fun u0 u1 u2 hq g0 g1 => ih u0 u1 u2 (ms_up hm hq) g0 g1) hpost
        · skip
          refine ⟨iv_in (iv_add (l := 0) (h := 80) (iv_mul (l := 0) (h := 72) hx2 (iv_lit (l := 9) (h := 9) (by decide)) (by decide)) (iv_lta (l := 0) (h := 8) (r_nle c1) hx3 k_cf_voices (by decide)) (by decide)) (by decide), ?_⟩
          intro a8 ea8
          refine ⟨fun c9 => ?_, fun c9 => ?_⟩
          · skip
            exact s_wk0_X5_measure_3_69 k_a_behind k_cf_voices k_cf_step k_ca_parts k_ca_heights hx2 (iv_lta (l := 0) (h := 8) (r_nle c1) hx3 k_cf_voices (by decide)) m2 hm2 hP2 x3.toInt (Int.le_refl _) (fun u0 u1 u2 hq g0 g1 => ih u0 u1 u2 (ms_up hm hq) g0 g1) hpost
          · skip
            exact (iv_emp (iv_lea (l := 1000) (h := 9) (r_nlt c9) (iv_lit (l := 1000) (h := 1000) (by decide)) k_cf_step (by decide)) (by decide)).elim
  exact loop _ _ _ _ (ms_init_up _ _) hx3 k_a_behind
set_option maxRecDepth 20000 in
theorem s_wk0_X5_measure_3_2 {a_gaps : Nat → Int32} {a_behind : Nat → Int32} {cf_voices : Int32} {cf_step : Int32} {ca_parts : Nat → Int32} {ca_heights : Nat → Int32} {x2 : Int32} {post : (Nat → Int32) → (Nat → Int32) → Prop} (k_a_behind : ∀ j, iv 0 511 (a_behind j)) (k_cf_voices : iv 0 9 cf_voices) (k_cf_step : iv 0 9 cf_step) (k_ca_parts : ∀ j, iv 0 3 (ca_parts j)) (k_ca_heights : ∀ j, iv 0 9 (ca_heights j)) (hx2 : iv 0 9 x2) (hpost : ∀ (a_gaps : Nat → Int32) (a_behind : Nat → Int32), (∀ j, iv 0 511 (a_behind j)) → post a_gaps a_behind) : q_wk0_X5_measure_3_2 a_gaps a_behind cf_voices cf_step ca_parts ca_heights x2 post := by
  intro P hP
  have loop : ∀ (n : Nat) (x2 : Int32) (a_gaps : Nat → Int32) (a_behind : Nat → Int32), (9 - x2.toInt < (n : Int)) → (iv 0 9 x2) → (∀ j, iv 0 511 (a_behind j)) → P x2 a_gaps a_behind := by
    intro n
    induction n with
    | zero => intro x2 a_gaps a_behind hm hx2 k_a_behind; exact (ms0_up hm hx2).elim
    | succ n ih =>
      intro x2 a_gaps a_behind hm hx2 k_a_behind
      apply hP
      refine ⟨fun c1 => ?_, fun c1 => ?_⟩
      · skip
        exact hpost _ _ k_a_behind
      · skip
        refine ⟨iv_in (iv_lta (l := 0) (h := 8) (r_nle c1) hx2 k_cf_voices (by decide)) (by decide), ?_⟩
        intro a2 ea2
        have k_a2 := iv_upd ea2 k_a_behind (iv_w (iv_lit (l := 0) (h := 0) (by decide)) (by decide))
        exact s_wk0_X5_measure_3_19 k_a2 (iv_ltb (l := 1) (h := 9) (r_nle c1) hx2 k_cf_voices (by decide)) k_cf_step k_ca_parts k_ca_heights (iv_lta (l := 0) (h := 8) (r_nle c1) hx2 k_cf_voices (by decide)) (iv_w (iv_lit (l := 0) (h := 0) (by decide)) (by decide)) x2.toInt (Int.le_refl _) (fun u0 u1 u2 hq g0 g1 => ih u0 u1 u2 (ms_up hm hq) g0 g1) hpost
  exact loop _ _ _ _ (ms_init_up _ _) hx2 k_a_behind
set_option maxRecDepth 20000 in
theorem s_wk0_X5_measure_3_0 {a_gaps : Nat → Int32} {a_behind : Nat → Int32} {cf_voices : Int32} {cf_step : Int32} {ca_parts : Nat → Int32} {ca_heights : Nat → Int32} {post : (Nat → Int32) → (Nat → Int32) → Prop} (k_a_behind : ∀ j, iv 0 511 (a_behind j)) (k_cf_voices : iv 0 9 cf_voices) (k_cf_step : iv 0 9 cf_step) (k_ca_parts : ∀ j, iv 0 3 (ca_parts j)) (k_ca_heights : ∀ j, iv 0 9 (ca_heights j)) (hpost : ∀ (a_gaps : Nat → Int32) (a_behind : Nat → Int32), (∀ j, iv 0 511 (a_behind j)) → post a_gaps a_behind) : q_wk0_X5_measure_3_0 a_gaps a_behind cf_voices cf_step ca_parts ca_heights post := by
  exact s_wk0_X5_measure_3_2 k_a_behind k_cf_voices k_cf_step k_ca_parts k_ca_heights (iv_w (iv_lit (l := 0) (h := 0) (by decide)) (by decide)) hpost
-- wk_X5_measure_3
set_option maxRecDepth 20000 in
theorem s_wk_X5_measure_3_69 {P2 : Int32 → (Nat → Int32) → (Nat → Int32) → Prop} {P19 : Int32 → (Nat → Int32) → (Nat → Int32) → Prop} {a_gaps : Nat → Int32} {a_behind : Nat → Int32} {cf_voices : Int32} {cf_step : Int32} {ca_parts : Nat → Int32} {ca_heights : Nat → Int32} {x2 : Int32} {x3 : Int32} {post : (Nat → Int32) → (Nat → Int32) → Prop} (k_a_behind : ∀ j, iv 0 511 (a_behind j)) (k_cf_voices : iv 1 9 cf_voices) (k_cf_step : iv 0 9 cf_step) (k_ca_parts : ∀ j, iv 0 3 (ca_parts j)) (k_ca_heights : ∀ j, iv 0 9 (ca_heights j)) (hx2 : iv 0 8 x2) (hx3 : iv 0 8 x3) (m2 : Int) (hm2 : m2 ≤ x2.toInt) (hP2 : ∀ (x2 : Int32) (a_gaps : Nat → Int32) (a_behind : Nat → Int32), m2 < x2.toInt → iv 0 9 x2 → (∀ j, iv 0 511 (a_behind j)) → P2 x2 a_gaps a_behind) (m19 : Int) (hm19 : m19 ≤ x3.toInt) (hP19 : ∀ (x3 : Int32) (a_gaps : Nat → Int32) (a_behind : Nat → Int32), m19 < x3.toInt → iv 0 9 x3 → (∀ j, iv 0 511 (a_behind j)) → P19 x3 a_gaps a_behind) (hpost : ∀ (a_gaps : Nat → Int32) (a_behind : Nat → Int32), (∀ j, iv 0 511 (a_behind j)) → post a_gaps a_behind) : q_wk_X5_measure_3_69 P2 P19 a_gaps a_behind cf_voices cf_step ca_parts ca_heights x2 x3 post := by
  intro w1 ew1
  have hw1 := iv_eq ew1 (iv_add (l := 1) (h := 9) hx3 (iv_lit (l := 1) (h := 1) (by decide)) (by decide))
  exact hP19 _ _ _ (ml_up hm19 (inc_lt ew1 hx3 (by decide))) (iv_w hw1 (by decide)) k_a_behind
set_option maxRecDepth 20000 in
theorem s_wk_X5_measure_3_19 {P2 : Int32 → (Nat → Int32) → (Nat → Int32) → Prop} {a_gaps : Nat → Int32} {a_behind : Nat → Int32} {cf_voices : Int32} {cf_step : Int32} {ca_parts : Nat → Int32} {ca_heights : Nat → Int32} {x2 : Int32} {x3 : Int32} {post : (Nat → Int32) → (Nat → Int32) → Prop} (k_a_behind : ∀ j, iv 0 511 (a_behind j)) (k_cf_voices : iv 1 9 cf_voices) (k_cf_step : iv 0 9 cf_step) (k_ca_parts : ∀ j, iv 0 3 (ca_parts j)) (k_ca_heights : ∀ j, iv 0 9 (ca_heights j)) (hx2 : iv 0 8 x2) (hx3 : iv 0 9 x3) (m2 : Int) (hm2 : m2 ≤ x2.toInt) (hP2 : ∀ (x2 : Int32) (a_gaps : Nat → Int32) (a_behind : Nat → Int32), m2 < x2.toInt → iv 0 9 x2 → (∀ j, iv 0 511 (a_behind j)) → P2 x2 a_gaps a_behind) (hpost : ∀ (a_gaps : Nat → Int32) (a_behind : Nat → Int32), (∀ j, iv 0 511 (a_behind j)) → post a_gaps a_behind) : q_wk_X5_measure_3_19 P2 a_gaps a_behind cf_voices cf_step ca_parts ca_heights x2 x3 post := by
  intro P hP
  have loop : ∀ (n : Nat) (x3 : Int32) (a_gaps : Nat → Int32) (a_behind : Nat → Int32), (9 - x3.toInt < (n : Int)) → (iv 0 9 x3) → (∀ j, iv 0 511 (a_behind j)) → P x3 a_gaps a_behind := by
    intro n
    induction n with
    | zero => intro x3 a_gaps a_behind hm hx3 k_a_behind; exact (ms0_up hm hx3).elim
    | succ n ih =>
      intro x3 a_gaps a_behind hm hx3 k_a_behind
      apply hP
      refine ⟨fun c1 => ?_, fun c1 => ?_⟩
      · skip
        intro w2 ew2
        have hw2 := iv_eq ew2 (iv_add (l := 1) (h := 9) hx2 (iv_lit (l := 1) (h := 1) (by decide)) (by decide))
        exact hP2 _ _ _ (ml_up hm2 (inc_lt ew2 hx2 (by decide))) (iv_w hw2 (by decide)) k_a_behind
      · skip
        refine ⟨iv_in hx2 (by decide), ?_⟩
        refine ⟨iv_in (iv_lta (l := 0) (h := 8) (r_nle c1) hx3 k_cf_voices (by decide)) (by decide), ?_⟩
        refine ⟨fun c3 => ?_, fun c3 => ?_⟩
        · skip
          refine ⟨iv_in (iv_lta (l := 0) (h := 8) (r_nle c1) hx3 k_cf_voices (by decide)) (by decide), ?_⟩
          refine ⟨iv_in hx2 (by decide), ?_⟩
          refine ⟨iv_in (iv_add (l := 0) (h := 80) (iv_mul (l := 0) (h := 72) hx2 (iv_lit (l := 9) (h := 9) (by decide)) (by decide)) (iv_lta (l := 0) (h := 8) (r_nle c1) hx3 k_cf_voices (by decide)) (by decide)) (by decide), ?_⟩
          intro a4 ea4
          refine ⟨fun c5 => ?_, fun c5 => ?_⟩
          · skip
            exact s_wk_X5_measure_3_69 k_a_behind k_cf_voices (iv_w (iv_lta (l := 0) (h := 8) (r_lt c5) k_cf_step (iv_max (l := 0) (h := 9) (iv_lit (l := 0) (h := 0) (by decide)) (iv_sub (l := (-9)) (h := 9) (k_ca_heights _) (k_ca_heights _) (by decide)) (by decide)) (by decide)) (by decide)) k_ca_parts k_ca_heights hx2 (iv_lta (l := 0) (h := 8) (r_nle c1) hx3 k_cf_voices (by decide)) m2 hm2 hP2 x3.toInt (Int.le_refl _) (fun u0 u1 u2 hq g0 g1 => ih u0 u1 u2 (ms_up hm hq) g0 g1) hpost
          · skip
            refine ⟨iv_in hx2 (by decide), ?_⟩
            intro w6 ew6
            have hw6 := iv_eq ew6 (iv_or 9 (l := 0) (h := 511) (k_a_behind _) (iv_shl1 (l := 1) (h := 256) (iv_lit (l := 1) (h := 1) (by decide)) (iv_lta (l := 0) (h := 8) (r_nle c1) hx3 k_cf_voices (by decide)) (by decide)) (by decide))
            refine ⟨iv_in hx2 (by decide), ?_⟩
            intro a7 ea7
            have k_a7 := iv_upd ea7 k_a_behind hw6
            exact s_wk_X5_measure_3_69 k_a7 k_cf_voices k_cf_step k_ca_parts k_ca_heights hx2 (iv_lta (l := 0) (h := 8) (r_nle c1) hx3 k_cf_voices (by decide)) m2 hm2 hP2 x3.toInt (Int.le_refl _) (fun u0 u1 u2 hq g0 g1 => ih u0 u1 u2 (ms_up hm hq) g0 g1) hpost
        · skip
          refine ⟨iv_in (iv_add (l := 0) (h := 80) (iv_mul (l := 0) (h := 72) hx2 (iv_lit (l := 9) (h := 9) (by decide)) (by decide)) (iv_lta (l := 0) (h := 8) (r_nle c1) hx3 k_cf_voices (by decide)) (by decide)) (by decide), ?_⟩
          intro a8 ea8
          refine ⟨fun c9 => ?_, fun c9 => ?_⟩
          · skip
            exact s_wk_X5_measure_3_69 k_a_behind k_cf_voices k_cf_step k_ca_parts k_ca_heights hx2 (iv_lta (l := 0) (h := 8) (r_nle c1) hx3 k_cf_voices (by decide)) m2 hm2 hP2 x3.toInt (Int.le_refl _) (fun u0 u1 u2 hq g0 g1 => ih u0 u1 u2 (ms_up hm hq) g0 g1) hpost
          · skip
            exact (iv_emp (iv_lea (l := 1000) (h := 9) (r_nlt c9) (iv_lit (l := 1000) (h := 1000) (by decide)) k_cf_step (by decide)) (by decide)).elim
  exact loop _ _ _ _ (ms_init_up _ _) hx3 k_a_behind
set_option maxRecDepth 20000 in
theorem s_wk_X5_measure_3_2 {a_gaps : Nat → Int32} {a_behind : Nat → Int32} {cf_voices : Int32} {cf_step : Int32} {ca_parts : Nat → Int32} {ca_heights : Nat → Int32} {x2 : Int32} {post : (Nat → Int32) → (Nat → Int32) → Prop} (k_a_behind : ∀ j, iv 0 511 (a_behind j)) (k_cf_voices : iv 0 9 cf_voices) (k_cf_step : iv 0 9 cf_step) (k_ca_parts : ∀ j, iv 0 3 (ca_parts j)) (k_ca_heights : ∀ j, iv 0 9 (ca_heights j)) (hx2 : iv 0 9 x2) (hpost : ∀ (a_gaps : Nat → Int32) (a_behind : Nat → Int32), (∀ j, iv 0 511 (a_behind j)) → post a_gaps a_behind) : q_wk_X5_measure_3_2 a_gaps a_behind cf_voices cf_step ca_parts ca_heights x2 post := by
  intro P hP
  have loop : ∀ (n : Nat) (x2 : Int32) (a_gaps : Nat → Int32) (a_behind : Nat → Int32), (9 - x2.toInt < (n : Int)) → (iv 0 9 x2) → (∀ j, iv 0 511 (a_behind j)) → P x2 a_gaps a_behind := by
    intro n
    induction n with
    | zero => intro x2 a_gaps a_behind hm hx2 k_a_behind; exact (ms0_up hm hx2).elim
    | succ n ih =>
      intro x2 a_gaps a_behind hm hx2 k_a_behind
      apply hP
      refine ⟨fun c1 => ?_, fun c1 => ?_⟩
      · skip
        exact hpost _ _ k_a_behind
      · skip
        refine ⟨iv_in (iv_lta (l := 0) (h := 8) (r_nle c1) hx2 k_cf_voices (by decide)) (by decide), ?_⟩
        intro a2 ea2
        have k_a2 := iv_upd ea2 k_a_behind (iv_w (iv_lit (l := 0) (h := 0) (by decide)) (by decide))
        exact s_wk_X5_measure_3_19 k_a2 (iv_ltb (l := 1) (h := 9) (r_nle c1) hx2 k_cf_voices (by decide)) k_cf_step k_ca_parts k_ca_heights (iv_lta (l := 0) (h := 8) (r_nle c1) hx2 k_cf_voices (by decide)) (iv_w (iv_lit (l := 0) (h := 0) (by decide)) (by decide)) x2.toInt (Int.le_refl _) (fun u0 u1 u2 hq g0 g1 => ih u0 u1 u2 (ms_up hm hq) g0 g1) hpost
  exact loop _ _ _ _ (ms_init_up _ _) hx2 k_a_behind
set_option maxRecDepth 20000 in
theorem s_wk_X5_measure_3_0 {a_gaps : Nat → Int32} {a_behind : Nat → Int32} {cf_voices : Int32} {cf_step : Int32} {ca_parts : Nat → Int32} {ca_heights : Nat → Int32} {post : (Nat → Int32) → (Nat → Int32) → Prop} (k_a_behind : ∀ j, iv 0 511 (a_behind j)) (k_cf_voices : iv 0 9 cf_voices) (k_cf_step : iv 0 9 cf_step) (k_ca_parts : ∀ j, iv 0 3 (ca_parts j)) (k_ca_heights : ∀ j, iv 0 9 (ca_heights j)) (hpost : ∀ (a_gaps : Nat → Int32) (a_behind : Nat → Int32), (∀ j, iv 0 511 (a_behind j)) → post a_gaps a_behind) : q_wk_X5_measure_3_0 a_gaps a_behind cf_voices cf_step ca_parts ca_heights post := by
  exact s_wk_X5_measure_3_2 k_a_behind k_cf_voices k_cf_step k_ca_parts k_ca_heights (iv_w (iv_lit (l := 0) (h := 0) (by decide)) (by decide)) hpost
-- wk_X5_waysOn_6
set_option maxRecDepth 20000 in
theorem s_wk_X5_waysOn_6_45 {P5 : Int32 → Int32 → Prop} {z_tab : Nat → Int32} {x1 : Int32} {x2 : Int32} {x3 : Int32} {x4 : Int32} {post : Int32 → Prop} (hx1 : iv 1 511 x1) (hx2 : iv 0 511 x2) (hx4 : iv 0 8 x4) (m5 : Int) (hm5 : m5 ≤ x4.toInt) (hP5 : ∀ (x3 : Int32) (x4 : Int32), m5 < x4.toInt → iv 0 9 x4 → P5 x3 x4) (hpost : ∀ (r : Int32), post r) : q_wk_X5_waysOn_6_45 P5 z_tab x1 x2 x3 x4 post := by
  intro w1 ew1
  have hw1 := iv_eq ew1 (iv_add (l := 1) (h := 9) hx4 (iv_lit (l := 1) (h := 1) (by decide)) (by decide))
  exact hP5 _ _ (ml_up hm5 (inc_lt ew1 hx4 (by decide))) (iv_w hw1 (by decide))
set_option maxRecDepth 20000 in
theorem s_wk_X5_waysOn_6_5 {z_tab : Nat → Int32} {x1 : Int32} {x2 : Int32} {x3 : Int32} {x4 : Int32} {post : Int32 → Prop} (hx1 : iv 1 511 x1) (hx2 : iv 0 511 x2) (hx4 : iv 0 9 x4) (hpost : ∀ (r : Int32), post r) : q_wk_X5_waysOn_6_5 z_tab x1 x2 x3 x4 post := by
  intro P hP
  have loop : ∀ (n : Nat) (x3 : Int32) (x4 : Int32), (9 - x4.toInt < (n : Int)) → (iv 0 9 x4) → P x3 x4 := by
    intro n
    induction n with
    | zero => intro x3 x4 hm hx4; exact (ms0_up hm hx4).elim
    | succ n ih =>
      intro x3 x4 hm hx4
      apply hP
      refine ⟨fun c1 => ?_, fun c1 => ?_⟩
      · skip
        exact hpost _
      · skip
        refine ⟨fun c2 => ?_, fun c2 => ?_⟩
        · skip
          exact hpost _
        · skip
          refine ⟨fun c3 => ?_, fun c3 => ?_⟩
          · skip
            refine ⟨fun c4 => ?_, fun c4 => ?_⟩
            · skip
              exact s_wk_X5_waysOn_6_45 hx1 hx2 (iv_lta (l := 0) (h := 8) (r_nle c1) hx4 (iv_lit (l := 9) (h := 9) (by decide)) (by decide)) x4.toInt (Int.le_refl _) (fun u0 u1 hq g0 => ih u0 u1 (ms_up hm hq) g0) hpost
            · skip
              exact (iv_emp (iv_ne (l := 1) (h := 0) c4 (iv_lit (l := 0) (h := 0) (by decide)) (iv_lit (l := 0) (h := 0) (by decide)) (by decide)) (by decide)).elim
          · skip
            refine ⟨fun c5 => ?_, fun c5 => ?_⟩
            · skip
              exact (iv_emp (iv_eqa (l := 1) (h := 0) c5 (iv_lit (l := 1) (h := 1) (by decide)) (iv_lit (l := 0) (h := 0) (by decide)) (by decide)) (by decide)).elim
            · skip
              refine ⟨iv_in (iv_add (l := 0) (h := 4607) (iv_mul (l := 0) (h := 4599) (iv_or 9 (l := 0) (h := 511) hx1 (iv_shl1 (l := 1) (h := 256) (iv_lit (l := 1) (h := 1) (by decide)) (iv_lta (l := 0) (h := 8) (r_nle c1) hx4 (iv_lit (l := 9) (h := 9) (by decide)) (by decide)) (by decide)) (by decide)) (iv_lit (l := 9) (h := 9) (by decide)) (by decide)) (iv_lta (l := 0) (h := 8) (r_nle c1) hx4 (iv_lit (l := 9) (h := 9) (by decide)) (by decide)) (by decide)) (by decide), ?_⟩
              intro w6 ew6
              exact s_wk_X5_waysOn_6_45 hx1 hx2 (iv_lta (l := 0) (h := 8) (r_nle c1) hx4 (iv_lit (l := 9) (h := 9) (by decide)) (by decide)) x4.toInt (Int.le_refl _) (fun u0 u1 hq g0 => ih u0 u1 (ms_up hm hq) g0) hpost
  exact loop _ _ _ (ms_init_up _ _) hx4
set_option maxRecDepth 20000 in
theorem s_wk_X5_waysOn_6_0 {z_tab : Nat → Int32} {x1 : Int32} {x2 : Int32} {post : Int32 → Prop} (hx1 : iv 1 511 x1) (hx2 : iv 0 511 x2) (hpost : ∀ (r : Int32), post r) : q_wk_X5_waysOn_6_0 z_tab x1 x2 post := by
  exact s_wk_X5_waysOn_6_5 hx1 hx2 (iv_w (iv_lit (l := 0) (h := 0) (by decide)) (by decide)) hpost
-- wk_X5_fill_3
set_option maxRecDepth 20000 in
theorem s_wk_X5_fill_3_87 {P22 : Int32 → (Nat → Int32) → Prop} {P30 : Int32 → (Nat → Int32) → Prop} {a_gaps : Nat → Int32} {a_behind : Nat → Int32} {cf_voices : Int32} {cf_step : Int32} {ca_parts : Nat → Int32} {ca_heights : Nat → Int32} {z_tab : Nat → Int32} {x3 : Int32} {x4 : Int32} {x5 : Int32} {post : (Nat → Int32) → (Nat → Int32) → (Nat → Int32) → Prop} (k_a_behind : ∀ j, iv 0 511 (a_behind j)) (k_cf_voices : iv 1 9 cf_voices) (k_cf_step : iv 0 9 cf_step) (k_ca_parts : ∀ j, iv 0 3 (ca_parts j)) (k_ca_heights : ∀ j, iv 0 9 (ca_heights j)) (hx3 : iv 0 511 x3) (hx4 : iv 1 511 x4) (hx5 : iv 0 8 x5) (m22 : Int) (hm22 : x4.toInt ≤ m22) (hP22 : ∀ (x4 : Int32) (z_tab : Nat → Int32), x4.toInt < m22 → iv 0 511 x4 → P22 x4 z_tab) (m30 : Int) (hm30 : m30 ≤ x5.toInt) (hP30 : ∀ (x5 : Int32) (z_tab : Nat → Int32), m30 < x5.toInt → iv 0 9 x5 → P30 x5 z_tab) (hpost : ∀ (a_gaps : Nat → Int32) (a_behind : Nat → Int32) (z_tab : Nat → Int32), (∀ j, iv 0 511 (a_behind j)) → post a_gaps a_behind z_tab) : q_wk_X5_fill_3_87 P22 P30 a_gaps a_behind cf_voices cf_step ca_parts ca_heights z_tab x3 x4 x5 post := by
  intro w1 ew1
  have hw1 := iv_eq ew1 (iv_add (l := 1) (h := 9) hx5 (iv_lit (l := 1) (h := 1) (by decide)) (by decide))
  exact hP30 _ _ (ml_up hm30 (inc_lt ew1 hx5 (by decide))) (iv_w hw1 (by decide))
set_option maxRecDepth 20000 in
theorem s_wk_X5_fill_3_86 {P22 : Int32 → (Nat → Int32) → Prop} {P30 : Int32 → (Nat → Int32) → Prop} {a_gaps : Nat → Int32} {a_behind : Nat → Int32} {cf_voices : Int32} {cf_step : Int32} {ca_parts : Nat → Int32} {ca_heights : Nat → Int32} {z_tab : Nat → Int32} {x3 : Int32} {x4 : Int32} {x5 : Int32} {y0 : Int32} {y1 : Int32} {post : (Nat → Int32) → (Nat → Int32) → (Nat → Int32) → Prop} (k_a_behind : ∀ j, iv 0 511 (a_behind j)) (k_cf_voices : iv 1 9 cf_voices) (k_cf_step : iv 0 9 cf_step) (k_ca_parts : ∀ j, iv 0 3 (ca_parts j)) (k_ca_heights : ∀ j, iv 0 9 (ca_heights j)) (hx3 : iv 0 511 x3) (hx4 : iv 1 511 x4) (hx5 : iv 0 8 x5) (hy0 : iv 9 4607 y0) (m22 : Int) (hm22 : x4.toInt ≤ m22) (hP22 : ∀ (x4 : Int32) (z_tab : Nat → Int32), x4.toInt < m22 → iv 0 511 x4 → P22 x4 z_tab) (m30 : Int) (hm30 : m30 ≤ x5.toInt) (hP30 : ∀ (x5 : Int32) (z_tab : Nat → Int32), m30 < x5.toInt → iv 0 9 x5 → P30 x5 z_tab) (hpost : ∀ (a_gaps : Nat → Int32) (a_behind : Nat → Int32) (z_tab : Nat → Int32), (∀ j, iv 0 511 (a_behind j)) → post a_gaps a_behind z_tab) : q_wk_X5_fill_3_86 P22 P30 a_gaps a_behind cf_voices cf_step ca_parts ca_heights z_tab x3 x4 x5 y0 y1 post := by
  refine ⟨iv_in hy0 (by decide), ?_⟩
  intro a1 ea1
  exact s_wk_X5_fill_3_87 k_a_behind k_cf_voices k_cf_step k_ca_parts k_ca_heights hx3 hx4 hx5 m22 hm22 hP22 m30 hm30 hP30 hpost
set_option maxRecDepth 20000 in
theorem s_wk_X5_fill_3_30 {P22 : Int32 → (Nat → Int32) → Prop} {a_gaps : Nat → Int32} {a_behind : Nat → Int32} {cf_voices : Int32} {cf_step : Int32} {ca_parts : Nat → Int32} {ca_heights : Nat → Int32} {z_tab : Nat → Int32} {x3 : Int32} {x4 : Int32} {x5 : Int32} {post : (Nat → Int32) → (Nat → Int32) → (Nat → Int32) → Prop} (k_a_behind : ∀ j, iv 0 511 (a_behind j)) (k_cf_voices : iv 0 9 cf_voices) (k_cf_step : iv 0 9 cf_step) (k_ca_parts : ∀ j, iv 0 3 (ca_parts j)) (k_ca_heights : ∀ j, iv 0 9 (ca_heights j)) (hx3 : iv 0 511 x3) (hx4 : iv 1 511 x4) (hx5 : iv 0 9 x5) (m22 : Int) (hm22 : x4.toInt ≤ m22) (hP22 : ∀ (x4 : Int32) (z_tab : Nat → Int32), x4.toInt < m22 → iv 0 511 x4 → P22 x4 z_tab) (hpost : ∀ (a_gaps : Nat → Int32) (a_behind : Nat → Int32) (z_tab : Nat → Int32), (∀ j, iv 0 511 (a_behind j)) → post a_gaps a_behind z_tab) : q_wk_X5_fill_3_30 P22 a_gaps a_behind cf_voices cf_step ca_parts ca_heights z_tab x3 x4 x5 post := by
  intro P hP
  have loop : ∀ (n : Nat) (x5 : Int32) (z_tab : Nat → Int32), (9 - x5.toInt < (n : Int)) → (iv 0 9 x5) → P x5 z_tab := by
    intro n
    induction n with
    | zero => intro x5 z_tab hm hx5; exact (ms0_up hm hx5).elim
    | succ n ih =>
      intro x5 z_tab hm hx5
      apply hP
      refine ⟨fun c1 => ?_, fun c1 => ?_⟩
      · skip
        intro w2 ew2
        have hw2 := iv_eq ew2 (iv_add (l := 0) (h := 510) hx4 (iv_lit (l := (-1)) (h := (-1)) (by decide)) (by decide))
        exact hP22 _ _ (ml_dn hm22 (dec_lt ew2 hx4 (by decide))) (iv_w hw2 (by decide))
      · skip
        refine ⟨fun c3 => ?_, fun c3 => ?_⟩
        · skip
          refine ⟨fun c4 => ?_, fun c4 => ?_⟩
          · skip
            exact s_wk_X5_fill_3_87 k_a_behind (iv_ltb (l := 1) (h := 9) (r_nle c1) hx5 k_cf_voices (by decide)) k_cf_step k_ca_parts k_ca_heights hx3 hx4 (iv_lta (l := 0) (h := 8) (r_nle c1) hx5 k_cf_voices (by decide)) m22 hm22 hP22 x5.toInt (Int.le_refl _) (fun u0 u1 hq g0 => ih u0 u1 (ms_up hm hq) g0) hpost
          · skip
            exact (iv_emp (iv_ne (l := 1) (h := 0) c4 (iv_lit (l := 0) (h := 0) (by decide)) (iv_lit (l := 0) (h := 0) (by decide)) (by decide)) (by decide)).elim
        · skip
          refine ⟨fun c5 => ?_, fun c5 => ?_⟩
          · skip
            exact (iv_emp (iv_eqa (l := 1) (h := 0) c5 (iv_lit (l := 1) (h := 1) (by decide)) (iv_lit (l := 0) (h := 0) (by decide)) (by decide)) (by decide)).elim
          · skip
            refine ⟨fun c6 => ?_, fun c6 => ?_⟩
            · skip
              refine ⟨iv_in (iv_lta (l := 0) (h := 8) (r_nle c1) hx5 k_cf_voices (by decide)) (by decide), ?_⟩
              refine s_wk_X5_waysOn_6_0 hx4 (iv_andl (l := 0) (h := 511) (k_a_behind _) (by decide)) (fun r7 => ?_)
              exact s_wk_X5_fill_3_86 k_a_behind (iv_ltb (l := 1) (h := 9) (r_nle c1) hx5 k_cf_voices (by decide)) k_cf_step k_ca_parts k_ca_heights hx3 hx4 (iv_lta (l := 0) (h := 8) (r_nle c1) hx5 k_cf_voices (by decide)) (iv_add (l := 9) (h := 4607) (iv_mul (l := 9) (h := 4599) hx4 (iv_lit (l := 9) (h := 9) (by decide)) (by decide)) (iv_lta (l := 0) (h := 8) (r_nle c1) hx5 k_cf_voices (by decide)) (by decide)) m22 hm22 hP22 x5.toInt (Int.le_refl _) (fun u0 u1 hq g0 => ih u0 u1 (ms_up hm hq) g0) hpost
            · skip
              exact s_wk_X5_fill_3_86 k_a_behind (iv_ltb (l := 1) (h := 9) (r_nle c1) hx5 k_cf_voices (by decide)) k_cf_step k_ca_parts k_ca_heights (iv_w (iv_eqb (l := 1) (h := 511) c6 hx4 hx3 (by decide)) (by decide)) hx4 (iv_lta (l := 0) (h := 8) (r_nle c1) hx5 k_cf_voices (by decide)) (iv_add (l := 9) (h := 4607) (iv_mul (l := 9) (h := 4599) hx4 (iv_lit (l := 9) (h := 9) (by decide)) (by decide)) (iv_lta (l := 0) (h := 8) (r_nle c1) hx5 k_cf_voices (by decide)) (by decide)) m22 hm22 hP22 x5.toInt (Int.le_refl _) (fun u0 u1 hq g0 => ih u0 u1 (ms_up hm hq) g0) hpost
  exact loop _ _ _ (ms_init_up _ _) hx5
set_option maxRecDepth 20000 in
theorem s_wk_X5_fill_3_22 {a_gaps : Nat → Int32} {a_behind : Nat → Int32} {cf_voices : Int32} {cf_step : Int32} {ca_parts : Nat → Int32} {ca_heights : Nat → Int32} {z_tab : Nat → Int32} {x3 : Int32} {x4 : Int32} {post : (Nat → Int32) → (Nat → Int32) → (Nat → Int32) → Prop} (k_a_behind : ∀ j, iv 0 511 (a_behind j)) (k_cf_voices : iv 0 9 cf_voices) (k_cf_step : iv 0 9 cf_step) (k_ca_parts : ∀ j, iv 0 3 (ca_parts j)) (k_ca_heights : ∀ j, iv 0 9 (ca_heights j)) (hx3 : iv 0 511 x3) (hx4 : iv 0 511 x4) (hpost : ∀ (a_gaps : Nat → Int32) (a_behind : Nat → Int32) (z_tab : Nat → Int32), (∀ j, iv 0 511 (a_behind j)) → post a_gaps a_behind z_tab) : q_wk_X5_fill_3_22 a_gaps a_behind cf_voices cf_step ca_parts ca_heights z_tab x3 x4 post := by
  intro P hP
  have loop : ∀ (n : Nat) (x4 : Int32) (z_tab : Nat → Int32), (x4.toInt - 0 < (n : Int)) → (iv 0 511 x4) → P x4 z_tab := by
    intro n
    induction n with
    | zero => intro x4 z_tab hm hx4; exact (ms0_dn hm hx4).elim
    | succ n ih =>
      intro x4 z_tab hm hx4
      apply hP
      refine ⟨fun c1 => ?_, fun c1 => ?_⟩
      · skip
        exact hpost _ _ _ k_a_behind
      · skip
        exact s_wk_X5_fill_3_30 k_a_behind k_cf_voices k_cf_step k_ca_parts k_ca_heights hx3 (iv_ltb (l := 1) (h := 511) (r_nle c1) (iv_lit (l := 0) (h := 0) (by decide)) hx4 (by decide)) (iv_w (iv_lit (l := 0) (h := 0) (by decide)) (by decide)) x4.toInt (Int.le_refl _) (fun u0 u1 hq g0 => ih u0 u1 (ms_dn hm hq) g0) hpost
  exact loop _ _ _ (ms_init_dn _ _) hx4
set_option maxRecDepth 20000 in
theorem s_wk_X5_fill_3_10 {a_gaps : Nat → Int32} {a_behind : Nat → Int32} {cf_voices : Int32} {cf_step : Int32} {ca_parts : Nat → Int32} {ca_heights : Nat → Int32} {z_tab : Nat → Int32} {post : (Nat → Int32) → (Nat → Int32) → (Nat → Int32) → Prop} (k_a_behind : ∀ j, iv 0 511 (a_behind j)) (k_cf_voices : iv 0 9 cf_voices) (k_cf_step : iv 0 9 cf_step) (k_ca_parts : ∀ j, iv 0 3 (ca_parts j)) (k_ca_heights : ∀ j, iv 0 9 (ca_heights j)) (hpost : ∀ (a_gaps : Nat → Int32) (a_behind : Nat → Int32) (z_tab : Nat → Int32), (∀ j, iv 0 511 (a_behind j)) → post a_gaps a_behind z_tab) : q_wk_X5_fill_3_10 a_gaps a_behind cf_voices cf_step ca_parts ca_heights z_tab post := by
  intro w1 ew1
  have hw1 := iv_eq ew1 (iv_sub (l := 0) (h := 511) (iv_shl1 (l := 1) (h := 512) (iv_lit (l := 1) (h := 1) (by decide)) k_cf_voices (by decide)) (iv_lit (l := 1) (h := 1) (by decide)) (by decide))
  exact s_wk_X5_fill_3_22 k_a_behind k_cf_voices k_cf_step k_ca_parts k_ca_heights hw1 hw1 hpost
set_option maxRecDepth 20000 in
theorem s_wk_X5_fill_3_0 {a_gaps : Nat → Int32} {a_behind : Nat → Int32} {cf_voices : Int32} {cf_step : Int32} {ca_parts : Nat → Int32} {ca_heights : Nat → Int32} {z_tab : Nat → Int32} {post : (Nat → Int32) → (Nat → Int32) → (Nat → Int32) → Prop} (k_a_behind : ∀ j, iv 0 511 (a_behind j)) (k_cf_voices : iv 0 9 cf_voices) (k_cf_step : iv 0 9 cf_step) (k_ca_parts : ∀ j, iv 0 3 (ca_parts j)) (k_ca_heights : ∀ j, iv 0 9 (ca_heights j)) (hpost : ∀ (a_gaps : Nat → Int32) (a_behind : Nat → Int32) (z_tab : Nat → Int32), (∀ j, iv 0 511 (a_behind j)) → post a_gaps a_behind z_tab) : q_wk_X5_fill_3_0 a_gaps a_behind cf_voices cf_step ca_parts ca_heights z_tab post := by
  refine s_wk_X5_measure_3_0 k_a_behind k_cf_voices k_cf_step k_ca_parts k_ca_heights (fun o1 o2 k_o2 => ?_)
  refine ⟨fun h => absurd h (by decide), fun h0 => ?_⟩
  exact s_wk_X5_fill_3_10 k_o2 k_cf_voices k_cf_step k_ca_parts k_ca_heights hpost
-- wk_X5_total_3
set_option maxRecDepth 20000 in
theorem s_wk_X5_total_3_19 {cf_voices : Int32} {z_tab : Nat → Int32} {x3 : Int32} {x4 : Int32} {post : Int32 → Prop} (k_cf_voices : iv 1 9 cf_voices) (hx4 : iv 0 9 x4) (hpost : ∀ (r : Int32), post r) : q_wk_X5_total_3_19 cf_voices z_tab x3 x4 post := by
  intro P hP
  have loop : ∀ (n : Nat) (x3 : Int32) (x4 : Int32), (9 - x4.toInt < (n : Int)) → (iv 0 9 x4) → P x3 x4 := by
    intro n
    induction n with
    | zero => intro x3 x4 hm hx4; exact (ms0_up hm hx4).elim
    | succ n ih =>
      intro x3 x4 hm hx4
      apply hP
      refine ⟨fun c1 => ?_, fun c1 => ?_⟩
      · skip
        exact hpost _
      · skip
        refine ⟨iv_in (iv_add (l := 9) (h := 2312) (iv_mul (l := 9) (h := 2304) (iv_shl1 (l := 1) (h := 256) (iv_lit (l := 1) (h := 1) (by decide)) (iv_lta (l := 0) (h := 8) (r_nle c1) hx4 k_cf_voices (by decide)) (by decide)) (iv_lit (l := 9) (h := 9) (by decide)) (by decide)) (iv_lta (l := 0) (h := 8) (r_nle c1) hx4 k_cf_voices (by decide)) (by decide)) (by decide), ?_⟩
        intro w2 ew2
        intro w3 ew3
        have hw3 := iv_eq ew3 (iv_add (l := 1) (h := 9) (iv_lta (l := 0) (h := 8) (r_nle c1) hx4 k_cf_voices (by decide)) (iv_lit (l := 1) (h := 1) (by decide)) (by decide))
        exact ih _ _ (ms_up hm (inc_lt ew3 (iv_lta (l := 0) (h := 8) (r_nle c1) hx4 k_cf_voices (by decide)) (by decide))) (iv_w hw3 (by decide))
  exact loop _ _ _ (ms_init_up _ _) hx4
set_option maxRecDepth 20000 in
theorem s_wk_X5_total_3_0 {cf_voices : Int32} {z_tab : Nat → Int32} {post : Int32 → Prop} (k_cf_voices : iv 0 9 cf_voices) (hpost : ∀ (r : Int32), post r) : q_wk_X5_total_3_0 cf_voices z_tab post := by
  refine ⟨fun c1 => ?_, fun c1 => ?_⟩
  · skip
    refine ⟨fun h => absurd h (by decide), fun h0 => ?_⟩
    exact s_wk_X5_total_3_19 (iv_ne (l := 1) (h := 9) c1 k_cf_voices (iv_lit (l := 0) (h := 0) (by decide)) (by decide)) (iv_w (iv_lit (l := 0) (h := 0) (by decide)) (by decide)) hpost
  · skip
    exact hpost _
-- wk_X5_firstOf
set_option maxRecDepth 20000 in
theorem s_wk_X5_firstOf_44 {P8 : Int32 → Prop} {z_tab : Nat → Int32} {x1 : Int32} {x2 : Int32} {x4 : Int32} {post : Int32 → Prop} (hx1 : iv 0 511 x1) (hx2 : iv 0 511 x2) (hx4 : iv 0 8 x4) (m8 : Int) (hm8 : m8 ≤ x4.toInt) (hP8 : ∀ (x4 : Int32), m8 < x4.toInt → iv 0 9 x4 → P8 x4) (hpost : ∀ (r : Int32), iv (-1) 8 r → post r) : q_wk_X5_firstOf_44 P8 z_tab x1 x2 x4 post := by
  intro w1 ew1
  have hw1 := iv_eq ew1 (iv_add (l := 1) (h := 9) hx4 (iv_lit (l := 1) (h := 1) (by decide)) (by decide))
  exact hP8 _ (ml_up hm8 (inc_lt ew1 hx4 (by decide))) (iv_w hw1 (by decide))
set_option maxRecDepth 20000 in
theorem s_wk_X5_firstOf_8 {z_tab : Nat → Int32} {x1 : Int32} {x2 : Int32} {x4 : Int32} {post : Int32 → Prop} (hx1 : iv 0 511 x1) (hx2 : iv 0 511 x2) (hx4 : iv 0 9 x4) (hpost : ∀ (r : Int32), iv (-1) 8 r → post r) : q_wk_X5_firstOf_8 z_tab x1 x2 x4 post := by
  intro P hP
  have loop : ∀ (n : Nat) (x4 : Int32), (9 - x4.toInt < (n : Int)) → (iv 0 9 x4) → P x4 := by
    intro n
    induction n with
    | zero => intro x4 hm hx4; exact (ms0_up hm hx4).elim
    | succ n ih =>
      intro x4 hm hx4
      apply hP
      refine ⟨fun c1 => ?_, fun c1 => ?_⟩
      · skip
        exact hpost _ (iv_w (iv_lit (l := (-1)) (h := (-1)) (by decide)) (by decide))
      · skip
        refine ⟨fun c2 => ?_, fun c2 => ?_⟩
        · skip
          refine ⟨fun c3 => ?_, fun c3 => ?_⟩
          · skip
            exact s_wk_X5_firstOf_44 hx1 hx2 (iv_lta (l := 0) (h := 8) (r_nle c1) hx4 (iv_lit (l := 9) (h := 9) (by decide)) (by decide)) x4.toInt (Int.le_refl _) (fun u0 hq g0 => ih u0 (ms_up hm hq) g0) hpost
          · skip
            exact (iv_emp (iv_ne (l := 1) (h := 0) c3 (iv_lit (l := 0) (h := 0) (by decide)) (iv_lit (l := 0) (h := 0) (by decide)) (by decide)) (by decide)).elim
        · skip
          refine ⟨fun c4 => ?_, fun c4 => ?_⟩
          · skip
            exact (iv_emp (iv_eqa (l := 1) (h := 0) c4 (iv_lit (l := 1) (h := 1) (by decide)) (iv_lit (l := 0) (h := 0) (by decide)) (by decide)) (by decide)).elim
          · skip
            refine ⟨iv_in (iv_add (l := 0) (h := 4607) (iv_mul (l := 0) (h := 4599) (iv_or 9 (l := 0) (h := 511) hx1 (iv_shl1 (l := 1) (h := 256) (iv_lit (l := 1) (h := 1) (by decide)) (iv_lta (l := 0) (h := 8) (r_nle c1) hx4 (iv_lit (l := 9) (h := 9) (by decide)) (by decide)) (by decide)) (by decide)) (iv_lit (l := 9) (h := 9) (by decide)) (by decide)) (iv_lta (l := 0) (h := 8) (r_nle c1) hx4 (iv_lit (l := 9) (h := 9) (by decide)) (by decide)) (by decide)) (by decide), ?_⟩
            refine ⟨fun c5 => ?_, fun c5 => ?_⟩
            · skip
              exact s_wk_X5_firstOf_44 hx1 hx2 (iv_lta (l := 0) (h := 8) (r_nle c1) hx4 (iv_lit (l := 9) (h := 9) (by decide)) (by decide)) x4.toInt (Int.le_refl _) (fun u0 hq g0 => ih u0 (ms_up hm hq) g0) hpost
            · skip
              exact hpost _ (iv_w (iv_lta (l := 0) (h := 8) (r_nle c1) hx4 (iv_lit (l := 9) (h := 9) (by decide)) (by decide)) (by decide))
  exact loop _ _ (ms_init_up _ _) hx4
set_option maxRecDepth 20000 in
theorem s_wk_X5_firstOf_0 {z_tab : Nat → Int32} {x1 : Int32} {x2 : Int32} {post : Int32 → Prop} (hx1 : iv 0 511 x1) (hx2 : iv 0 511 x2) (hpost : ∀ (r : Int32), iv (-1) 8 r → post r) : q_wk_X5_firstOf_0 z_tab x1 x2 post := by
  refine ⟨fun h => absurd h (by decide), fun h0 => ?_⟩
  exact s_wk_X5_firstOf_8 hx1 hx2 (iv_w (iv_lit (l := 0) (h := 0) (by decide)) (by decide)) hpost
-- wk_X5_voiceAt_3
set_option maxRecDepth 20000 in
theorem s_wk_X5_voiceAt_3_18 {a_behind : Nat → Int32} {cf_voices : Int32} {z_tab : Nat → Int32} {x2 : Int32} {x3 : Int32} {x4 : Int32} {x5 : Int32} {x6 : Int32} {post : Int32 → Prop} (k_a_behind : ∀ j, iv 0 511 (a_behind j)) (k_cf_voices : iv 1 9 cf_voices) (hx2 : iv 0 8 x2) (hx3 : iv 0 511 x3) (hx4 : iv 0 511 x4) (hx5 : iv (-1) 8 x5) (hx6 : iv 0 9 x6) (hpost : ∀ (r : Int32), iv (-1) 8 r → post r) : q_wk_X5_voiceAt_3_18 a_behind cf_voices z_tab x2 x3 x4 x5 x6 post := by
  intro P hP
  have loop : ∀ (n : Nat) (x3 : Int32) (x4 : Int32) (x5 : Int32) (x6 : Int32), (9 - x6.toInt < (n : Int)) → (iv 0 511 x3) → (iv 0 511 x4) → (iv (-1) 8 x5) → (iv 0 9 x6) → P x3 x4 x5 x6 := by
    intro n
    induction n with
    | zero => intro x3 x4 x5 x6 hm hx3 hx4 hx5 hx6; exact (ms0_up hm hx6).elim
    | succ n ih =>
      intro x3 x4 x5 x6 hm hx3 hx4 hx5 hx6
      apply hP
      refine ⟨fun c1 => ?_, fun c1 => ?_⟩
      · skip
        exact hpost _ hx5
      · skip
        refine s_wk_X5_firstOf_0 hx3 hx4 (fun r2 hr2 => ?_)
        refine ⟨fun c3 => ?_, fun c3 => ?_⟩
        · skip
          intro w4 ew4
          have hw4 := iv_eq ew4 (iv_or 9 (l := 0) (h := 511) hx3 (iv_shl1 (l := 1) (h := 256) (iv_lit (l := 1) (h := 1) (by decide)) (iv_ne (l := 0) (h := 8) c3 hr2 (iv_lit (l := (-1)) (h := (-1)) (by decide)) (by decide)) (by decide)) (by decide))
          refine ⟨iv_in (iv_ne (l := 0) (h := 8) c3 hr2 (iv_lit (l := (-1)) (h := (-1)) (by decide)) (by decide)) (by decide), ?_⟩
          intro w5 ew5
          have hw5 := iv_eq ew5 (iv_andl (l := 0) (h := 511) (k_a_behind _) (by decide))
          intro w6 ew6
          have hw6 := iv_eq ew6 (iv_add (l := 1) (h := 9) (iv_lea (l := 0) (h := 8) (r_nlt c1) hx6 hx2 (by decide)) (iv_lit (l := 1) (h := 1) (by decide)) (by decide))
          exact ih _ _ _ _ (ms_up hm (inc_lt ew6 (iv_lea (l := 0) (h := 8) (r_nlt c1) hx6 hx2 (by decide)) (by decide))) hw4 hw5 (iv_w (iv_ne (l := 0) (h := 8) c3 hr2 (iv_lit (l := (-1)) (h := (-1)) (by decide)) (by decide)) (by decide)) (iv_w hw6 (by decide))
        · skip
          exact hpost _ (iv_w (iv_lit (l := (-1)) (h := (-1)) (by decide)) (by decide))
  exact loop _ _ _ _ _ (ms_init_up _ _) hx3 hx4 hx5 hx6
set_option maxRecDepth 20000 in
theorem s_wk_X5_voiceAt_3_0 {a_behind : Nat → Int32} {cf_voices : Int32} {z_tab : Nat → Int32} {x2 : Int32} {post : Int32 → Prop} (k_a_behind : ∀ j, iv 0 511 (a_behind j)) (k_cf_voices : iv 1 9 cf_voices) (hx2 : iv 0 8 x2) (hpost : ∀ (r : Int32), iv (-1) 8 r → post r) : q_wk_X5_voiceAt_3_0 a_behind cf_voices z_tab x2 post := by
  intro w1 ew1
  have hw1 := iv_eq ew1 (iv_sub (l := 0) (h := 511) (iv_shl1 (l := 1) (h := 512) (iv_lit (l := 1) (h := 1) (by decide)) k_cf_voices (by decide)) (iv_lit (l := 1) (h := 1) (by decide)) (by decide))
  exact s_wk_X5_voiceAt_3_18 k_a_behind k_cf_voices hx2 (iv_w (iv_lit (l := 0) (h := 0) (by decide)) (by decide)) hw1 (iv_w (iv_lit (l := (-1)) (h := (-1)) (by decide)) (by decide)) (iv_w (iv_lit (l := 0) (h := 0) (by decide)) (by decide)) hpost
-- wk_X5_stepOn_6
set_option maxRecDepth 20000 in
theorem s_wk_X5_stepOn_6_79 {P8 : Int32 → Int32 → Prop} {a_gaps : Nat → Int32} {z_tab : Nat → Int32} {x2 : Int32} {x3 : Int32} {x4 : Int32} {x5 : Int32} {x6 : Int32} {post : Int32 → Prop} (hx2 : iv 1 511 x2) (hx3 : iv 0 511 x3) (hx4 : iv 0 8 x4) (hx5 : iv (-2147483648) 1000 x5) (hx6 : iv 0 8 x6) (m8 : Int) (hm8 : m8 ≤ x6.toInt) (hP8 : ∀ (x5 : Int32) (x6 : Int32), m8 < x6.toInt → iv (-2147483648) 1000 x5 → iv 0 9 x6 → P8 x5 x6) (hpost : ∀ (r : Int32), iv (-2147483648) 1000 r → post r) : q_wk_X5_stepOn_6_79 P8 a_gaps z_tab x2 x3 x4 x5 x6 post := by
  intro w1 ew1
  have hw1 := iv_eq ew1 (iv_add (l := 1) (h := 9) hx6 (iv_lit (l := 1) (h := 1) (by decide)) (by decide))
  exact hP8 _ _ (ml_up hm8 (inc_lt ew1 hx6 (by decide))) hx5 (iv_w hw1 (by decide))
set_option maxRecDepth 20000 in
theorem s_wk_X5_stepOn_6_8 {a_gaps : Nat → Int32} {z_tab : Nat → Int32} {x2 : Int32} {x3 : Int32} {x4 : Int32} {x5 : Int32} {x6 : Int32} {post : Int32 → Prop} (hx2 : iv 1 511 x2) (hx3 : iv 0 511 x3) (hx4 : iv 0 8 x4) (hx5 : iv (-2147483648) 1000 x5) (hx6 : iv 0 9 x6) (hpost : ∀ (r : Int32), iv (-2147483648) 1000 r → post r) : q_wk_X5_stepOn_6_8 a_gaps z_tab x2 x3 x4 x5 x6 post := by
  intro P hP
  have loop : ∀ (n : Nat) (x5 : Int32) (x6 : Int32), (9 - x6.toInt < (n : Int)) → (iv (-2147483648) 1000 x5) → (iv 0 9 x6) → P x5 x6 := by
    intro n
    induction n with
    | zero => intro x5 x6 hm hx5 hx6; exact (ms0_up hm hx6).elim
    | succ n ih =>
      intro x5 x6 hm hx5 hx6
      apply hP
      refine ⟨fun c1 => ?_, fun c1 => ?_⟩
      · skip
        exact hpost _ hx5
      · skip
        refine ⟨fun c2 => ?_, fun c2 => ?_⟩
        · skip
          exact hpost _ hx5
        · skip
          refine ⟨iv_in (iv_add (l := 0) (h := 80) (iv_mul (l := 0) (h := 72) hx4 (iv_lit (l := 9) (h := 9) (by decide)) (by decide)) (iv_lta (l := 0) (h := 8) (r_nle c1) hx6 (iv_lit (l := 9) (h := 9) (by decide)) (by decide)) (by decide)) (by decide), ?_⟩
          intro w3 ew3
          refine ⟨fun c4 => ?_, fun c4 => ?_⟩
          · skip
            refine ⟨fun c5 => ?_, fun c5 => ?_⟩
            · skip
              exact s_wk_X5_stepOn_6_79 hx2 hx3 hx4 hx5 (iv_lta (l := 0) (h := 8) (r_nle c1) hx6 (iv_lit (l := 9) (h := 9) (by decide)) (by decide)) x6.toInt (Int.le_refl _) (fun u0 u1 hq g0 g1 => ih u0 u1 (ms_up hm hq) g0 g1) hpost
            · skip
              exact (iv_emp (iv_ne (l := 1) (h := 0) c5 (iv_lit (l := 0) (h := 0) (by decide)) (iv_lit (l := 0) (h := 0) (by decide)) (by decide)) (by decide)).elim
          · skip
            refine ⟨fun c6 => ?_, fun c6 => ?_⟩
            · skip
              exact (iv_emp (iv_eqa (l := 1) (h := 0) c6 (iv_lit (l := 1) (h := 1) (by decide)) (iv_lit (l := 0) (h := 0) (by decide)) (by decide)) (by decide)).elim
            · skip
              refine ⟨fun c7 => ?_, fun c7 => ?_⟩
              · skip
                exact s_wk_X5_stepOn_6_79 hx2 hx3 hx4 hx5 (iv_lta (l := 0) (h := 8) (r_nle c1) hx6 (iv_lit (l := 9) (h := 9) (by decide)) (by decide)) x6.toInt (Int.le_refl _) (fun u0 u1 hq g0 g1 => ih u0 u1 (ms_up hm hq) g0 g1) hpost
              · skip
                refine ⟨iv_in (iv_add (l := 0) (h := 4607) (iv_mul (l := 0) (h := 4599) (iv_or 9 (l := 0) (h := 511) hx2 (iv_shl1 (l := 1) (h := 256) (iv_lit (l := 1) (h := 1) (by decide)) (iv_lta (l := 0) (h := 8) (r_nle c1) hx6 (iv_lit (l := 9) (h := 9) (by decide)) (by decide)) (by decide)) (by decide)) (iv_lit (l := 9) (h := 9) (by decide)) (by decide)) (iv_lta (l := 0) (h := 8) (r_nle c1) hx6 (iv_lit (l := 9) (h := 9) (by decide)) (by decide)) (by decide)) (by decide), ?_⟩
                intro w8 ew8
                have hw8 := iv_eq ew8 (iv_min (l := (-2147483648)) (h := 1000) (iv_ltb (l := (-2147483647)) (h := 1000) (r_nle c7) (iv_top w3) hx5 (by decide)) (iv_max (l := (-2147483648)) (h := 2147483647) (iv_lta (l := (-2147483648)) (h := 999) (r_nle c7) (iv_top w3) hx5 (by decide)) (iv_top _) (by decide)) (by decide))
                exact s_wk_X5_stepOn_6_79 hx2 hx3 hx4 hw8 (iv_lta (l := 0) (h := 8) (r_nle c1) hx6 (iv_lit (l := 9) (h := 9) (by decide)) (by decide)) x6.toInt (Int.le_refl _) (fun u0 u1 hq g0 g1 => ih u0 u1 (ms_up hm hq) g0 g1) hpost
  exact loop _ _ _ (ms_init_up _ _) hx5 hx6
set_option maxRecDepth 20000 in
theorem s_wk_X5_stepOn_6_0 {a_gaps : Nat → Int32} {z_tab : Nat → Int32} {x2 : Int32} {x3 : Int32} {x4 : Int32} {post : Int32 → Prop} (hx2 : iv 1 511 x2) (hx3 : iv 0 511 x3) (hx4 : iv 0 8 x4) (hpost : ∀ (r : Int32), iv (-2147483648) 1000 r → post r) : q_wk_X5_stepOn_6_0 a_gaps z_tab x2 x3 x4 post := by
  exact s_wk_X5_stepOn_6_8 hx2 hx3 hx4 (iv_w (iv_lit (l := 1000) (h := 1000) (by decide)) (by decide)) (iv_w (iv_lit (l := 0) (h := 0) (by decide)) (by decide)) hpost
-- wk_X5_leastStep_3
set_option maxRecDepth 20000 in
theorem s_wk_X5_leastStep_3_113 {a_gaps : Nat → Int32} {a_behind : Nat → Int32} {cf_voices : Int32} {cf_step : Int32} {ca_parts : Nat → Int32} {ca_heights : Nat → Int32} {z_tab : Nat → Int32} {x4 : Int32} {x5 : Int32} {post : Int32 → (Nat → Int32) → (Nat → Int32) → (Nat → Int32) → Prop} (k_a_behind : ∀ j, iv 0 511 (a_behind j)) (k_cf_voices : iv 1 9 cf_voices) (k_cf_step : iv 0 9 cf_step) (k_ca_parts : ∀ j, iv 0 3 (ca_parts j)) (k_ca_heights : ∀ j, iv 0 9 (ca_heights j)) (hx4 : iv (-2147483648) 1000 x4) (hx5 : iv 0 9 x5) (hpost : ∀ (r : Int32) (a_gaps : Nat → Int32) (a_behind : Nat → Int32) (z_tab : Nat → Int32), iv (-2147483648) 999 r → (∀ j, iv 0 511 (a_behind j)) → post r a_gaps a_behind z_tab) : q_wk_X5_leastStep_3_113 a_gaps a_behind cf_voices cf_step ca_parts ca_heights z_tab x4 x5 post := by
  intro P hP
  have loop : ∀ (n : Nat) (x4 : Int32) (x5 : Int32), (9 - x5.toInt < (n : Int)) → (iv (-2147483648) 1000 x4) → (iv 0 9 x5) → P x4 x5 := by
    intro n
    induction n with
    | zero => intro x4 x5 hm hx4 hx5; exact (ms0_up hm hx5).elim
    | succ n ih =>
      intro x4 x5 hm hx4 hx5
      apply hP
      refine ⟨fun c1 => ?_, fun c1 => ?_⟩
      · skip
        refine ⟨fun c2 => ?_, fun c2 => ?_⟩
        · skip
          exact hpost _ _ _ _ (iv_w (iv_lit (l := (-1)) (h := (-1)) (by decide)) (by decide)) k_a_behind
        · skip
          exact hpost _ _ _ _ (iv_lta (l := (-2147483648)) (h := 999) (r_nle c2) hx4 (iv_lit (l := 1000) (h := 1000) (by decide)) (by decide)) k_a_behind
      · skip
        refine ⟨iv_in (iv_add (l := 9) (h := 2312) (iv_mul (l := 9) (h := 2304) (iv_shl1 (l := 1) (h := 256) (iv_lit (l := 1) (h := 1) (by decide)) (iv_lta (l := 0) (h := 8) (r_nle c1) hx5 k_cf_voices (by decide)) (by decide)) (iv_lit (l := 9) (h := 9) (by decide)) (by decide)) (iv_lta (l := 0) (h := 8) (r_nle c1) hx5 k_cf_voices (by decide)) (by decide)) (by decide), ?_⟩
        intro w3 ew3
        have hw3 := iv_eq ew3 (iv_min (l := (-2147483648)) (h := 1000) hx4 (iv_top _) (by decide))
        intro w4 ew4
        have hw4 := iv_eq ew4 (iv_add (l := 1) (h := 9) (iv_lta (l := 0) (h := 8) (r_nle c1) hx5 k_cf_voices (by decide)) (iv_lit (l := 1) (h := 1) (by decide)) (by decide))
        exact ih _ _ (ms_up hm (inc_lt ew4 (iv_lta (l := 0) (h := 8) (r_nle c1) hx5 k_cf_voices (by decide)) (by decide))) hw3 (iv_w hw4 (by decide))
  exact loop _ _ _ (ms_init_up _ _) hx4 hx5
set_option maxRecDepth 20000 in
theorem s_wk_X5_leastStep_3_93 {P31 : Int32 → (Nat → Int32) → Prop} {P39 : Int32 → (Nat → Int32) → Prop} {a_gaps : Nat → Int32} {a_behind : Nat → Int32} {cf_voices : Int32} {cf_step : Int32} {ca_parts : Nat → Int32} {ca_heights : Nat → Int32} {z_tab : Nat → Int32} {x3 : Int32} {x4 : Int32} {x5 : Int32} {post : Int32 → (Nat → Int32) → (Nat → Int32) → (Nat → Int32) → Prop} (k_a_behind : ∀ j, iv 0 511 (a_behind j)) (k_cf_voices : iv 1 9 cf_voices) (k_cf_step : iv 0 9 cf_step) (k_ca_parts : ∀ j, iv 0 3 (ca_parts j)) (k_ca_heights : ∀ j, iv 0 9 (ca_heights j)) (hx3 : iv 0 511 x3) (hx4 : iv 1 511 x4) (hx5 : iv 0 8 x5) (m31 : Int) (hm31 : x4.toInt ≤ m31) (hP31 : ∀ (x4 : Int32) (z_tab : Nat → Int32), x4.toInt < m31 → iv 0 511 x4 → P31 x4 z_tab) (m39 : Int) (hm39 : m39 ≤ x5.toInt) (hP39 : ∀ (x5 : Int32) (z_tab : Nat → Int32), m39 < x5.toInt → iv 0 9 x5 → P39 x5 z_tab) (hpost : ∀ (r : Int32) (a_gaps : Nat → Int32) (a_behind : Nat → Int32) (z_tab : Nat → Int32), iv (-2147483648) 999 r → (∀ j, iv 0 511 (a_behind j)) → post r a_gaps a_behind z_tab) : q_wk_X5_leastStep_3_93 P31 P39 a_gaps a_behind cf_voices cf_step ca_parts ca_heights z_tab x3 x4 x5 post := by
  intro w1 ew1
  have hw1 := iv_eq ew1 (iv_add (l := 1) (h := 9) hx5 (iv_lit (l := 1) (h := 1) (by decide)) (by decide))
  exact hP39 _ _ (ml_up hm39 (inc_lt ew1 hx5 (by decide))) (iv_w hw1 (by decide))
set_option maxRecDepth 20000 in
theorem s_wk_X5_leastStep_3_92 {P31 : Int32 → (Nat → Int32) → Prop} {P39 : Int32 → (Nat → Int32) → Prop} {a_gaps : Nat → Int32} {a_behind : Nat → Int32} {cf_voices : Int32} {cf_step : Int32} {ca_parts : Nat → Int32} {ca_heights : Nat → Int32} {z_tab : Nat → Int32} {x3 : Int32} {x4 : Int32} {x5 : Int32} {y0 : Int32} {y1 : Int32} {post : Int32 → (Nat → Int32) → (Nat → Int32) → (Nat → Int32) → Prop} (k_a_behind : ∀ j, iv 0 511 (a_behind j)) (k_cf_voices : iv 1 9 cf_voices) (k_cf_step : iv 0 9 cf_step) (k_ca_parts : ∀ j, iv 0 3 (ca_parts j)) (k_ca_heights : ∀ j, iv 0 9 (ca_heights j)) (hx3 : iv 0 511 x3) (hx4 : iv 1 511 x4) (hx5 : iv 0 8 x5) (hy0 : iv 9 4607 y0) (hy1 : iv (-2147483648) 1000 y1) (m31 : Int) (hm31 : x4.toInt ≤ m31) (hP31 : ∀ (x4 : Int32) (z_tab : Nat → Int32), x4.toInt < m31 → iv 0 511 x4 → P31 x4 z_tab) (m39 : Int) (hm39 : m39 ≤ x5.toInt) (hP39 : ∀ (x5 : Int32) (z_tab : Nat → Int32), m39 < x5.toInt → iv 0 9 x5 → P39 x5 z_tab) (hpost : ∀ (r : Int32) (a_gaps : Nat → Int32) (a_behind : Nat → Int32) (z_tab : Nat → Int32), iv (-2147483648) 999 r → (∀ j, iv 0 511 (a_behind j)) → post r a_gaps a_behind z_tab) : q_wk_X5_leastStep_3_92 P31 P39 a_gaps a_behind cf_voices cf_step ca_parts ca_heights z_tab x3 x4 x5 y0 y1 post := by
  refine ⟨iv_in hy0 (by decide), ?_⟩
  intro a1 ea1
  exact s_wk_X5_leastStep_3_93 k_a_behind k_cf_voices k_cf_step k_ca_parts k_ca_heights hx3 hx4 hx5 m31 hm31 hP31 m39 hm39 hP39 hpost
set_option maxRecDepth 20000 in
theorem s_wk_X5_leastStep_3_39 {P31 : Int32 → (Nat → Int32) → Prop} {a_gaps : Nat → Int32} {a_behind : Nat → Int32} {cf_voices : Int32} {cf_step : Int32} {ca_parts : Nat → Int32} {ca_heights : Nat → Int32} {z_tab : Nat → Int32} {x3 : Int32} {x4 : Int32} {x5 : Int32} {post : Int32 → (Nat → Int32) → (Nat → Int32) → (Nat → Int32) → Prop} (k_a_behind : ∀ j, iv 0 511 (a_behind j)) (k_cf_voices : iv 1 9 cf_voices) (k_cf_step : iv 0 9 cf_step) (k_ca_parts : ∀ j, iv 0 3 (ca_parts j)) (k_ca_heights : ∀ j, iv 0 9 (ca_heights j)) (hx3 : iv 0 511 x3) (hx4 : iv 1 511 x4) (hx5 : iv 0 9 x5) (m31 : Int) (hm31 : x4.toInt ≤ m31) (hP31 : ∀ (x4 : Int32) (z_tab : Nat → Int32), x4.toInt < m31 → iv 0 511 x4 → P31 x4 z_tab) (hpost : ∀ (r : Int32) (a_gaps : Nat → Int32) (a_behind : Nat → Int32) (z_tab : Nat → Int32), iv (-2147483648) 999 r → (∀ j, iv 0 511 (a_behind j)) → post r a_gaps a_behind z_tab) : q_wk_X5_leastStep_3_39 P31 a_gaps a_behind cf_voices cf_step ca_parts ca_heights z_tab x3 x4 x5 post := by
  intro P hP
  have loop : ∀ (n : Nat) (x5 : Int32) (z_tab : Nat → Int32), (9 - x5.toInt < (n : Int)) → (iv 0 9 x5) → P x5 z_tab := by
    intro n
    induction n with
    | zero => intro x5 z_tab hm hx5; exact (ms0_up hm hx5).elim
    | succ n ih =>
      intro x5 z_tab hm hx5
      apply hP
      refine ⟨fun c1 => ?_, fun c1 => ?_⟩
      · skip
        intro w2 ew2
        have hw2 := iv_eq ew2 (iv_add (l := 0) (h := 510) hx4 (iv_lit (l := (-1)) (h := (-1)) (by decide)) (by decide))
        exact hP31 _ _ (ml_dn hm31 (dec_lt ew2 hx4 (by decide))) (iv_w hw2 (by decide))
      · skip
        refine ⟨fun c3 => ?_, fun c3 => ?_⟩
        · skip
          refine ⟨fun c4 => ?_, fun c4 => ?_⟩
          · skip
            exact s_wk_X5_leastStep_3_93 k_a_behind k_cf_voices k_cf_step k_ca_parts k_ca_heights hx3 hx4 (iv_lta (l := 0) (h := 8) (r_nle c1) hx5 k_cf_voices (by decide)) m31 hm31 hP31 x5.toInt (Int.le_refl _) (fun u0 u1 hq g0 => ih u0 u1 (ms_up hm hq) g0) hpost
          · skip
            exact (iv_emp (iv_ne (l := 1) (h := 0) c4 (iv_lit (l := 0) (h := 0) (by decide)) (iv_lit (l := 0) (h := 0) (by decide)) (by decide)) (by decide)).elim
        · skip
          refine ⟨fun c5 => ?_, fun c5 => ?_⟩
          · skip
            exact (iv_emp (iv_eqa (l := 1) (h := 0) c5 (iv_lit (l := 1) (h := 1) (by decide)) (iv_lit (l := 0) (h := 0) (by decide)) (by decide)) (by decide)).elim
          · skip
            refine ⟨fun c6 => ?_, fun c6 => ?_⟩
            · skip
              refine s_wk_X5_stepOn_6_0 hx4 (iv_andl (l := 0) (h := 511) hx3 (by decide)) (iv_lta (l := 0) (h := 8) (r_nle c1) hx5 k_cf_voices (by decide)) (fun r7 hr7 => ?_)
              exact s_wk_X5_leastStep_3_92 k_a_behind k_cf_voices k_cf_step k_ca_parts k_ca_heights hx3 hx4 (iv_lta (l := 0) (h := 8) (r_nle c1) hx5 k_cf_voices (by decide)) (iv_add (l := 9) (h := 4607) (iv_mul (l := 9) (h := 4599) hx4 (iv_lit (l := 9) (h := 9) (by decide)) (by decide)) (iv_lta (l := 0) (h := 8) (r_nle c1) hx5 k_cf_voices (by decide)) (by decide)) hr7 m31 hm31 hP31 x5.toInt (Int.le_refl _) (fun u0 u1 hq g0 => ih u0 u1 (ms_up hm hq) g0) hpost
            · skip
              exact s_wk_X5_leastStep_3_92 k_a_behind k_cf_voices k_cf_step k_ca_parts k_ca_heights (iv_w (iv_eqb (l := 1) (h := 511) c6 hx4 hx3 (by decide)) (by decide)) hx4 (iv_lta (l := 0) (h := 8) (r_nle c1) hx5 k_cf_voices (by decide)) (iv_add (l := 9) (h := 4607) (iv_mul (l := 9) (h := 4599) hx4 (iv_lit (l := 9) (h := 9) (by decide)) (by decide)) (iv_lta (l := 0) (h := 8) (r_nle c1) hx5 k_cf_voices (by decide)) (by decide)) (iv_w (iv_lit (l := 0) (h := 0) (by decide)) (by decide)) m31 hm31 hP31 x5.toInt (Int.le_refl _) (fun u0 u1 hq g0 => ih u0 u1 (ms_up hm hq) g0) hpost
  exact loop _ _ _ (ms_init_up _ _) hx5
set_option maxRecDepth 20000 in
theorem s_wk_X5_leastStep_3_31 {a_gaps : Nat → Int32} {a_behind : Nat → Int32} {cf_voices : Int32} {cf_step : Int32} {ca_parts : Nat → Int32} {ca_heights : Nat → Int32} {z_tab : Nat → Int32} {x3 : Int32} {x4 : Int32} {post : Int32 → (Nat → Int32) → (Nat → Int32) → (Nat → Int32) → Prop} (k_a_behind : ∀ j, iv 0 511 (a_behind j)) (k_cf_voices : iv 1 9 cf_voices) (k_cf_step : iv 0 9 cf_step) (k_ca_parts : ∀ j, iv 0 3 (ca_parts j)) (k_ca_heights : ∀ j, iv 0 9 (ca_heights j)) (hx3 : iv 0 511 x3) (hx4 : iv 0 511 x4) (hpost : ∀ (r : Int32) (a_gaps : Nat → Int32) (a_behind : Nat → Int32) (z_tab : Nat → Int32), iv (-2147483648) 999 r → (∀ j, iv 0 511 (a_behind j)) → post r a_gaps a_behind z_tab) : q_wk_X5_leastStep_3_31 a_gaps a_behind cf_voices cf_step ca_parts ca_heights z_tab x3 x4 post := by
  intro P hP
  have loop : ∀ (n : Nat) (x4 : Int32) (z_tab : Nat → Int32), (x4.toInt - 0 < (n : Int)) → (iv 0 511 x4) → P x4 z_tab := by
    intro n
    induction n with
    | zero => intro x4 z_tab hm hx4; exact (ms0_dn hm hx4).elim
    | succ n ih =>
      intro x4 z_tab hm hx4
      apply hP
      refine ⟨fun c1 => ?_, fun c1 => ?_⟩
      · skip
        exact s_wk_X5_leastStep_3_113 k_a_behind k_cf_voices k_cf_step k_ca_parts k_ca_heights (iv_w (iv_lit (l := 1000) (h := 1000) (by decide)) (by decide)) (iv_w (iv_lit (l := 0) (h := 0) (by decide)) (by decide)) hpost
      · skip
        exact s_wk_X5_leastStep_3_39 k_a_behind k_cf_voices k_cf_step k_ca_parts k_ca_heights hx3 (iv_ltb (l := 1) (h := 511) (r_nle c1) (iv_lit (l := 0) (h := 0) (by decide)) hx4 (by decide)) (iv_w (iv_lit (l := 0) (h := 0) (by decide)) (by decide)) x4.toInt (Int.le_refl _) (fun u0 u1 hq g0 => ih u0 u1 (ms_dn hm hq) g0) hpost
  exact loop _ _ _ (ms_init_dn _ _) hx4
set_option maxRecDepth 20000 in
theorem s_wk_X5_leastStep_3_19 {a_gaps : Nat → Int32} {a_behind : Nat → Int32} {cf_voices : Int32} {cf_step : Int32} {ca_parts : Nat → Int32} {ca_heights : Nat → Int32} {z_tab : Nat → Int32} {post : Int32 → (Nat → Int32) → (Nat → Int32) → (Nat → Int32) → Prop} (k_a_behind : ∀ j, iv 0 511 (a_behind j)) (k_cf_voices : iv 1 9 cf_voices) (k_cf_step : iv 0 9 cf_step) (k_ca_parts : ∀ j, iv 0 3 (ca_parts j)) (k_ca_heights : ∀ j, iv 0 9 (ca_heights j)) (hpost : ∀ (r : Int32) (a_gaps : Nat → Int32) (a_behind : Nat → Int32) (z_tab : Nat → Int32), iv (-2147483648) 999 r → (∀ j, iv 0 511 (a_behind j)) → post r a_gaps a_behind z_tab) : q_wk_X5_leastStep_3_19 a_gaps a_behind cf_voices cf_step ca_parts ca_heights z_tab post := by
  intro w1 ew1
  have hw1 := iv_eq ew1 (iv_sub (l := 0) (h := 511) (iv_shl1 (l := 1) (h := 512) (iv_lit (l := 1) (h := 1) (by decide)) k_cf_voices (by decide)) (iv_lit (l := 1) (h := 1) (by decide)) (by decide))
  exact s_wk_X5_leastStep_3_31 k_a_behind k_cf_voices k_cf_step k_ca_parts k_ca_heights hw1 hw1 hpost
set_option maxRecDepth 20000 in
theorem s_wk_X5_leastStep_3_0 {a_gaps : Nat → Int32} {a_behind : Nat → Int32} {cf_voices : Int32} {cf_step : Int32} {ca_parts : Nat → Int32} {ca_heights : Nat → Int32} {z_tab : Nat → Int32} {post : Int32 → (Nat → Int32) → (Nat → Int32) → (Nat → Int32) → Prop} (k_a_behind : ∀ j, iv 0 511 (a_behind j)) (k_cf_voices : iv 0 9 cf_voices) (k_cf_step : iv 0 9 cf_step) (k_ca_parts : ∀ j, iv 0 3 (ca_parts j)) (k_ca_heights : ∀ j, iv 0 9 (ca_heights j)) (hpost : ∀ (r : Int32) (a_gaps : Nat → Int32) (a_behind : Nat → Int32) (z_tab : Nat → Int32), iv (-2147483648) 999 r → (∀ j, iv 0 511 (a_behind j)) → post r a_gaps a_behind z_tab) : q_wk_X5_leastStep_3_0 a_gaps a_behind cf_voices cf_step ca_parts ca_heights z_tab post := by
  refine ⟨fun c1 => ?_, fun c1 => ?_⟩
  · skip
    refine s_wk_X5_measure_3_0 k_a_behind (iv_w (iv_ne (l := 1) (h := 9) c1 k_cf_voices (iv_lit (l := 0) (h := 0) (by decide)) (by decide)) (by decide)) k_cf_step k_ca_parts k_ca_heights (fun o2 o3 k_o3 => ?_)
    refine ⟨fun h => absurd h (by decide), fun h0 => ?_⟩
    exact s_wk_X5_leastStep_3_19 k_o3 (iv_ne (l := 1) (h := 9) c1 k_cf_voices (iv_lit (l := 0) (h := 0) (by decide)) (by decide)) k_cf_step k_ca_parts k_ca_heights hpost
  · skip
    exact hpost _ _ _ _ (iv_w (iv_lit (l := 0) (h := 0) (by decide)) (by decide)) k_a_behind
end
section
-- wx_X9_put
set_option maxRecDepth 20000 in
theorem s_wx_X9_put_3 {ta_tape : Nat → Int32} {tf_length : Int32} {x1 : Int32} {x2 : Int32} {post : (Nat → Int32) → (Int32) → Prop} (k_ta_tape : ∀ j, iv (-128) 127 (ta_tape j)) (k_tf_length : iv 0 600 tf_length) (hx2 : iv (-8) 24 x2) (hpost : ∀ (ta_tape : Nat → Int32) (tf_length : Int32), (∀ j, iv (-128) 127 (ta_tape j)) → (iv 0 600 tf_length) → post ta_tape tf_length) : q_wx_X9_put_3 ta_tape tf_length x1 x2 post := by
  intro P hP
  have loop : ∀ (n : Nat) (x2 : Int32) (ta_tape : Nat → Int32) (tf_length : Int32), (x2.toInt - (-8) < (n : Int)) → (iv (-8) 24 x2) → (∀ j, iv (-128) 127 (ta_tape j)) → (iv 0 600 tf_length) → P x2 ta_tape tf_length := by
    intro n
    induction n with
    | zero => intro x2 ta_tape tf_length hm hx2 k_ta_tape k_tf_length; exact (ms0_dn hm hx2).elim
    | succ n ih =>
      intro x2 ta_tape tf_length hm hx2 k_ta_tape k_tf_length
      apply hP
      refine ⟨fun c1 => ?_, fun c1 => ?_⟩
      · skip
        exact hpost _ _ k_ta_tape k_tf_length
      · skip
        refine ⟨fun c2 => ?_, fun c2 => ?_⟩
        · skip
          exact hpost _ _ k_ta_tape (iv_w (iv_leb (l := 600) (h := 600) (r_le c2) (iv_lit (l := 600) (h := 600) (by decide)) k_tf_length (by decide)) (by decide))
        · skip
          intro w3 ew3
          have hw3 := iv_eq ew3 (iv_i2b _)
          refine ⟨iv_in (iv_lta (l := 0) (h := 599) (r_nle c2) k_tf_length (iv_lit (l := 600) (h := 600) (by decide)) (by decide)) (by decide), ?_⟩
          intro a4 ea4
          have k_a4 := iv_updB ea4 k_ta_tape
          intro w5 ew5
          have hw5 := iv_eq ew5 (iv_add (l := 1) (h := 600) (iv_lta (l := 0) (h := 599) (r_nle c2) k_tf_length (iv_lit (l := 600) (h := 600) (by decide)) (by decide)) (iv_lit (l := 1) (h := 1) (by decide)) (by decide))
          intro w6 ew6
          have hw6 := iv_eq ew6 (iv_add (l := (-8)) (h := 16) (iv_leb (l := 0) (h := 24) (r_nlt c1) (iv_lit (l := 0) (h := 0) (by decide)) hx2 (by decide)) (iv_lit (l := (-8)) (h := (-8)) (by decide)) (by decide))
          exact ih _ _ _ (ms_dn hm (dec_lt ew6 (iv_leb (l := 0) (h := 24) (r_nlt c1) (iv_lit (l := 0) (h := 0) (by decide)) hx2 (by decide)) (by decide))) (iv_w hw6 (by decide)) k_a4 (iv_w hw5 (by decide))
  exact loop _ _ _ _ (ms_init_dn _ _) hx2 k_ta_tape k_tf_length
set_option maxRecDepth 20000 in
theorem s_wx_X9_put_0 {ta_tape : Nat → Int32} {tf_length : Int32} {x1 : Int32} {post : (Nat → Int32) → (Int32) → Prop} (k_ta_tape : ∀ j, iv (-128) 127 (ta_tape j)) (k_tf_length : iv 0 600 tf_length) (hpost : ∀ (ta_tape : Nat → Int32) (tf_length : Int32), (∀ j, iv (-128) 127 (ta_tape j)) → (iv 0 600 tf_length) → post ta_tape tf_length) : q_wx_X9_put_0 ta_tape tf_length x1 post := by
  exact s_wx_X9_put_3 k_ta_tape k_tf_length (iv_w (iv_lit (l := 24) (h := 24) (by decide)) (by decide)) hpost
-- wx_X10_feed
set_option maxRecDepth 20000 in
theorem s_wx_X10_feed_0 {ta_tape : Nat → Int32} {tf_length : Int32} {x1 : Int32} {x2 : Int32} {x3 : Int32} {x4 : Int32} {x5 : Int32} {post : Int32 → (Nat → Int32) → (Int32) → Prop} (k_ta_tape : ∀ j, iv (-128) 127 (ta_tape j)) (k_tf_length : iv 0 600 tf_length) (hpost : ∀ (r : Int32) (ta_tape : Nat → Int32) (tf_length : Int32), iv (-1) 600 r → (∀ j, iv (-128) 127 (ta_tape j)) → (iv 0 600 tf_length) → post r ta_tape tf_length) : q_wx_X10_feed_0 ta_tape tf_length x1 x2 x3 x4 x5 post := by
  refine ⟨fun c1 => ?_, fun c1 => ?_⟩
  · skip
    refine s_wx_X9_put_0 k_ta_tape k_tf_length (fun o2 o3 k_o2 k_o3 => ?_)
    refine s_wx_X9_put_0 k_o2 k_o3 (fun o4 o5 k_o4 k_o5 => ?_)
    refine s_wx_X9_put_0 k_o4 k_o5 (fun o6 o7 k_o6 k_o7 => ?_)
    refine s_wx_X9_put_0 k_o6 k_o7 (fun o8 o9 k_o8 k_o9 => ?_)
    refine s_wx_X9_put_0 k_o8 k_o9 (fun o10 o11 k_o10 k_o11 => ?_)
    exact hpost _ _ _ (iv_w k_o11 (by decide)) k_o10 k_o11
  · skip
    exact hpost _ _ _ (iv_w (iv_lit (l := (-1)) (h := (-1)) (by decide)) (by decide)) k_ta_tape k_tf_length
-- wx_X10_end
set_option maxRecDepth 20000 in
theorem s_wx_X10_end_0 {tf_length : Int32} {x1 : Int32} {post : Int32 → (Int32) → Prop} (k_tf_length : iv 0 600 tf_length) (hpost : ∀ (r : Int32) (tf_length : Int32), iv (-1) 600 r → (iv 0 600 tf_length) → post r tf_length) : q_wx_X10_end_0 tf_length x1 post := by
  refine ⟨fun c1 => ?_, fun c1 => ?_⟩
  · skip
    exact hpost _ _ (iv_w (iv_lit (l := (-1)) (h := (-1)) (by decide)) (by decide)) k_tf_length
  · skip
    refine ⟨fun c2 => ?_, fun c2 => ?_⟩
    · skip
      exact hpost _ _ (iv_w (iv_lea (l := 0) (h := 600) (r_le c2) (iv_leb (l := 0) (h := 2147483647) (r_nlt c1) (iv_lit (l := 0) (h := 0) (by decide)) (iv_top x1) (by decide)) k_tf_length (by decide)) (by decide)) (iv_lea (l := 0) (h := 600) (r_le c2) (iv_leb (l := 0) (h := 2147483647) (r_nlt c1) (iv_lit (l := 0) (h := 0) (by decide)) (iv_top x1) (by decide)) k_tf_length (by decide))
    · skip
      exact hpost _ _ (iv_w (iv_lit (l := (-1)) (h := (-1)) (by decide)) (by decide)) k_tf_length
-- wx_X10_keep
set_option maxRecDepth 20000 in
theorem s_wx_X10_keep_99 {ta_counts : Nat → Int32} {tl0f_huts : Int32} {tl0f_singers : Int32} {tl0f_villages : Int32} {tl0f_dams : Int32} {tl0f_echoes : Int32} {tl0f_deep : Int32} {tl0f_slide : Int32} {tl0a_heights : Nat → Int32} {tl0a_ladders : Nat → Int32} {tl0a_minutes : Nat → Int32} {tl0a_echoFrom : Nat → Int32} {tl0a_echoTo : Nat → Int32} {tl0a_homes : Nat → Int32} {tl0a_talls : Nat → Int32} {tl0a_known : Nat → Int32} {tl1f_huts : Int32} {tl1f_singers : Int32} {tl1f_villages : Int32} {tl1f_dams : Int32} {tl1f_echoes : Int32} {tl1f_deep : Int32} {tl1f_slide : Int32} {tl1a_heights : Nat → Int32} {tl1a_ladders : Nat → Int32} {tl1a_minutes : Nat → Int32} {tl1a_echoFrom : Nat → Int32} {tl1a_echoTo : Nat → Int32} {tl1a_homes : Nat → Int32} {tl1a_talls : Nat → Int32} {tl1a_known : Nat → Int32} {tv0f_deeds : Int32} {tv0a_kinds : Nat → Int32} {tv0a_firsts : Nat → Int32} {tv0a_seconds : Nat → Int32} {tv1f_deeds : Int32} {tv1a_kinds : Nat → Int32} {tv1a_firsts : Nat → Int32} {tv1a_seconds : Nat → Int32} {ts0f_facts : Int32} {ts0a_heard : Nat → Int32} {ts0a_huts : Nat → Int32} {ts0a_minutes : Nat → Int32} {ts1f_facts : Int32} {ts1a_heard : Nat → Int32} {ts1a_huts : Nat → Int32} {ts1a_minutes : Nat → Int32} {tc0f_voices : Int32} {tc0f_step : Int32} {tc0a_parts : Nat → Int32} {tc0a_heights : Nat → Int32} {tc1f_voices : Int32} {tc1f_step : Int32} {tc1a_parts : Nat → Int32} {tc1a_heights : Nat → Int32} {rlf_huts : Int32} {rlf_singers : Int32} {rlf_villages : Int32} {rlf_dams : Int32} {rlf_echoes : Int32} {rlf_deep : Int32} {rlf_slide : Int32} {rla_heights : Nat → Int32} {rla_ladders : Nat → Int32} {rla_minutes : Nat → Int32} {rla_echoFrom : Nat → Int32} {rla_echoTo : Nat → Int32} {rla_homes : Nat → Int32} {rla_talls : Nat → Int32} {rla_known : Nat → Int32} {rvf_deeds : Int32} {rva_kinds : Nat → Int32} {rva_firsts : Nat → Int32} {rva_seconds : Nat → Int32} {rsf_facts : Int32} {rsa_heard : Nat → Int32} {rsa_huts : Nat → Int32} {rsa_minutes : Nat → Int32} {rcf_voices : Int32} {rcf_step : Int32} {rca_parts : Nat → Int32} {rca_heights : Nat → Int32} {x1 : Int32} {x2 : Int32} {post : (Nat → Int32) → (Int32) → (Int32) → (Int32) → (Int32) → (Int32) → (Int32) → (Int32) → (Nat → Int32) → (Nat → Int32) → (Nat → Int32) → (Nat → Int32) → (Nat → Int32) → (Nat → Int32) → (Nat → Int32) → (Nat → Int32) → (Int32) → (Int32) → (Int32) → (Int32) → (Int32) → (Int32) → (Int32) → (Nat → Int32) → (Nat → Int32) → (Nat → Int32) → (Nat → Int32) → (Nat → Int32) → (Nat → Int32) → (Nat → Int32) → (Nat → Int32) → (Int32) → (Nat → Int32) → (Nat → Int32) → (Nat → Int32) → (Int32) → (Nat → Int32) → (Nat → Int32) → (Nat → Int32) → (Int32) → (Nat → Int32) → (Nat → Int32) → (Nat → Int32) → (Int32) → (Nat → Int32) → (Nat → Int32) → (Nat → Int32) → (Int32) → (Int32) → (Nat → Int32) → (Nat → Int32) → (Int32) → (Int32) → (Nat → Int32) → (Nat → Int32) → Prop} (k_ta_counts : ∀ j, iv 0 2 (ta_counts j)) (k_tl0f_huts : iv 0 9 tl0f_huts) (k_tl0f_singers : iv 0 6 tl0f_singers) (k_tl0f_villages : iv 0 511 tl0f_villages) (k_tl0f_dams : iv 0 511 tl0f_dams) (k_tl0f_echoes : iv 0 4 tl0f_echoes) (k_tl0f_deep : iv 1 9 tl0f_deep) (k_tl0f_slide : iv 0 10 tl0f_slide) (k_tl0a_heights : ∀ j, iv 0 99 (tl0a_heights j)) (k_tl0a_ladders : ∀ j, iv 0 9 (tl0a_ladders j)) (k_tl0a_minutes : ∀ j, iv 0 9 (tl0a_minutes j)) (k_tl0a_echoFrom : ∀ j, iv 0 8 (tl0a_echoFrom j)) (k_tl0a_echoTo : ∀ j, iv 0 8 (tl0a_echoTo j)) (k_tl0a_homes : ∀ j, iv 0 8 (tl0a_homes j)) (k_tl0a_talls : ∀ j, iv 0 9 (tl0a_talls j)) (k_tl0a_known : ∀ j, iv 0 31 (tl0a_known j)) (k_tl1f_huts : iv 0 9 tl1f_huts) (k_tl1f_singers : iv 0 6 tl1f_singers) (k_tl1f_villages : iv 0 511 tl1f_villages) (k_tl1f_dams : iv 0 511 tl1f_dams) (k_tl1f_echoes : iv 0 4 tl1f_echoes) (k_tl1f_deep : iv 1 9 tl1f_deep) (k_tl1f_slide : iv 0 10 tl1f_slide) (k_tl1a_heights : ∀ j, iv 0 99 (tl1a_heights j)) (k_tl1a_ladders : ∀ j, iv 0 9 (tl1a_ladders j)) (k_tl1a_minutes : ∀ j, iv 0 9 (tl1a_minutes j)) (k_tl1a_echoFrom : ∀ j, iv 0 8 (tl1a_echoFrom j)) (k_tl1a_echoTo : ∀ j, iv 0 8 (tl1a_echoTo j)) (k_tl1a_homes : ∀ j, iv 0 8 (tl1a_homes j)) (k_tl1a_talls : ∀ j, iv 0 9 (tl1a_talls j)) (k_tl1a_known : ∀ j, iv 0 31 (tl1a_known j)) (k_tv0f_deeds : iv 0 40 tv0f_deeds) (k_tv0a_kinds : ∀ j, iv 0 5 (tv0a_kinds j)) (k_tv0a_firsts : ∀ j, iv 0 5 (tv0a_firsts j)) (k_tv0a_seconds : ∀ j, iv (-1) 8 (tv0a_seconds j)) (k_tv1f_deeds : iv 0 40 tv1f_deeds) (k_tv1a_kinds : ∀ j, iv 0 5 (tv1a_kinds j)) (k_tv1a_firsts : ∀ j, iv 0 5 (tv1a_firsts j)) (k_tv1a_seconds : ∀ j, iv (-1) 8 (tv1a_seconds j)) (k_ts0f_facts : iv 0 10 ts0f_facts) (k_ts0a_heard : ∀ j, iv 0 1 (ts0a_heard j)) (k_ts0a_huts : ∀ j, iv 0 8 (ts0a_huts j)) (k_ts0a_minutes : ∀ j, iv 0 60 (ts0a_minutes j)) (k_ts1f_facts : iv 0 10 ts1f_facts) (k_ts1a_heard : ∀ j, iv 0 1 (ts1a_heard j)) (k_ts1a_huts : ∀ j, iv 0 8 (ts1a_huts j)) (k_ts1a_minutes : ∀ j, iv 0 60 (ts1a_minutes j)) (k_tc0f_voices : iv 0 9 tc0f_voices) (k_tc0f_step : iv 0 9 tc0f_step) (k_tc0a_parts : ∀ j, iv 0 3 (tc0a_parts j)) (k_tc0a_heights : ∀ j, iv 0 9 (tc0a_heights j)) (k_tc1f_voices : iv 0 9 tc1f_voices) (k_tc1f_step : iv 0 9 tc1f_step) (k_tc1a_parts : ∀ j, iv 0 3 (tc1a_parts j)) (k_tc1a_heights : ∀ j, iv 0 9 (tc1a_heights j)) (k_rlf_huts : iv 0 9 rlf_huts) (k_rlf_singers : iv 0 6 rlf_singers) (k_rlf_villages : iv 0 511 rlf_villages) (k_rlf_dams : iv 0 511 rlf_dams) (k_rlf_echoes : iv 0 4 rlf_echoes) (k_rlf_deep : iv 1 9 rlf_deep) (k_rlf_slide : iv 0 10 rlf_slide) (k_rla_heights : ∀ j, iv 0 99 (rla_heights j)) (k_rla_ladders : ∀ j, iv 0 9 (rla_ladders j)) (k_rla_minutes : ∀ j, iv 0 9 (rla_minutes j)) (k_rla_echoFrom : ∀ j, iv 0 8 (rla_echoFrom j)) (k_rla_echoTo : ∀ j, iv 0 8 (rla_echoTo j)) (k_rla_homes : ∀ j, iv 0 8 (rla_homes j)) (k_rla_talls : ∀ j, iv 0 9 (rla_talls j)) (k_rla_known : ∀ j, iv 0 31 (rla_known j)) (k_rvf_deeds : iv 0 40 rvf_deeds) (k_rva_kinds : ∀ j, iv 0 5 (rva_kinds j)) (k_rva_firsts : ∀ j, iv 0 5 (rva_firsts j)) (k_rva_seconds : ∀ j, iv (-1) 8 (rva_seconds j)) (k_rsf_facts : iv 0 10 rsf_facts) (k_rsa_heard : ∀ j, iv 0 1 (rsa_heard j)) (k_rsa_huts : ∀ j, iv 0 8 (rsa_huts j)) (k_rsa_minutes : ∀ j, iv 0 60 (rsa_minutes j)) (k_rcf_voices : iv 0 9 rcf_voices) (k_rcf_step : iv 0 9 rcf_step) (k_rca_parts : ∀ j, iv 0 3 (rca_parts j)) (k_rca_heights : ∀ j, iv 0 9 (rca_heights j)) (hx1 : iv 0 3 x1) (hx2 : iv 0 1 x2) (hpost : ∀ (ta_counts : Nat → Int32) (tl0f_huts : Int32) (tl0f_singers : Int32) (tl0f_villages : Int32) (tl0f_dams : Int32) (tl0f_echoes : Int32) (tl0f_deep : Int32) (tl0f_slide : Int32) (tl0a_heights : Nat → Int32) (tl0a_ladders : Nat → Int32) (tl0a_minutes : Nat → Int32) (tl0a_echoFrom : Nat → Int32) (tl0a_echoTo : Nat → Int32) (tl0a_homes : Nat → Int32) (tl0a_talls : Nat → Int32) (tl0a_known : Nat → Int32) (tl1f_huts : Int32) (tl1f_singers : Int32) (tl1f_villages : Int32) (tl1f_dams : Int32) (tl1f_echoes : Int32) (tl1f_deep : Int32) (tl1f_slide : Int32) (tl1a_heights : Nat → Int32) (tl1a_ladders : Nat → Int32) (tl1a_minutes : Nat → Int32) (tl1a_echoFrom : Nat → Int32) (tl1a_echoTo : Nat → Int32) (tl1a_homes : Nat → Int32) (tl1a_talls : Nat → Int32) (tl1a_known : Nat → Int32) (tv0f_deeds : Int32) (tv0a_kinds : Nat → Int32) (tv0a_firsts : Nat → Int32) (tv0a_seconds : Nat → Int32) (tv1f_deeds : Int32) (tv1a_kinds : Nat → Int32) (tv1a_firsts : Nat → Int32) (tv1a_seconds : Nat → Int32) (ts0f_facts : Int32) (ts0a_heard : Nat → Int32) (ts0a_huts : Nat → Int32) (ts0a_minutes : Nat → Int32) (ts1f_facts : Int32) (ts1a_heard : Nat → Int32) (ts1a_huts : Nat → Int32) (ts1a_minutes : Nat → Int32) (tc0f_voices : Int32) (tc0f_step : Int32) (tc0a_parts : Nat → Int32) (tc0a_heights : Nat → Int32) (tc1f_voices : Int32) (tc1f_step : Int32) (tc1a_parts : Nat → Int32) (tc1a_heights : Nat → Int32), (∀ j, iv 0 2 (ta_counts j)) → (iv 0 9 tl0f_huts) → (iv 0 6 tl0f_singers) → (iv 0 511 tl0f_villages) → (iv 0 511 tl0f_dams) → (iv 0 4 tl0f_echoes) → (iv 1 9 tl0f_deep) → (iv 0 10 tl0f_slide) → (∀ j, iv 0 99 (tl0a_heights j)) → (∀ j, iv 0 9 (tl0a_ladders j)) → (∀ j, iv 0 9 (tl0a_minutes j)) → (∀ j, iv 0 8 (tl0a_echoFrom j)) → (∀ j, iv 0 8 (tl0a_echoTo j)) → (∀ j, iv 0 8 (tl0a_homes j)) → (∀ j, iv 0 9 (tl0a_talls j)) → (∀ j, iv 0 31 (tl0a_known j)) → (iv 0 9 tl1f_huts) → (iv 0 6 tl1f_singers) → (iv 0 511 tl1f_villages) → (iv 0 511 tl1f_dams) → (iv 0 4 tl1f_echoes) → (iv 1 9 tl1f_deep) → (iv 0 10 tl1f_slide) → (∀ j, iv 0 99 (tl1a_heights j)) → (∀ j, iv 0 9 (tl1a_ladders j)) → (∀ j, iv 0 9 (tl1a_minutes j)) → (∀ j, iv 0 8 (tl1a_echoFrom j)) → (∀ j, iv 0 8 (tl1a_echoTo j)) → (∀ j, iv 0 8 (tl1a_homes j)) → (∀ j, iv 0 9 (tl1a_talls j)) → (∀ j, iv 0 31 (tl1a_known j)) → (iv 0 40 tv0f_deeds) → (∀ j, iv 0 5 (tv0a_kinds j)) → (∀ j, iv 0 5 (tv0a_firsts j)) → (∀ j, iv (-1) 8 (tv0a_seconds j)) → (iv 0 40 tv1f_deeds) → (∀ j, iv 0 5 (tv1a_kinds j)) → (∀ j, iv 0 5 (tv1a_firsts j)) → (∀ j, iv (-1) 8 (tv1a_seconds j)) → (iv 0 10 ts0f_facts) → (∀ j, iv 0 1 (ts0a_heard j)) → (∀ j, iv 0 8 (ts0a_huts j)) → (∀ j, iv 0 60 (ts0a_minutes j)) → (iv 0 10 ts1f_facts) → (∀ j, iv 0 1 (ts1a_heard j)) → (∀ j, iv 0 8 (ts1a_huts j)) → (∀ j, iv 0 60 (ts1a_minutes j)) → (iv 0 9 tc0f_voices) → (iv 0 9 tc0f_step) → (∀ j, iv 0 3 (tc0a_parts j)) → (∀ j, iv 0 9 (tc0a_heights j)) → (iv 0 9 tc1f_voices) → (iv 0 9 tc1f_step) → (∀ j, iv 0 3 (tc1a_parts j)) → (∀ j, iv 0 9 (tc1a_heights j)) → post ta_counts tl0f_huts tl0f_singers tl0f_villages tl0f_dams tl0f_echoes tl0f_deep tl0f_slide tl0a_heights tl0a_ladders tl0a_minutes tl0a_echoFrom tl0a_echoTo tl0a_homes tl0a_talls tl0a_known tl1f_huts tl1f_singers tl1f_villages tl1f_dams tl1f_echoes tl1f_deep tl1f_slide tl1a_heights tl1a_ladders tl1a_minutes tl1a_echoFrom tl1a_echoTo tl1a_homes tl1a_talls tl1a_known tv0f_deeds tv0a_kinds tv0a_firsts tv0a_seconds tv1f_deeds tv1a_kinds tv1a_firsts tv1a_seconds ts0f_facts ts0a_heard ts0a_huts ts0a_minutes ts1f_facts ts1a_heard ts1a_huts ts1a_minutes tc0f_voices tc0f_step tc0a_parts tc0a_heights tc1f_voices tc1f_step tc1a_parts tc1a_heights) : q_wx_X10_keep_99 ta_counts tl0f_huts tl0f_singers tl0f_villages tl0f_dams tl0f_echoes tl0f_deep tl0f_slide tl0a_heights tl0a_ladders tl0a_minutes tl0a_echoFrom tl0a_echoTo tl0a_homes tl0a_talls tl0a_known tl1f_huts tl1f_singers tl1f_villages tl1f_dams tl1f_echoes tl1f_deep tl1f_slide tl1a_heights tl1a_ladders tl1a_minutes tl1a_echoFrom tl1a_echoTo tl1a_homes tl1a_talls tl1a_known tv0f_deeds tv0a_kinds tv0a_firsts tv0a_seconds tv1f_deeds tv1a_kinds tv1a_firsts tv1a_seconds ts0f_facts ts0a_heard ts0a_huts ts0a_minutes ts1f_facts ts1a_heard ts1a_huts ts1a_minutes tc0f_voices tc0f_step tc0a_parts tc0a_heights tc1f_voices tc1f_step tc1a_parts tc1a_heights rlf_huts rlf_singers rlf_villages rlf_dams rlf_echoes rlf_deep rlf_slide rla_heights rla_ladders rla_minutes rla_echoFrom rla_echoTo rla_homes rla_talls rla_known rvf_deeds rva_kinds rva_firsts rva_seconds rsf_facts rsa_heard rsa_huts rsa_minutes rcf_voices rcf_step rca_parts rca_heights x1 x2 post := by
  refine ⟨iv_in hx1 (by decide), ?_⟩
  intro w1 ew1
  have hw1 := iv_eq ew1 (iv_max (l := 1) (h := 2) (k_ta_counts _) (iv_add (l := 1) (h := 2) hx2 (iv_lit (l := 1) (h := 1) (by decide)) (by decide)) (by decide))
  refine ⟨iv_in hx1 (by decide), ?_⟩
  intro a2 ea2
  have k_a2 := iv_upd ea2 k_ta_counts (iv_w hw1 (by decide))
  exact hpost _ _ _ _ _ _ _ _ _ _ _ _ _ _ _ _ _ _ _ _ _ _ _ _ _ _ _ _ _ _ _ _ _ _ _ _ _ _ _ _ _ _ _ _ _ _ _ _ _ _ _ _ _ _ _ k_a2 k_tl0f_huts k_tl0f_singers k_tl0f_villages k_tl0f_dams k_tl0f_echoes k_tl0f_deep k_tl0f_slide k_tl0a_heights k_tl0a_ladders k_tl0a_minutes k_tl0a_echoFrom k_tl0a_echoTo k_tl0a_homes k_tl0a_talls k_tl0a_known k_tl1f_huts k_tl1f_singers k_tl1f_villages k_tl1f_dams k_tl1f_echoes k_tl1f_deep k_tl1f_slide k_tl1a_heights k_tl1a_ladders k_tl1a_minutes k_tl1a_echoFrom k_tl1a_echoTo k_tl1a_homes k_tl1a_talls k_tl1a_known k_tv0f_deeds k_tv0a_kinds k_tv0a_firsts k_tv0a_seconds k_tv1f_deeds k_tv1a_kinds k_tv1a_firsts k_tv1a_seconds k_ts0f_facts k_ts0a_heard k_ts0a_huts k_ts0a_minutes k_ts1f_facts k_ts1a_heard k_ts1a_huts k_ts1a_minutes k_tc0f_voices k_tc0f_step k_tc0a_parts k_tc0a_heights k_tc1f_voices k_tc1f_step k_tc1a_parts k_tc1a_heights
set_option maxRecDepth 20000 in
theorem s_wx_X10_keep_0 {ta_counts : Nat → Int32} {tl0f_huts : Int32} {tl0f_singers : Int32} {tl0f_villages : Int32} {tl0f_dams : Int32} {tl0f_echoes : Int32} {tl0f_deep : Int32} {tl0f_slide : Int32} {tl0a_heights : Nat → Int32} {tl0a_ladders : Nat → Int32} {tl0a_minutes : Nat → Int32} {tl0a_echoFrom : Nat → Int32} {tl0a_echoTo : Nat → Int32} {tl0a_homes : Nat → Int32} {tl0a_talls : Nat → Int32} {tl0a_known : Nat → Int32} {tl1f_huts : Int32} {tl1f_singers : Int32} {tl1f_villages : Int32} {tl1f_dams : Int32} {tl1f_echoes : Int32} {tl1f_deep : Int32} {tl1f_slide : Int32} {tl1a_heights : Nat → Int32} {tl1a_ladders : Nat → Int32} {tl1a_minutes : Nat → Int32} {tl1a_echoFrom : Nat → Int32} {tl1a_echoTo : Nat → Int32} {tl1a_homes : Nat → Int32} {tl1a_talls : Nat → Int32} {tl1a_known : Nat → Int32} {tv0f_deeds : Int32} {tv0a_kinds : Nat → Int32} {tv0a_firsts : Nat → Int32} {tv0a_seconds : Nat → Int32} {tv1f_deeds : Int32} {tv1a_kinds : Nat → Int32} {tv1a_firsts : Nat → Int32} {tv1a_seconds : Nat → Int32} {ts0f_facts : Int32} {ts0a_heard : Nat → Int32} {ts0a_huts : Nat → Int32} {ts0a_minutes : Nat → Int32} {ts1f_facts : Int32} {ts1a_heard : Nat → Int32} {ts1a_huts : Nat → Int32} {ts1a_minutes : Nat → Int32} {tc0f_voices : Int32} {tc0f_step : Int32} {tc0a_parts : Nat → Int32} {tc0a_heights : Nat → Int32} {tc1f_voices : Int32} {tc1f_step : Int32} {tc1a_parts : Nat → Int32} {tc1a_heights : Nat → Int32} {rlf_huts : Int32} {rlf_singers : Int32} {rlf_villages : Int32} {rlf_dams : Int32} {rlf_echoes : Int32} {rlf_deep : Int32} {rlf_slide : Int32} {rla_heights : Nat → Int32} {rla_ladders : Nat → Int32} {rla_minutes : Nat → Int32} {rla_echoFrom : Nat → Int32} {rla_echoTo : Nat → Int32} {rla_homes : Nat → Int32} {rla_talls : Nat → Int32} {rla_known : Nat → Int32} {rvf_deeds : Int32} {rva_kinds : Nat → Int32} {rva_firsts : Nat → Int32} {rva_seconds : Nat → Int32} {rsf_facts : Int32} {rsa_heard : Nat → Int32} {rsa_huts : Nat → Int32} {rsa_minutes : Nat → Int32} {rcf_voices : Int32} {rcf_step : Int32} {rca_parts : Nat → Int32} {rca_heights : Nat → Int32} {x1 : Int32} {x2 : Int32} {post : (Nat → Int32) → (Int32) → (Int32) → (Int32) → (Int32) → (Int32) → (Int32) → (Int32) → (Nat → Int32) → (Nat → Int32) → (Nat → Int32) → (Nat → Int32) → (Nat → Int32) → (Nat → Int32) → (Nat → Int32) → (Nat → Int32) → (Int32) → (Int32) → (Int32) → (Int32) → (Int32) → (Int32) → (Int32) → (Nat → Int32) → (Nat → Int32) → (Nat → Int32) → (Nat → Int32) → (Nat → Int32) → (Nat → Int32) → (Nat → Int32) → (Nat → Int32) → (Int32) → (Nat → Int32) → (Nat → Int32) → (Nat → Int32) → (Int32) → (Nat → Int32) → (Nat → Int32) → (Nat → Int32) → (Int32) → (Nat → Int32) → (Nat → Int32) → (Nat → Int32) → (Int32) → (Nat → Int32) → (Nat → Int32) → (Nat → Int32) → (Int32) → (Int32) → (Nat → Int32) → (Nat → Int32) → (Int32) → (Int32) → (Nat → Int32) → (Nat → Int32) → Prop} (k_ta_counts : ∀ j, iv 0 2 (ta_counts j)) (k_tl0f_huts : iv 0 9 tl0f_huts) (k_tl0f_singers : iv 0 6 tl0f_singers) (k_tl0f_villages : iv 0 511 tl0f_villages) (k_tl0f_dams : iv 0 511 tl0f_dams) (k_tl0f_echoes : iv 0 4 tl0f_echoes) (k_tl0f_deep : iv 1 9 tl0f_deep) (k_tl0f_slide : iv 0 10 tl0f_slide) (k_tl0a_heights : ∀ j, iv 0 99 (tl0a_heights j)) (k_tl0a_ladders : ∀ j, iv 0 9 (tl0a_ladders j)) (k_tl0a_minutes : ∀ j, iv 0 9 (tl0a_minutes j)) (k_tl0a_echoFrom : ∀ j, iv 0 8 (tl0a_echoFrom j)) (k_tl0a_echoTo : ∀ j, iv 0 8 (tl0a_echoTo j)) (k_tl0a_homes : ∀ j, iv 0 8 (tl0a_homes j)) (k_tl0a_talls : ∀ j, iv 0 9 (tl0a_talls j)) (k_tl0a_known : ∀ j, iv 0 31 (tl0a_known j)) (k_tl1f_huts : iv 0 9 tl1f_huts) (k_tl1f_singers : iv 0 6 tl1f_singers) (k_tl1f_villages : iv 0 511 tl1f_villages) (k_tl1f_dams : iv 0 511 tl1f_dams) (k_tl1f_echoes : iv 0 4 tl1f_echoes) (k_tl1f_deep : iv 1 9 tl1f_deep) (k_tl1f_slide : iv 0 10 tl1f_slide) (k_tl1a_heights : ∀ j, iv 0 99 (tl1a_heights j)) (k_tl1a_ladders : ∀ j, iv 0 9 (tl1a_ladders j)) (k_tl1a_minutes : ∀ j, iv 0 9 (tl1a_minutes j)) (k_tl1a_echoFrom : ∀ j, iv 0 8 (tl1a_echoFrom j)) (k_tl1a_echoTo : ∀ j, iv 0 8 (tl1a_echoTo j)) (k_tl1a_homes : ∀ j, iv 0 8 (tl1a_homes j)) (k_tl1a_talls : ∀ j, iv 0 9 (tl1a_talls j)) (k_tl1a_known : ∀ j, iv 0 31 (tl1a_known j)) (k_tv0f_deeds : iv 0 40 tv0f_deeds) (k_tv0a_kinds : ∀ j, iv 0 5 (tv0a_kinds j)) (k_tv0a_firsts : ∀ j, iv 0 5 (tv0a_firsts j)) (k_tv0a_seconds : ∀ j, iv (-1) 8 (tv0a_seconds j)) (k_tv1f_deeds : iv 0 40 tv1f_deeds) (k_tv1a_kinds : ∀ j, iv 0 5 (tv1a_kinds j)) (k_tv1a_firsts : ∀ j, iv 0 5 (tv1a_firsts j)) (k_tv1a_seconds : ∀ j, iv (-1) 8 (tv1a_seconds j)) (k_ts0f_facts : iv 0 10 ts0f_facts) (k_ts0a_heard : ∀ j, iv 0 1 (ts0a_heard j)) (k_ts0a_huts : ∀ j, iv 0 8 (ts0a_huts j)) (k_ts0a_minutes : ∀ j, iv 0 60 (ts0a_minutes j)) (k_ts1f_facts : iv 0 10 ts1f_facts) (k_ts1a_heard : ∀ j, iv 0 1 (ts1a_heard j)) (k_ts1a_huts : ∀ j, iv 0 8 (ts1a_huts j)) (k_ts1a_minutes : ∀ j, iv 0 60 (ts1a_minutes j)) (k_tc0f_voices : iv 0 9 tc0f_voices) (k_tc0f_step : iv 0 9 tc0f_step) (k_tc0a_parts : ∀ j, iv 0 3 (tc0a_parts j)) (k_tc0a_heights : ∀ j, iv 0 9 (tc0a_heights j)) (k_tc1f_voices : iv 0 9 tc1f_voices) (k_tc1f_step : iv 0 9 tc1f_step) (k_tc1a_parts : ∀ j, iv 0 3 (tc1a_parts j)) (k_tc1a_heights : ∀ j, iv 0 9 (tc1a_heights j)) (k_rlf_huts : iv 0 9 rlf_huts) (k_rlf_singers : iv 0 6 rlf_singers) (k_rlf_villages : iv 0 511 rlf_villages) (k_rlf_dams : iv 0 511 rlf_dams) (k_rlf_echoes : iv 0 4 rlf_echoes) (k_rlf_deep : iv 1 9 rlf_deep) (k_rlf_slide : iv 0 10 rlf_slide) (k_rla_heights : ∀ j, iv 0 99 (rla_heights j)) (k_rla_ladders : ∀ j, iv 0 9 (rla_ladders j)) (k_rla_minutes : ∀ j, iv 0 9 (rla_minutes j)) (k_rla_echoFrom : ∀ j, iv 0 8 (rla_echoFrom j)) (k_rla_echoTo : ∀ j, iv 0 8 (rla_echoTo j)) (k_rla_homes : ∀ j, iv 0 8 (rla_homes j)) (k_rla_talls : ∀ j, iv 0 9 (rla_talls j)) (k_rla_known : ∀ j, iv 0 31 (rla_known j)) (k_rvf_deeds : iv 0 40 rvf_deeds) (k_rva_kinds : ∀ j, iv 0 5 (rva_kinds j)) (k_rva_firsts : ∀ j, iv 0 5 (rva_firsts j)) (k_rva_seconds : ∀ j, iv (-1) 8 (rva_seconds j)) (k_rsf_facts : iv 0 10 rsf_facts) (k_rsa_heard : ∀ j, iv 0 1 (rsa_heard j)) (k_rsa_huts : ∀ j, iv 0 8 (rsa_huts j)) (k_rsa_minutes : ∀ j, iv 0 60 (rsa_minutes j)) (k_rcf_voices : iv 0 9 rcf_voices) (k_rcf_step : iv 0 9 rcf_step) (k_rca_parts : ∀ j, iv 0 3 (rca_parts j)) (k_rca_heights : ∀ j, iv 0 9 (rca_heights j)) (hx1 : iv 0 3 x1) (hx2 : iv 0 1 x2) (hpost : ∀ (ta_counts : Nat → Int32) (tl0f_huts : Int32) (tl0f_singers : Int32) (tl0f_villages : Int32) (tl0f_dams : Int32) (tl0f_echoes : Int32) (tl0f_deep : Int32) (tl0f_slide : Int32) (tl0a_heights : Nat → Int32) (tl0a_ladders : Nat → Int32) (tl0a_minutes : Nat → Int32) (tl0a_echoFrom : Nat → Int32) (tl0a_echoTo : Nat → Int32) (tl0a_homes : Nat → Int32) (tl0a_talls : Nat → Int32) (tl0a_known : Nat → Int32) (tl1f_huts : Int32) (tl1f_singers : Int32) (tl1f_villages : Int32) (tl1f_dams : Int32) (tl1f_echoes : Int32) (tl1f_deep : Int32) (tl1f_slide : Int32) (tl1a_heights : Nat → Int32) (tl1a_ladders : Nat → Int32) (tl1a_minutes : Nat → Int32) (tl1a_echoFrom : Nat → Int32) (tl1a_echoTo : Nat → Int32) (tl1a_homes : Nat → Int32) (tl1a_talls : Nat → Int32) (tl1a_known : Nat → Int32) (tv0f_deeds : Int32) (tv0a_kinds : Nat → Int32) (tv0a_firsts : Nat → Int32) (tv0a_seconds : Nat → Int32) (tv1f_deeds : Int32) (tv1a_kinds : Nat → Int32) (tv1a_firsts : Nat → Int32) (tv1a_seconds : Nat → Int32) (ts0f_facts : Int32) (ts0a_heard : Nat → Int32) (ts0a_huts : Nat → Int32) (ts0a_minutes : Nat → Int32) (ts1f_facts : Int32) (ts1a_heard : Nat → Int32) (ts1a_huts : Nat → Int32) (ts1a_minutes : Nat → Int32) (tc0f_voices : Int32) (tc0f_step : Int32) (tc0a_parts : Nat → Int32) (tc0a_heights : Nat → Int32) (tc1f_voices : Int32) (tc1f_step : Int32) (tc1a_parts : Nat → Int32) (tc1a_heights : Nat → Int32), (∀ j, iv 0 2 (ta_counts j)) → (iv 0 9 tl0f_huts) → (iv 0 6 tl0f_singers) → (iv 0 511 tl0f_villages) → (iv 0 511 tl0f_dams) → (iv 0 4 tl0f_echoes) → (iv 1 9 tl0f_deep) → (iv 0 10 tl0f_slide) → (∀ j, iv 0 99 (tl0a_heights j)) → (∀ j, iv 0 9 (tl0a_ladders j)) → (∀ j, iv 0 9 (tl0a_minutes j)) → (∀ j, iv 0 8 (tl0a_echoFrom j)) → (∀ j, iv 0 8 (tl0a_echoTo j)) → (∀ j, iv 0 8 (tl0a_homes j)) → (∀ j, iv 0 9 (tl0a_talls j)) → (∀ j, iv 0 31 (tl0a_known j)) → (iv 0 9 tl1f_huts) → (iv 0 6 tl1f_singers) → (iv 0 511 tl1f_villages) → (iv 0 511 tl1f_dams) → (iv 0 4 tl1f_echoes) → (iv 1 9 tl1f_deep) → (iv 0 10 tl1f_slide) → (∀ j, iv 0 99 (tl1a_heights j)) → (∀ j, iv 0 9 (tl1a_ladders j)) → (∀ j, iv 0 9 (tl1a_minutes j)) → (∀ j, iv 0 8 (tl1a_echoFrom j)) → (∀ j, iv 0 8 (tl1a_echoTo j)) → (∀ j, iv 0 8 (tl1a_homes j)) → (∀ j, iv 0 9 (tl1a_talls j)) → (∀ j, iv 0 31 (tl1a_known j)) → (iv 0 40 tv0f_deeds) → (∀ j, iv 0 5 (tv0a_kinds j)) → (∀ j, iv 0 5 (tv0a_firsts j)) → (∀ j, iv (-1) 8 (tv0a_seconds j)) → (iv 0 40 tv1f_deeds) → (∀ j, iv 0 5 (tv1a_kinds j)) → (∀ j, iv 0 5 (tv1a_firsts j)) → (∀ j, iv (-1) 8 (tv1a_seconds j)) → (iv 0 10 ts0f_facts) → (∀ j, iv 0 1 (ts0a_heard j)) → (∀ j, iv 0 8 (ts0a_huts j)) → (∀ j, iv 0 60 (ts0a_minutes j)) → (iv 0 10 ts1f_facts) → (∀ j, iv 0 1 (ts1a_heard j)) → (∀ j, iv 0 8 (ts1a_huts j)) → (∀ j, iv 0 60 (ts1a_minutes j)) → (iv 0 9 tc0f_voices) → (iv 0 9 tc0f_step) → (∀ j, iv 0 3 (tc0a_parts j)) → (∀ j, iv 0 9 (tc0a_heights j)) → (iv 0 9 tc1f_voices) → (iv 0 9 tc1f_step) → (∀ j, iv 0 3 (tc1a_parts j)) → (∀ j, iv 0 9 (tc1a_heights j)) → post ta_counts tl0f_huts tl0f_singers tl0f_villages tl0f_dams tl0f_echoes tl0f_deep tl0f_slide tl0a_heights tl0a_ladders tl0a_minutes tl0a_echoFrom tl0a_echoTo tl0a_homes tl0a_talls tl0a_known tl1f_huts tl1f_singers tl1f_villages tl1f_dams tl1f_echoes tl1f_deep tl1f_slide tl1a_heights tl1a_ladders tl1a_minutes tl1a_echoFrom tl1a_echoTo tl1a_homes tl1a_talls tl1a_known tv0f_deeds tv0a_kinds tv0a_firsts tv0a_seconds tv1f_deeds tv1a_kinds tv1a_firsts tv1a_seconds ts0f_facts ts0a_heard ts0a_huts ts0a_minutes ts1f_facts ts1a_heard ts1a_huts ts1a_minutes tc0f_voices tc0f_step tc0a_parts tc0a_heights tc1f_voices tc1f_step tc1a_parts tc1a_heights) : q_wx_X10_keep_0 ta_counts tl0f_huts tl0f_singers tl0f_villages tl0f_dams tl0f_echoes tl0f_deep tl0f_slide tl0a_heights tl0a_ladders tl0a_minutes tl0a_echoFrom tl0a_echoTo tl0a_homes tl0a_talls tl0a_known tl1f_huts tl1f_singers tl1f_villages tl1f_dams tl1f_echoes tl1f_deep tl1f_slide tl1a_heights tl1a_ladders tl1a_minutes tl1a_echoFrom tl1a_echoTo tl1a_homes tl1a_talls tl1a_known tv0f_deeds tv0a_kinds tv0a_firsts tv0a_seconds tv1f_deeds tv1a_kinds tv1a_firsts tv1a_seconds ts0f_facts ts0a_heard ts0a_huts ts0a_minutes ts1f_facts ts1a_heard ts1a_huts ts1a_minutes tc0f_voices tc0f_step tc0a_parts tc0a_heights tc1f_voices tc1f_step tc1a_parts tc1a_heights rlf_huts rlf_singers rlf_villages rlf_dams rlf_echoes rlf_deep rlf_slide rla_heights rla_ladders rla_minutes rla_echoFrom rla_echoTo rla_homes rla_talls rla_known rvf_deeds rva_kinds rva_firsts rva_seconds rsf_facts rsa_heard rsa_huts rsa_minutes rcf_voices rcf_step rca_parts rca_heights x1 x2 post := by
  refine ⟨fun c1 => ?_, fun c1 => ?_⟩
  · skip
    refine ⟨fun c2 => ?_, fun c2 => ?_⟩
    · skip
      refine ⟨fun c3 => ?_, fun c3 => ?_⟩
      · skip
        refine ⟨iv_in hx2 (by decide), fun hc => ?_, fun hc => ?_⟩
        · skip
          refine ⟨iv_nn k_rcf_voices (by decide), ?_⟩
          refine ⟨iv_len (iv_lit (l := 0) (h := 0) (by decide)) k_rcf_voices (by decide), ?_⟩
          refine ⟨iv_len (iv_lit (l := 0) (h := 0) (by decide)) k_rcf_voices (by decide), ?_⟩
          intro a4 ea4
          have k_a4 := iv_cpy ea4 k_rca_parts k_tc0a_parts
          refine ⟨iv_nn k_rcf_voices (by decide), ?_⟩
          refine ⟨iv_len (iv_lit (l := 0) (h := 0) (by decide)) k_rcf_voices (by decide), ?_⟩
          refine ⟨iv_len (iv_lit (l := 0) (h := 0) (by decide)) k_rcf_voices (by decide), ?_⟩
          intro a5 ea5
          have k_a5 := iv_cpy ea5 k_rca_heights k_tc0a_heights
          exact s_wx_X10_keep_99 k_ta_counts k_tl0f_huts k_tl0f_singers k_tl0f_villages k_tl0f_dams k_tl0f_echoes k_tl0f_deep k_tl0f_slide k_tl0a_heights k_tl0a_ladders k_tl0a_minutes k_tl0a_echoFrom k_tl0a_echoTo k_tl0a_homes k_tl0a_talls k_tl0a_known k_tl1f_huts k_tl1f_singers k_tl1f_villages k_tl1f_dams k_tl1f_echoes k_tl1f_deep k_tl1f_slide k_tl1a_heights k_tl1a_ladders k_tl1a_minutes k_tl1a_echoFrom k_tl1a_echoTo k_tl1a_homes k_tl1a_talls k_tl1a_known k_tv0f_deeds k_tv0a_kinds k_tv0a_firsts k_tv0a_seconds k_tv1f_deeds k_tv1a_kinds k_tv1a_firsts k_tv1a_seconds k_ts0f_facts k_ts0a_heard k_ts0a_huts k_ts0a_minutes k_ts1f_facts k_ts1a_heard k_ts1a_huts k_ts1a_minutes k_rcf_voices k_rcf_step k_a4 k_a5 k_tc1f_voices k_tc1f_step k_tc1a_parts k_tc1a_heights k_rlf_huts k_rlf_singers k_rlf_villages k_rlf_dams k_rlf_echoes k_rlf_deep k_rlf_slide k_rla_heights k_rla_ladders k_rla_minutes k_rla_echoFrom k_rla_echoTo k_rla_homes k_rla_talls k_rla_known k_rvf_deeds k_rva_kinds k_rva_firsts k_rva_seconds k_rsf_facts k_rsa_heard k_rsa_huts k_rsa_minutes k_rcf_voices k_rcf_step k_rca_parts k_rca_heights (iv_w (iv_ne (l := 3) (h := 3) c3 (iv_ne (l := 2) (h := 3) c2 (iv_ne (l := 1) (h := 3) c1 hx1 (iv_lit (l := 0) (h := 0) (by decide)) (by decide)) (iv_lit (l := 1) (h := 1) (by decide)) (by decide)) (iv_lit (l := 2) (h := 2) (by decide)) (by decide)) (by decide)) (iv_w (iv_lit (l := 0) (h := 0) (by decide)) (by decide)) hpost
        · skip
          refine ⟨iv_nn k_rcf_voices (by decide), ?_⟩
          refine ⟨iv_len (iv_lit (l := 0) (h := 0) (by decide)) k_rcf_voices (by decide), ?_⟩
          refine ⟨iv_len (iv_lit (l := 0) (h := 0) (by decide)) k_rcf_voices (by decide), ?_⟩
          intro a6 ea6
          have k_a6 := iv_cpy ea6 k_rca_parts k_tc1a_parts
          refine ⟨iv_nn k_rcf_voices (by decide), ?_⟩
          refine ⟨iv_len (iv_lit (l := 0) (h := 0) (by decide)) k_rcf_voices (by decide), ?_⟩
          refine ⟨iv_len (iv_lit (l := 0) (h := 0) (by decide)) k_rcf_voices (by decide), ?_⟩
          intro a7 ea7
          have k_a7 := iv_cpy ea7 k_rca_heights k_tc1a_heights
          exact s_wx_X10_keep_99 k_ta_counts k_tl0f_huts k_tl0f_singers k_tl0f_villages k_tl0f_dams k_tl0f_echoes k_tl0f_deep k_tl0f_slide k_tl0a_heights k_tl0a_ladders k_tl0a_minutes k_tl0a_echoFrom k_tl0a_echoTo k_tl0a_homes k_tl0a_talls k_tl0a_known k_tl1f_huts k_tl1f_singers k_tl1f_villages k_tl1f_dams k_tl1f_echoes k_tl1f_deep k_tl1f_slide k_tl1a_heights k_tl1a_ladders k_tl1a_minutes k_tl1a_echoFrom k_tl1a_echoTo k_tl1a_homes k_tl1a_talls k_tl1a_known k_tv0f_deeds k_tv0a_kinds k_tv0a_firsts k_tv0a_seconds k_tv1f_deeds k_tv1a_kinds k_tv1a_firsts k_tv1a_seconds k_ts0f_facts k_ts0a_heard k_ts0a_huts k_ts0a_minutes k_ts1f_facts k_ts1a_heard k_ts1a_huts k_ts1a_minutes k_tc0f_voices k_tc0f_step k_tc0a_parts k_tc0a_heights k_rcf_voices k_rcf_step k_a6 k_a7 k_rlf_huts k_rlf_singers k_rlf_villages k_rlf_dams k_rlf_echoes k_rlf_deep k_rlf_slide k_rla_heights k_rla_ladders k_rla_minutes k_rla_echoFrom k_rla_echoTo k_rla_homes k_rla_talls k_rla_known k_rvf_deeds k_rva_kinds k_rva_firsts k_rva_seconds k_rsf_facts k_rsa_heard k_rsa_huts k_rsa_minutes k_rcf_voices k_rcf_step k_rca_parts k_rca_heights (iv_w (iv_ne (l := 3) (h := 3) c3 (iv_ne (l := 2) (h := 3) c2 (iv_ne (l := 1) (h := 3) c1 hx1 (iv_lit (l := 0) (h := 0) (by decide)) (by decide)) (iv_lit (l := 1) (h := 1) (by decide)) (by decide)) (iv_lit (l := 2) (h := 2) (by decide)) (by decide)) (by decide)) (iv_w (iv_lit (l := 1) (h := 1) (by decide)) (by decide)) hpost
      · skip
        refine ⟨iv_in hx2 (by decide), fun hc => ?_, fun hc => ?_⟩
        · skip
          refine s_wss_X6_copyFrom_4_0 k_ts0f_facts k_ts0a_heard k_ts0a_huts k_ts0a_minutes k_rsf_facts k_rsa_heard k_rsa_huts k_rsa_minutes (fun o8 o9 o10 o11 k_o8 k_o9 k_o10 k_o11 => ?_)
          exact s_wx_X10_keep_99 k_ta_counts k_tl0f_huts k_tl0f_singers k_tl0f_villages k_tl0f_dams k_tl0f_echoes k_tl0f_deep k_tl0f_slide k_tl0a_heights k_tl0a_ladders k_tl0a_minutes k_tl0a_echoFrom k_tl0a_echoTo k_tl0a_homes k_tl0a_talls k_tl0a_known k_tl1f_huts k_tl1f_singers k_tl1f_villages k_tl1f_dams k_tl1f_echoes k_tl1f_deep k_tl1f_slide k_tl1a_heights k_tl1a_ladders k_tl1a_minutes k_tl1a_echoFrom k_tl1a_echoTo k_tl1a_homes k_tl1a_talls k_tl1a_known k_tv0f_deeds k_tv0a_kinds k_tv0a_firsts k_tv0a_seconds k_tv1f_deeds k_tv1a_kinds k_tv1a_firsts k_tv1a_seconds k_o8 k_o9 k_o10 k_o11 k_ts1f_facts k_ts1a_heard k_ts1a_huts k_ts1a_minutes k_tc0f_voices k_tc0f_step k_tc0a_parts k_tc0a_heights k_tc1f_voices k_tc1f_step k_tc1a_parts k_tc1a_heights k_rlf_huts k_rlf_singers k_rlf_villages k_rlf_dams k_rlf_echoes k_rlf_deep k_rlf_slide k_rla_heights k_rla_ladders k_rla_minutes k_rla_echoFrom k_rla_echoTo k_rla_homes k_rla_talls k_rla_known k_rvf_deeds k_rva_kinds k_rva_firsts k_rva_seconds k_rsf_facts k_rsa_heard k_rsa_huts k_rsa_minutes k_rcf_voices k_rcf_step k_rca_parts k_rca_heights (iv_w (iv_eqa (l := 2) (h := 2) c3 (iv_ne (l := 2) (h := 3) c2 (iv_ne (l := 1) (h := 3) c1 hx1 (iv_lit (l := 0) (h := 0) (by decide)) (by decide)) (iv_lit (l := 1) (h := 1) (by decide)) (by decide)) (iv_lit (l := 2) (h := 2) (by decide)) (by decide)) (by decide)) (iv_w (iv_lit (l := 0) (h := 0) (by decide)) (by decide)) hpost
        · skip
          refine s_wss_X6_copyFrom_4_0 k_ts1f_facts k_ts1a_heard k_ts1a_huts k_ts1a_minutes k_rsf_facts k_rsa_heard k_rsa_huts k_rsa_minutes (fun o12 o13 o14 o15 k_o12 k_o13 k_o14 k_o15 => ?_)
          exact s_wx_X10_keep_99 k_ta_counts k_tl0f_huts k_tl0f_singers k_tl0f_villages k_tl0f_dams k_tl0f_echoes k_tl0f_deep k_tl0f_slide k_tl0a_heights k_tl0a_ladders k_tl0a_minutes k_tl0a_echoFrom k_tl0a_echoTo k_tl0a_homes k_tl0a_talls k_tl0a_known k_tl1f_huts k_tl1f_singers k_tl1f_villages k_tl1f_dams k_tl1f_echoes k_tl1f_deep k_tl1f_slide k_tl1a_heights k_tl1a_ladders k_tl1a_minutes k_tl1a_echoFrom k_tl1a_echoTo k_tl1a_homes k_tl1a_talls k_tl1a_known k_tv0f_deeds k_tv0a_kinds k_tv0a_firsts k_tv0a_seconds k_tv1f_deeds k_tv1a_kinds k_tv1a_firsts k_tv1a_seconds k_ts0f_facts k_ts0a_heard k_ts0a_huts k_ts0a_minutes k_o12 k_o13 k_o14 k_o15 k_tc0f_voices k_tc0f_step k_tc0a_parts k_tc0a_heights k_tc1f_voices k_tc1f_step k_tc1a_parts k_tc1a_heights k_rlf_huts k_rlf_singers k_rlf_villages k_rlf_dams k_rlf_echoes k_rlf_deep k_rlf_slide k_rla_heights k_rla_ladders k_rla_minutes k_rla_echoFrom k_rla_echoTo k_rla_homes k_rla_talls k_rla_known k_rvf_deeds k_rva_kinds k_rva_firsts k_rva_seconds k_rsf_facts k_rsa_heard k_rsa_huts k_rsa_minutes k_rcf_voices k_rcf_step k_rca_parts k_rca_heights (iv_w (iv_eqa (l := 2) (h := 2) c3 (iv_ne (l := 2) (h := 3) c2 (iv_ne (l := 1) (h := 3) c1 hx1 (iv_lit (l := 0) (h := 0) (by decide)) (by decide)) (iv_lit (l := 1) (h := 1) (by decide)) (by decide)) (iv_lit (l := 2) (h := 2) (by decide)) (by decide)) (by decide)) (iv_w (iv_lit (l := 1) (h := 1) (by decide)) (by decide)) hpost
    · skip
      refine ⟨iv_in hx2 (by decide), fun hc => ?_, fun hc => ?_⟩
      · skip
        refine s_wvv_X1_copyFrom_4_0 k_tv0f_deeds k_tv0a_kinds k_tv0a_firsts k_tv0a_seconds k_rvf_deeds k_rva_kinds k_rva_firsts k_rva_seconds (fun o16 o17 o18 o19 k_o16 k_o17 k_o18 k_o19 => ?_)
        exact s_wx_X10_keep_99 k_ta_counts k_tl0f_huts k_tl0f_singers k_tl0f_villages k_tl0f_dams k_tl0f_echoes k_tl0f_deep k_tl0f_slide k_tl0a_heights k_tl0a_ladders k_tl0a_minutes k_tl0a_echoFrom k_tl0a_echoTo k_tl0a_homes k_tl0a_talls k_tl0a_known k_tl1f_huts k_tl1f_singers k_tl1f_villages k_tl1f_dams k_tl1f_echoes k_tl1f_deep k_tl1f_slide k_tl1a_heights k_tl1a_ladders k_tl1a_minutes k_tl1a_echoFrom k_tl1a_echoTo k_tl1a_homes k_tl1a_talls k_tl1a_known k_o16 k_o17 k_o18 k_o19 k_tv1f_deeds k_tv1a_kinds k_tv1a_firsts k_tv1a_seconds k_ts0f_facts k_ts0a_heard k_ts0a_huts k_ts0a_minutes k_ts1f_facts k_ts1a_heard k_ts1a_huts k_ts1a_minutes k_tc0f_voices k_tc0f_step k_tc0a_parts k_tc0a_heights k_tc1f_voices k_tc1f_step k_tc1a_parts k_tc1a_heights k_rlf_huts k_rlf_singers k_rlf_villages k_rlf_dams k_rlf_echoes k_rlf_deep k_rlf_slide k_rla_heights k_rla_ladders k_rla_minutes k_rla_echoFrom k_rla_echoTo k_rla_homes k_rla_talls k_rla_known k_rvf_deeds k_rva_kinds k_rva_firsts k_rva_seconds k_rsf_facts k_rsa_heard k_rsa_huts k_rsa_minutes k_rcf_voices k_rcf_step k_rca_parts k_rca_heights (iv_w (iv_eqa (l := 1) (h := 1) c2 (iv_ne (l := 1) (h := 3) c1 hx1 (iv_lit (l := 0) (h := 0) (by decide)) (by decide)) (iv_lit (l := 1) (h := 1) (by decide)) (by decide)) (by decide)) (iv_w (iv_lit (l := 0) (h := 0) (by decide)) (by decide)) hpost
      · skip
        refine s_wvv_X1_copyFrom_4_0 k_tv1f_deeds k_tv1a_kinds k_tv1a_firsts k_tv1a_seconds k_rvf_deeds k_rva_kinds k_rva_firsts k_rva_seconds (fun o20 o21 o22 o23 k_o20 k_o21 k_o22 k_o23 => ?_)
        exact s_wx_X10_keep_99 k_ta_counts k_tl0f_huts k_tl0f_singers k_tl0f_villages k_tl0f_dams k_tl0f_echoes k_tl0f_deep k_tl0f_slide k_tl0a_heights k_tl0a_ladders k_tl0a_minutes k_tl0a_echoFrom k_tl0a_echoTo k_tl0a_homes k_tl0a_talls k_tl0a_known k_tl1f_huts k_tl1f_singers k_tl1f_villages k_tl1f_dams k_tl1f_echoes k_tl1f_deep k_tl1f_slide k_tl1a_heights k_tl1a_ladders k_tl1a_minutes k_tl1a_echoFrom k_tl1a_echoTo k_tl1a_homes k_tl1a_talls k_tl1a_known k_tv0f_deeds k_tv0a_kinds k_tv0a_firsts k_tv0a_seconds k_o20 k_o21 k_o22 k_o23 k_ts0f_facts k_ts0a_heard k_ts0a_huts k_ts0a_minutes k_ts1f_facts k_ts1a_heard k_ts1a_huts k_ts1a_minutes k_tc0f_voices k_tc0f_step k_tc0a_parts k_tc0a_heights k_tc1f_voices k_tc1f_step k_tc1a_parts k_tc1a_heights k_rlf_huts k_rlf_singers k_rlf_villages k_rlf_dams k_rlf_echoes k_rlf_deep k_rlf_slide k_rla_heights k_rla_ladders k_rla_minutes k_rla_echoFrom k_rla_echoTo k_rla_homes k_rla_talls k_rla_known k_rvf_deeds k_rva_kinds k_rva_firsts k_rva_seconds k_rsf_facts k_rsa_heard k_rsa_huts k_rsa_minutes k_rcf_voices k_rcf_step k_rca_parts k_rca_heights (iv_w (iv_eqa (l := 1) (h := 1) c2 (iv_ne (l := 1) (h := 3) c1 hx1 (iv_lit (l := 0) (h := 0) (by decide)) (by decide)) (iv_lit (l := 1) (h := 1) (by decide)) (by decide)) (by decide)) (iv_w (iv_lit (l := 1) (h := 1) (by decide)) (by decide)) hpost
  · skip
    refine ⟨iv_in hx2 (by decide), fun hc => ?_, fun hc => ?_⟩
    · skip
      refine s_wll_X2_copyFrom_9_0 k_tl0f_huts k_tl0f_singers k_tl0f_villages k_tl0f_dams k_tl0f_echoes k_tl0f_deep k_tl0f_slide k_tl0a_heights k_tl0a_ladders k_tl0a_minutes k_tl0a_echoFrom k_tl0a_echoTo k_tl0a_homes k_tl0a_talls k_tl0a_known k_rlf_huts k_rlf_singers k_rlf_villages k_rlf_dams k_rlf_echoes k_rlf_deep k_rlf_slide k_rla_heights k_rla_ladders k_rla_minutes k_rla_echoFrom k_rla_echoTo k_rla_homes k_rla_talls k_rla_known (fun o24 o25 o26 o27 o28 o29 o30 o31 o32 o33 o34 o35 o36 o37 o38 k_o24 k_o25 k_o26 k_o27 k_o28 k_o29 k_o30 k_o31 k_o32 k_o33 k_o34 k_o35 k_o36 k_o37 k_o38 => ?_)
      exact s_wx_X10_keep_99 k_ta_counts k_o24 k_o25 k_o26 k_o27 k_o28 k_o29 k_o30 k_o31 k_o32 k_o33 k_o34 k_o35 k_o36 k_o37 k_o38 k_tl1f_huts k_tl1f_singers k_tl1f_villages k_tl1f_dams k_tl1f_echoes k_tl1f_deep k_tl1f_slide k_tl1a_heights k_tl1a_ladders k_tl1a_minutes k_tl1a_echoFrom k_tl1a_echoTo k_tl1a_homes k_tl1a_talls k_tl1a_known k_tv0f_deeds k_tv0a_kinds k_tv0a_firsts k_tv0a_seconds k_tv1f_deeds k_tv1a_kinds k_tv1a_firsts k_tv1a_seconds k_ts0f_facts k_ts0a_heard k_ts0a_huts k_ts0a_minutes k_ts1f_facts k_ts1a_heard k_ts1a_huts k_ts1a_minutes k_tc0f_voices k_tc0f_step k_tc0a_parts k_tc0a_heights k_tc1f_voices k_tc1f_step k_tc1a_parts k_tc1a_heights k_rlf_huts k_rlf_singers k_rlf_villages k_rlf_dams k_rlf_echoes k_rlf_deep k_rlf_slide k_rla_heights k_rla_ladders k_rla_minutes k_rla_echoFrom k_rla_echoTo k_rla_homes k_rla_talls k_rla_known k_rvf_deeds k_rva_kinds k_rva_firsts k_rva_seconds k_rsf_facts k_rsa_heard k_rsa_huts k_rsa_minutes k_rcf_voices k_rcf_step k_rca_parts k_rca_heights (iv_w (iv_eqa (l := 0) (h := 0) c1 hx1 (iv_lit (l := 0) (h := 0) (by decide)) (by decide)) (by decide)) (iv_w (iv_lit (l := 0) (h := 0) (by decide)) (by decide)) hpost
    · skip
      refine s_wll_X2_copyFrom_9_0 k_tl1f_huts k_tl1f_singers k_tl1f_villages k_tl1f_dams k_tl1f_echoes k_tl1f_deep k_tl1f_slide k_tl1a_heights k_tl1a_ladders k_tl1a_minutes k_tl1a_echoFrom k_tl1a_echoTo k_tl1a_homes k_tl1a_talls k_tl1a_known k_rlf_huts k_rlf_singers k_rlf_villages k_rlf_dams k_rlf_echoes k_rlf_deep k_rlf_slide k_rla_heights k_rla_ladders k_rla_minutes k_rla_echoFrom k_rla_echoTo k_rla_homes k_rla_talls k_rla_known (fun o39 o40 o41 o42 o43 o44 o45 o46 o47 o48 o49 o50 o51 o52 o53 k_o39 k_o40 k_o41 k_o42 k_o43 k_o44 k_o45 k_o46 k_o47 k_o48 k_o49 k_o50 k_o51 k_o52 k_o53 => ?_)
      exact s_wx_X10_keep_99 k_ta_counts k_tl0f_huts k_tl0f_singers k_tl0f_villages k_tl0f_dams k_tl0f_echoes k_tl0f_deep k_tl0f_slide k_tl0a_heights k_tl0a_ladders k_tl0a_minutes k_tl0a_echoFrom k_tl0a_echoTo k_tl0a_homes k_tl0a_talls k_tl0a_known k_o39 k_o40 k_o41 k_o42 k_o43 k_o44 k_o45 k_o46 k_o47 k_o48 k_o49 k_o50 k_o51 k_o52 k_o53 k_tv0f_deeds k_tv0a_kinds k_tv0a_firsts k_tv0a_seconds k_tv1f_deeds k_tv1a_kinds k_tv1a_firsts k_tv1a_seconds k_ts0f_facts k_ts0a_heard k_ts0a_huts k_ts0a_minutes k_ts1f_facts k_ts1a_heard k_ts1a_huts k_ts1a_minutes k_tc0f_voices k_tc0f_step k_tc0a_parts k_tc0a_heights k_tc1f_voices k_tc1f_step k_tc1a_parts k_tc1a_heights k_rlf_huts k_rlf_singers k_rlf_villages k_rlf_dams k_rlf_echoes k_rlf_deep k_rlf_slide k_rla_heights k_rla_ladders k_rla_minutes k_rla_echoFrom k_rla_echoTo k_rla_homes k_rla_talls k_rla_known k_rvf_deeds k_rva_kinds k_rva_firsts k_rva_seconds k_rsf_facts k_rsa_heard k_rsa_huts k_rsa_minutes k_rcf_voices k_rcf_step k_rca_parts k_rca_heights (iv_w (iv_eqa (l := 0) (h := 0) c1 hx1 (iv_lit (l := 0) (h := 0) (by decide)) (by decide)) (by decide)) (iv_w (iv_lit (l := 1) (h := 1) (by decide)) (by decide)) hpost
-- wx_X10_text
set_option maxRecDepth 20000 in
theorem s_wx_X10_text_0 {ta_tape : Nat → Int32} {tf_length : Int32} {tf_fault : Int32} {tf_place : Int32} {ta_counts : Nat → Int32} {tl0f_huts : Int32} {tl0f_singers : Int32} {tl0f_villages : Int32} {tl0f_dams : Int32} {tl0f_echoes : Int32} {tl0f_deep : Int32} {tl0f_slide : Int32} {tl0a_heights : Nat → Int32} {tl0a_ladders : Nat → Int32} {tl0a_minutes : Nat → Int32} {tl0a_echoFrom : Nat → Int32} {tl0a_echoTo : Nat → Int32} {tl0a_homes : Nat → Int32} {tl0a_talls : Nat → Int32} {tl0a_known : Nat → Int32} {tl1f_huts : Int32} {tl1f_singers : Int32} {tl1f_villages : Int32} {tl1f_dams : Int32} {tl1f_echoes : Int32} {tl1f_deep : Int32} {tl1f_slide : Int32} {tl1a_heights : Nat → Int32} {tl1a_ladders : Nat → Int32} {tl1a_minutes : Nat → Int32} {tl1a_echoFrom : Nat → Int32} {tl1a_echoTo : Nat → Int32} {tl1a_homes : Nat → Int32} {tl1a_talls : Nat → Int32} {tl1a_known : Nat → Int32} {tv0f_deeds : Int32} {tv0a_kinds : Nat → Int32} {tv0a_firsts : Nat → Int32} {tv0a_seconds : Nat → Int32} {tv1f_deeds : Int32} {tv1a_kinds : Nat → Int32} {tv1a_firsts : Nat → Int32} {tv1a_seconds : Nat → Int32} {ts0f_facts : Int32} {ts0a_heard : Nat → Int32} {ts0a_huts : Nat → Int32} {ts0a_minutes : Nat → Int32} {ts1f_facts : Int32} {ts1a_heard : Nat → Int32} {ts1a_huts : Nat → Int32} {ts1a_minutes : Nat → Int32} {tc0f_voices : Int32} {tc0f_step : Int32} {tc0a_parts : Nat → Int32} {tc0a_heights : Nat → Int32} {tc1f_voices : Int32} {tc1f_step : Int32} {tc1a_parts : Nat → Int32} {tc1a_heights : Nat → Int32} {rlf_huts : Int32} {rlf_singers : Int32} {rlf_villages : Int32} {rlf_dams : Int32} {rlf_echoes : Int32} {rlf_deep : Int32} {rlf_slide : Int32} {rla_heights : Nat → Int32} {rla_ladders : Nat → Int32} {rla_minutes : Nat → Int32} {rla_echoFrom : Nat → Int32} {rla_echoTo : Nat → Int32} {rla_homes : Nat → Int32} {rla_talls : Nat → Int32} {rla_known : Nat → Int32} {rvf_deeds : Int32} {rva_kinds : Nat → Int32} {rva_firsts : Nat → Int32} {rva_seconds : Nat → Int32} {rsf_facts : Int32} {rsa_heard : Nat → Int32} {rsa_huts : Nat → Int32} {rsa_minutes : Nat → Int32} {rcf_voices : Int32} {rcf_step : Int32} {rca_parts : Nat → Int32} {rca_heights : Nat → Int32} {rf_fault : Int32} {rf_faultPlace : Int32} {ra_numbers : Nat → Int32} {ra_tape : Nat → Int32} {rf_length : Int32} {rf_behind : Int32} {rf_kind : Int32} {rf_first : Int32} {rf_value : Int32} {rf_hutsToldOf : Int32} {rf_singersToldOf : Int32} {x1 : Int32} {x2 : Int32} {post : Int32 → (Int32) → (Int32) → (Int32) → (Nat → Int32) → (Int32) → (Int32) → (Int32) → (Int32) → (Int32) → (Int32) → (Int32) → (Nat → Int32) → (Nat → Int32) → (Nat → Int32) → (Nat → Int32) → (Nat → Int32) → (Nat → Int32) → (Nat → Int32) → (Nat → Int32) → (Int32) → (Int32) → (Int32) → (Int32) → (Int32) → (Int32) → (Int32) → (Nat → Int32) → (Nat → Int32) → (Nat → Int32) → (Nat → Int32) → (Nat → Int32) → (Nat → Int32) → (Nat → Int32) → (Nat → Int32) → (Int32) → (Nat → Int32) → (Nat → Int32) → (Nat → Int32) → (Int32) → (Nat → Int32) → (Nat → Int32) → (Nat → Int32) → (Int32) → (Nat → Int32) → (Nat → Int32) → (Nat → Int32) → (Int32) → (Nat → Int32) → (Nat → Int32) → (Nat → Int32) → (Int32) → (Int32) → (Nat → Int32) → (Nat → Int32) → (Int32) → (Int32) → (Nat → Int32) → (Nat → Int32) → (Int32) → (Int32) → (Int32) → (Int32) → (Int32) → (Int32) → (Int32) → (Nat → Int32) → (Nat → Int32) → (Nat → Int32) → (Nat → Int32) → (Nat → Int32) → (Nat → Int32) → (Nat → Int32) → (Nat → Int32) → (Int32) → (Nat → Int32) → (Nat → Int32) → (Nat → Int32) → (Int32) → (Nat → Int32) → (Nat → Int32) → (Nat → Int32) → (Int32) → (Int32) → (Nat → Int32) → (Nat → Int32) → (Int32) → (Int32) → (Nat → Int32) → (Nat → Int32) → (Int32) → (Int32) → (Int32) → (Int32) → (Int32) → (Int32) → (Int32) → Prop} (k_ta_tape : ∀ j, iv (-128) 127 (ta_tape j)) (k_tf_length : iv 0 600 tf_length) (k_tf_fault : iv 0 4 tf_fault) (k_tf_place : iv (-1) 600 tf_place) (k_ta_counts : ∀ j, iv 0 2 (ta_counts j)) (k_tl0f_huts : iv 0 9 tl0f_huts) (k_tl0f_singers : iv 0 6 tl0f_singers) (k_tl0f_villages : iv 0 511 tl0f_villages) (k_tl0f_dams : iv 0 511 tl0f_dams) (k_tl0f_echoes : iv 0 4 tl0f_echoes) (k_tl0f_deep : iv 1 9 tl0f_deep) (k_tl0f_slide : iv 0 10 tl0f_slide) (k_tl0a_heights : ∀ j, iv 0 99 (tl0a_heights j)) (k_tl0a_ladders : ∀ j, iv 0 9 (tl0a_ladders j)) (k_tl0a_minutes : ∀ j, iv 0 9 (tl0a_minutes j)) (k_tl0a_echoFrom : ∀ j, iv 0 8 (tl0a_echoFrom j)) (k_tl0a_echoTo : ∀ j, iv 0 8 (tl0a_echoTo j)) (k_tl0a_homes : ∀ j, iv 0 8 (tl0a_homes j)) (k_tl0a_talls : ∀ j, iv 0 9 (tl0a_talls j)) (k_tl0a_known : ∀ j, iv 0 31 (tl0a_known j)) (k_tl1f_huts : iv 0 9 tl1f_huts) (k_tl1f_singers : iv 0 6 tl1f_singers) (k_tl1f_villages : iv 0 511 tl1f_villages) (k_tl1f_dams : iv 0 511 tl1f_dams) (k_tl1f_echoes : iv 0 4 tl1f_echoes) (k_tl1f_deep : iv 1 9 tl1f_deep) (k_tl1f_slide : iv 0 10 tl1f_slide) (k_tl1a_heights : ∀ j, iv 0 99 (tl1a_heights j)) (k_tl1a_ladders : ∀ j, iv 0 9 (tl1a_ladders j)) (k_tl1a_minutes : ∀ j, iv 0 9 (tl1a_minutes j)) (k_tl1a_echoFrom : ∀ j, iv 0 8 (tl1a_echoFrom j)) (k_tl1a_echoTo : ∀ j, iv 0 8 (tl1a_echoTo j)) (k_tl1a_homes : ∀ j, iv 0 8 (tl1a_homes j)) (k_tl1a_talls : ∀ j, iv 0 9 (tl1a_talls j)) (k_tl1a_known : ∀ j, iv 0 31 (tl1a_known j)) (k_tv0f_deeds : iv 0 40 tv0f_deeds) (k_tv0a_kinds : ∀ j, iv 0 5 (tv0a_kinds j)) (k_tv0a_firsts : ∀ j, iv 0 5 (tv0a_firsts j)) (k_tv0a_seconds : ∀ j, iv (-1) 8 (tv0a_seconds j)) (k_tv1f_deeds : iv 0 40 tv1f_deeds) (k_tv1a_kinds : ∀ j, iv 0 5 (tv1a_kinds j)) (k_tv1a_firsts : ∀ j, iv 0 5 (tv1a_firsts j)) (k_tv1a_seconds : ∀ j, iv (-1) 8 (tv1a_seconds j)) (k_ts0f_facts : iv 0 10 ts0f_facts) (k_ts0a_heard : ∀ j, iv 0 1 (ts0a_heard j)) (k_ts0a_huts : ∀ j, iv 0 8 (ts0a_huts j)) (k_ts0a_minutes : ∀ j, iv 0 60 (ts0a_minutes j)) (k_ts1f_facts : iv 0 10 ts1f_facts) (k_ts1a_heard : ∀ j, iv 0 1 (ts1a_heard j)) (k_ts1a_huts : ∀ j, iv 0 8 (ts1a_huts j)) (k_ts1a_minutes : ∀ j, iv 0 60 (ts1a_minutes j)) (k_tc0f_voices : iv 0 9 tc0f_voices) (k_tc0f_step : iv 0 9 tc0f_step) (k_tc0a_parts : ∀ j, iv 0 3 (tc0a_parts j)) (k_tc0a_heights : ∀ j, iv 0 9 (tc0a_heights j)) (k_tc1f_voices : iv 0 9 tc1f_voices) (k_tc1f_step : iv 0 9 tc1f_step) (k_tc1a_parts : ∀ j, iv 0 3 (tc1a_parts j)) (k_tc1a_heights : ∀ j, iv 0 9 (tc1a_heights j)) (k_rlf_huts : iv 0 9 rlf_huts) (k_rlf_singers : iv 0 6 rlf_singers) (k_rlf_villages : iv 0 511 rlf_villages) (k_rlf_dams : iv 0 511 rlf_dams) (k_rlf_echoes : iv 0 4 rlf_echoes) (k_rlf_deep : iv 1 9 rlf_deep) (k_rlf_slide : iv 0 10 rlf_slide) (k_rla_heights : ∀ j, iv 0 99 (rla_heights j)) (k_rla_ladders : ∀ j, iv 0 9 (rla_ladders j)) (k_rla_minutes : ∀ j, iv 0 9 (rla_minutes j)) (k_rla_echoFrom : ∀ j, iv 0 8 (rla_echoFrom j)) (k_rla_echoTo : ∀ j, iv 0 8 (rla_echoTo j)) (k_rla_homes : ∀ j, iv 0 8 (rla_homes j)) (k_rla_talls : ∀ j, iv 0 9 (rla_talls j)) (k_rla_known : ∀ j, iv 0 31 (rla_known j)) (k_rvf_deeds : iv 0 40 rvf_deeds) (k_rva_kinds : ∀ j, iv 0 5 (rva_kinds j)) (k_rva_firsts : ∀ j, iv 0 5 (rva_firsts j)) (k_rva_seconds : ∀ j, iv (-1) 8 (rva_seconds j)) (k_rsf_facts : iv 0 10 rsf_facts) (k_rsa_heard : ∀ j, iv 0 1 (rsa_heard j)) (k_rsa_huts : ∀ j, iv 0 8 (rsa_huts j)) (k_rsa_minutes : ∀ j, iv 0 60 (rsa_minutes j)) (k_rcf_voices : iv 0 9 rcf_voices) (k_rcf_step : iv 0 9 rcf_step) (k_rca_parts : ∀ j, iv 0 3 (rca_parts j)) (k_rca_heights : ∀ j, iv 0 9 (rca_heights j)) (k_rf_fault : iv 0 4 rf_fault) (k_rf_faultPlace : iv (-1) 600 rf_faultPlace) (k_ra_tape : ∀ j, iv (-128) 127 (ra_tape j)) (k_rf_length : iv 0 600 rf_length) (k_rf_behind : iv 0 600 rf_behind) (k_rf_kind : iv 0 4 rf_kind) (k_rf_first : iv 0 600 rf_first) (hpost : ∀ (r : Int32) (tf_length : Int32) (tf_fault : Int32) (tf_place : Int32) (ta_counts : Nat → Int32) (tl0f_huts : Int32) (tl0f_singers : Int32) (tl0f_villages : Int32) (tl0f_dams : Int32) (tl0f_echoes : Int32) (tl0f_deep : Int32) (tl0f_slide : Int32) (tl0a_heights : Nat → Int32) (tl0a_ladders : Nat → Int32) (tl0a_minutes : Nat → Int32) (tl0a_echoFrom : Nat → Int32) (tl0a_echoTo : Nat → Int32) (tl0a_homes : Nat → Int32) (tl0a_talls : Nat → Int32) (tl0a_known : Nat → Int32) (tl1f_huts : Int32) (tl1f_singers : Int32) (tl1f_villages : Int32) (tl1f_dams : Int32) (tl1f_echoes : Int32) (tl1f_deep : Int32) (tl1f_slide : Int32) (tl1a_heights : Nat → Int32) (tl1a_ladders : Nat → Int32) (tl1a_minutes : Nat → Int32) (tl1a_echoFrom : Nat → Int32) (tl1a_echoTo : Nat → Int32) (tl1a_homes : Nat → Int32) (tl1a_talls : Nat → Int32) (tl1a_known : Nat → Int32) (tv0f_deeds : Int32) (tv0a_kinds : Nat → Int32) (tv0a_firsts : Nat → Int32) (tv0a_seconds : Nat → Int32) (tv1f_deeds : Int32) (tv1a_kinds : Nat → Int32) (tv1a_firsts : Nat → Int32) (tv1a_seconds : Nat → Int32) (ts0f_facts : Int32) (ts0a_heard : Nat → Int32) (ts0a_huts : Nat → Int32) (ts0a_minutes : Nat → Int32) (ts1f_facts : Int32) (ts1a_heard : Nat → Int32) (ts1a_huts : Nat → Int32) (ts1a_minutes : Nat → Int32) (tc0f_voices : Int32) (tc0f_step : Int32) (tc0a_parts : Nat → Int32) (tc0a_heights : Nat → Int32) (tc1f_voices : Int32) (tc1f_step : Int32) (tc1a_parts : Nat → Int32) (tc1a_heights : Nat → Int32) (rlf_huts : Int32) (rlf_singers : Int32) (rlf_villages : Int32) (rlf_dams : Int32) (rlf_echoes : Int32) (rlf_deep : Int32) (rlf_slide : Int32) (rla_heights : Nat → Int32) (rla_ladders : Nat → Int32) (rla_minutes : Nat → Int32) (rla_echoFrom : Nat → Int32) (rla_echoTo : Nat → Int32) (rla_homes : Nat → Int32) (rla_talls : Nat → Int32) (rla_known : Nat → Int32) (rvf_deeds : Int32) (rva_kinds : Nat → Int32) (rva_firsts : Nat → Int32) (rva_seconds : Nat → Int32) (rsf_facts : Int32) (rsa_heard : Nat → Int32) (rsa_huts : Nat → Int32) (rsa_minutes : Nat → Int32) (rcf_voices : Int32) (rcf_step : Int32) (rca_parts : Nat → Int32) (rca_heights : Nat → Int32) (rf_fault : Int32) (rf_faultPlace : Int32) (ra_numbers : Nat → Int32) (ra_tape : Nat → Int32) (rf_length : Int32) (rf_behind : Int32) (rf_kind : Int32) (rf_first : Int32) (rf_value : Int32) (rf_hutsToldOf : Int32) (rf_singersToldOf : Int32), iv (-2) 1 r → (iv 0 0 tf_length) → (iv 0 4 tf_fault) → (iv (-1) 600 tf_place) → (∀ j, iv 0 2 (ta_counts j)) → (iv 0 9 tl0f_huts) → (iv 0 6 tl0f_singers) → (iv 0 511 tl0f_villages) → (iv 0 511 tl0f_dams) → (iv 0 4 tl0f_echoes) → (iv 1 9 tl0f_deep) → (iv 0 10 tl0f_slide) → (∀ j, iv 0 99 (tl0a_heights j)) → (∀ j, iv 0 9 (tl0a_ladders j)) → (∀ j, iv 0 9 (tl0a_minutes j)) → (∀ j, iv 0 8 (tl0a_echoFrom j)) → (∀ j, iv 0 8 (tl0a_echoTo j)) → (∀ j, iv 0 8 (tl0a_homes j)) → (∀ j, iv 0 9 (tl0a_talls j)) → (∀ j, iv 0 31 (tl0a_known j)) → (iv 0 9 tl1f_huts) → (iv 0 6 tl1f_singers) → (iv 0 511 tl1f_villages) → (iv 0 511 tl1f_dams) → (iv 0 4 tl1f_echoes) → (iv 1 9 tl1f_deep) → (iv 0 10 tl1f_slide) → (∀ j, iv 0 99 (tl1a_heights j)) → (∀ j, iv 0 9 (tl1a_ladders j)) → (∀ j, iv 0 9 (tl1a_minutes j)) → (∀ j, iv 0 8 (tl1a_echoFrom j)) → (∀ j, iv 0 8 (tl1a_echoTo j)) → (∀ j, iv 0 8 (tl1a_homes j)) → (∀ j, iv 0 9 (tl1a_talls j)) → (∀ j, iv 0 31 (tl1a_known j)) → (iv 0 40 tv0f_deeds) → (∀ j, iv 0 5 (tv0a_kinds j)) → (∀ j, iv 0 5 (tv0a_firsts j)) → (∀ j, iv (-1) 8 (tv0a_seconds j)) → (iv 0 40 tv1f_deeds) → (∀ j, iv 0 5 (tv1a_kinds j)) → (∀ j, iv 0 5 (tv1a_firsts j)) → (∀ j, iv (-1) 8 (tv1a_seconds j)) → (iv 0 10 ts0f_facts) → (∀ j, iv 0 1 (ts0a_heard j)) → (∀ j, iv 0 8 (ts0a_huts j)) → (∀ j, iv 0 60 (ts0a_minutes j)) → (iv 0 10 ts1f_facts) → (∀ j, iv 0 1 (ts1a_heard j)) → (∀ j, iv 0 8 (ts1a_huts j)) → (∀ j, iv 0 60 (ts1a_minutes j)) → (iv 0 9 tc0f_voices) → (iv 0 9 tc0f_step) → (∀ j, iv 0 3 (tc0a_parts j)) → (∀ j, iv 0 9 (tc0a_heights j)) → (iv 0 9 tc1f_voices) → (iv 0 9 tc1f_step) → (∀ j, iv 0 3 (tc1a_parts j)) → (∀ j, iv 0 9 (tc1a_heights j)) → (iv 0 9 rlf_huts) → (iv 0 6 rlf_singers) → (iv 0 511 rlf_villages) → (iv 0 511 rlf_dams) → (iv 0 4 rlf_echoes) → (iv 1 9 rlf_deep) → (iv 0 10 rlf_slide) → (∀ j, iv 0 99 (rla_heights j)) → (∀ j, iv 0 9 (rla_ladders j)) → (∀ j, iv 0 9 (rla_minutes j)) → (∀ j, iv 0 8 (rla_echoFrom j)) → (∀ j, iv 0 8 (rla_echoTo j)) → (∀ j, iv 0 8 (rla_homes j)) → (∀ j, iv 0 9 (rla_talls j)) → (∀ j, iv 0 31 (rla_known j)) → (iv 0 40 rvf_deeds) → (∀ j, iv 0 5 (rva_kinds j)) → (∀ j, iv 0 5 (rva_firsts j)) → (∀ j, iv (-1) 8 (rva_seconds j)) → (iv 0 10 rsf_facts) → (∀ j, iv 0 1 (rsa_heard j)) → (∀ j, iv 0 8 (rsa_huts j)) → (∀ j, iv 0 60 (rsa_minutes j)) → (iv 0 9 rcf_voices) → (iv 0 9 rcf_step) → (∀ j, iv 0 3 (rca_parts j)) → (∀ j, iv 0 9 (rca_heights j)) → (iv 0 4 rf_fault) → (iv (-1) 600 rf_faultPlace) → (∀ j, iv (-128) 127 (ra_tape j)) → (iv 0 600 rf_length) → (iv 0 600 rf_behind) → (iv 0 4 rf_kind) → (iv 0 600 rf_first) → post r tf_length tf_fault tf_place ta_counts tl0f_huts tl0f_singers tl0f_villages tl0f_dams tl0f_echoes tl0f_deep tl0f_slide tl0a_heights tl0a_ladders tl0a_minutes tl0a_echoFrom tl0a_echoTo tl0a_homes tl0a_talls tl0a_known tl1f_huts tl1f_singers tl1f_villages tl1f_dams tl1f_echoes tl1f_deep tl1f_slide tl1a_heights tl1a_ladders tl1a_minutes tl1a_echoFrom tl1a_echoTo tl1a_homes tl1a_talls tl1a_known tv0f_deeds tv0a_kinds tv0a_firsts tv0a_seconds tv1f_deeds tv1a_kinds tv1a_firsts tv1a_seconds ts0f_facts ts0a_heard ts0a_huts ts0a_minutes ts1f_facts ts1a_heard ts1a_huts ts1a_minutes tc0f_voices tc0f_step tc0a_parts tc0a_heights tc1f_voices tc1f_step tc1a_parts tc1a_heights rlf_huts rlf_singers rlf_villages rlf_dams rlf_echoes rlf_deep rlf_slide rla_heights rla_ladders rla_minutes rla_echoFrom rla_echoTo rla_homes rla_talls rla_known rvf_deeds rva_kinds rva_firsts rva_seconds rsf_facts rsa_heard rsa_huts rsa_minutes rcf_voices rcf_step rca_parts rca_heights rf_fault rf_faultPlace ra_numbers ra_tape rf_length rf_behind rf_kind rf_first rf_value rf_hutsToldOf rf_singersToldOf) : q_wx_X10_text_0 ta_tape tf_length tf_fault tf_place ta_counts tl0f_huts tl0f_singers tl0f_villages tl0f_dams tl0f_echoes tl0f_deep tl0f_slide tl0a_heights tl0a_ladders tl0a_minutes tl0a_echoFrom tl0a_echoTo tl0a_homes tl0a_talls tl0a_known tl1f_huts tl1f_singers tl1f_villages tl1f_dams tl1f_echoes tl1f_deep tl1f_slide tl1a_heights tl1a_ladders tl1a_minutes tl1a_echoFrom tl1a_echoTo tl1a_homes tl1a_talls tl1a_known tv0f_deeds tv0a_kinds tv0a_firsts tv0a_seconds tv1f_deeds tv1a_kinds tv1a_firsts tv1a_seconds ts0f_facts ts0a_heard ts0a_huts ts0a_minutes ts1f_facts ts1a_heard ts1a_huts ts1a_minutes tc0f_voices tc0f_step tc0a_parts tc0a_heights tc1f_voices tc1f_step tc1a_parts tc1a_heights rlf_huts rlf_singers rlf_villages rlf_dams rlf_echoes rlf_deep rlf_slide rla_heights rla_ladders rla_minutes rla_echoFrom rla_echoTo rla_homes rla_talls rla_known rvf_deeds rva_kinds rva_firsts rva_seconds rsf_facts rsa_heard rsa_huts rsa_minutes rcf_voices rcf_step rca_parts rca_heights rf_fault rf_faultPlace ra_numbers ra_tape rf_length rf_behind rf_kind rf_first rf_value rf_hutsToldOf rf_singersToldOf x1 x2 post := by
  refine ⟨fun c1 => ?_, fun c1 => ?_⟩
  · skip
    refine ⟨fun c2 => ?_, fun c2 => ?_⟩
    · skip
      exact (iv_emp (iv_ne (l := (-1)) (h := (-2)) c2 (iv_lit (l := (-2)) (h := (-2)) (by decide)) (iv_lit (l := (-2)) (h := (-2)) (by decide)) (by decide)) (by decide)).elim
    · skip
      exact hpost _ _ _ _ _ _ _ _ _ _ _ _ _ _ _ _ _ _ _ _ _ _ _ _ _ _ _ _ _ _ _ _ _ _ _ _ _ _ _ _ _ _ _ _ _ _ _ _ _ _ _ _ _ _ _ _ _ _ _ _ _ _ _ _ _ _ _ _ _ _ _ _ _ _ _ _ _ _ _ _ _ _ _ _ _ _ _ _ _ _ _ _ _ _ _ _ _ (iv_w (iv_lit (l := (-2)) (h := (-2)) (by decide)) (by decide)) (iv_lit (l := 0) (h := 0) (by decide)) (iv_w (iv_lit (l := 0) (h := 0) (by decide)) (by decide)) (iv_w (iv_lit (l := (-1)) (h := (-1)) (by decide)) (by decide)) k_ta_counts k_tl0f_huts k_tl0f_singers k_tl0f_villages k_tl0f_dams k_tl0f_echoes k_tl0f_deep k_tl0f_slide k_tl0a_heights k_tl0a_ladders k_tl0a_minutes k_tl0a_echoFrom k_tl0a_echoTo k_tl0a_homes k_tl0a_talls k_tl0a_known k_tl1f_huts k_tl1f_singers k_tl1f_villages k_tl1f_dams k_tl1f_echoes k_tl1f_deep k_tl1f_slide k_tl1a_heights k_tl1a_ladders k_tl1a_minutes k_tl1a_echoFrom k_tl1a_echoTo k_tl1a_homes k_tl1a_talls k_tl1a_known k_tv0f_deeds k_tv0a_kinds k_tv0a_firsts k_tv0a_seconds k_tv1f_deeds k_tv1a_kinds k_tv1a_firsts k_tv1a_seconds k_ts0f_facts k_ts0a_heard k_ts0a_huts k_ts0a_minutes k_ts1f_facts k_ts1a_heard k_ts1a_huts k_ts1a_minutes k_tc0f_voices k_tc0f_step k_tc0a_parts k_tc0a_heights k_tc1f_voices k_tc1f_step k_tc1a_parts k_tc1a_heights k_rlf_huts k_rlf_singers k_rlf_villages k_rlf_dams k_rlf_echoes k_rlf_deep k_rlf_slide k_rla_heights k_rla_ladders k_rla_minutes k_rla_echoFrom k_rla_echoTo k_rla_homes k_rla_talls k_rla_known k_rvf_deeds k_rva_kinds k_rva_firsts k_rva_seconds k_rsf_facts k_rsa_heard k_rsa_huts k_rsa_minutes k_rcf_voices k_rcf_step k_rca_parts k_rca_heights k_rf_fault k_rf_faultPlace k_ra_tape k_rf_length k_rf_behind k_rf_kind k_rf_first
  · skip
    refine ⟨fun c3 => ?_, fun c3 => ?_⟩
    · skip
      refine ⟨iv_in (iv_lta (l := 0) (h := 3) (r_lt c3) (iv_leb (l := 0) (h := 2147483647) (r_nlt c1) (iv_lit (l := 0) (h := 0) (by decide)) (iv_top x1) (by decide)) (iv_lit (l := 4) (h := 4) (by decide)) (by decide)) (by decide), ?_⟩
      intro w4 ew4
      have hw4 := iv_eq ew4 (k_ta_counts _)
      refine ⟨fun c5 => ?_, fun c5 => ?_⟩
      · skip
        refine ⟨fun c6 => ?_, fun c6 => ?_⟩
        · skip
          refine ⟨fun c7 => ?_, fun c7 => ?_⟩
          · skip
            exact (iv_emp (iv_ne (l := (-1)) (h := (-2)) c7 (iv_lit (l := (-2)) (h := (-2)) (by decide)) (iv_lit (l := (-2)) (h := (-2)) (by decide)) (by decide)) (by decide)).elim
          · skip
            exact hpost _ _ _ _ _ _ _ _ _ _ _ _ _ _ _ _ _ _ _ _ _ _ _ _ _ _ _ _ _ _ _ _ _ _ _ _ _ _ _ _ _ _ _ _ _ _ _ _ _ _ _ _ _ _ _ _ _ _ _ _ _ _ _ _ _ _ _ _ _ _ _ _ _ _ _ _ _ _ _ _ _ _ _ _ _ _ _ _ _ _ _ _ _ _ _ _ _ (iv_w (iv_lit (l := (-2)) (h := (-2)) (by decide)) (by decide)) (iv_lit (l := 0) (h := 0) (by decide)) (iv_w (iv_lit (l := 0) (h := 0) (by decide)) (by decide)) (iv_w (iv_lit (l := (-1)) (h := (-1)) (by decide)) (by decide)) k_ta_counts k_tl0f_huts k_tl0f_singers k_tl0f_villages k_tl0f_dams k_tl0f_echoes k_tl0f_deep k_tl0f_slide k_tl0a_heights k_tl0a_ladders k_tl0a_minutes k_tl0a_echoFrom k_tl0a_echoTo k_tl0a_homes k_tl0a_talls k_tl0a_known k_tl1f_huts k_tl1f_singers k_tl1f_villages k_tl1f_dams k_tl1f_echoes k_tl1f_deep k_tl1f_slide k_tl1a_heights k_tl1a_ladders k_tl1a_minutes k_tl1a_echoFrom k_tl1a_echoTo k_tl1a_homes k_tl1a_talls k_tl1a_known k_tv0f_deeds k_tv0a_kinds k_tv0a_firsts k_tv0a_seconds k_tv1f_deeds k_tv1a_kinds k_tv1a_firsts k_tv1a_seconds k_ts0f_facts k_ts0a_heard k_ts0a_huts k_ts0a_minutes k_ts1f_facts k_ts1a_heard k_ts1a_huts k_ts1a_minutes k_tc0f_voices k_tc0f_step k_tc0a_parts k_tc0a_heights k_tc1f_voices k_tc1f_step k_tc1a_parts k_tc1a_heights k_rlf_huts k_rlf_singers k_rlf_villages k_rlf_dams k_rlf_echoes k_rlf_deep k_rlf_slide k_rla_heights k_rla_ladders k_rla_minutes k_rla_echoFrom k_rla_echoTo k_rla_homes k_rla_talls k_rla_known k_rvf_deeds k_rva_kinds k_rva_firsts k_rva_seconds k_rsf_facts k_rsa_heard k_rsa_huts k_rsa_minutes k_rcf_voices k_rcf_step k_rca_parts k_rca_heights k_rf_fault k_rf_faultPlace k_ra_tape k_rf_length k_rf_behind k_rf_kind k_rf_first
        · skip
          refine ⟨fun c8 => ?_, fun c8 => ?_⟩
          · skip
            refine ⟨fun c9 => ?_, fun c9 => ?_⟩
            · skip
              exact (iv_emp (iv_ne (l := (-1)) (h := (-2)) c9 (iv_lit (l := (-2)) (h := (-2)) (by decide)) (iv_lit (l := (-2)) (h := (-2)) (by decide)) (by decide)) (by decide)).elim
            · skip
              exact hpost _ _ _ _ _ _ _ _ _ _ _ _ _ _ _ _ _ _ _ _ _ _ _ _ _ _ _ _ _ _ _ _ _ _ _ _ _ _ _ _ _ _ _ _ _ _ _ _ _ _ _ _ _ _ _ _ _ _ _ _ _ _ _ _ _ _ _ _ _ _ _ _ _ _ _ _ _ _ _ _ _ _ _ _ _ _ _ _ _ _ _ _ _ _ _ _ _ (iv_w (iv_lit (l := (-2)) (h := (-2)) (by decide)) (by decide)) (iv_lit (l := 0) (h := 0) (by decide)) (iv_w (iv_lit (l := 0) (h := 0) (by decide)) (by decide)) (iv_w (iv_lit (l := (-1)) (h := (-1)) (by decide)) (by decide)) k_ta_counts k_tl0f_huts k_tl0f_singers k_tl0f_villages k_tl0f_dams k_tl0f_echoes k_tl0f_deep k_tl0f_slide k_tl0a_heights k_tl0a_ladders k_tl0a_minutes k_tl0a_echoFrom k_tl0a_echoTo k_tl0a_homes k_tl0a_talls k_tl0a_known k_tl1f_huts k_tl1f_singers k_tl1f_villages k_tl1f_dams k_tl1f_echoes k_tl1f_deep k_tl1f_slide k_tl1a_heights k_tl1a_ladders k_tl1a_minutes k_tl1a_echoFrom k_tl1a_echoTo k_tl1a_homes k_tl1a_talls k_tl1a_known k_tv0f_deeds k_tv0a_kinds k_tv0a_firsts k_tv0a_seconds k_tv1f_deeds k_tv1a_kinds k_tv1a_firsts k_tv1a_seconds k_ts0f_facts k_ts0a_heard k_ts0a_huts k_ts0a_minutes k_ts1f_facts k_ts1a_heard k_ts1a_huts k_ts1a_minutes k_tc0f_voices k_tc0f_step k_tc0a_parts k_tc0a_heights k_tc1f_voices k_tc1f_step k_tc1a_parts k_tc1a_heights k_rlf_huts k_rlf_singers k_rlf_villages k_rlf_dams k_rlf_echoes k_rlf_deep k_rlf_slide k_rla_heights k_rla_ladders k_rla_minutes k_rla_echoFrom k_rla_echoTo k_rla_homes k_rla_talls k_rla_known k_rvf_deeds k_rva_kinds k_rva_firsts k_rva_seconds k_rsf_facts k_rsa_heard k_rsa_huts k_rsa_minutes k_rcf_voices k_rcf_step k_rca_parts k_rca_heights k_rf_fault k_rf_faultPlace k_ra_tape k_rf_length k_rf_behind k_rf_kind k_rf_first
          · skip
            refine ⟨fun c10 => ?_, fun c10 => ?_⟩
            · skip
              refine s_wr_X4_read_23_0 k_rlf_huts k_rlf_singers k_rlf_villages k_rlf_dams k_rlf_echoes k_rlf_deep k_rlf_slide k_rla_heights k_rla_ladders k_rla_minutes k_rla_echoFrom k_rla_echoTo k_rla_homes k_rla_talls k_rla_known k_rvf_deeds k_rva_kinds k_rva_firsts k_rva_seconds k_rsf_facts k_rsa_heard k_rsa_huts k_rsa_minutes k_rcf_voices k_rcf_step k_rca_parts k_rca_heights k_rf_fault k_rf_faultPlace k_ra_tape k_rf_length k_rf_behind k_rf_kind k_rf_first k_ta_tape k_tf_length (iv_lta (l := 0) (h := 3) (r_lt c3) (iv_leb (l := 0) (h := 2147483647) (r_nlt c1) (iv_lit (l := 0) (h := 0) (by decide)) (iv_top x1) (by decide)) (iv_lit (l := 4) (h := 4) (by decide)) (by decide)) (fun o11 o12 o13 o14 o15 o16 o17 o18 o19 o20 o21 o22 o23 o24 o25 o26 o27 o28 o29 o30 o31 o32 o33 o34 o35 o36 o37 o38 o39 o40 o41 o42 o43 o44 o45 o46 o47 o48 k_o11 k_o12 k_o13 k_o14 k_o15 k_o16 k_o17 k_o18 k_o19 k_o20 k_o21 k_o22 k_o23 k_o24 k_o25 k_o26 k_o27 k_o28 k_o29 k_o30 k_o31 k_o32 k_o33 k_o34 k_o35 k_o36 k_o37 k_o38 k_o39 k_o41 k_o42 k_o43 k_o44 k_o45 => ?_)
              refine ⟨fun c49 => ?_, fun c49 => ?_⟩
              · skip
                refine s_wx_X10_keep_0 k_ta_counts k_tl0f_huts k_tl0f_singers k_tl0f_villages k_tl0f_dams k_tl0f_echoes k_tl0f_deep k_tl0f_slide k_tl0a_heights k_tl0a_ladders k_tl0a_minutes k_tl0a_echoFrom k_tl0a_echoTo k_tl0a_homes k_tl0a_talls k_tl0a_known k_tl1f_huts k_tl1f_singers k_tl1f_villages k_tl1f_dams k_tl1f_echoes k_tl1f_deep k_tl1f_slide k_tl1a_heights k_tl1a_ladders k_tl1a_minutes k_tl1a_echoFrom k_tl1a_echoTo k_tl1a_homes k_tl1a_talls k_tl1a_known k_tv0f_deeds k_tv0a_kinds k_tv0a_firsts k_tv0a_seconds k_tv1f_deeds k_tv1a_kinds k_tv1a_firsts k_tv1a_seconds k_ts0f_facts k_ts0a_heard k_ts0a_huts k_ts0a_minutes k_ts1f_facts k_ts1a_heard k_ts1a_huts k_ts1a_minutes k_tc0f_voices k_tc0f_step k_tc0a_parts k_tc0a_heights k_tc1f_voices k_tc1f_step k_tc1a_parts k_tc1a_heights k_o11 k_o12 k_o13 k_o14 k_o15 k_o16 k_o17 k_o18 k_o19 k_o20 k_o21 k_o22 k_o23 k_o24 k_o25 k_o26 k_o27 k_o28 k_o29 k_o30 k_o31 k_o32 k_o33 k_o34 k_o35 k_o36 k_o37 (iv_lta (l := 0) (h := 3) (r_lt c3) (iv_leb (l := 0) (h := 2147483647) (r_nlt c1) (iv_lit (l := 0) (h := 0) (by decide)) (iv_top x1) (by decide)) (iv_lit (l := 4) (h := 4) (by decide)) (by decide)) (iv_lta (l := 0) (h := 1) (r_nle c8) (iv_leb (l := 0) (h := 2147483647) (r_nlt c6) (iv_lit (l := 0) (h := 0) (by decide)) (iv_top x2) (by decide)) hw4 (by decide)) (fun o50 o51 o52 o53 o54 o55 o56 o57 o58 o59 o60 o61 o62 o63 o64 o65 o66 o67 o68 o69 o70 o71 o72 o73 o74 o75 o76 o77 o78 o79 o80 o81 o82 o83 o84 o85 o86 o87 o88 o89 o90 o91 o92 o93 o94 o95 o96 o97 o98 o99 o100 o101 o102 o103 o104 k_o50 k_o51 k_o52 k_o53 k_o54 k_o55 k_o56 k_o57 k_o58 k_o59 k_o60 k_o61 k_o62 k_o63 k_o64 k_o65 k_o66 k_o67 k_o68 k_o69 k_o70 k_o71 k_o72 k_o73 k_o74 k_o75 k_o76 k_o77 k_o78 k_o79 k_o80 k_o81 k_o82 k_o83 k_o84 k_o85 k_o86 k_o87 k_o88 k_o89 k_o90 k_o91 k_o92 k_o93 k_o94 k_o95 k_o96 k_o97 k_o98 k_o99 k_o100 k_o101 k_o102 k_o103 k_o104 => ?_)
                exact hpost _ _ _ _ _ _ _ _ _ _ _ _ _ _ _ _ _ _ _ _ _ _ _ _ _ _ _ _ _ _ _ _ _ _ _ _ _ _ _ _ _ _ _ _ _ _ _ _ _ _ _ _ _ _ _ _ _ _ _ _ _ _ _ _ _ _ _ _ _ _ _ _ _ _ _ _ _ _ _ _ _ _ _ _ _ _ _ _ _ _ _ _ _ _ _ _ _ (iv_w (iv_lta (l := 0) (h := 1) (r_nle c8) (iv_leb (l := 0) (h := 2147483647) (r_nlt c6) (iv_lit (l := 0) (h := 0) (by decide)) (iv_top x2) (by decide)) hw4 (by decide)) (by decide)) (iv_lit (l := 0) (h := 0) (by decide)) (iv_w (iv_eqa (l := 0) (h := 0) c49 k_o38 (iv_lit (l := 0) (h := 0) (by decide)) (by decide)) (by decide)) k_o39 k_o50 k_o51 k_o52 k_o53 k_o54 k_o55 k_o56 k_o57 k_o58 k_o59 k_o60 k_o61 k_o62 k_o63 k_o64 k_o65 k_o66 k_o67 k_o68 k_o69 k_o70 k_o71 k_o72 k_o73 k_o74 k_o75 k_o76 k_o77 k_o78 k_o79 k_o80 k_o81 k_o82 k_o83 k_o84 k_o85 k_o86 k_o87 k_o88 k_o89 k_o90 k_o91 k_o92 k_o93 k_o94 k_o95 k_o96 k_o97 k_o98 k_o99 k_o100 k_o101 k_o102 k_o103 k_o104 k_o11 k_o12 k_o13 k_o14 k_o15 k_o16 k_o17 k_o18 k_o19 k_o20 k_o21 k_o22 k_o23 k_o24 k_o25 k_o26 k_o27 k_o28 k_o29 k_o30 k_o31 k_o32 k_o33 k_o34 k_o35 k_o36 k_o37 (iv_w (iv_eqa (l := 0) (h := 0) c49 k_o38 (iv_lit (l := 0) (h := 0) (by decide)) (by decide)) (by decide)) k_o39 k_o41 k_o42 k_o43 k_o44 k_o45
              · skip
                exact hpost _ _ _ _ _ _ _ _ _ _ _ _ _ _ _ _ _ _ _ _ _ _ _ _ _ _ _ _ _ _ _ _ _ _ _ _ _ _ _ _ _ _ _ _ _ _ _ _ _ _ _ _ _ _ _ _ _ _ _ _ _ _ _ _ _ _ _ _ _ _ _ _ _ _ _ _ _ _ _ _ _ _ _ _ _ _ _ _ _ _ _ _ _ _ _ _ _ (iv_w (iv_lit (l := (-1)) (h := (-1)) (by decide)) (by decide)) (iv_lit (l := 0) (h := 0) (by decide)) (iv_w (iv_ne (l := 1) (h := 4) c49 k_o38 (iv_lit (l := 0) (h := 0) (by decide)) (by decide)) (by decide)) k_o39 k_ta_counts k_tl0f_huts k_tl0f_singers k_tl0f_villages k_tl0f_dams k_tl0f_echoes k_tl0f_deep k_tl0f_slide k_tl0a_heights k_tl0a_ladders k_tl0a_minutes k_tl0a_echoFrom k_tl0a_echoTo k_tl0a_homes k_tl0a_talls k_tl0a_known k_tl1f_huts k_tl1f_singers k_tl1f_villages k_tl1f_dams k_tl1f_echoes k_tl1f_deep k_tl1f_slide k_tl1a_heights k_tl1a_ladders k_tl1a_minutes k_tl1a_echoFrom k_tl1a_echoTo k_tl1a_homes k_tl1a_talls k_tl1a_known k_tv0f_deeds k_tv0a_kinds k_tv0a_firsts k_tv0a_seconds k_tv1f_deeds k_tv1a_kinds k_tv1a_firsts k_tv1a_seconds k_ts0f_facts k_ts0a_heard k_ts0a_huts k_ts0a_minutes k_ts1f_facts k_ts1a_heard k_ts1a_huts k_ts1a_minutes k_tc0f_voices k_tc0f_step k_tc0a_parts k_tc0a_heights k_tc1f_voices k_tc1f_step k_tc1a_parts k_tc1a_heights k_o11 k_o12 k_o13 k_o14 k_o15 k_o16 k_o17 k_o18 k_o19 k_o20 k_o21 k_o22 k_o23 k_o24 k_o25 k_o26 k_o27 k_o28 k_o29 k_o30 k_o31 k_o32 k_o33 k_o34 k_o35 k_o36 k_o37 (iv_w (iv_ne (l := 1) (h := 4) c49 k_o38 (iv_lit (l := 0) (h := 0) (by decide)) (by decide)) (by decide)) k_o39 k_o41 k_o42 k_o43 k_o44 k_o45
            · skip
              exact (iv_emp (iv_eqa (l := 0) (h := (-2)) c10 (iv_lta (l := 0) (h := 1) (r_nle c8) (iv_leb (l := 0) (h := 2147483647) (r_nlt c6) (iv_lit (l := 0) (h := 0) (by decide)) (iv_top x2) (by decide)) hw4 (by decide)) (iv_lit (l := (-2)) (h := (-2)) (by decide)) (by decide)) (by decide)).elim
      · skip
        refine ⟨fun c105 => ?_, fun c105 => ?_⟩
        · skip
          refine ⟨fun c106 => ?_, fun c106 => ?_⟩
          · skip
            exact (iv_emp (iv_ne (l := (-1)) (h := (-2)) c106 (iv_lit (l := (-2)) (h := (-2)) (by decide)) (iv_lit (l := (-2)) (h := (-2)) (by decide)) (by decide)) (by decide)).elim
          · skip
            exact hpost _ _ _ _ _ _ _ _ _ _ _ _ _ _ _ _ _ _ _ _ _ _ _ _ _ _ _ _ _ _ _ _ _ _ _ _ _ _ _ _ _ _ _ _ _ _ _ _ _ _ _ _ _ _ _ _ _ _ _ _ _ _ _ _ _ _ _ _ _ _ _ _ _ _ _ _ _ _ _ _ _ _ _ _ _ _ _ _ _ _ _ _ _ _ _ _ _ (iv_w (iv_lit (l := (-2)) (h := (-2)) (by decide)) (by decide)) (iv_lit (l := 0) (h := 0) (by decide)) (iv_w (iv_lit (l := 0) (h := 0) (by decide)) (by decide)) (iv_w (iv_lit (l := (-1)) (h := (-1)) (by decide)) (by decide)) k_ta_counts k_tl0f_huts k_tl0f_singers k_tl0f_villages k_tl0f_dams k_tl0f_echoes k_tl0f_deep k_tl0f_slide k_tl0a_heights k_tl0a_ladders k_tl0a_minutes k_tl0a_echoFrom k_tl0a_echoTo k_tl0a_homes k_tl0a_talls k_tl0a_known k_tl1f_huts k_tl1f_singers k_tl1f_villages k_tl1f_dams k_tl1f_echoes k_tl1f_deep k_tl1f_slide k_tl1a_heights k_tl1a_ladders k_tl1a_minutes k_tl1a_echoFrom k_tl1a_echoTo k_tl1a_homes k_tl1a_talls k_tl1a_known k_tv0f_deeds k_tv0a_kinds k_tv0a_firsts k_tv0a_seconds k_tv1f_deeds k_tv1a_kinds k_tv1a_firsts k_tv1a_seconds k_ts0f_facts k_ts0a_heard k_ts0a_huts k_ts0a_minutes k_ts1f_facts k_ts1a_heard k_ts1a_huts k_ts1a_minutes k_tc0f_voices k_tc0f_step k_tc0a_parts k_tc0a_heights k_tc1f_voices k_tc1f_step k_tc1a_parts k_tc1a_heights k_rlf_huts k_rlf_singers k_rlf_villages k_rlf_dams k_rlf_echoes k_rlf_deep k_rlf_slide k_rla_heights k_rla_ladders k_rla_minutes k_rla_echoFrom k_rla_echoTo k_rla_homes k_rla_talls k_rla_known k_rvf_deeds k_rva_kinds k_rva_firsts k_rva_seconds k_rsf_facts k_rsa_heard k_rsa_huts k_rsa_minutes k_rcf_voices k_rcf_step k_rca_parts k_rca_heights k_rf_fault k_rf_faultPlace k_ra_tape k_rf_length k_rf_behind k_rf_kind k_rf_first
        · skip
          refine ⟨fun c107 => ?_, fun c107 => ?_⟩
          · skip
            refine s_wr_X4_read_23_0 k_rlf_huts k_rlf_singers k_rlf_villages k_rlf_dams k_rlf_echoes k_rlf_deep k_rlf_slide k_rla_heights k_rla_ladders k_rla_minutes k_rla_echoFrom k_rla_echoTo k_rla_homes k_rla_talls k_rla_known k_rvf_deeds k_rva_kinds k_rva_firsts k_rva_seconds k_rsf_facts k_rsa_heard k_rsa_huts k_rsa_minutes k_rcf_voices k_rcf_step k_rca_parts k_rca_heights k_rf_fault k_rf_faultPlace k_ra_tape k_rf_length k_rf_behind k_rf_kind k_rf_first k_ta_tape k_tf_length (iv_lta (l := 0) (h := 3) (r_lt c3) (iv_leb (l := 0) (h := 2147483647) (r_nlt c1) (iv_lit (l := 0) (h := 0) (by decide)) (iv_top x1) (by decide)) (iv_lit (l := 4) (h := 4) (by decide)) (by decide)) (fun o108 o109 o110 o111 o112 o113 o114 o115 o116 o117 o118 o119 o120 o121 o122 o123 o124 o125 o126 o127 o128 o129 o130 o131 o132 o133 o134 o135 o136 o137 o138 o139 o140 o141 o142 o143 o144 o145 k_o108 k_o109 k_o110 k_o111 k_o112 k_o113 k_o114 k_o115 k_o116 k_o117 k_o118 k_o119 k_o120 k_o121 k_o122 k_o123 k_o124 k_o125 k_o126 k_o127 k_o128 k_o129 k_o130 k_o131 k_o132 k_o133 k_o134 k_o135 k_o136 k_o138 k_o139 k_o140 k_o141 k_o142 => ?_)
            refine ⟨fun c146 => ?_, fun c146 => ?_⟩
            · skip
              refine s_wx_X10_keep_0 k_ta_counts k_tl0f_huts k_tl0f_singers k_tl0f_villages k_tl0f_dams k_tl0f_echoes k_tl0f_deep k_tl0f_slide k_tl0a_heights k_tl0a_ladders k_tl0a_minutes k_tl0a_echoFrom k_tl0a_echoTo k_tl0a_homes k_tl0a_talls k_tl0a_known k_tl1f_huts k_tl1f_singers k_tl1f_villages k_tl1f_dams k_tl1f_echoes k_tl1f_deep k_tl1f_slide k_tl1a_heights k_tl1a_ladders k_tl1a_minutes k_tl1a_echoFrom k_tl1a_echoTo k_tl1a_homes k_tl1a_talls k_tl1a_known k_tv0f_deeds k_tv0a_kinds k_tv0a_firsts k_tv0a_seconds k_tv1f_deeds k_tv1a_kinds k_tv1a_firsts k_tv1a_seconds k_ts0f_facts k_ts0a_heard k_ts0a_huts k_ts0a_minutes k_ts1f_facts k_ts1a_heard k_ts1a_huts k_ts1a_minutes k_tc0f_voices k_tc0f_step k_tc0a_parts k_tc0a_heights k_tc1f_voices k_tc1f_step k_tc1a_parts k_tc1a_heights k_o108 k_o109 k_o110 k_o111 k_o112 k_o113 k_o114 k_o115 k_o116 k_o117 k_o118 k_o119 k_o120 k_o121 k_o122 k_o123 k_o124 k_o125 k_o126 k_o127 k_o128 k_o129 k_o130 k_o131 k_o132 k_o133 k_o134 (iv_lta (l := 0) (h := 3) (r_lt c3) (iv_leb (l := 0) (h := 2147483647) (r_nlt c1) (iv_lit (l := 0) (h := 0) (by decide)) (iv_top x1) (by decide)) (iv_lit (l := 4) (h := 4) (by decide)) (by decide)) (iv_lta (l := 0) (h := 1) (r_nle c105) hw4 (iv_lit (l := 2) (h := 2) (by decide)) (by decide)) (fun o147 o148 o149 o150 o151 o152 o153 o154 o155 o156 o157 o158 o159 o160 o161 o162 o163 o164 o165 o166 o167 o168 o169 o170 o171 o172 o173 o174 o175 o176 o177 o178 o179 o180 o181 o182 o183 o184 o185 o186 o187 o188 o189 o190 o191 o192 o193 o194 o195 o196 o197 o198 o199 o200 o201 k_o147 k_o148 k_o149 k_o150 k_o151 k_o152 k_o153 k_o154 k_o155 k_o156 k_o157 k_o158 k_o159 k_o160 k_o161 k_o162 k_o163 k_o164 k_o165 k_o166 k_o167 k_o168 k_o169 k_o170 k_o171 k_o172 k_o173 k_o174 k_o175 k_o176 k_o177 k_o178 k_o179 k_o180 k_o181 k_o182 k_o183 k_o184 k_o185 k_o186 k_o187 k_o188 k_o189 k_o190 k_o191 k_o192 k_o193 k_o194 k_o195 k_o196 k_o197 k_o198 k_o199 k_o200 k_o201 => ?_)
              exact hpost _ _ _ _ _ _ _ _ _ _ _ _ _ _ _ _ _ _ _ _ _ _ _ _ _ _ _ _ _ _ _ _ _ _ _ _ _ _ _ _ _ _ _ _ _ _ _ _ _ _ _ _ _ _ _ _ _ _ _ _ _ _ _ _ _ _ _ _ _ _ _ _ _ _ _ _ _ _ _ _ _ _ _ _ _ _ _ _ _ _ _ _ _ _ _ _ _ (iv_w (iv_lta (l := 0) (h := 1) (r_nle c105) hw4 (iv_lit (l := 2) (h := 2) (by decide)) (by decide)) (by decide)) (iv_lit (l := 0) (h := 0) (by decide)) (iv_w (iv_eqa (l := 0) (h := 0) c146 k_o135 (iv_lit (l := 0) (h := 0) (by decide)) (by decide)) (by decide)) k_o136 k_o147 k_o148 k_o149 k_o150 k_o151 k_o152 k_o153 k_o154 k_o155 k_o156 k_o157 k_o158 k_o159 k_o160 k_o161 k_o162 k_o163 k_o164 k_o165 k_o166 k_o167 k_o168 k_o169 k_o170 k_o171 k_o172 k_o173 k_o174 k_o175 k_o176 k_o177 k_o178 k_o179 k_o180 k_o181 k_o182 k_o183 k_o184 k_o185 k_o186 k_o187 k_o188 k_o189 k_o190 k_o191 k_o192 k_o193 k_o194 k_o195 k_o196 k_o197 k_o198 k_o199 k_o200 k_o201 k_o108 k_o109 k_o110 k_o111 k_o112 k_o113 k_o114 k_o115 k_o116 k_o117 k_o118 k_o119 k_o120 k_o121 k_o122 k_o123 k_o124 k_o125 k_o126 k_o127 k_o128 k_o129 k_o130 k_o131 k_o132 k_o133 k_o134 (iv_w (iv_eqa (l := 0) (h := 0) c146 k_o135 (iv_lit (l := 0) (h := 0) (by decide)) (by decide)) (by decide)) k_o136 k_o138 k_o139 k_o140 k_o141 k_o142
            · skip
              exact hpost _ _ _ _ _ _ _ _ _ _ _ _ _ _ _ _ _ _ _ _ _ _ _ _ _ _ _ _ _ _ _ _ _ _ _ _ _ _ _ _ _ _ _ _ _ _ _ _ _ _ _ _ _ _ _ _ _ _ _ _ _ _ _ _ _ _ _ _ _ _ _ _ _ _ _ _ _ _ _ _ _ _ _ _ _ _ _ _ _ _ _ _ _ _ _ _ _ (iv_w (iv_lit (l := (-1)) (h := (-1)) (by decide)) (by decide)) (iv_lit (l := 0) (h := 0) (by decide)) (iv_w (iv_ne (l := 1) (h := 4) c146 k_o135 (iv_lit (l := 0) (h := 0) (by decide)) (by decide)) (by decide)) k_o136 k_ta_counts k_tl0f_huts k_tl0f_singers k_tl0f_villages k_tl0f_dams k_tl0f_echoes k_tl0f_deep k_tl0f_slide k_tl0a_heights k_tl0a_ladders k_tl0a_minutes k_tl0a_echoFrom k_tl0a_echoTo k_tl0a_homes k_tl0a_talls k_tl0a_known k_tl1f_huts k_tl1f_singers k_tl1f_villages k_tl1f_dams k_tl1f_echoes k_tl1f_deep k_tl1f_slide k_tl1a_heights k_tl1a_ladders k_tl1a_minutes k_tl1a_echoFrom k_tl1a_echoTo k_tl1a_homes k_tl1a_talls k_tl1a_known k_tv0f_deeds k_tv0a_kinds k_tv0a_firsts k_tv0a_seconds k_tv1f_deeds k_tv1a_kinds k_tv1a_firsts k_tv1a_seconds k_ts0f_facts k_ts0a_heard k_ts0a_huts k_ts0a_minutes k_ts1f_facts k_ts1a_heard k_ts1a_huts k_ts1a_minutes k_tc0f_voices k_tc0f_step k_tc0a_parts k_tc0a_heights k_tc1f_voices k_tc1f_step k_tc1a_parts k_tc1a_heights k_o108 k_o109 k_o110 k_o111 k_o112 k_o113 k_o114 k_o115 k_o116 k_o117 k_o118 k_o119 k_o120 k_o121 k_o122 k_o123 k_o124 k_o125 k_o126 k_o127 k_o128 k_o129 k_o130 k_o131 k_o132 k_o133 k_o134 (iv_w (iv_ne (l := 1) (h := 4) c146 k_o135 (iv_lit (l := 0) (h := 0) (by decide)) (by decide)) (by decide)) k_o136 k_o138 k_o139 k_o140 k_o141 k_o142
          · skip
            exact (iv_emp (iv_eqa (l := 0) (h := (-2)) c107 (iv_lta (l := 0) (h := 1) (r_nle c105) hw4 (iv_lit (l := 2) (h := 2) (by decide)) (by decide)) (iv_lit (l := (-2)) (h := (-2)) (by decide)) (by decide)) (by decide)).elim
    · skip
      refine ⟨fun c202 => ?_, fun c202 => ?_⟩
      · skip
        exact (iv_emp (iv_ne (l := (-1)) (h := (-2)) c202 (iv_lit (l := (-2)) (h := (-2)) (by decide)) (iv_lit (l := (-2)) (h := (-2)) (by decide)) (by decide)) (by decide)).elim
      · skip
        exact hpost _ _ _ _ _ _ _ _ _ _ _ _ _ _ _ _ _ _ _ _ _ _ _ _ _ _ _ _ _ _ _ _ _ _ _ _ _ _ _ _ _ _ _ _ _ _ _ _ _ _ _ _ _ _ _ _ _ _ _ _ _ _ _ _ _ _ _ _ _ _ _ _ _ _ _ _ _ _ _ _ _ _ _ _ _ _ _ _ _ _ _ _ _ _ _ _ _ (iv_w (iv_lit (l := (-2)) (h := (-2)) (by decide)) (by decide)) (iv_lit (l := 0) (h := 0) (by decide)) (iv_w (iv_lit (l := 0) (h := 0) (by decide)) (by decide)) (iv_w (iv_lit (l := (-1)) (h := (-1)) (by decide)) (by decide)) k_ta_counts k_tl0f_huts k_tl0f_singers k_tl0f_villages k_tl0f_dams k_tl0f_echoes k_tl0f_deep k_tl0f_slide k_tl0a_heights k_tl0a_ladders k_tl0a_minutes k_tl0a_echoFrom k_tl0a_echoTo k_tl0a_homes k_tl0a_talls k_tl0a_known k_tl1f_huts k_tl1f_singers k_tl1f_villages k_tl1f_dams k_tl1f_echoes k_tl1f_deep k_tl1f_slide k_tl1a_heights k_tl1a_ladders k_tl1a_minutes k_tl1a_echoFrom k_tl1a_echoTo k_tl1a_homes k_tl1a_talls k_tl1a_known k_tv0f_deeds k_tv0a_kinds k_tv0a_firsts k_tv0a_seconds k_tv1f_deeds k_tv1a_kinds k_tv1a_firsts k_tv1a_seconds k_ts0f_facts k_ts0a_heard k_ts0a_huts k_ts0a_minutes k_ts1f_facts k_ts1a_heard k_ts1a_huts k_ts1a_minutes k_tc0f_voices k_tc0f_step k_tc0a_parts k_tc0a_heights k_tc1f_voices k_tc1f_step k_tc1a_parts k_tc1a_heights k_rlf_huts k_rlf_singers k_rlf_villages k_rlf_dams k_rlf_echoes k_rlf_deep k_rlf_slide k_rla_heights k_rla_ladders k_rla_minutes k_rla_echoFrom k_rla_echoTo k_rla_homes k_rla_talls k_rla_known k_rvf_deeds k_rva_kinds k_rva_firsts k_rva_seconds k_rsf_facts k_rsa_heard k_rsa_huts k_rsa_minutes k_rcf_voices k_rcf_step k_rca_parts k_rca_heights k_rf_fault k_rf_faultPlace k_ra_tape k_rf_length k_rf_behind k_rf_kind k_rf_first
-- wx_X10_fault
set_option maxRecDepth 20000 in
theorem s_wx_X10_fault_0 {tf_fault : Int32} {tf_place : Int32} {x1 : Int32} {post : Int32 → Prop} (k_tf_fault : iv 0 4 tf_fault) (k_tf_place : iv (-1) 600 tf_place) (hpost : ∀ (r : Int32), iv (-1) 600 r → post r) : q_wx_X10_fault_0 tf_fault tf_place x1 post := by
  refine ⟨fun c1 => ?_, fun c1 => ?_⟩
  · skip
    refine ⟨fun c2 => ?_, fun c2 => ?_⟩
    · skip
      exact hpost _ (iv_w (iv_lit (l := (-1)) (h := (-1)) (by decide)) (by decide))
    · skip
      exact hpost _ k_tf_place
  · skip
    exact hpost _ (iv_w k_tf_fault (by decide))
-- wx_X10_land
set_option maxRecDepth 20000 in
theorem s_wx_X10_land_0 {ta_counts : Nat → Int32} {tl0f_huts : Int32} {tl0f_singers : Int32} {tl0f_villages : Int32} {tl0f_dams : Int32} {tl0f_echoes : Int32} {tl0f_deep : Int32} {tl0f_slide : Int32} {tl0a_heights : Nat → Int32} {tl0a_ladders : Nat → Int32} {tl0a_minutes : Nat → Int32} {tl0a_homes : Nat → Int32} {tl0a_talls : Nat → Int32} {tl0a_known : Nat → Int32} {tl1f_huts : Int32} {tl1f_singers : Int32} {tl1f_villages : Int32} {tl1f_dams : Int32} {tl1f_echoes : Int32} {tl1f_deep : Int32} {tl1f_slide : Int32} {tl1a_heights : Nat → Int32} {tl1a_ladders : Nat → Int32} {tl1a_minutes : Nat → Int32} {tl1a_homes : Nat → Int32} {tl1a_talls : Nat → Int32} {tl1a_known : Nat → Int32} {x1 : Int32} {x2 : Int32} {post : Int32 → Prop} (k_ta_counts : ∀ j, iv 0 2 (ta_counts j)) (k_tl0f_huts : iv 0 9 tl0f_huts) (k_tl0f_singers : iv 0 6 tl0f_singers) (k_tl0f_villages : iv 0 511 tl0f_villages) (k_tl0f_dams : iv 0 511 tl0f_dams) (k_tl0f_echoes : iv 0 4 tl0f_echoes) (k_tl0f_deep : iv 1 9 tl0f_deep) (k_tl0f_slide : iv 0 10 tl0f_slide) (k_tl0a_heights : ∀ j, iv 0 99 (tl0a_heights j)) (k_tl0a_ladders : ∀ j, iv 0 9 (tl0a_ladders j)) (k_tl0a_minutes : ∀ j, iv 0 9 (tl0a_minutes j)) (k_tl0a_homes : ∀ j, iv 0 8 (tl0a_homes j)) (k_tl0a_talls : ∀ j, iv 0 9 (tl0a_talls j)) (k_tl0a_known : ∀ j, iv 0 31 (tl0a_known j)) (k_tl1f_huts : iv 0 9 tl1f_huts) (k_tl1f_singers : iv 0 6 tl1f_singers) (k_tl1f_villages : iv 0 511 tl1f_villages) (k_tl1f_dams : iv 0 511 tl1f_dams) (k_tl1f_echoes : iv 0 4 tl1f_echoes) (k_tl1f_deep : iv 1 9 tl1f_deep) (k_tl1f_slide : iv 0 10 tl1f_slide) (k_tl1a_heights : ∀ j, iv 0 99 (tl1a_heights j)) (k_tl1a_ladders : ∀ j, iv 0 9 (tl1a_ladders j)) (k_tl1a_minutes : ∀ j, iv 0 9 (tl1a_minutes j)) (k_tl1a_homes : ∀ j, iv 0 8 (tl1a_homes j)) (k_tl1a_talls : ∀ j, iv 0 9 (tl1a_talls j)) (k_tl1a_known : ∀ j, iv 0 31 (tl1a_known j)) (hpost : ∀ (r : Int32), iv (-1) 511 r → post r) : q_wx_X10_land_0 ta_counts tl0f_huts tl0f_singers tl0f_villages tl0f_dams tl0f_echoes tl0f_deep tl0f_slide tl0a_heights tl0a_ladders tl0a_minutes tl0a_homes tl0a_talls tl0a_known tl1f_huts tl1f_singers tl1f_villages tl1f_dams tl1f_echoes tl1f_deep tl1f_slide tl1a_heights tl1a_ladders tl1a_minutes tl1a_homes tl1a_talls tl1a_known x1 x2 post := by
  refine ⟨fun c1 => ?_, fun c1 => ?_⟩
  · skip
    refine ⟨fun _ => ?_, fun h => absurd h (by decide), fun h0 h1 => absurd rfl h0⟩
    exact hpost _ (iv_w (iv_lit (l := (-1)) (h := (-1)) (by decide)) (by decide))
  · skip
    refine ⟨fun c2 => ?_, fun c2 => ?_⟩
    · skip
      refine ⟨fun _ => ?_, fun h => absurd h (by decide), fun h0 h1 => absurd rfl h0⟩
      exact hpost _ (iv_w (iv_lit (l := (-1)) (h := (-1)) (by decide)) (by decide))
    · skip
      refine ⟨iv_in (iv_lta (l := 0) (h := 1) (r_nle c2) (iv_leb (l := 0) (h := 2147483647) (r_nlt c1) (iv_lit (l := 0) (h := 0) (by decide)) (iv_top x1) (by decide)) (k_ta_counts _) (by decide)) (by decide), fun hc => ?_, fun hc => ?_⟩
      · skip
        refine ⟨fun h => absurd h (by decide), fun h => absurd h (by decide), fun h0 h1 => ?_⟩
        refine s_wl_X2_look_0 k_tl0f_huts k_tl0f_singers k_tl0f_villages k_tl0f_dams k_tl0f_echoes k_tl0f_deep k_tl0f_slide k_tl0a_heights k_tl0a_ladders k_tl0a_minutes k_tl0a_homes k_tl0a_talls k_tl0a_known (fun r3 hr3 => ?_)
        exact hpost _ hr3
      · skip
        refine ⟨fun h => absurd h (by decide), fun _ => ?_, fun h0 h1 => absurd rfl h1⟩
        refine s_wl_X2_look_0 k_tl1f_huts k_tl1f_singers k_tl1f_villages k_tl1f_dams k_tl1f_echoes k_tl1f_deep k_tl1f_slide k_tl1a_heights k_tl1a_ladders k_tl1a_minutes k_tl1a_homes k_tl1a_talls k_tl1a_known (fun r4 hr4 => ?_)
        exact hpost _ hr4
-- wx_X10_echo
set_option maxRecDepth 20000 in
theorem s_wx_X10_echo_0 {ta_counts : Nat → Int32} {tl0f_echoes : Int32} {tl0a_echoFrom : Nat → Int32} {tl0a_echoTo : Nat → Int32} {tl1f_echoes : Int32} {tl1a_echoFrom : Nat → Int32} {tl1a_echoTo : Nat → Int32} {x1 : Int32} {x2 : Int32} {x3 : Int32} {post : Int32 → Prop} (k_ta_counts : ∀ j, iv 0 2 (ta_counts j)) (k_tl0f_echoes : iv 0 4 tl0f_echoes) (k_tl0a_echoFrom : ∀ j, iv 0 8 (tl0a_echoFrom j)) (k_tl0a_echoTo : ∀ j, iv 0 8 (tl0a_echoTo j)) (k_tl1f_echoes : iv 0 4 tl1f_echoes) (k_tl1a_echoFrom : ∀ j, iv 0 8 (tl1a_echoFrom j)) (k_tl1a_echoTo : ∀ j, iv 0 8 (tl1a_echoTo j)) (hpost : ∀ (r : Int32), iv (-1) 8 r → post r) : q_wx_X10_echo_0 ta_counts tl0f_echoes tl0a_echoFrom tl0a_echoTo tl1f_echoes tl1a_echoFrom tl1a_echoTo x1 x2 x3 post := by
  refine ⟨fun c1 => ?_, fun c1 => ?_⟩
  · skip
    refine ⟨fun _ => ?_, fun h => absurd h (by decide), fun h0 h1 => absurd rfl h0⟩
    exact hpost _ (iv_w (iv_lit (l := (-1)) (h := (-1)) (by decide)) (by decide))
  · skip
    refine ⟨fun c2 => ?_, fun c2 => ?_⟩
    · skip
      refine ⟨fun _ => ?_, fun h => absurd h (by decide), fun h0 h1 => absurd rfl h0⟩
      exact hpost _ (iv_w (iv_lit (l := (-1)) (h := (-1)) (by decide)) (by decide))
    · skip
      refine ⟨iv_in (iv_lta (l := 0) (h := 1) (r_nle c2) (iv_leb (l := 0) (h := 2147483647) (r_nlt c1) (iv_lit (l := 0) (h := 0) (by decide)) (iv_top x1) (by decide)) (k_ta_counts _) (by decide)) (by decide), fun hc => ?_, fun hc => ?_⟩
      · skip
        refine ⟨fun h => absurd h (by decide), fun h => absurd h (by decide), fun h0 h1 => ?_⟩
        refine ⟨fun c3 => ?_, fun c3 => ?_⟩
        · skip
          exact hpost _ (iv_w (iv_lit (l := (-1)) (h := (-1)) (by decide)) (by decide))
        · skip
          refine ⟨fun c4 => ?_, fun c4 => ?_⟩
          · skip
            refine ⟨fun c5 => ?_, fun c5 => ?_⟩
            · skip
              refine ⟨fun c6 => ?_, fun c6 => ?_⟩
              · skip
                exact hpost _ (iv_w (iv_lit (l := (-1)) (h := (-1)) (by decide)) (by decide))
              · skip
                refine ⟨iv_in (iv_lta (l := 0) (h := 3) (r_lt c4) (iv_leb (l := 0) (h := 2147483647) (r_nlt c3) (iv_lit (l := 0) (h := 0) (by decide)) (iv_top x2) (by decide)) k_tl0f_echoes (by decide)) (by decide), ?_⟩
                exact hpost _ (iv_w (k_tl0a_echoTo _) (by decide))
            · skip
              refine ⟨iv_in (iv_lta (l := 0) (h := 3) (r_lt c4) (iv_leb (l := 0) (h := 2147483647) (r_nlt c3) (iv_lit (l := 0) (h := 0) (by decide)) (iv_top x2) (by decide)) k_tl0f_echoes (by decide)) (by decide), ?_⟩
              exact hpost _ (iv_w (k_tl0a_echoFrom _) (by decide))
          · skip
            exact hpost _ (iv_w (iv_lit (l := (-1)) (h := (-1)) (by decide)) (by decide))
      · skip
        refine ⟨fun h => absurd h (by decide), fun _ => ?_, fun h0 h1 => absurd rfl h1⟩
        refine ⟨fun c7 => ?_, fun c7 => ?_⟩
        · skip
          exact hpost _ (iv_w (iv_lit (l := (-1)) (h := (-1)) (by decide)) (by decide))
        · skip
          refine ⟨fun c8 => ?_, fun c8 => ?_⟩
          · skip
            refine ⟨fun c9 => ?_, fun c9 => ?_⟩
            · skip
              refine ⟨fun c10 => ?_, fun c10 => ?_⟩
              · skip
                exact hpost _ (iv_w (iv_lit (l := (-1)) (h := (-1)) (by decide)) (by decide))
              · skip
                refine ⟨iv_in (iv_lta (l := 0) (h := 3) (r_lt c8) (iv_leb (l := 0) (h := 2147483647) (r_nlt c7) (iv_lit (l := 0) (h := 0) (by decide)) (iv_top x2) (by decide)) k_tl1f_echoes (by decide)) (by decide), ?_⟩
                exact hpost _ (iv_w (k_tl1a_echoTo _) (by decide))
            · skip
              refine ⟨iv_in (iv_lta (l := 0) (h := 3) (r_lt c8) (iv_leb (l := 0) (h := 2147483647) (r_nlt c7) (iv_lit (l := 0) (h := 0) (by decide)) (iv_top x2) (by decide)) k_tl1f_echoes (by decide)) (by decide), ?_⟩
              exact hpost _ (iv_w (k_tl1a_echoFrom _) (by decide))
          · skip
            exact hpost _ (iv_w (iv_lit (l := (-1)) (h := (-1)) (by decide)) (by decide))
-- wx_X10_deed
set_option maxRecDepth 20000 in
theorem s_wx_X10_deed_43 {ta_counts : Nat → Int32} {tv0f_deeds : Int32} {tv0a_kinds : Nat → Int32} {tv0a_firsts : Nat → Int32} {tv0a_seconds : Nat → Int32} {tv1f_deeds : Int32} {tv1a_kinds : Nat → Int32} {tv1a_firsts : Nat → Int32} {tv1a_seconds : Nat → Int32} {post : Int32 → Prop} (k_ta_counts : ∀ j, iv 0 2 (ta_counts j)) (k_tv0f_deeds : iv 0 40 tv0f_deeds) (k_tv0a_kinds : ∀ j, iv 0 5 (tv0a_kinds j)) (k_tv0a_firsts : ∀ j, iv 0 5 (tv0a_firsts j)) (k_tv0a_seconds : ∀ j, iv (-1) 8 (tv0a_seconds j)) (k_tv1f_deeds : iv 0 40 tv1f_deeds) (k_tv1a_kinds : ∀ j, iv 0 5 (tv1a_kinds j)) (k_tv1a_firsts : ∀ j, iv 0 5 (tv1a_firsts j)) (k_tv1a_seconds : ∀ j, iv (-1) 8 (tv1a_seconds j)) (hpost : ∀ (r : Int32), iv (-2) 40 r → post r) : q_wx_X10_deed_43 ta_counts tv0f_deeds tv0a_kinds tv0a_firsts tv0a_seconds tv1f_deeds tv1a_kinds tv1a_firsts tv1a_seconds post := by
  exact hpost _ (iv_w (iv_lit (l := (-2)) (h := (-2)) (by decide)) (by decide))
set_option maxRecDepth 20000 in
theorem s_wx_X10_deed_30k0 {ta_counts : Nat → Int32} {tv0f_deeds : Int32} {tv0a_kinds : Nat → Int32} {tv0a_firsts : Nat → Int32} {tv0a_seconds : Nat → Int32} {tv1f_deeds : Int32} {tv1a_kinds : Nat → Int32} {tv1a_firsts : Nat → Int32} {tv1a_seconds : Nat → Int32} {x2 : Int32} {x3 : Int32} {post : Int32 → Prop} (k_ta_counts : ∀ j, iv 0 2 (ta_counts j)) (k_tv0f_deeds : iv 0 40 tv0f_deeds) (k_tv0a_kinds : ∀ j, iv 0 5 (tv0a_kinds j)) (k_tv0a_firsts : ∀ j, iv 0 5 (tv0a_firsts j)) (k_tv0a_seconds : ∀ j, iv (-1) 8 (tv0a_seconds j)) (k_tv1f_deeds : iv 0 40 tv1f_deeds) (k_tv1a_kinds : ∀ j, iv 0 5 (tv1a_kinds j)) (k_tv1a_firsts : ∀ j, iv 0 5 (tv1a_firsts j)) (k_tv1a_seconds : ∀ j, iv (-1) 8 (tv1a_seconds j)) (hpost : ∀ (r : Int32), iv (-2) 40 r → post r) : q_wx_X10_deed_30k0 ta_counts tv0f_deeds tv0a_kinds tv0a_firsts tv0a_seconds tv1f_deeds tv1a_kinds tv1a_firsts tv1a_seconds x2 x3 post := by
  refine ⟨fun c1 => ?_, fun c1 => ?_⟩
  · skip
    exact s_wx_X10_deed_43 k_ta_counts k_tv0f_deeds k_tv0a_kinds k_tv0a_firsts k_tv0a_seconds k_tv1f_deeds k_tv1a_kinds k_tv1a_firsts k_tv1a_seconds hpost
  · skip
    refine ⟨fun c2 => ?_, fun c2 => ?_⟩
    · skip
      refine ⟨fun c3 => ?_, fun c3 => ?_, fun c3 => ?_, fun c3 => ?_⟩
      · skip
        exact hpost _ (iv_w (iv_lit (l := (-2)) (h := (-2)) (by decide)) (by decide))
      · skip
        refine ⟨iv_in (iv_lta (l := 0) (h := 39) (r_lt c2) (iv_leb (l := 0) (h := 2147483647) (r_nlt c1) (iv_lit (l := 0) (h := 0) (by decide)) (iv_top x2) (by decide)) k_tv0f_deeds (by decide)) (by decide), ?_⟩
        exact hpost _ (iv_w (k_tv0a_kinds _) (by decide))
      · skip
        refine ⟨iv_in (iv_lta (l := 0) (h := 39) (r_lt c2) (iv_leb (l := 0) (h := 2147483647) (r_nlt c1) (iv_lit (l := 0) (h := 0) (by decide)) (iv_top x2) (by decide)) k_tv0f_deeds (by decide)) (by decide), ?_⟩
        exact hpost _ (iv_w (k_tv0a_firsts _) (by decide))
      · skip
        refine ⟨iv_in (iv_lta (l := 0) (h := 39) (r_lt c2) (iv_leb (l := 0) (h := 2147483647) (r_nlt c1) (iv_lit (l := 0) (h := 0) (by decide)) (iv_top x2) (by decide)) k_tv0f_deeds (by decide)) (by decide), ?_⟩
        exact hpost _ (iv_w (k_tv0a_seconds _) (by decide))
    · skip
      exact s_wx_X10_deed_43 k_ta_counts k_tv0f_deeds k_tv0a_kinds k_tv0a_firsts k_tv0a_seconds k_tv1f_deeds k_tv1a_kinds k_tv1a_firsts k_tv1a_seconds hpost
set_option maxRecDepth 20000 in
theorem s_wx_X10_deed_30k1 {ta_counts : Nat → Int32} {tv0f_deeds : Int32} {tv0a_kinds : Nat → Int32} {tv0a_firsts : Nat → Int32} {tv0a_seconds : Nat → Int32} {tv1f_deeds : Int32} {tv1a_kinds : Nat → Int32} {tv1a_firsts : Nat → Int32} {tv1a_seconds : Nat → Int32} {x2 : Int32} {x3 : Int32} {post : Int32 → Prop} (k_ta_counts : ∀ j, iv 0 2 (ta_counts j)) (k_tv0f_deeds : iv 0 40 tv0f_deeds) (k_tv0a_kinds : ∀ j, iv 0 5 (tv0a_kinds j)) (k_tv0a_firsts : ∀ j, iv 0 5 (tv0a_firsts j)) (k_tv0a_seconds : ∀ j, iv (-1) 8 (tv0a_seconds j)) (k_tv1f_deeds : iv 0 40 tv1f_deeds) (k_tv1a_kinds : ∀ j, iv 0 5 (tv1a_kinds j)) (k_tv1a_firsts : ∀ j, iv 0 5 (tv1a_firsts j)) (k_tv1a_seconds : ∀ j, iv (-1) 8 (tv1a_seconds j)) (hpost : ∀ (r : Int32), iv (-2) 40 r → post r) : q_wx_X10_deed_30k1 ta_counts tv0f_deeds tv0a_kinds tv0a_firsts tv0a_seconds tv1f_deeds tv1a_kinds tv1a_firsts tv1a_seconds x2 x3 post := by
  refine ⟨fun c1 => ?_, fun c1 => ?_⟩
  · skip
    exact s_wx_X10_deed_43 k_ta_counts k_tv0f_deeds k_tv0a_kinds k_tv0a_firsts k_tv0a_seconds k_tv1f_deeds k_tv1a_kinds k_tv1a_firsts k_tv1a_seconds hpost
  · skip
    refine ⟨fun c2 => ?_, fun c2 => ?_⟩
    · skip
      refine ⟨fun c3 => ?_, fun c3 => ?_, fun c3 => ?_, fun c3 => ?_⟩
      · skip
        exact hpost _ (iv_w (iv_lit (l := (-2)) (h := (-2)) (by decide)) (by decide))
      · skip
        refine ⟨iv_in (iv_lta (l := 0) (h := 39) (r_lt c2) (iv_leb (l := 0) (h := 2147483647) (r_nlt c1) (iv_lit (l := 0) (h := 0) (by decide)) (iv_top x2) (by decide)) k_tv1f_deeds (by decide)) (by decide), ?_⟩
        exact hpost _ (iv_w (k_tv1a_kinds _) (by decide))
      · skip
        refine ⟨iv_in (iv_lta (l := 0) (h := 39) (r_lt c2) (iv_leb (l := 0) (h := 2147483647) (r_nlt c1) (iv_lit (l := 0) (h := 0) (by decide)) (iv_top x2) (by decide)) k_tv1f_deeds (by decide)) (by decide), ?_⟩
        exact hpost _ (iv_w (k_tv1a_firsts _) (by decide))
      · skip
        refine ⟨iv_in (iv_lta (l := 0) (h := 39) (r_lt c2) (iv_leb (l := 0) (h := 2147483647) (r_nlt c1) (iv_lit (l := 0) (h := 0) (by decide)) (iv_top x2) (by decide)) k_tv1f_deeds (by decide)) (by decide), ?_⟩
        exact hpost _ (iv_w (k_tv1a_seconds _) (by decide))
    · skip
      exact s_wx_X10_deed_43 k_ta_counts k_tv0f_deeds k_tv0a_kinds k_tv0a_firsts k_tv0a_seconds k_tv1f_deeds k_tv1a_kinds k_tv1a_firsts k_tv1a_seconds hpost
set_option maxRecDepth 20000 in
theorem s_wx_X10_deed_0 {ta_counts : Nat → Int32} {tv0f_deeds : Int32} {tv0a_kinds : Nat → Int32} {tv0a_firsts : Nat → Int32} {tv0a_seconds : Nat → Int32} {tv1f_deeds : Int32} {tv1a_kinds : Nat → Int32} {tv1a_firsts : Nat → Int32} {tv1a_seconds : Nat → Int32} {x1 : Int32} {x2 : Int32} {x3 : Int32} {post : Int32 → Prop} (k_ta_counts : ∀ j, iv 0 2 (ta_counts j)) (k_tv0f_deeds : iv 0 40 tv0f_deeds) (k_tv0a_kinds : ∀ j, iv 0 5 (tv0a_kinds j)) (k_tv0a_firsts : ∀ j, iv 0 5 (tv0a_firsts j)) (k_tv0a_seconds : ∀ j, iv (-1) 8 (tv0a_seconds j)) (k_tv1f_deeds : iv 0 40 tv1f_deeds) (k_tv1a_kinds : ∀ j, iv 0 5 (tv1a_kinds j)) (k_tv1a_firsts : ∀ j, iv 0 5 (tv1a_firsts j)) (k_tv1a_seconds : ∀ j, iv (-1) 8 (tv1a_seconds j)) (hpost : ∀ (r : Int32), iv (-2) 40 r → post r) : q_wx_X10_deed_0 ta_counts tv0f_deeds tv0a_kinds tv0a_firsts tv0a_seconds tv1f_deeds tv1a_kinds tv1a_firsts tv1a_seconds x1 x2 x3 post := by
  refine ⟨fun c1 => ?_, fun c1 => ?_⟩
  · skip
    refine ⟨fun _ => ?_, fun h => absurd h (by decide), fun h0 h1 => absurd rfl h0⟩
    exact hpost _ (iv_w (iv_lit (l := (-2)) (h := (-2)) (by decide)) (by decide))
  · skip
    refine ⟨fun c2 => ?_, fun c2 => ?_⟩
    · skip
      refine ⟨fun _ => ?_, fun h => absurd h (by decide), fun h0 h1 => absurd rfl h0⟩
      exact hpost _ (iv_w (iv_lit (l := (-2)) (h := (-2)) (by decide)) (by decide))
    · skip
      refine ⟨iv_in (iv_lta (l := 0) (h := 1) (r_nle c2) (iv_leb (l := 0) (h := 2147483647) (r_nlt c1) (iv_lit (l := 0) (h := 0) (by decide)) (iv_top x1) (by decide)) (k_ta_counts _) (by decide)) (by decide), fun hc => ?_, fun hc => ?_⟩
      · skip
        refine ⟨fun h => absurd h (by decide), fun h => absurd h (by decide), fun h0 h1 => ?_⟩
        refine ⟨fun c3 => ?_, fun c3 => ?_⟩
        · skip
          exact s_wx_X10_deed_30k0 k_ta_counts k_tv0f_deeds k_tv0a_kinds k_tv0a_firsts k_tv0a_seconds k_tv1f_deeds k_tv1a_kinds k_tv1a_firsts k_tv1a_seconds hpost
        · skip
          refine ⟨fun c4 => ?_, fun c4 => ?_⟩
          · skip
            exact s_wx_X10_deed_30k0 k_ta_counts k_tv0f_deeds k_tv0a_kinds k_tv0a_firsts k_tv0a_seconds k_tv1f_deeds k_tv1a_kinds k_tv1a_firsts k_tv1a_seconds hpost
          · skip
            exact hpost _ (iv_w k_tv0f_deeds (by decide))
      · skip
        refine ⟨fun h => absurd h (by decide), fun _ => ?_, fun h0 h1 => absurd rfl h1⟩
        refine ⟨fun c5 => ?_, fun c5 => ?_⟩
        · skip
          exact s_wx_X10_deed_30k1 k_ta_counts k_tv0f_deeds k_tv0a_kinds k_tv0a_firsts k_tv0a_seconds k_tv1f_deeds k_tv1a_kinds k_tv1a_firsts k_tv1a_seconds hpost
        · skip
          refine ⟨fun c6 => ?_, fun c6 => ?_⟩
          · skip
            exact s_wx_X10_deed_30k1 k_ta_counts k_tv0f_deeds k_tv0a_kinds k_tv0a_firsts k_tv0a_seconds k_tv1f_deeds k_tv1a_kinds k_tv1a_firsts k_tv1a_seconds hpost
          · skip
            exact hpost _ (iv_w k_tv1f_deeds (by decide))
-- wx_X10_stop
set_option maxRecDepth 20000 in
theorem s_wx_X10_stop_22 {ta_counts : Nat → Int32} {tl0f_huts : Int32} {tl0f_singers : Int32} {tl0f_dams : Int32} {tl0f_echoes : Int32} {tl0f_deep : Int32} {tl0a_heights : Nat → Int32} {tl0a_ladders : Nat → Int32} {tl0a_minutes : Nat → Int32} {tl0a_echoFrom : Nat → Int32} {tl0a_echoTo : Nat → Int32} {tl0a_homes : Nat → Int32} {tl0a_talls : Nat → Int32} {tl0a_known : Nat → Int32} {tl1f_huts : Int32} {tl1f_singers : Int32} {tl1f_dams : Int32} {tl1f_echoes : Int32} {tl1f_deep : Int32} {tl1a_heights : Nat → Int32} {tl1a_ladders : Nat → Int32} {tl1a_minutes : Nat → Int32} {tl1a_echoFrom : Nat → Int32} {tl1a_echoTo : Nat → Int32} {tl1a_homes : Nat → Int32} {tl1a_talls : Nat → Int32} {tl1a_known : Nat → Int32} {tv0f_deeds : Int32} {tv0a_kinds : Nat → Int32} {tv0a_firsts : Nat → Int32} {tv0a_seconds : Nat → Int32} {tv1f_deeds : Int32} {tv1a_kinds : Nat → Int32} {tv1a_firsts : Nat → Int32} {tv1a_seconds : Nat → Int32} {nf_minute : Int32} {nf_avalanches : Int32} {nf_begun : Int32} {nf_climbed : Int32} {na_huts : Nat → Int32} {na_known : Nat → Int32} {na_levels : Nat → Int32} {na_snow : Nat → Int32} {post : Int32 → (Int32) → (Int32) → (Int32) → (Int32) → (Nat → Int32) → (Nat → Int32) → (Nat → Int32) → (Nat → Int32) → Prop} (k_ta_counts : ∀ j, iv 0 2 (ta_counts j)) (k_tl0f_huts : iv 0 9 tl0f_huts) (k_tl0f_singers : iv 0 6 tl0f_singers) (k_tl0f_dams : iv 0 511 tl0f_dams) (k_tl0f_echoes : iv 0 4 tl0f_echoes) (k_tl0f_deep : iv 1 9 tl0f_deep) (k_tl0a_heights : ∀ j, iv 0 99 (tl0a_heights j)) (k_tl0a_ladders : ∀ j, iv 0 9 (tl0a_ladders j)) (k_tl0a_minutes : ∀ j, iv 0 9 (tl0a_minutes j)) (k_tl0a_echoFrom : ∀ j, iv 0 8 (tl0a_echoFrom j)) (k_tl0a_echoTo : ∀ j, iv 0 8 (tl0a_echoTo j)) (k_tl0a_homes : ∀ j, iv 0 8 (tl0a_homes j)) (k_tl0a_talls : ∀ j, iv 0 9 (tl0a_talls j)) (k_tl0a_known : ∀ j, iv 0 31 (tl0a_known j)) (k_tl1f_huts : iv 0 9 tl1f_huts) (k_tl1f_singers : iv 0 6 tl1f_singers) (k_tl1f_dams : iv 0 511 tl1f_dams) (k_tl1f_echoes : iv 0 4 tl1f_echoes) (k_tl1f_deep : iv 1 9 tl1f_deep) (k_tl1a_heights : ∀ j, iv 0 99 (tl1a_heights j)) (k_tl1a_ladders : ∀ j, iv 0 9 (tl1a_ladders j)) (k_tl1a_minutes : ∀ j, iv 0 9 (tl1a_minutes j)) (k_tl1a_echoFrom : ∀ j, iv 0 8 (tl1a_echoFrom j)) (k_tl1a_echoTo : ∀ j, iv 0 8 (tl1a_echoTo j)) (k_tl1a_homes : ∀ j, iv 0 8 (tl1a_homes j)) (k_tl1a_talls : ∀ j, iv 0 9 (tl1a_talls j)) (k_tl1a_known : ∀ j, iv 0 31 (tl1a_known j)) (k_tv0f_deeds : iv 0 40 tv0f_deeds) (k_tv0a_kinds : ∀ j, iv 0 5 (tv0a_kinds j)) (k_tv0a_firsts : ∀ j, iv 0 5 (tv0a_firsts j)) (k_tv0a_seconds : ∀ j, iv (-1) 8 (tv0a_seconds j)) (k_tv1f_deeds : iv 0 40 tv1f_deeds) (k_tv1a_kinds : ∀ j, iv 0 5 (tv1a_kinds j)) (k_tv1a_firsts : ∀ j, iv 0 5 (tv1a_firsts j)) (k_tv1a_seconds : ∀ j, iv (-1) 8 (tv1a_seconds j)) (k_nf_begun : iv 0 31 nf_begun) (k_nf_climbed : iv 0 63 nf_climbed) (k_na_huts : ∀ j, iv 0 8 (na_huts j)) (k_na_known : ∀ j, iv 0 31 (na_known j)) (k_na_levels : ∀ j, iv (-9) 122 (na_levels j)) (hpost : ∀ (r : Int32) (nf_minute : Int32) (nf_avalanches : Int32) (nf_begun : Int32) (nf_climbed : Int32) (na_huts : Nat → Int32) (na_known : Nat → Int32) (na_levels : Nat → Int32) (na_snow : Nat → Int32), iv (-1) 40 r → (iv 0 31 nf_begun) → (iv 0 63 nf_climbed) → (∀ j, iv 0 8 (na_huts j)) → (∀ j, iv 0 31 (na_known j)) → (∀ j, iv (-9) 122 (na_levels j)) → post r nf_minute nf_avalanches nf_begun nf_climbed na_huts na_known na_levels na_snow) : q_wx_X10_stop_22 ta_counts tl0f_huts tl0f_singers tl0f_dams tl0f_echoes tl0f_deep tl0a_heights tl0a_ladders tl0a_minutes tl0a_echoFrom tl0a_echoTo tl0a_homes tl0a_talls tl0a_known tl1f_huts tl1f_singers tl1f_dams tl1f_echoes tl1f_deep tl1a_heights tl1a_ladders tl1a_minutes tl1a_echoFrom tl1a_echoTo tl1a_homes tl1a_talls tl1a_known tv0f_deeds tv0a_kinds tv0a_firsts tv0a_seconds tv1f_deeds tv1a_kinds tv1a_firsts tv1a_seconds nf_minute nf_avalanches nf_begun nf_climbed na_huts na_known na_levels na_snow post := by
  exact hpost _ _ _ _ _ _ _ _ _ (iv_w (iv_lit (l := (-1)) (h := (-1)) (by decide)) (by decide)) k_nf_begun k_nf_climbed k_na_huts k_na_known k_na_levels
set_option maxRecDepth 20000 in
theorem s_wx_X10_stop_0 {ta_counts : Nat → Int32} {tl0f_huts : Int32} {tl0f_singers : Int32} {tl0f_dams : Int32} {tl0f_echoes : Int32} {tl0f_deep : Int32} {tl0a_heights : Nat → Int32} {tl0a_ladders : Nat → Int32} {tl0a_minutes : Nat → Int32} {tl0a_echoFrom : Nat → Int32} {tl0a_echoTo : Nat → Int32} {tl0a_homes : Nat → Int32} {tl0a_talls : Nat → Int32} {tl0a_known : Nat → Int32} {tl1f_huts : Int32} {tl1f_singers : Int32} {tl1f_dams : Int32} {tl1f_echoes : Int32} {tl1f_deep : Int32} {tl1a_heights : Nat → Int32} {tl1a_ladders : Nat → Int32} {tl1a_minutes : Nat → Int32} {tl1a_echoFrom : Nat → Int32} {tl1a_echoTo : Nat → Int32} {tl1a_homes : Nat → Int32} {tl1a_talls : Nat → Int32} {tl1a_known : Nat → Int32} {tv0f_deeds : Int32} {tv0a_kinds : Nat → Int32} {tv0a_firsts : Nat → Int32} {tv0a_seconds : Nat → Int32} {tv1f_deeds : Int32} {tv1a_kinds : Nat → Int32} {tv1a_firsts : Nat → Int32} {tv1a_seconds : Nat → Int32} {nf_minute : Int32} {nf_avalanches : Int32} {nf_begun : Int32} {nf_climbed : Int32} {na_huts : Nat → Int32} {na_known : Nat → Int32} {na_levels : Nat → Int32} {na_snow : Nat → Int32} {x1 : Int32} {x2 : Int32} {post : Int32 → (Int32) → (Int32) → (Int32) → (Int32) → (Nat → Int32) → (Nat → Int32) → (Nat → Int32) → (Nat → Int32) → Prop} (k_ta_counts : ∀ j, iv 0 2 (ta_counts j)) (k_tl0f_huts : iv 0 9 tl0f_huts) (k_tl0f_singers : iv 0 6 tl0f_singers) (k_tl0f_dams : iv 0 511 tl0f_dams) (k_tl0f_echoes : iv 0 4 tl0f_echoes) (k_tl0f_deep : iv 1 9 tl0f_deep) (k_tl0a_heights : ∀ j, iv 0 99 (tl0a_heights j)) (k_tl0a_ladders : ∀ j, iv 0 9 (tl0a_ladders j)) (k_tl0a_minutes : ∀ j, iv 0 9 (tl0a_minutes j)) (k_tl0a_echoFrom : ∀ j, iv 0 8 (tl0a_echoFrom j)) (k_tl0a_echoTo : ∀ j, iv 0 8 (tl0a_echoTo j)) (k_tl0a_homes : ∀ j, iv 0 8 (tl0a_homes j)) (k_tl0a_talls : ∀ j, iv 0 9 (tl0a_talls j)) (k_tl0a_known : ∀ j, iv 0 31 (tl0a_known j)) (k_tl1f_huts : iv 0 9 tl1f_huts) (k_tl1f_singers : iv 0 6 tl1f_singers) (k_tl1f_dams : iv 0 511 tl1f_dams) (k_tl1f_echoes : iv 0 4 tl1f_echoes) (k_tl1f_deep : iv 1 9 tl1f_deep) (k_tl1a_heights : ∀ j, iv 0 99 (tl1a_heights j)) (k_tl1a_ladders : ∀ j, iv 0 9 (tl1a_ladders j)) (k_tl1a_minutes : ∀ j, iv 0 9 (tl1a_minutes j)) (k_tl1a_echoFrom : ∀ j, iv 0 8 (tl1a_echoFrom j)) (k_tl1a_echoTo : ∀ j, iv 0 8 (tl1a_echoTo j)) (k_tl1a_homes : ∀ j, iv 0 8 (tl1a_homes j)) (k_tl1a_talls : ∀ j, iv 0 9 (tl1a_talls j)) (k_tl1a_known : ∀ j, iv 0 31 (tl1a_known j)) (k_tv0f_deeds : iv 0 40 tv0f_deeds) (k_tv0a_kinds : ∀ j, iv 0 5 (tv0a_kinds j)) (k_tv0a_firsts : ∀ j, iv 0 5 (tv0a_firsts j)) (k_tv0a_seconds : ∀ j, iv (-1) 8 (tv0a_seconds j)) (k_tv1f_deeds : iv 0 40 tv1f_deeds) (k_tv1a_kinds : ∀ j, iv 0 5 (tv1a_kinds j)) (k_tv1a_firsts : ∀ j, iv 0 5 (tv1a_firsts j)) (k_tv1a_seconds : ∀ j, iv (-1) 8 (tv1a_seconds j)) (k_nf_begun : iv 0 31 nf_begun) (k_nf_climbed : iv 0 63 nf_climbed) (k_na_huts : ∀ j, iv 0 8 (na_huts j)) (k_na_known : ∀ j, iv 0 31 (na_known j)) (k_na_levels : ∀ j, iv (-9) 122 (na_levels j)) (hpost : ∀ (r : Int32) (nf_minute : Int32) (nf_avalanches : Int32) (nf_begun : Int32) (nf_climbed : Int32) (na_huts : Nat → Int32) (na_known : Nat → Int32) (na_levels : Nat → Int32) (na_snow : Nat → Int32), iv (-1) 40 r → (iv 0 31 nf_begun) → (iv 0 63 nf_climbed) → (∀ j, iv 0 8 (na_huts j)) → (∀ j, iv 0 31 (na_known j)) → (∀ j, iv (-9) 122 (na_levels j)) → post r nf_minute nf_avalanches nf_begun nf_climbed na_huts na_known na_levels na_snow) : q_wx_X10_stop_0 ta_counts tl0f_huts tl0f_singers tl0f_dams tl0f_echoes tl0f_deep tl0a_heights tl0a_ladders tl0a_minutes tl0a_echoFrom tl0a_echoTo tl0a_homes tl0a_talls tl0a_known tl1f_huts tl1f_singers tl1f_dams tl1f_echoes tl1f_deep tl1a_heights tl1a_ladders tl1a_minutes tl1a_echoFrom tl1a_echoTo tl1a_homes tl1a_talls tl1a_known tv0f_deeds tv0a_kinds tv0a_firsts tv0a_seconds tv1f_deeds tv1a_kinds tv1a_firsts tv1a_seconds nf_minute nf_avalanches nf_begun nf_climbed na_huts na_known na_levels na_snow x1 x2 post := by
  refine ⟨fun c1 => ?_, fun c1 => ?_⟩
  · skip
    refine ⟨fun _ => ?_, fun h => absurd h (by decide), fun h0 h1 => absurd rfl h0⟩
    refine ⟨fun c2 => ?_, fun c2 => ?_⟩
    · skip
      refine ⟨fun _ => ?_, fun h => absurd h (by decide), fun h0 h1 => absurd rfl h0⟩
      exact s_wx_X10_stop_22 k_ta_counts k_tl0f_huts k_tl0f_singers k_tl0f_dams k_tl0f_echoes k_tl0f_deep k_tl0a_heights k_tl0a_ladders k_tl0a_minutes k_tl0a_echoFrom k_tl0a_echoTo k_tl0a_homes k_tl0a_talls k_tl0a_known k_tl1f_huts k_tl1f_singers k_tl1f_dams k_tl1f_echoes k_tl1f_deep k_tl1a_heights k_tl1a_ladders k_tl1a_minutes k_tl1a_echoFrom k_tl1a_echoTo k_tl1a_homes k_tl1a_talls k_tl1a_known k_tv0f_deeds k_tv0a_kinds k_tv0a_firsts k_tv0a_seconds k_tv1f_deeds k_tv1a_kinds k_tv1a_firsts k_tv1a_seconds k_nf_begun k_nf_climbed k_na_huts k_na_known k_na_levels hpost
    · skip
      refine ⟨fun c3 => ?_, fun c3 => ?_⟩
      · skip
        refine ⟨fun _ => ?_, fun h => absurd h (by decide), fun h0 h1 => absurd rfl h0⟩
        exact s_wx_X10_stop_22 k_ta_counts k_tl0f_huts k_tl0f_singers k_tl0f_dams k_tl0f_echoes k_tl0f_deep k_tl0a_heights k_tl0a_ladders k_tl0a_minutes k_tl0a_echoFrom k_tl0a_echoTo k_tl0a_homes k_tl0a_talls k_tl0a_known k_tl1f_huts k_tl1f_singers k_tl1f_dams k_tl1f_echoes k_tl1f_deep k_tl1a_heights k_tl1a_ladders k_tl1a_minutes k_tl1a_echoFrom k_tl1a_echoTo k_tl1a_homes k_tl1a_talls k_tl1a_known k_tv0f_deeds k_tv0a_kinds k_tv0a_firsts k_tv0a_seconds k_tv1f_deeds k_tv1a_kinds k_tv1a_firsts k_tv1a_seconds k_nf_begun k_nf_climbed k_na_huts k_na_known k_na_levels hpost
      · skip
        refine ⟨iv_in (iv_lta (l := 0) (h := 1) (r_nle c3) (iv_leb (l := 0) (h := 2147483647) (r_nlt c2) (iv_lit (l := 0) (h := 0) (by decide)) (iv_top x2) (by decide)) (k_ta_counts _) (by decide)) (by decide), fun hc => ?_, fun hc => ?_⟩
        · skip
          refine ⟨fun h => absurd h (by decide), fun h => absurd h (by decide), fun h0 h1 => ?_⟩
          exact s_wx_X10_stop_22 k_ta_counts k_tl0f_huts k_tl0f_singers k_tl0f_dams k_tl0f_echoes k_tl0f_deep k_tl0a_heights k_tl0a_ladders k_tl0a_minutes k_tl0a_echoFrom k_tl0a_echoTo k_tl0a_homes k_tl0a_talls k_tl0a_known k_tl1f_huts k_tl1f_singers k_tl1f_dams k_tl1f_echoes k_tl1f_deep k_tl1a_heights k_tl1a_ladders k_tl1a_minutes k_tl1a_echoFrom k_tl1a_echoTo k_tl1a_homes k_tl1a_talls k_tl1a_known k_tv0f_deeds k_tv0a_kinds k_tv0a_firsts k_tv0a_seconds k_tv1f_deeds k_tv1a_kinds k_tv1a_firsts k_tv1a_seconds k_nf_begun k_nf_climbed k_na_huts k_na_known k_na_levels hpost
        · skip
          refine ⟨fun h => absurd h (by decide), fun _ => ?_, fun h0 h1 => absurd rfl h1⟩
          exact s_wx_X10_stop_22 k_ta_counts k_tl0f_huts k_tl0f_singers k_tl0f_dams k_tl0f_echoes k_tl0f_deep k_tl0a_heights k_tl0a_ladders k_tl0a_minutes k_tl0a_echoFrom k_tl0a_echoTo k_tl0a_homes k_tl0a_talls k_tl0a_known k_tl1f_huts k_tl1f_singers k_tl1f_dams k_tl1f_echoes k_tl1f_deep k_tl1a_heights k_tl1a_ladders k_tl1a_minutes k_tl1a_echoFrom k_tl1a_echoTo k_tl1a_homes k_tl1a_talls k_tl1a_known k_tv0f_deeds k_tv0a_kinds k_tv0a_firsts k_tv0a_seconds k_tv1f_deeds k_tv1a_kinds k_tv1a_firsts k_tv1a_seconds k_nf_begun k_nf_climbed k_na_huts k_na_known k_na_levels hpost
  · skip
    refine ⟨fun c4 => ?_, fun c4 => ?_⟩
    · skip
      refine ⟨fun _ => ?_, fun h => absurd h (by decide), fun h0 h1 => absurd rfl h0⟩
      refine ⟨fun c5 => ?_, fun c5 => ?_⟩
      · skip
        refine ⟨fun _ => ?_, fun h => absurd h (by decide), fun h0 h1 => absurd rfl h0⟩
        exact s_wx_X10_stop_22 k_ta_counts k_tl0f_huts k_tl0f_singers k_tl0f_dams k_tl0f_echoes k_tl0f_deep k_tl0a_heights k_tl0a_ladders k_tl0a_minutes k_tl0a_echoFrom k_tl0a_echoTo k_tl0a_homes k_tl0a_talls k_tl0a_known k_tl1f_huts k_tl1f_singers k_tl1f_dams k_tl1f_echoes k_tl1f_deep k_tl1a_heights k_tl1a_ladders k_tl1a_minutes k_tl1a_echoFrom k_tl1a_echoTo k_tl1a_homes k_tl1a_talls k_tl1a_known k_tv0f_deeds k_tv0a_kinds k_tv0a_firsts k_tv0a_seconds k_tv1f_deeds k_tv1a_kinds k_tv1a_firsts k_tv1a_seconds k_nf_begun k_nf_climbed k_na_huts k_na_known k_na_levels hpost
      · skip
        refine ⟨fun c6 => ?_, fun c6 => ?_⟩
        · skip
          refine ⟨fun _ => ?_, fun h => absurd h (by decide), fun h0 h1 => absurd rfl h0⟩
          exact s_wx_X10_stop_22 k_ta_counts k_tl0f_huts k_tl0f_singers k_tl0f_dams k_tl0f_echoes k_tl0f_deep k_tl0a_heights k_tl0a_ladders k_tl0a_minutes k_tl0a_echoFrom k_tl0a_echoTo k_tl0a_homes k_tl0a_talls k_tl0a_known k_tl1f_huts k_tl1f_singers k_tl1f_dams k_tl1f_echoes k_tl1f_deep k_tl1a_heights k_tl1a_ladders k_tl1a_minutes k_tl1a_echoFrom k_tl1a_echoTo k_tl1a_homes k_tl1a_talls k_tl1a_known k_tv0f_deeds k_tv0a_kinds k_tv0a_firsts k_tv0a_seconds k_tv1f_deeds k_tv1a_kinds k_tv1a_firsts k_tv1a_seconds k_nf_begun k_nf_climbed k_na_huts k_na_known k_na_levels hpost
        · skip
          refine ⟨iv_in (iv_lta (l := 0) (h := 1) (r_nle c6) (iv_leb (l := 0) (h := 2147483647) (r_nlt c5) (iv_lit (l := 0) (h := 0) (by decide)) (iv_top x2) (by decide)) (k_ta_counts _) (by decide)) (by decide), fun hc => ?_, fun hc => ?_⟩
          · skip
            refine ⟨fun h => absurd h (by decide), fun h => absurd h (by decide), fun h0 h1 => ?_⟩
            exact s_wx_X10_stop_22 k_ta_counts k_tl0f_huts k_tl0f_singers k_tl0f_dams k_tl0f_echoes k_tl0f_deep k_tl0a_heights k_tl0a_ladders k_tl0a_minutes k_tl0a_echoFrom k_tl0a_echoTo k_tl0a_homes k_tl0a_talls k_tl0a_known k_tl1f_huts k_tl1f_singers k_tl1f_dams k_tl1f_echoes k_tl1f_deep k_tl1a_heights k_tl1a_ladders k_tl1a_minutes k_tl1a_echoFrom k_tl1a_echoTo k_tl1a_homes k_tl1a_talls k_tl1a_known k_tv0f_deeds k_tv0a_kinds k_tv0a_firsts k_tv0a_seconds k_tv1f_deeds k_tv1a_kinds k_tv1a_firsts k_tv1a_seconds k_nf_begun k_nf_climbed k_na_huts k_na_known k_na_levels hpost
          · skip
            refine ⟨fun h => absurd h (by decide), fun _ => ?_, fun h0 h1 => absurd rfl h1⟩
            exact s_wx_X10_stop_22 k_ta_counts k_tl0f_huts k_tl0f_singers k_tl0f_dams k_tl0f_echoes k_tl0f_deep k_tl0a_heights k_tl0a_ladders k_tl0a_minutes k_tl0a_echoFrom k_tl0a_echoTo k_tl0a_homes k_tl0a_talls k_tl0a_known k_tl1f_huts k_tl1f_singers k_tl1f_dams k_tl1f_echoes k_tl1f_deep k_tl1a_heights k_tl1a_ladders k_tl1a_minutes k_tl1a_echoFrom k_tl1a_echoTo k_tl1a_homes k_tl1a_talls k_tl1a_known k_tv0f_deeds k_tv0a_kinds k_tv0a_firsts k_tv0a_seconds k_tv1f_deeds k_tv1a_kinds k_tv1a_firsts k_tv1a_seconds k_nf_begun k_nf_climbed k_na_huts k_na_known k_na_levels hpost
    · skip
      refine ⟨iv_in (iv_lta (l := 0) (h := 1) (r_nle c4) (iv_leb (l := 0) (h := 2147483647) (r_nlt c1) (iv_lit (l := 0) (h := 0) (by decide)) (iv_top x1) (by decide)) (k_ta_counts _) (by decide)) (by decide), fun hc => ?_, fun hc => ?_⟩
      · skip
        refine ⟨fun h => absurd h (by decide), fun h => absurd h (by decide), fun h0 h1 => ?_⟩
        refine ⟨fun c7 => ?_, fun c7 => ?_⟩
        · skip
          refine ⟨fun _ => ?_, fun h => absurd h (by decide), fun h0 h1 => absurd rfl h0⟩
          exact s_wx_X10_stop_22 k_ta_counts k_tl0f_huts k_tl0f_singers k_tl0f_dams k_tl0f_echoes k_tl0f_deep k_tl0a_heights k_tl0a_ladders k_tl0a_minutes k_tl0a_echoFrom k_tl0a_echoTo k_tl0a_homes k_tl0a_talls k_tl0a_known k_tl1f_huts k_tl1f_singers k_tl1f_dams k_tl1f_echoes k_tl1f_deep k_tl1a_heights k_tl1a_ladders k_tl1a_minutes k_tl1a_echoFrom k_tl1a_echoTo k_tl1a_homes k_tl1a_talls k_tl1a_known k_tv0f_deeds k_tv0a_kinds k_tv0a_firsts k_tv0a_seconds k_tv1f_deeds k_tv1a_kinds k_tv1a_firsts k_tv1a_seconds k_nf_begun k_nf_climbed k_na_huts k_na_known k_na_levels hpost
        · skip
          refine ⟨fun c8 => ?_, fun c8 => ?_⟩
          · skip
            refine ⟨fun _ => ?_, fun h => absurd h (by decide), fun h0 h1 => absurd rfl h0⟩
            exact s_wx_X10_stop_22 k_ta_counts k_tl0f_huts k_tl0f_singers k_tl0f_dams k_tl0f_echoes k_tl0f_deep k_tl0a_heights k_tl0a_ladders k_tl0a_minutes k_tl0a_echoFrom k_tl0a_echoTo k_tl0a_homes k_tl0a_talls k_tl0a_known k_tl1f_huts k_tl1f_singers k_tl1f_dams k_tl1f_echoes k_tl1f_deep k_tl1a_heights k_tl1a_ladders k_tl1a_minutes k_tl1a_echoFrom k_tl1a_echoTo k_tl1a_homes k_tl1a_talls k_tl1a_known k_tv0f_deeds k_tv0a_kinds k_tv0a_firsts k_tv0a_seconds k_tv1f_deeds k_tv1a_kinds k_tv1a_firsts k_tv1a_seconds k_nf_begun k_nf_climbed k_na_huts k_na_known k_na_levels hpost
          · skip
            refine ⟨iv_in (iv_lta (l := 0) (h := 1) (r_nle c8) (iv_leb (l := 0) (h := 2147483647) (r_nlt c7) (iv_lit (l := 0) (h := 0) (by decide)) (iv_top x2) (by decide)) (k_ta_counts _) (by decide)) (by decide), fun hc => ?_, fun hc => ?_⟩
            · skip
              refine ⟨fun h => absurd h (by decide), fun h => absurd h (by decide), fun h0 h1 => ?_⟩
              refine s_wn_X3_play_6_15_0 k_nf_begun k_nf_climbed k_na_huts k_na_known k_na_levels k_tl0f_huts k_tl0f_singers k_tl0f_dams k_tl0f_echoes k_tl0f_deep k_tl0a_heights k_tl0a_ladders k_tl0a_minutes k_tl0a_echoFrom k_tl0a_echoTo k_tl0a_homes k_tl0a_talls k_tl0a_known k_tv0f_deeds k_tv0a_kinds k_tv0a_firsts k_tv0a_seconds k_tv0f_deeds (fun r9 o10 o11 o12 o13 o14 o15 o16 o17 hr9 k_o12 k_o13 k_o14 k_o15 k_o16 => ?_)
              exact hpost _ _ _ _ _ _ _ _ _ (iv_w hr9 (by decide)) k_o12 k_o13 k_o14 k_o15 k_o16
            · skip
              refine ⟨fun h => absurd h (by decide), fun _ => ?_, fun h0 h1 => absurd rfl h1⟩
              refine s_wn_X3_play_6_15_0 k_nf_begun k_nf_climbed k_na_huts k_na_known k_na_levels k_tl0f_huts k_tl0f_singers k_tl0f_dams k_tl0f_echoes k_tl0f_deep k_tl0a_heights k_tl0a_ladders k_tl0a_minutes k_tl0a_echoFrom k_tl0a_echoTo k_tl0a_homes k_tl0a_talls k_tl0a_known k_tv1f_deeds k_tv1a_kinds k_tv1a_firsts k_tv1a_seconds k_tv1f_deeds (fun r18 o19 o20 o21 o22 o23 o24 o25 o26 hr18 k_o21 k_o22 k_o23 k_o24 k_o25 => ?_)
              exact hpost _ _ _ _ _ _ _ _ _ (iv_w hr18 (by decide)) k_o21 k_o22 k_o23 k_o24 k_o25
      · skip
        refine ⟨fun h => absurd h (by decide), fun _ => ?_, fun h0 h1 => absurd rfl h1⟩
        refine ⟨fun c27 => ?_, fun c27 => ?_⟩
        · skip
          refine ⟨fun _ => ?_, fun h => absurd h (by decide), fun h0 h1 => absurd rfl h0⟩
          exact s_wx_X10_stop_22 k_ta_counts k_tl0f_huts k_tl0f_singers k_tl0f_dams k_tl0f_echoes k_tl0f_deep k_tl0a_heights k_tl0a_ladders k_tl0a_minutes k_tl0a_echoFrom k_tl0a_echoTo k_tl0a_homes k_tl0a_talls k_tl0a_known k_tl1f_huts k_tl1f_singers k_tl1f_dams k_tl1f_echoes k_tl1f_deep k_tl1a_heights k_tl1a_ladders k_tl1a_minutes k_tl1a_echoFrom k_tl1a_echoTo k_tl1a_homes k_tl1a_talls k_tl1a_known k_tv0f_deeds k_tv0a_kinds k_tv0a_firsts k_tv0a_seconds k_tv1f_deeds k_tv1a_kinds k_tv1a_firsts k_tv1a_seconds k_nf_begun k_nf_climbed k_na_huts k_na_known k_na_levels hpost
        · skip
          refine ⟨fun c28 => ?_, fun c28 => ?_⟩
          · skip
            refine ⟨fun _ => ?_, fun h => absurd h (by decide), fun h0 h1 => absurd rfl h0⟩
            exact s_wx_X10_stop_22 k_ta_counts k_tl0f_huts k_tl0f_singers k_tl0f_dams k_tl0f_echoes k_tl0f_deep k_tl0a_heights k_tl0a_ladders k_tl0a_minutes k_tl0a_echoFrom k_tl0a_echoTo k_tl0a_homes k_tl0a_talls k_tl0a_known k_tl1f_huts k_tl1f_singers k_tl1f_dams k_tl1f_echoes k_tl1f_deep k_tl1a_heights k_tl1a_ladders k_tl1a_minutes k_tl1a_echoFrom k_tl1a_echoTo k_tl1a_homes k_tl1a_talls k_tl1a_known k_tv0f_deeds k_tv0a_kinds k_tv0a_firsts k_tv0a_seconds k_tv1f_deeds k_tv1a_kinds k_tv1a_firsts k_tv1a_seconds k_nf_begun k_nf_climbed k_na_huts k_na_known k_na_levels hpost
          · skip
            refine ⟨iv_in (iv_lta (l := 0) (h := 1) (r_nle c28) (iv_leb (l := 0) (h := 2147483647) (r_nlt c27) (iv_lit (l := 0) (h := 0) (by decide)) (iv_top x2) (by decide)) (k_ta_counts _) (by decide)) (by decide), fun hc => ?_, fun hc => ?_⟩
            · skip
              refine ⟨fun h => absurd h (by decide), fun h => absurd h (by decide), fun h0 h1 => ?_⟩
              refine s_wn_X3_play_6_15_0 k_nf_begun k_nf_climbed k_na_huts k_na_known k_na_levels k_tl1f_huts k_tl1f_singers k_tl1f_dams k_tl1f_echoes k_tl1f_deep k_tl1a_heights k_tl1a_ladders k_tl1a_minutes k_tl1a_echoFrom k_tl1a_echoTo k_tl1a_homes k_tl1a_talls k_tl1a_known k_tv0f_deeds k_tv0a_kinds k_tv0a_firsts k_tv0a_seconds k_tv0f_deeds (fun r29 o30 o31 o32 o33 o34 o35 o36 o37 hr29 k_o32 k_o33 k_o34 k_o35 k_o36 => ?_)
              exact hpost _ _ _ _ _ _ _ _ _ (iv_w hr29 (by decide)) k_o32 k_o33 k_o34 k_o35 k_o36
            · skip
              refine ⟨fun h => absurd h (by decide), fun _ => ?_, fun h0 h1 => absurd rfl h1⟩
              refine s_wn_X3_play_6_15_0 k_nf_begun k_nf_climbed k_na_huts k_na_known k_na_levels k_tl1f_huts k_tl1f_singers k_tl1f_dams k_tl1f_echoes k_tl1f_deep k_tl1a_heights k_tl1a_ladders k_tl1a_minutes k_tl1a_echoFrom k_tl1a_echoTo k_tl1a_homes k_tl1a_talls k_tl1a_known k_tv1f_deeds k_tv1a_kinds k_tv1a_firsts k_tv1a_seconds k_tv1f_deeds (fun r38 o39 o40 o41 o42 o43 o44 o45 o46 hr38 k_o41 k_o42 k_o43 k_o44 k_o45 => ?_)
              exact hpost _ _ _ _ _ _ _ _ _ (iv_w hr38 (by decide)) k_o41 k_o42 k_o43 k_o44 k_o45
-- wx_X10_state
set_option maxRecDepth 20000 in
theorem s_wx_X10_state_0 {ta_counts : Nat → Int32} {tl0f_huts : Int32} {tl0f_singers : Int32} {tl0f_dams : Int32} {tl0f_echoes : Int32} {tl0f_deep : Int32} {tl0a_heights : Nat → Int32} {tl0a_ladders : Nat → Int32} {tl0a_minutes : Nat → Int32} {tl0a_echoFrom : Nat → Int32} {tl0a_echoTo : Nat → Int32} {tl0a_homes : Nat → Int32} {tl0a_talls : Nat → Int32} {tl0a_known : Nat → Int32} {tl1f_huts : Int32} {tl1f_singers : Int32} {tl1f_dams : Int32} {tl1f_echoes : Int32} {tl1f_deep : Int32} {tl1a_heights : Nat → Int32} {tl1a_ladders : Nat → Int32} {tl1a_minutes : Nat → Int32} {tl1a_echoFrom : Nat → Int32} {tl1a_echoTo : Nat → Int32} {tl1a_homes : Nat → Int32} {tl1a_talls : Nat → Int32} {tl1a_known : Nat → Int32} {tv0f_deeds : Int32} {tv0a_kinds : Nat → Int32} {tv0a_firsts : Nat → Int32} {tv0a_seconds : Nat → Int32} {tv1f_deeds : Int32} {tv1a_kinds : Nat → Int32} {tv1a_firsts : Nat → Int32} {tv1a_seconds : Nat → Int32} {nf_minute : Int32} {nf_avalanches : Int32} {nf_begun : Int32} {nf_climbed : Int32} {na_huts : Nat → Int32} {na_known : Nat → Int32} {na_levels : Nat → Int32} {na_snow : Nat → Int32} {na_open : Nat → Int32} {x1 : Int32} {x2 : Int32} {x3 : Int32} {x4 : Int32} {post : Int32 → (Int32) → (Int32) → (Int32) → (Int32) → (Nat → Int32) → (Nat → Int32) → (Nat → Int32) → (Nat → Int32) → (Nat → Int32) → Prop} (k_ta_counts : ∀ j, iv 0 2 (ta_counts j)) (k_tl0f_huts : iv 0 9 tl0f_huts) (k_tl0f_singers : iv 0 6 tl0f_singers) (k_tl0f_dams : iv 0 511 tl0f_dams) (k_tl0f_echoes : iv 0 4 tl0f_echoes) (k_tl0f_deep : iv 1 9 tl0f_deep) (k_tl0a_heights : ∀ j, iv 0 99 (tl0a_heights j)) (k_tl0a_ladders : ∀ j, iv 0 9 (tl0a_ladders j)) (k_tl0a_minutes : ∀ j, iv 0 9 (tl0a_minutes j)) (k_tl0a_echoFrom : ∀ j, iv 0 8 (tl0a_echoFrom j)) (k_tl0a_echoTo : ∀ j, iv 0 8 (tl0a_echoTo j)) (k_tl0a_homes : ∀ j, iv 0 8 (tl0a_homes j)) (k_tl0a_talls : ∀ j, iv 0 9 (tl0a_talls j)) (k_tl0a_known : ∀ j, iv 0 31 (tl0a_known j)) (k_tl1f_huts : iv 0 9 tl1f_huts) (k_tl1f_singers : iv 0 6 tl1f_singers) (k_tl1f_dams : iv 0 511 tl1f_dams) (k_tl1f_echoes : iv 0 4 tl1f_echoes) (k_tl1f_deep : iv 1 9 tl1f_deep) (k_tl1a_heights : ∀ j, iv 0 99 (tl1a_heights j)) (k_tl1a_ladders : ∀ j, iv 0 9 (tl1a_ladders j)) (k_tl1a_minutes : ∀ j, iv 0 9 (tl1a_minutes j)) (k_tl1a_echoFrom : ∀ j, iv 0 8 (tl1a_echoFrom j)) (k_tl1a_echoTo : ∀ j, iv 0 8 (tl1a_echoTo j)) (k_tl1a_homes : ∀ j, iv 0 8 (tl1a_homes j)) (k_tl1a_talls : ∀ j, iv 0 9 (tl1a_talls j)) (k_tl1a_known : ∀ j, iv 0 31 (tl1a_known j)) (k_tv0f_deeds : iv 0 40 tv0f_deeds) (k_tv0a_kinds : ∀ j, iv 0 5 (tv0a_kinds j)) (k_tv0a_firsts : ∀ j, iv 0 5 (tv0a_firsts j)) (k_tv0a_seconds : ∀ j, iv (-1) 8 (tv0a_seconds j)) (k_tv1f_deeds : iv 0 40 tv1f_deeds) (k_tv1a_kinds : ∀ j, iv 0 5 (tv1a_kinds j)) (k_tv1a_firsts : ∀ j, iv 0 5 (tv1a_firsts j)) (k_tv1a_seconds : ∀ j, iv (-1) 8 (tv1a_seconds j)) (k_nf_begun : iv 0 31 nf_begun) (k_nf_climbed : iv 0 63 nf_climbed) (k_na_huts : ∀ j, iv 0 8 (na_huts j)) (k_na_known : ∀ j, iv 0 31 (na_known j)) (k_na_levels : ∀ j, iv (-9) 122 (na_levels j)) (k_na_open : ∀ j, iv 0 511 (na_open j)) (hpost : ∀ (r : Int32) (nf_minute : Int32) (nf_avalanches : Int32) (nf_begun : Int32) (nf_climbed : Int32) (na_huts : Nat → Int32) (na_known : Nat → Int32) (na_levels : Nat → Int32) (na_snow : Nat → Int32) (na_open : Nat → Int32), (iv 0 31 nf_begun) → (iv 0 63 nf_climbed) → (∀ j, iv 0 8 (na_huts j)) → (∀ j, iv 0 31 (na_known j)) → (∀ j, iv (-9) 122 (na_levels j)) → (∀ j, iv 0 511 (na_open j)) → post r nf_minute nf_avalanches nf_begun nf_climbed na_huts na_known na_levels na_snow na_open) : q_wx_X10_state_0 ta_counts tl0f_huts tl0f_singers tl0f_dams tl0f_echoes tl0f_deep tl0a_heights tl0a_ladders tl0a_minutes tl0a_echoFrom tl0a_echoTo tl0a_homes tl0a_talls tl0a_known tl1f_huts tl1f_singers tl1f_dams tl1f_echoes tl1f_deep tl1a_heights tl1a_ladders tl1a_minutes tl1a_echoFrom tl1a_echoTo tl1a_homes tl1a_talls tl1a_known tv0f_deeds tv0a_kinds tv0a_firsts tv0a_seconds tv1f_deeds tv1a_kinds tv1a_firsts tv1a_seconds nf_minute nf_avalanches nf_begun nf_climbed na_huts na_known na_levels na_snow na_open x1 x2 x3 x4 post := by
  refine ⟨fun c1 => ?_, fun c1 => ?_⟩
  · skip
    refine ⟨fun _ => ?_, fun h => absurd h (by decide), fun h0 h1 => absurd rfl h0⟩
    refine ⟨fun c2 => ?_, fun c2 => ?_⟩
    · skip
      refine ⟨fun _ => ?_, fun h => absurd h (by decide), fun h0 h1 => absurd rfl h0⟩
      refine ⟨fun c3 => ?_, fun c3 => ?_⟩
      · skip
        exact hpost _ _ _ _ _ _ _ _ _ _ k_nf_begun k_nf_climbed k_na_huts k_na_known k_na_levels k_na_open
      · skip
        exact (iv_emp (iv_ne (l := 1) (h := 0) c3 (iv_lit (l := 0) (h := 0) (by decide)) (iv_lit (l := 0) (h := 0) (by decide)) (by decide)) (by decide)).elim
    · skip
      refine ⟨fun c4 => ?_, fun c4 => ?_⟩
      · skip
        refine ⟨fun _ => ?_, fun h => absurd h (by decide), fun h0 h1 => absurd rfl h0⟩
        refine ⟨fun c5 => ?_, fun c5 => ?_⟩
        · skip
          exact hpost _ _ _ _ _ _ _ _ _ _ k_nf_begun k_nf_climbed k_na_huts k_na_known k_na_levels k_na_open
        · skip
          exact (iv_emp (iv_ne (l := 1) (h := 0) c5 (iv_lit (l := 0) (h := 0) (by decide)) (iv_lit (l := 0) (h := 0) (by decide)) (by decide)) (by decide)).elim
      · skip
        refine ⟨iv_in (iv_lta (l := 0) (h := 1) (r_nle c4) (iv_leb (l := 0) (h := 2147483647) (r_nlt c2) (iv_lit (l := 0) (h := 0) (by decide)) (iv_top x2) (by decide)) (k_ta_counts _) (by decide)) (by decide), fun hc => ?_, fun hc => ?_⟩
        · skip
          refine ⟨fun h => absurd h (by decide), fun h => absurd h (by decide), fun h0 h1 => ?_⟩
          refine ⟨fun c6 => ?_, fun c6 => ?_⟩
          · skip
            exact hpost _ _ _ _ _ _ _ _ _ _ k_nf_begun k_nf_climbed k_na_huts k_na_known k_na_levels k_na_open
          · skip
            exact (iv_emp (iv_ne (l := 1) (h := 0) c6 (iv_lit (l := 0) (h := 0) (by decide)) (iv_lit (l := 0) (h := 0) (by decide)) (by decide)) (by decide)).elim
        · skip
          refine ⟨fun h => absurd h (by decide), fun _ => ?_, fun h0 h1 => absurd rfl h1⟩
          refine ⟨fun c7 => ?_, fun c7 => ?_⟩
          · skip
            exact hpost _ _ _ _ _ _ _ _ _ _ k_nf_begun k_nf_climbed k_na_huts k_na_known k_na_levels k_na_open
          · skip
            exact (iv_emp (iv_ne (l := 1) (h := 0) c7 (iv_lit (l := 0) (h := 0) (by decide)) (iv_lit (l := 0) (h := 0) (by decide)) (by decide)) (by decide)).elim
  · skip
    refine ⟨fun c8 => ?_, fun c8 => ?_⟩
    · skip
      refine ⟨fun _ => ?_, fun h => absurd h (by decide), fun h0 h1 => absurd rfl h0⟩
      refine ⟨fun c9 => ?_, fun c9 => ?_⟩
      · skip
        refine ⟨fun _ => ?_, fun h => absurd h (by decide), fun h0 h1 => absurd rfl h0⟩
        refine ⟨fun c10 => ?_, fun c10 => ?_⟩
        · skip
          exact hpost _ _ _ _ _ _ _ _ _ _ k_nf_begun k_nf_climbed k_na_huts k_na_known k_na_levels k_na_open
        · skip
          exact (iv_emp (iv_ne (l := 1) (h := 0) c10 (iv_lit (l := 0) (h := 0) (by decide)) (iv_lit (l := 0) (h := 0) (by decide)) (by decide)) (by decide)).elim
      · skip
        refine ⟨fun c11 => ?_, fun c11 => ?_⟩
        · skip
          refine ⟨fun _ => ?_, fun h => absurd h (by decide), fun h0 h1 => absurd rfl h0⟩
          refine ⟨fun c12 => ?_, fun c12 => ?_⟩
          · skip
            exact hpost _ _ _ _ _ _ _ _ _ _ k_nf_begun k_nf_climbed k_na_huts k_na_known k_na_levels k_na_open
          · skip
            exact (iv_emp (iv_ne (l := 1) (h := 0) c12 (iv_lit (l := 0) (h := 0) (by decide)) (iv_lit (l := 0) (h := 0) (by decide)) (by decide)) (by decide)).elim
        · skip
          refine ⟨iv_in (iv_lta (l := 0) (h := 1) (r_nle c11) (iv_leb (l := 0) (h := 2147483647) (r_nlt c9) (iv_lit (l := 0) (h := 0) (by decide)) (iv_top x2) (by decide)) (k_ta_counts _) (by decide)) (by decide), fun hc => ?_, fun hc => ?_⟩
          · skip
            refine ⟨fun h => absurd h (by decide), fun h => absurd h (by decide), fun h0 h1 => ?_⟩
            refine ⟨fun c13 => ?_, fun c13 => ?_⟩
            · skip
              exact hpost _ _ _ _ _ _ _ _ _ _ k_nf_begun k_nf_climbed k_na_huts k_na_known k_na_levels k_na_open
            · skip
              exact (iv_emp (iv_ne (l := 1) (h := 0) c13 (iv_lit (l := 0) (h := 0) (by decide)) (iv_lit (l := 0) (h := 0) (by decide)) (by decide)) (by decide)).elim
          · skip
            refine ⟨fun h => absurd h (by decide), fun _ => ?_, fun h0 h1 => absurd rfl h1⟩
            refine ⟨fun c14 => ?_, fun c14 => ?_⟩
            · skip
              exact hpost _ _ _ _ _ _ _ _ _ _ k_nf_begun k_nf_climbed k_na_huts k_na_known k_na_levels k_na_open
            · skip
              exact (iv_emp (iv_ne (l := 1) (h := 0) c14 (iv_lit (l := 0) (h := 0) (by decide)) (iv_lit (l := 0) (h := 0) (by decide)) (by decide)) (by decide)).elim
    · skip
      refine ⟨iv_in (iv_lta (l := 0) (h := 1) (r_nle c8) (iv_leb (l := 0) (h := 2147483647) (r_nlt c1) (iv_lit (l := 0) (h := 0) (by decide)) (iv_top x1) (by decide)) (k_ta_counts _) (by decide)) (by decide), fun hc => ?_, fun hc => ?_⟩
      · skip
        refine ⟨fun h => absurd h (by decide), fun h => absurd h (by decide), fun h0 h1 => ?_⟩
        refine ⟨fun c15 => ?_, fun c15 => ?_⟩
        · skip
          refine ⟨fun _ => ?_, fun h => absurd h (by decide), fun h0 h1 => absurd rfl h0⟩
          refine ⟨fun c16 => ?_, fun c16 => ?_⟩
          · skip
            exact hpost _ _ _ _ _ _ _ _ _ _ k_nf_begun k_nf_climbed k_na_huts k_na_known k_na_levels k_na_open
          · skip
            exact (iv_emp (iv_ne (l := 1) (h := 0) c16 (iv_lit (l := 0) (h := 0) (by decide)) (iv_lit (l := 0) (h := 0) (by decide)) (by decide)) (by decide)).elim
        · skip
          refine ⟨fun c17 => ?_, fun c17 => ?_⟩
          · skip
            refine ⟨fun _ => ?_, fun h => absurd h (by decide), fun h0 h1 => absurd rfl h0⟩
            refine ⟨fun c18 => ?_, fun c18 => ?_⟩
            · skip
              exact hpost _ _ _ _ _ _ _ _ _ _ k_nf_begun k_nf_climbed k_na_huts k_na_known k_na_levels k_na_open
            · skip
              exact (iv_emp (iv_ne (l := 1) (h := 0) c18 (iv_lit (l := 0) (h := 0) (by decide)) (iv_lit (l := 0) (h := 0) (by decide)) (by decide)) (by decide)).elim
          · skip
            refine ⟨iv_in (iv_lta (l := 0) (h := 1) (r_nle c17) (iv_leb (l := 0) (h := 2147483647) (r_nlt c15) (iv_lit (l := 0) (h := 0) (by decide)) (iv_top x2) (by decide)) (k_ta_counts _) (by decide)) (by decide), fun hc => ?_, fun hc => ?_⟩
            · skip
              refine ⟨fun h => absurd h (by decide), fun h => absurd h (by decide), fun h0 h1 => ?_⟩
              refine ⟨fun c19 => ?_, fun c19 => ?_⟩
              · skip
                refine ⟨fun c20 => ?_, fun c20 => ?_⟩
                · skip
                  exact hpost _ _ _ _ _ _ _ _ _ _ k_nf_begun k_nf_climbed k_na_huts k_na_known k_na_levels k_na_open
                · skip
                  exact (iv_emp (iv_ne (l := 1) (h := 0) c20 (iv_lit (l := 0) (h := 0) (by decide)) (iv_lit (l := 0) (h := 0) (by decide)) (by decide)) (by decide)).elim
              · skip
                refine ⟨fun c21 => ?_, fun c21 => ?_⟩
                · skip
                  refine s_wn_X3_play_6_15_0 k_nf_begun k_nf_climbed k_na_huts k_na_known k_na_levels k_tl0f_huts k_tl0f_singers k_tl0f_dams k_tl0f_echoes k_tl0f_deep k_tl0a_heights k_tl0a_ladders k_tl0a_minutes k_tl0a_echoFrom k_tl0a_echoTo k_tl0a_homes k_tl0a_talls k_tl0a_known k_tv0f_deeds k_tv0a_kinds k_tv0a_firsts k_tv0a_seconds (iv_lea (l := 0) (h := 40) (r_le c21) (iv_leb (l := 0) (h := 2147483647) (r_nlt c19) (iv_lit (l := 0) (h := 0) (by decide)) (iv_top x3) (by decide)) k_tv0f_deeds (by decide)) (fun r22 o23 o24 o25 o26 o27 o28 o29 o30 hr22 k_o25 k_o26 k_o27 k_o28 k_o29 => ?_)
                  refine ⟨fun c31 => ?_, fun c31 => ?_⟩
                  · skip
                    refine ⟨fun c32 => ?_, fun c32 => ?_⟩
                    · skip
                      exact hpost _ _ _ _ _ _ _ _ _ _ k_o25 k_o26 k_o27 k_o28 k_o29 k_na_open
                    · skip
                      exact (iv_emp (iv_ne (l := 1) (h := 0) c32 (iv_lit (l := 0) (h := 0) (by decide)) (iv_lit (l := 0) (h := 0) (by decide)) (by decide)) (by decide)).elim
                  · skip
                    refine ⟨fun c33 => ?_, fun c33 => ?_⟩
                    · skip
                      exact (iv_emp (iv_eqa (l := 1) (h := 0) c33 (iv_lit (l := 1) (h := 1) (by decide)) (iv_lit (l := 0) (h := 0) (by decide)) (by decide)) (by decide)).elim
                    · skip
                      refine ⟨iv_in (iv_lta (l := 0) (h := 1) (r_nle c8) (iv_leb (l := 0) (h := 2147483647) (r_nlt c1) (iv_lit (l := 0) (h := 0) (by decide)) (iv_top x1) (by decide)) (k_ta_counts _) (by decide)) (by decide), fun hc => ?_, fun hc => ?_⟩
                      · skip
                        refine s_wn_X3_look_6_0 k_o25 k_o26 k_o27 k_o28 k_o29 k_na_open k_tl0f_huts k_tl0f_singers k_tl0f_dams k_tl0f_deep k_tl0a_heights k_tl0a_ladders k_tl0a_minutes k_tl0a_talls (fun r34 o35 k_o35 => ?_)
                        exact hpost _ _ _ _ _ _ _ _ _ _ k_o25 k_o26 k_o27 k_o28 k_o29 k_o35
                      · skip
                        refine s_wn_X3_look_6_0 k_o25 k_o26 k_o27 k_o28 k_o29 k_na_open k_tl1f_huts k_tl1f_singers k_tl1f_dams k_tl1f_deep k_tl1a_heights k_tl1a_ladders k_tl1a_minutes k_tl1a_talls (fun r36 o37 k_o37 => ?_)
                        exact hpost _ _ _ _ _ _ _ _ _ _ k_o25 k_o26 k_o27 k_o28 k_o29 k_o37
                · skip
                  refine ⟨fun c38 => ?_, fun c38 => ?_⟩
                  · skip
                    exact hpost _ _ _ _ _ _ _ _ _ _ k_nf_begun k_nf_climbed k_na_huts k_na_known k_na_levels k_na_open
                  · skip
                    exact (iv_emp (iv_ne (l := 1) (h := 0) c38 (iv_lit (l := 0) (h := 0) (by decide)) (iv_lit (l := 0) (h := 0) (by decide)) (by decide)) (by decide)).elim
            · skip
              refine ⟨fun h => absurd h (by decide), fun _ => ?_, fun h0 h1 => absurd rfl h1⟩
              refine ⟨fun c39 => ?_, fun c39 => ?_⟩
              · skip
                refine ⟨fun c40 => ?_, fun c40 => ?_⟩
                · skip
                  exact hpost _ _ _ _ _ _ _ _ _ _ k_nf_begun k_nf_climbed k_na_huts k_na_known k_na_levels k_na_open
                · skip
                  exact (iv_emp (iv_ne (l := 1) (h := 0) c40 (iv_lit (l := 0) (h := 0) (by decide)) (iv_lit (l := 0) (h := 0) (by decide)) (by decide)) (by decide)).elim
              · skip
                refine ⟨fun c41 => ?_, fun c41 => ?_⟩
                · skip
                  refine s_wn_X3_play_6_15_0 k_nf_begun k_nf_climbed k_na_huts k_na_known k_na_levels k_tl0f_huts k_tl0f_singers k_tl0f_dams k_tl0f_echoes k_tl0f_deep k_tl0a_heights k_tl0a_ladders k_tl0a_minutes k_tl0a_echoFrom k_tl0a_echoTo k_tl0a_homes k_tl0a_talls k_tl0a_known k_tv1f_deeds k_tv1a_kinds k_tv1a_firsts k_tv1a_seconds (iv_lea (l := 0) (h := 40) (r_le c41) (iv_leb (l := 0) (h := 2147483647) (r_nlt c39) (iv_lit (l := 0) (h := 0) (by decide)) (iv_top x3) (by decide)) k_tv1f_deeds (by decide)) (fun r42 o43 o44 o45 o46 o47 o48 o49 o50 hr42 k_o45 k_o46 k_o47 k_o48 k_o49 => ?_)
                  refine ⟨fun c51 => ?_, fun c51 => ?_⟩
                  · skip
                    refine ⟨fun c52 => ?_, fun c52 => ?_⟩
                    · skip
                      exact hpost _ _ _ _ _ _ _ _ _ _ k_o45 k_o46 k_o47 k_o48 k_o49 k_na_open
                    · skip
                      exact (iv_emp (iv_ne (l := 1) (h := 0) c52 (iv_lit (l := 0) (h := 0) (by decide)) (iv_lit (l := 0) (h := 0) (by decide)) (by decide)) (by decide)).elim
                  · skip
                    refine ⟨fun c53 => ?_, fun c53 => ?_⟩
                    · skip
                      exact (iv_emp (iv_eqa (l := 1) (h := 0) c53 (iv_lit (l := 1) (h := 1) (by decide)) (iv_lit (l := 0) (h := 0) (by decide)) (by decide)) (by decide)).elim
                    · skip
                      refine ⟨iv_in (iv_lta (l := 0) (h := 1) (r_nle c8) (iv_leb (l := 0) (h := 2147483647) (r_nlt c1) (iv_lit (l := 0) (h := 0) (by decide)) (iv_top x1) (by decide)) (k_ta_counts _) (by decide)) (by decide), fun hc => ?_, fun hc => ?_⟩
                      · skip
                        refine s_wn_X3_look_6_0 k_o45 k_o46 k_o47 k_o48 k_o49 k_na_open k_tl0f_huts k_tl0f_singers k_tl0f_dams k_tl0f_deep k_tl0a_heights k_tl0a_ladders k_tl0a_minutes k_tl0a_talls (fun r54 o55 k_o55 => ?_)
                        exact hpost _ _ _ _ _ _ _ _ _ _ k_o45 k_o46 k_o47 k_o48 k_o49 k_o55
                      · skip
                        refine s_wn_X3_look_6_0 k_o45 k_o46 k_o47 k_o48 k_o49 k_na_open k_tl1f_huts k_tl1f_singers k_tl1f_dams k_tl1f_deep k_tl1a_heights k_tl1a_ladders k_tl1a_minutes k_tl1a_talls (fun r56 o57 k_o57 => ?_)
                        exact hpost _ _ _ _ _ _ _ _ _ _ k_o45 k_o46 k_o47 k_o48 k_o49 k_o57
                · skip
                  refine ⟨fun c58 => ?_, fun c58 => ?_⟩
                  · skip
                    exact hpost _ _ _ _ _ _ _ _ _ _ k_nf_begun k_nf_climbed k_na_huts k_na_known k_na_levels k_na_open
                  · skip
                    exact (iv_emp (iv_ne (l := 1) (h := 0) c58 (iv_lit (l := 0) (h := 0) (by decide)) (iv_lit (l := 0) (h := 0) (by decide)) (by decide)) (by decide)).elim
      · skip
        refine ⟨fun h => absurd h (by decide), fun _ => ?_, fun h0 h1 => absurd rfl h1⟩
        refine ⟨fun c59 => ?_, fun c59 => ?_⟩
        · skip
          refine ⟨fun _ => ?_, fun h => absurd h (by decide), fun h0 h1 => absurd rfl h0⟩
          refine ⟨fun c60 => ?_, fun c60 => ?_⟩
          · skip
            exact hpost _ _ _ _ _ _ _ _ _ _ k_nf_begun k_nf_climbed k_na_huts k_na_known k_na_levels k_na_open
          · skip
            exact (iv_emp (iv_ne (l := 1) (h := 0) c60 (iv_lit (l := 0) (h := 0) (by decide)) (iv_lit (l := 0) (h := 0) (by decide)) (by decide)) (by decide)).elim
        · skip
          refine ⟨fun c61 => ?_, fun c61 => ?_⟩
          · skip
            refine ⟨fun _ => ?_, fun h => absurd h (by decide), fun h0 h1 => absurd rfl h0⟩
            refine ⟨fun c62 => ?_, fun c62 => ?_⟩
            · skip
              exact hpost _ _ _ _ _ _ _ _ _ _ k_nf_begun k_nf_climbed k_na_huts k_na_known k_na_levels k_na_open
            · skip
              exact (iv_emp (iv_ne (l := 1) (h := 0) c62 (iv_lit (l := 0) (h := 0) (by decide)) (iv_lit (l := 0) (h := 0) (by decide)) (by decide)) (by decide)).elim
          · skip
            refine ⟨iv_in (iv_lta (l := 0) (h := 1) (r_nle c61) (iv_leb (l := 0) (h := 2147483647) (r_nlt c59) (iv_lit (l := 0) (h := 0) (by decide)) (iv_top x2) (by decide)) (k_ta_counts _) (by decide)) (by decide), fun hc => ?_, fun hc => ?_⟩
            · skip
              refine ⟨fun h => absurd h (by decide), fun h => absurd h (by decide), fun h0 h1 => ?_⟩
              refine ⟨fun c63 => ?_, fun c63 => ?_⟩
              · skip
                refine ⟨fun c64 => ?_, fun c64 => ?_⟩
                · skip
                  exact hpost _ _ _ _ _ _ _ _ _ _ k_nf_begun k_nf_climbed k_na_huts k_na_known k_na_levels k_na_open
                · skip
                  exact (iv_emp (iv_ne (l := 1) (h := 0) c64 (iv_lit (l := 0) (h := 0) (by decide)) (iv_lit (l := 0) (h := 0) (by decide)) (by decide)) (by decide)).elim
              · skip
                refine ⟨fun c65 => ?_, fun c65 => ?_⟩
                · skip
                  refine s_wn_X3_play_6_15_0 k_nf_begun k_nf_climbed k_na_huts k_na_known k_na_levels k_tl1f_huts k_tl1f_singers k_tl1f_dams k_tl1f_echoes k_tl1f_deep k_tl1a_heights k_tl1a_ladders k_tl1a_minutes k_tl1a_echoFrom k_tl1a_echoTo k_tl1a_homes k_tl1a_talls k_tl1a_known k_tv0f_deeds k_tv0a_kinds k_tv0a_firsts k_tv0a_seconds (iv_lea (l := 0) (h := 40) (r_le c65) (iv_leb (l := 0) (h := 2147483647) (r_nlt c63) (iv_lit (l := 0) (h := 0) (by decide)) (iv_top x3) (by decide)) k_tv0f_deeds (by decide)) (fun r66 o67 o68 o69 o70 o71 o72 o73 o74 hr66 k_o69 k_o70 k_o71 k_o72 k_o73 => ?_)
                  refine ⟨fun c75 => ?_, fun c75 => ?_⟩
                  · skip
                    refine ⟨fun c76 => ?_, fun c76 => ?_⟩
                    · skip
                      exact hpost _ _ _ _ _ _ _ _ _ _ k_o69 k_o70 k_o71 k_o72 k_o73 k_na_open
                    · skip
                      exact (iv_emp (iv_ne (l := 1) (h := 0) c76 (iv_lit (l := 0) (h := 0) (by decide)) (iv_lit (l := 0) (h := 0) (by decide)) (by decide)) (by decide)).elim
                  · skip
                    refine ⟨fun c77 => ?_, fun c77 => ?_⟩
                    · skip
                      exact (iv_emp (iv_eqa (l := 1) (h := 0) c77 (iv_lit (l := 1) (h := 1) (by decide)) (iv_lit (l := 0) (h := 0) (by decide)) (by decide)) (by decide)).elim
                    · skip
                      refine ⟨iv_in (iv_lta (l := 0) (h := 1) (r_nle c8) (iv_leb (l := 0) (h := 2147483647) (r_nlt c1) (iv_lit (l := 0) (h := 0) (by decide)) (iv_top x1) (by decide)) (k_ta_counts _) (by decide)) (by decide), fun hc => ?_, fun hc => ?_⟩
                      · skip
                        refine s_wn_X3_look_6_0 k_o69 k_o70 k_o71 k_o72 k_o73 k_na_open k_tl0f_huts k_tl0f_singers k_tl0f_dams k_tl0f_deep k_tl0a_heights k_tl0a_ladders k_tl0a_minutes k_tl0a_talls (fun r78 o79 k_o79 => ?_)
                        exact hpost _ _ _ _ _ _ _ _ _ _ k_o69 k_o70 k_o71 k_o72 k_o73 k_o79
                      · skip
                        refine s_wn_X3_look_6_0 k_o69 k_o70 k_o71 k_o72 k_o73 k_na_open k_tl1f_huts k_tl1f_singers k_tl1f_dams k_tl1f_deep k_tl1a_heights k_tl1a_ladders k_tl1a_minutes k_tl1a_talls (fun r80 o81 k_o81 => ?_)
                        exact hpost _ _ _ _ _ _ _ _ _ _ k_o69 k_o70 k_o71 k_o72 k_o73 k_o81
                · skip
                  refine ⟨fun c82 => ?_, fun c82 => ?_⟩
                  · skip
                    exact hpost _ _ _ _ _ _ _ _ _ _ k_nf_begun k_nf_climbed k_na_huts k_na_known k_na_levels k_na_open
                  · skip
                    exact (iv_emp (iv_ne (l := 1) (h := 0) c82 (iv_lit (l := 0) (h := 0) (by decide)) (iv_lit (l := 0) (h := 0) (by decide)) (by decide)) (by decide)).elim
            · skip
              refine ⟨fun h => absurd h (by decide), fun _ => ?_, fun h0 h1 => absurd rfl h1⟩
              refine ⟨fun c83 => ?_, fun c83 => ?_⟩
              · skip
                refine ⟨fun c84 => ?_, fun c84 => ?_⟩
                · skip
                  exact hpost _ _ _ _ _ _ _ _ _ _ k_nf_begun k_nf_climbed k_na_huts k_na_known k_na_levels k_na_open
                · skip
                  exact (iv_emp (iv_ne (l := 1) (h := 0) c84 (iv_lit (l := 0) (h := 0) (by decide)) (iv_lit (l := 0) (h := 0) (by decide)) (by decide)) (by decide)).elim
              · skip
                refine ⟨fun c85 => ?_, fun c85 => ?_⟩
                · skip
                  refine s_wn_X3_play_6_15_0 k_nf_begun k_nf_climbed k_na_huts k_na_known k_na_levels k_tl1f_huts k_tl1f_singers k_tl1f_dams k_tl1f_echoes k_tl1f_deep k_tl1a_heights k_tl1a_ladders k_tl1a_minutes k_tl1a_echoFrom k_tl1a_echoTo k_tl1a_homes k_tl1a_talls k_tl1a_known k_tv1f_deeds k_tv1a_kinds k_tv1a_firsts k_tv1a_seconds (iv_lea (l := 0) (h := 40) (r_le c85) (iv_leb (l := 0) (h := 2147483647) (r_nlt c83) (iv_lit (l := 0) (h := 0) (by decide)) (iv_top x3) (by decide)) k_tv1f_deeds (by decide)) (fun r86 o87 o88 o89 o90 o91 o92 o93 o94 hr86 k_o89 k_o90 k_o91 k_o92 k_o93 => ?_)
                  refine ⟨fun c95 => ?_, fun c95 => ?_⟩
                  · skip
                    refine ⟨fun c96 => ?_, fun c96 => ?_⟩
                    · skip
                      exact hpost _ _ _ _ _ _ _ _ _ _ k_o89 k_o90 k_o91 k_o92 k_o93 k_na_open
                    · skip
                      exact (iv_emp (iv_ne (l := 1) (h := 0) c96 (iv_lit (l := 0) (h := 0) (by decide)) (iv_lit (l := 0) (h := 0) (by decide)) (by decide)) (by decide)).elim
                  · skip
                    refine ⟨fun c97 => ?_, fun c97 => ?_⟩
                    · skip
                      exact (iv_emp (iv_eqa (l := 1) (h := 0) c97 (iv_lit (l := 1) (h := 1) (by decide)) (iv_lit (l := 0) (h := 0) (by decide)) (by decide)) (by decide)).elim
                    · skip
                      refine ⟨iv_in (iv_lta (l := 0) (h := 1) (r_nle c8) (iv_leb (l := 0) (h := 2147483647) (r_nlt c1) (iv_lit (l := 0) (h := 0) (by decide)) (iv_top x1) (by decide)) (k_ta_counts _) (by decide)) (by decide), fun hc => ?_, fun hc => ?_⟩
                      · skip
                        refine s_wn_X3_look_6_0 k_o89 k_o90 k_o91 k_o92 k_o93 k_na_open k_tl0f_huts k_tl0f_singers k_tl0f_dams k_tl0f_deep k_tl0a_heights k_tl0a_ladders k_tl0a_minutes k_tl0a_talls (fun r98 o99 k_o99 => ?_)
                        exact hpost _ _ _ _ _ _ _ _ _ _ k_o89 k_o90 k_o91 k_o92 k_o93 k_o99
                      · skip
                        refine s_wn_X3_look_6_0 k_o89 k_o90 k_o91 k_o92 k_o93 k_na_open k_tl1f_huts k_tl1f_singers k_tl1f_dams k_tl1f_deep k_tl1a_heights k_tl1a_ladders k_tl1a_minutes k_tl1a_talls (fun r100 o101 k_o101 => ?_)
                        exact hpost _ _ _ _ _ _ _ _ _ _ k_o89 k_o90 k_o91 k_o92 k_o93 k_o101
                · skip
                  refine ⟨fun c102 => ?_, fun c102 => ?_⟩
                  · skip
                    exact hpost _ _ _ _ _ _ _ _ _ _ k_nf_begun k_nf_climbed k_na_huts k_na_known k_na_levels k_na_open
                  · skip
                    exact (iv_emp (iv_ne (l := 1) (h := 0) c102 (iv_lit (l := 0) (h := 0) (by decide)) (iv_lit (l := 0) (h := 0) (by decide)) (by decide)) (by decide)).elim
-- wx_X10_comes
set_option maxRecDepth 20000 in
theorem s_wx_X10_comes_0 {ta_counts : Nat → Int32} {tl0f_huts : Int32} {tl0f_dams : Int32} {tl0f_echoes : Int32} {tl0a_heights : Nat → Int32} {tl0a_minutes : Nat → Int32} {tl0a_echoFrom : Nat → Int32} {tl0a_echoTo : Nat → Int32} {tl1f_huts : Int32} {tl1f_dams : Int32} {tl1f_echoes : Int32} {tl1a_heights : Nat → Int32} {tl1a_minutes : Nat → Int32} {tl1a_echoFrom : Nat → Int32} {tl1a_echoTo : Nat → Int32} {pa_heard : Nat → Int32} {x1 : Int32} {x2 : Int32} {x3 : Int32} {post : Int32 → (Nat → Int32) → Prop} (k_ta_counts : ∀ j, iv 0 2 (ta_counts j)) (k_tl0f_huts : iv 0 9 tl0f_huts) (k_tl0f_dams : iv 0 511 tl0f_dams) (k_tl0f_echoes : iv 0 4 tl0f_echoes) (k_tl0a_heights : ∀ j, iv 0 99 (tl0a_heights j)) (k_tl0a_minutes : ∀ j, iv 0 9 (tl0a_minutes j)) (k_tl0a_echoFrom : ∀ j, iv 0 8 (tl0a_echoFrom j)) (k_tl0a_echoTo : ∀ j, iv 0 8 (tl0a_echoTo j)) (k_tl1f_huts : iv 0 9 tl1f_huts) (k_tl1f_dams : iv 0 511 tl1f_dams) (k_tl1f_echoes : iv 0 4 tl1f_echoes) (k_tl1a_heights : ∀ j, iv 0 99 (tl1a_heights j)) (k_tl1a_minutes : ∀ j, iv 0 9 (tl1a_minutes j)) (k_tl1a_echoFrom : ∀ j, iv 0 8 (tl1a_echoFrom j)) (k_tl1a_echoTo : ∀ j, iv 0 8 (tl1a_echoTo j)) (k_pa_heard : ∀ j, iv 0 1000 (pa_heard j)) (hpost : ∀ (r : Int32) (pa_heard : Nat → Int32), iv (-1) 999 r → (∀ j, iv 0 1000 (pa_heard j)) → post r pa_heard) : q_wx_X10_comes_0 ta_counts tl0f_huts tl0f_dams tl0f_echoes tl0a_heights tl0a_minutes tl0a_echoFrom tl0a_echoTo tl1f_huts tl1f_dams tl1f_echoes tl1a_heights tl1a_minutes tl1a_echoFrom tl1a_echoTo pa_heard x1 x2 x3 post := by
  refine ⟨fun c1 => ?_, fun c1 => ?_⟩
  · skip
    refine ⟨fun _ => ?_, fun h => absurd h (by decide), fun h0 h1 => absurd rfl h0⟩
    exact hpost _ _ (iv_w (iv_lit (l := (-1)) (h := (-1)) (by decide)) (by decide)) k_pa_heard
  · skip
    refine ⟨fun c2 => ?_, fun c2 => ?_⟩
    · skip
      refine ⟨fun _ => ?_, fun h => absurd h (by decide), fun h0 h1 => absurd rfl h0⟩
      exact hpost _ _ (iv_w (iv_lit (l := (-1)) (h := (-1)) (by decide)) (by decide)) k_pa_heard
    · skip
      refine ⟨iv_in (iv_lta (l := 0) (h := 1) (r_nle c2) (iv_leb (l := 0) (h := 2147483647) (r_nlt c1) (iv_lit (l := 0) (h := 0) (by decide)) (iv_top x1) (by decide)) (k_ta_counts _) (by decide)) (by decide), fun hc => ?_, fun hc => ?_⟩
      · skip
        refine ⟨fun h => absurd h (by decide), fun h => absurd h (by decide), fun h0 h1 => ?_⟩
        refine ⟨fun c3 => ?_, fun c3 => ?_⟩
        · skip
          refine ⟨fun c4 => ?_, fun c4 => ?_⟩
          · skip
            exact hpost _ _ (iv_w (iv_lit (l := (-1)) (h := (-1)) (by decide)) (by decide)) k_pa_heard
          · skip
            exact (iv_emp (iv_ne (l := 1) (h := 0) c4 (iv_lit (l := 0) (h := 0) (by decide)) (iv_lit (l := 0) (h := 0) (by decide)) (by decide)) (by decide)).elim
        · skip
          refine ⟨fun c5 => ?_, fun c5 => ?_⟩
          · skip
            refine ⟨fun c6 => ?_, fun c6 => ?_⟩
            · skip
              exact hpost _ _ (iv_w (iv_lit (l := (-1)) (h := (-1)) (by decide)) (by decide)) k_pa_heard
            · skip
              exact (iv_emp (iv_ne (l := 1) (h := 0) c6 (iv_lit (l := 0) (h := 0) (by decide)) (iv_lit (l := 0) (h := 0) (by decide)) (by decide)) (by decide)).elim
          · skip
            refine ⟨fun c7 => ?_, fun c7 => ?_⟩
            · skip
              exact (iv_emp (iv_eqa (l := 1) (h := 0) c7 (iv_lit (l := 1) (h := 1) (by decide)) (iv_lit (l := 0) (h := 0) (by decide)) (by decide)) (by decide)).elim
            · skip
              refine ⟨fun c8 => ?_, fun c8 => ?_⟩
              · skip
                refine ⟨fun c9 => ?_, fun c9 => ?_⟩
                · skip
                  exact (iv_emp (iv_ne (l := 1) (h := 0) c9 (iv_lit (l := 0) (h := 0) (by decide)) (iv_lit (l := 0) (h := 0) (by decide)) (by decide)) (by decide)).elim
                · skip
                  exact hpost _ _ (iv_w (iv_lit (l := (-1)) (h := (-1)) (by decide)) (by decide)) k_pa_heard
              · skip
                refine ⟨fun c10 => ?_, fun c10 => ?_⟩
                · skip
                  refine ⟨fun c11 => ?_, fun c11 => ?_⟩
                  · skip
                    exact (iv_emp (iv_ne (l := 1) (h := 0) c11 (iv_lit (l := 0) (h := 0) (by decide)) (iv_lit (l := 0) (h := 0) (by decide)) (by decide)) (by decide)).elim
                  · skip
                    exact hpost _ _ (iv_w (iv_lit (l := (-1)) (h := (-1)) (by decide)) (by decide)) k_pa_heard
                · skip
                  refine ⟨fun c12 => ?_, fun c12 => ?_⟩
                  · skip
                    refine s_wp_X7_hear_9_0 k_pa_heard (iv_w (iv_ltb (l := 1) (h := 9) (r_nle c5) (iv_leb (l := 0) (h := 2147483647) (r_nlt c3) (iv_lit (l := 0) (h := 0) (by decide)) (iv_top x2) (by decide)) k_tl0f_huts (by decide)) (by decide)) k_tl0f_dams k_tl0f_echoes k_tl0a_heights k_tl0a_minutes k_tl0a_echoFrom k_tl0a_echoTo (fun o13 k_o13 => ?_)
                    refine ⟨iv_in (iv_add (l := 0) (h := 80) (iv_mul (l := 0) (h := 72) (iv_lta (l := 0) (h := 8) (r_nle c5) (iv_leb (l := 0) (h := 2147483647) (r_nlt c3) (iv_lit (l := 0) (h := 0) (by decide)) (iv_top x2) (by decide)) k_tl0f_huts (by decide)) (iv_lit (l := 9) (h := 9) (by decide)) (by decide)) (iv_lta (l := 0) (h := 8) (r_nle c10) (iv_leb (l := 0) (h := 2147483647) (r_nlt c8) (iv_lit (l := 0) (h := 0) (by decide)) (iv_top x3) (by decide)) (iv_ltb (l := 1) (h := 9) (r_nle c5) (iv_leb (l := 0) (h := 2147483647) (r_nlt c3) (iv_lit (l := 0) (h := 0) (by decide)) (iv_top x2) (by decide)) k_tl0f_huts (by decide)) (by decide)) (by decide)) (by decide), ?_⟩
                    refine ⟨fun c14 => ?_, fun c14 => ?_⟩
                    · skip
                      exact hpost _ _ (iv_w (iv_lit (l := (-1)) (h := (-1)) (by decide)) (by decide)) k_o13
                    · skip
                      exact hpost _ _ (iv_w (iv_lta (l := 0) (h := 999) (r_nle c14) (k_o13 _) (iv_lit (l := 1000) (h := 1000) (by decide)) (by decide)) (by decide)) k_o13
                  · skip
                    exact (iv_emp (iv_eqa (l := 1) (h := 0) c12 (iv_lit (l := 1) (h := 1) (by decide)) (iv_lit (l := 0) (h := 0) (by decide)) (by decide)) (by decide)).elim
      · skip
        refine ⟨fun h => absurd h (by decide), fun _ => ?_, fun h0 h1 => absurd rfl h1⟩
        refine ⟨fun c15 => ?_, fun c15 => ?_⟩
        · skip
          refine ⟨fun c16 => ?_, fun c16 => ?_⟩
          · skip
            exact hpost _ _ (iv_w (iv_lit (l := (-1)) (h := (-1)) (by decide)) (by decide)) k_pa_heard
          · skip
            exact (iv_emp (iv_ne (l := 1) (h := 0) c16 (iv_lit (l := 0) (h := 0) (by decide)) (iv_lit (l := 0) (h := 0) (by decide)) (by decide)) (by decide)).elim
        · skip
          refine ⟨fun c17 => ?_, fun c17 => ?_⟩
          · skip
            refine ⟨fun c18 => ?_, fun c18 => ?_⟩
            · skip
              exact hpost _ _ (iv_w (iv_lit (l := (-1)) (h := (-1)) (by decide)) (by decide)) k_pa_heard
            · skip
              exact (iv_emp (iv_ne (l := 1) (h := 0) c18 (iv_lit (l := 0) (h := 0) (by decide)) (iv_lit (l := 0) (h := 0) (by decide)) (by decide)) (by decide)).elim
          · skip
            refine ⟨fun c19 => ?_, fun c19 => ?_⟩
            · skip
              exact (iv_emp (iv_eqa (l := 1) (h := 0) c19 (iv_lit (l := 1) (h := 1) (by decide)) (iv_lit (l := 0) (h := 0) (by decide)) (by decide)) (by decide)).elim
            · skip
              refine ⟨fun c20 => ?_, fun c20 => ?_⟩
              · skip
                refine ⟨fun c21 => ?_, fun c21 => ?_⟩
                · skip
                  exact (iv_emp (iv_ne (l := 1) (h := 0) c21 (iv_lit (l := 0) (h := 0) (by decide)) (iv_lit (l := 0) (h := 0) (by decide)) (by decide)) (by decide)).elim
                · skip
                  exact hpost _ _ (iv_w (iv_lit (l := (-1)) (h := (-1)) (by decide)) (by decide)) k_pa_heard
              · skip
                refine ⟨fun c22 => ?_, fun c22 => ?_⟩
                · skip
                  refine ⟨fun c23 => ?_, fun c23 => ?_⟩
                  · skip
                    exact (iv_emp (iv_ne (l := 1) (h := 0) c23 (iv_lit (l := 0) (h := 0) (by decide)) (iv_lit (l := 0) (h := 0) (by decide)) (by decide)) (by decide)).elim
                  · skip
                    exact hpost _ _ (iv_w (iv_lit (l := (-1)) (h := (-1)) (by decide)) (by decide)) k_pa_heard
                · skip
                  refine ⟨fun c24 => ?_, fun c24 => ?_⟩
                  · skip
                    refine s_wp_X7_hear_9_0 k_pa_heard (iv_w (iv_ltb (l := 1) (h := 9) (r_nle c17) (iv_leb (l := 0) (h := 2147483647) (r_nlt c15) (iv_lit (l := 0) (h := 0) (by decide)) (iv_top x2) (by decide)) k_tl1f_huts (by decide)) (by decide)) k_tl1f_dams k_tl1f_echoes k_tl1a_heights k_tl1a_minutes k_tl1a_echoFrom k_tl1a_echoTo (fun o25 k_o25 => ?_)
                    refine ⟨iv_in (iv_add (l := 0) (h := 80) (iv_mul (l := 0) (h := 72) (iv_lta (l := 0) (h := 8) (r_nle c17) (iv_leb (l := 0) (h := 2147483647) (r_nlt c15) (iv_lit (l := 0) (h := 0) (by decide)) (iv_top x2) (by decide)) k_tl1f_huts (by decide)) (iv_lit (l := 9) (h := 9) (by decide)) (by decide)) (iv_lta (l := 0) (h := 8) (r_nle c22) (iv_leb (l := 0) (h := 2147483647) (r_nlt c20) (iv_lit (l := 0) (h := 0) (by decide)) (iv_top x3) (by decide)) (iv_ltb (l := 1) (h := 9) (r_nle c17) (iv_leb (l := 0) (h := 2147483647) (r_nlt c15) (iv_lit (l := 0) (h := 0) (by decide)) (iv_top x2) (by decide)) k_tl1f_huts (by decide)) (by decide)) (by decide)) (by decide), ?_⟩
                    refine ⟨fun c26 => ?_, fun c26 => ?_⟩
                    · skip
                      exact hpost _ _ (iv_w (iv_lit (l := (-1)) (h := (-1)) (by decide)) (by decide)) k_o25
                    · skip
                      exact hpost _ _ (iv_w (iv_lta (l := 0) (h := 999) (r_nle c26) (k_o25 _) (iv_lit (l := 1000) (h := 1000) (by decide)) (by decide)) (by decide)) k_o25
                  · skip
                    exact (iv_emp (iv_eqa (l := 1) (h := 0) c24 (iv_lit (l := 1) (h := 1) (by decide)) (iv_lit (l := 0) (h := 0) (by decide)) (by decide)) (by decide)).elim
-- wx_X10_villages
set_option maxRecDepth 20000 in
theorem s_wx_X10_villages_0 {ta_counts : Nat → Int32} {tl0f_huts : Int32} {tl0f_villages : Int32} {tl0f_dams : Int32} {tl0f_echoes : Int32} {tl0a_heights : Nat → Int32} {tl0a_minutes : Nat → Int32} {tl0a_echoFrom : Nat → Int32} {tl0a_echoTo : Nat → Int32} {tl1f_huts : Int32} {tl1f_villages : Int32} {tl1f_dams : Int32} {tl1f_echoes : Int32} {tl1a_heights : Nat → Int32} {tl1a_minutes : Nat → Int32} {tl1a_echoFrom : Nat → Int32} {tl1a_echoTo : Nat → Int32} {pa_heard : Nat → Int32} {pa_cover : Nat → Int32} {x1 : Int32} {x2 : Int32} {x3 : Int32} {post : Int32 → (Nat → Int32) → (Nat → Int32) → Prop} (k_ta_counts : ∀ j, iv 0 2 (ta_counts j)) (k_tl0f_huts : iv 0 9 tl0f_huts) (k_tl0f_villages : iv 0 511 tl0f_villages) (k_tl0f_dams : iv 0 511 tl0f_dams) (k_tl0f_echoes : iv 0 4 tl0f_echoes) (k_tl0a_heights : ∀ j, iv 0 99 (tl0a_heights j)) (k_tl0a_minutes : ∀ j, iv 0 9 (tl0a_minutes j)) (k_tl0a_echoFrom : ∀ j, iv 0 8 (tl0a_echoFrom j)) (k_tl0a_echoTo : ∀ j, iv 0 8 (tl0a_echoTo j)) (k_tl1f_huts : iv 0 9 tl1f_huts) (k_tl1f_villages : iv 0 511 tl1f_villages) (k_tl1f_dams : iv 0 511 tl1f_dams) (k_tl1f_echoes : iv 0 4 tl1f_echoes) (k_tl1a_heights : ∀ j, iv 0 99 (tl1a_heights j)) (k_tl1a_minutes : ∀ j, iv 0 9 (tl1a_minutes j)) (k_tl1a_echoFrom : ∀ j, iv 0 8 (tl1a_echoFrom j)) (k_tl1a_echoTo : ∀ j, iv 0 8 (tl1a_echoTo j)) (k_pa_heard : ∀ j, iv 0 1000 (pa_heard j)) (k_pa_cover : ∀ j, iv 0 511 (pa_cover j)) (hpost : ∀ (r : Int32) (pa_heard : Nat → Int32) (pa_cover : Nat → Int32), iv (-2) 2147483647 r → (∀ j, iv 0 1000 (pa_heard j)) → (∀ j, iv 0 511 (pa_cover j)) → post r pa_heard pa_cover) : q_wx_X10_villages_0 ta_counts tl0f_huts tl0f_villages tl0f_dams tl0f_echoes tl0a_heights tl0a_minutes tl0a_echoFrom tl0a_echoTo tl1f_huts tl1f_villages tl1f_dams tl1f_echoes tl1a_heights tl1a_minutes tl1a_echoFrom tl1a_echoTo pa_heard pa_cover x1 x2 x3 post := by
  refine ⟨fun c1 => ?_, fun c1 => ?_⟩
  · skip
    refine ⟨fun _ => ?_, fun h => absurd h (by decide), fun h0 h1 => absurd rfl h0⟩
    exact hpost _ _ _ (iv_w (iv_lit (l := (-2)) (h := (-2)) (by decide)) (by decide)) k_pa_heard k_pa_cover
  · skip
    refine ⟨fun c2 => ?_, fun c2 => ?_⟩
    · skip
      refine ⟨fun _ => ?_, fun h => absurd h (by decide), fun h0 h1 => absurd rfl h0⟩
      exact hpost _ _ _ (iv_w (iv_lit (l := (-2)) (h := (-2)) (by decide)) (by decide)) k_pa_heard k_pa_cover
    · skip
      refine ⟨iv_in (iv_lta (l := 0) (h := 1) (r_nle c2) (iv_leb (l := 0) (h := 2147483647) (r_nlt c1) (iv_lit (l := 0) (h := 0) (by decide)) (iv_top x1) (by decide)) (k_ta_counts _) (by decide)) (by decide), fun hc => ?_, fun hc => ?_⟩
      · skip
        refine ⟨fun h => absurd h (by decide), fun h => absurd h (by decide), fun h0 h1 => ?_⟩
        refine ⟨fun c3 => ?_, fun c3 => ?_⟩
        · skip
          exact hpost _ _ _ (iv_w (iv_lit (l := (-2)) (h := (-2)) (by decide)) (by decide)) k_pa_heard k_pa_cover
        · skip
          refine ⟨fun c4 => ?_, fun c4 => ?_⟩
          · skip
            exact hpost _ _ _ (iv_w (iv_lit (l := (-2)) (h := (-2)) (by decide)) (by decide)) k_pa_heard k_pa_cover
          · skip
            refine ⟨fun c5 => ?_, fun c5 => ?_⟩
            · skip
              exact hpost _ _ _ (iv_w (iv_lit (l := (-2)) (h := (-2)) (by decide)) (by decide)) k_pa_heard k_pa_cover
            · skip
              refine ⟨fun c6 => ?_, fun c6 => ?_⟩
              · skip
                refine s_wp_X7_hear_9_0 k_pa_heard k_tl0f_huts k_tl0f_dams k_tl0f_echoes k_tl0a_heights k_tl0a_minutes k_tl0a_echoFrom k_tl0a_echoTo (fun o7 k_o7 => ?_)
                refine ⟨fun c8 => ?_, fun c8 => ?_⟩
                · skip
                  refine s_wp_X7_coverBy_1_0 k_o7 k_pa_cover k_tl0f_huts (iv_lea (l := 0) (h := 99) (r_nlt c4) (iv_leb (l := 0) (h := 2147483647) (r_nlt c3) (iv_lit (l := 0) (h := 0) (by decide)) (iv_top x2) (by decide)) (iv_lit (l := 99) (h := 99) (by decide)) (by decide)) (fun o9 k_o9 => ?_)
                  refine s_wp_X7_fewestCovering_0 k_o9 k_tl0f_villages k_tl0f_huts (fun r10 hr10 => ?_)
                  exact hpost _ _ _ (iv_w hr10 (by decide)) k_o7 k_o9
                · skip
                  refine s_wp_X7_allBy_9_0 k_o7 k_tl0f_huts k_tl0f_villages k_tl0f_dams (iv_lea (l := 0) (h := 99) (r_nlt c4) (iv_leb (l := 0) (h := 2147483647) (r_nlt c3) (iv_lit (l := 0) (h := 0) (by decide)) (iv_top x2) (by decide)) (iv_lit (l := 99) (h := 99) (by decide)) (by decide)) (fun r11 hr11 => ?_)
                  exact hpost _ _ _ (iv_w hr11 (by decide)) k_o7 k_pa_cover
              · skip
                exact hpost _ _ _ (iv_w (iv_lit (l := (-2)) (h := (-2)) (by decide)) (by decide)) k_pa_heard k_pa_cover
      · skip
        refine ⟨fun h => absurd h (by decide), fun _ => ?_, fun h0 h1 => absurd rfl h1⟩
        refine ⟨fun c12 => ?_, fun c12 => ?_⟩
        · skip
          exact hpost _ _ _ (iv_w (iv_lit (l := (-2)) (h := (-2)) (by decide)) (by decide)) k_pa_heard k_pa_cover
        · skip
          refine ⟨fun c13 => ?_, fun c13 => ?_⟩
          · skip
            exact hpost _ _ _ (iv_w (iv_lit (l := (-2)) (h := (-2)) (by decide)) (by decide)) k_pa_heard k_pa_cover
          · skip
            refine ⟨fun c14 => ?_, fun c14 => ?_⟩
            · skip
              exact hpost _ _ _ (iv_w (iv_lit (l := (-2)) (h := (-2)) (by decide)) (by decide)) k_pa_heard k_pa_cover
            · skip
              refine ⟨fun c15 => ?_, fun c15 => ?_⟩
              · skip
                refine s_wp_X7_hear_9_0 k_pa_heard k_tl1f_huts k_tl1f_dams k_tl1f_echoes k_tl1a_heights k_tl1a_minutes k_tl1a_echoFrom k_tl1a_echoTo (fun o16 k_o16 => ?_)
                refine ⟨fun c17 => ?_, fun c17 => ?_⟩
                · skip
                  refine s_wp_X7_coverBy_1_0 k_o16 k_pa_cover k_tl1f_huts (iv_lea (l := 0) (h := 99) (r_nlt c13) (iv_leb (l := 0) (h := 2147483647) (r_nlt c12) (iv_lit (l := 0) (h := 0) (by decide)) (iv_top x2) (by decide)) (iv_lit (l := 99) (h := 99) (by decide)) (by decide)) (fun o18 k_o18 => ?_)
                  refine s_wp_X7_fewestCovering_0 k_o18 k_tl1f_villages k_tl1f_huts (fun r19 hr19 => ?_)
                  exact hpost _ _ _ (iv_w hr19 (by decide)) k_o16 k_o18
                · skip
                  refine s_wp_X7_allBy_9_0 k_o16 k_tl1f_huts k_tl1f_villages k_tl1f_dams (iv_lea (l := 0) (h := 99) (r_nlt c13) (iv_leb (l := 0) (h := 2147483647) (r_nlt c12) (iv_lit (l := 0) (h := 0) (by decide)) (iv_top x2) (by decide)) (iv_lit (l := 99) (h := 99) (by decide)) (by decide)) (fun r20 hr20 => ?_)
                  exact hpost _ _ _ (iv_w hr20 (by decide)) k_o16 k_pa_cover
              · skip
                exact hpost _ _ _ (iv_w (iv_lit (l := (-2)) (h := (-2)) (by decide)) (by decide)) k_pa_heard k_pa_cover
-- wx_X10_best
set_option maxRecDepth 20000 in
theorem s_wx_X10_best_40 {ta_counts : Nat → Int32} {tl0f_huts : Int32} {tl0f_villages : Int32} {tl0f_dams : Int32} {tl0f_echoes : Int32} {tl0a_heights : Nat → Int32} {tl0a_minutes : Nat → Int32} {tl0a_echoFrom : Nat → Int32} {tl0a_echoTo : Nat → Int32} {tl1f_huts : Int32} {tl1f_villages : Int32} {tl1f_dams : Int32} {tl1f_echoes : Int32} {tl1a_heights : Nat → Int32} {tl1a_minutes : Nat → Int32} {tl1a_echoFrom : Nat → Int32} {tl1a_echoTo : Nat → Int32} {pa_heard : Nat → Int32} {x4 : Int32} {post : Int32 → (Nat → Int32) → Prop} (k_ta_counts : ∀ j, iv 0 2 (ta_counts j)) (k_tl0f_huts : iv 0 9 tl0f_huts) (k_tl0f_villages : iv 0 511 tl0f_villages) (k_tl0f_dams : iv 0 511 tl0f_dams) (k_tl0f_echoes : iv 0 4 tl0f_echoes) (k_tl0a_heights : ∀ j, iv 0 99 (tl0a_heights j)) (k_tl0a_minutes : ∀ j, iv 0 9 (tl0a_minutes j)) (k_tl0a_echoFrom : ∀ j, iv 0 8 (tl0a_echoFrom j)) (k_tl0a_echoTo : ∀ j, iv 0 8 (tl0a_echoTo j)) (k_tl1f_huts : iv 0 9 tl1f_huts) (k_tl1f_villages : iv 0 511 tl1f_villages) (k_tl1f_dams : iv 0 511 tl1f_dams) (k_tl1f_echoes : iv 0 4 tl1f_echoes) (k_tl1a_heights : ∀ j, iv 0 99 (tl1a_heights j)) (k_tl1a_minutes : ∀ j, iv 0 9 (tl1a_minutes j)) (k_tl1a_echoFrom : ∀ j, iv 0 8 (tl1a_echoFrom j)) (k_tl1a_echoTo : ∀ j, iv 0 8 (tl1a_echoTo j)) (k_pa_heard : ∀ j, iv 0 1000 (pa_heard j)) (hx4 : iv (-1) 8 x4) (hpost : ∀ (r : Int32) (pa_heard : Nat → Int32), iv (-1) 1000 r → (∀ j, iv 0 1000 (pa_heard j)) → post r pa_heard) : q_wx_X10_best_40 ta_counts tl0f_huts tl0f_villages tl0f_dams tl0f_echoes tl0a_heights tl0a_minutes tl0a_echoFrom tl0a_echoTo tl1f_huts tl1f_villages tl1f_dams tl1f_echoes tl1a_heights tl1a_minutes tl1a_echoFrom tl1a_echoTo pa_heard x4 post := by
  exact hpost _ _ (iv_w hx4 (by decide)) k_pa_heard
set_option maxRecDepth 20000 in
theorem s_wx_X10_best_0 {ta_counts : Nat → Int32} {tl0f_huts : Int32} {tl0f_villages : Int32} {tl0f_dams : Int32} {tl0f_echoes : Int32} {tl0a_heights : Nat → Int32} {tl0a_minutes : Nat → Int32} {tl0a_echoFrom : Nat → Int32} {tl0a_echoTo : Nat → Int32} {tl1f_huts : Int32} {tl1f_villages : Int32} {tl1f_dams : Int32} {tl1f_echoes : Int32} {tl1a_heights : Nat → Int32} {tl1a_minutes : Nat → Int32} {tl1a_echoFrom : Nat → Int32} {tl1a_echoTo : Nat → Int32} {pa_heard : Nat → Int32} {x1 : Int32} {x2 : Int32} {post : Int32 → (Nat → Int32) → Prop} (k_ta_counts : ∀ j, iv 0 2 (ta_counts j)) (k_tl0f_huts : iv 0 9 tl0f_huts) (k_tl0f_villages : iv 0 511 tl0f_villages) (k_tl0f_dams : iv 0 511 tl0f_dams) (k_tl0f_echoes : iv 0 4 tl0f_echoes) (k_tl0a_heights : ∀ j, iv 0 99 (tl0a_heights j)) (k_tl0a_minutes : ∀ j, iv 0 9 (tl0a_minutes j)) (k_tl0a_echoFrom : ∀ j, iv 0 8 (tl0a_echoFrom j)) (k_tl0a_echoTo : ∀ j, iv 0 8 (tl0a_echoTo j)) (k_tl1f_huts : iv 0 9 tl1f_huts) (k_tl1f_villages : iv 0 511 tl1f_villages) (k_tl1f_dams : iv 0 511 tl1f_dams) (k_tl1f_echoes : iv 0 4 tl1f_echoes) (k_tl1a_heights : ∀ j, iv 0 99 (tl1a_heights j)) (k_tl1a_minutes : ∀ j, iv 0 9 (tl1a_minutes j)) (k_tl1a_echoFrom : ∀ j, iv 0 8 (tl1a_echoFrom j)) (k_tl1a_echoTo : ∀ j, iv 0 8 (tl1a_echoTo j)) (k_pa_heard : ∀ j, iv 0 1000 (pa_heard j)) (hpost : ∀ (r : Int32) (pa_heard : Nat → Int32), iv (-1) 1000 r → (∀ j, iv 0 1000 (pa_heard j)) → post r pa_heard) : q_wx_X10_best_0 ta_counts tl0f_huts tl0f_villages tl0f_dams tl0f_echoes tl0a_heights tl0a_minutes tl0a_echoFrom tl0a_echoTo tl1f_huts tl1f_villages tl1f_dams tl1f_echoes tl1a_heights tl1a_minutes tl1a_echoFrom tl1a_echoTo pa_heard x1 x2 post := by
  refine ⟨fun c1 => ?_, fun c1 => ?_⟩
  · skip
    refine ⟨fun _ => ?_, fun h => absurd h (by decide), fun h0 h1 => absurd rfl h0⟩
    exact hpost _ _ (iv_w (iv_lit (l := (-1)) (h := (-1)) (by decide)) (by decide)) k_pa_heard
  · skip
    refine ⟨fun c2 => ?_, fun c2 => ?_⟩
    · skip
      refine ⟨fun _ => ?_, fun h => absurd h (by decide), fun h0 h1 => absurd rfl h0⟩
      exact hpost _ _ (iv_w (iv_lit (l := (-1)) (h := (-1)) (by decide)) (by decide)) k_pa_heard
    · skip
      refine ⟨iv_in (iv_lta (l := 0) (h := 1) (r_nle c2) (iv_leb (l := 0) (h := 2147483647) (r_nlt c1) (iv_lit (l := 0) (h := 0) (by decide)) (iv_top x1) (by decide)) (k_ta_counts _) (by decide)) (by decide), fun hc => ?_, fun hc => ?_⟩
      · skip
        refine ⟨fun h => absurd h (by decide), fun h => absurd h (by decide), fun h0 h1 => ?_⟩
        refine s_wp_X7_hear_9_0 k_pa_heard k_tl0f_huts k_tl0f_dams k_tl0f_echoes k_tl0a_heights k_tl0a_minutes k_tl0a_echoFrom k_tl0a_echoTo (fun o3 k_o3 => ?_)
        refine s_wp_X7_bestHut_9_0 k_o3 k_tl0f_huts k_tl0f_villages k_tl0f_dams (fun r4 hr4 => ?_)
        refine ⟨fun c5 => ?_, fun c5 => ?_⟩
        · skip
          exact s_wx_X10_best_40 k_ta_counts k_tl0f_huts k_tl0f_villages k_tl0f_dams k_tl0f_echoes k_tl0a_heights k_tl0a_minutes k_tl0a_echoFrom k_tl0a_echoTo k_tl1f_huts k_tl1f_villages k_tl1f_dams k_tl1f_echoes k_tl1a_heights k_tl1a_minutes k_tl1a_echoFrom k_tl1a_echoTo k_o3 (iv_w (iv_eqa (l := (-1)) (h := (-1)) c5 hr4 (iv_lit (l := (-1)) (h := (-1)) (by decide)) (by decide)) (by decide)) hpost
        · skip
          refine ⟨fun c6 => ?_, fun c6 => ?_⟩
          · skip
            refine s_wp_X7_lastVillage_9_0 k_o3 k_tl0f_huts k_tl0f_villages k_tl0f_dams (iv_ne (l := 0) (h := 8) c5 hr4 (iv_lit (l := (-1)) (h := (-1)) (by decide)) (by decide)) (fun r7 hr7 => ?_)
            exact hpost _ _ (iv_w hr7 (by decide)) k_o3
          · skip
            exact s_wx_X10_best_40 k_ta_counts k_tl0f_huts k_tl0f_villages k_tl0f_dams k_tl0f_echoes k_tl0a_heights k_tl0a_minutes k_tl0a_echoFrom k_tl0a_echoTo k_tl1f_huts k_tl1f_villages k_tl1f_dams k_tl1f_echoes k_tl1a_heights k_tl1a_minutes k_tl1a_echoFrom k_tl1a_echoTo k_o3 (iv_w (iv_ne (l := 0) (h := 8) c5 hr4 (iv_lit (l := (-1)) (h := (-1)) (by decide)) (by decide)) (by decide)) hpost
      · skip
        refine ⟨fun h => absurd h (by decide), fun _ => ?_, fun h0 h1 => absurd rfl h1⟩
        refine s_wp_X7_hear_9_0 k_pa_heard k_tl1f_huts k_tl1f_dams k_tl1f_echoes k_tl1a_heights k_tl1a_minutes k_tl1a_echoFrom k_tl1a_echoTo (fun o8 k_o8 => ?_)
        refine s_wp_X7_bestHut_9_0 k_o8 k_tl1f_huts k_tl1f_villages k_tl1f_dams (fun r9 hr9 => ?_)
        refine ⟨fun c10 => ?_, fun c10 => ?_⟩
        · skip
          exact s_wx_X10_best_40 k_ta_counts k_tl0f_huts k_tl0f_villages k_tl0f_dams k_tl0f_echoes k_tl0a_heights k_tl0a_minutes k_tl0a_echoFrom k_tl0a_echoTo k_tl1f_huts k_tl1f_villages k_tl1f_dams k_tl1f_echoes k_tl1a_heights k_tl1a_minutes k_tl1a_echoFrom k_tl1a_echoTo k_o8 (iv_w (iv_eqa (l := (-1)) (h := (-1)) c10 hr9 (iv_lit (l := (-1)) (h := (-1)) (by decide)) (by decide)) (by decide)) hpost
        · skip
          refine ⟨fun c11 => ?_, fun c11 => ?_⟩
          · skip
            refine s_wp_X7_lastVillage_9_0 k_o8 k_tl1f_huts k_tl1f_villages k_tl1f_dams (iv_ne (l := 0) (h := 8) c10 hr9 (iv_lit (l := (-1)) (h := (-1)) (by decide)) (by decide)) (fun r12 hr12 => ?_)
            exact hpost _ _ (iv_w hr12 (by decide)) k_o8
          · skip
            exact s_wx_X10_best_40 k_ta_counts k_tl0f_huts k_tl0f_villages k_tl0f_dams k_tl0f_echoes k_tl0a_heights k_tl0a_minutes k_tl0a_echoFrom k_tl0a_echoTo k_tl1f_huts k_tl1f_villages k_tl1f_dams k_tl1f_echoes k_tl1a_heights k_tl1a_minutes k_tl1a_echoFrom k_tl1a_echoTo k_o8 (iv_w (iv_ne (l := 0) (h := 8) c10 hr9 (iv_lit (l := (-1)) (h := (-1)) (by decide)) (by decide)) (by decide)) hpost
end
