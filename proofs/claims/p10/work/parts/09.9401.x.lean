-- z_J6_bitCount_0f7a4
set_option maxRecDepth 20000 in
theorem s_z_J6_bitCount_0f7a4_0 {x0 : Int32} {post : Int32 → Prop} (hx0 : iv (-1) 2147483647 x0) (hpost : ∀ (r : Int32), iv 0 63 r → post r) : q_z_J6_bitCount_0f7a4_0 x0 post := by
  intro w1 ew1
  have hw1 := iv_eq ew1 (iv_sub (l := (-1431655766)) (h := 2147483647) hx0 (iv_andr (l := 0) (h := 1431655765) (iv_lit (l := 1431655765) (h := 1431655765) (by decide)) (by decide)) (by decide))
  intro w2 ew2
  have hw2 := iv_eq ew2 (iv_add (l := 0) (h := 1717986918) (iv_andr (l := 0) (h := 858993459) (iv_lit (l := 858993459) (h := 858993459) (by decide)) (by decide)) (iv_andr (l := 0) (h := 858993459) (iv_lit (l := 858993459) (h := 858993459) (by decide)) (by decide)) (by decide))
  intro w3 ew3
  have hw3 := iv_eq ew3 (iv_andr (l := 0) (h := 252645135) (iv_lit (l := 252645135) (h := 252645135) (by decide)) (by decide))
  intro w4 ew4
  intro w5 ew5
  exact hpost _ (iv_andr (l := 0) (h := 63) (iv_lit (l := 63) (h := 63) (by decide)) (by decide))
-- z_X10_power
set_option maxRecDepth 20000 in
theorem s_z_X10_power_5 {x0 : Int32} {x1 : Int32} {x2 : Int64} {x4 : Int32} {post : Int64 → Prop} (hx0 : iv 0 10 x0) (hx1 : iv (-2147483648) 18 x1) (hx4 : iv 0 18 x4) (hpost : ∀ (r : Int64), post r) : q_z_X10_power_5 x0 x1 x2 x4 post := by
  intro P hP
  have loop : ∀ (n : Nat) (x2 : Int64) (x4 : Int32), (18 - x4.toInt < (n : Int)) → (iv 0 18 x4) → P x2 x4 := by
    intro n
    induction n with
    | zero => intro x2 x4 hm hx4; exact (ms0_up hm hx4).elim
    | succ n ih =>
      intro x2 x4 hm hx4
      apply hP
      refine ⟨fun c1 => ?_, fun c1 => ?_⟩
      · skip
        exact hpost _
      · skip
        intro w2 ew2
        intro w3 ew3
        have hw3 := iv_eq ew3 (iv_add (l := 1) (h := 18) (iv_lta (l := 0) (h := 17) (r_nle c1) hx4 hx1 (by decide)) (iv_lit (l := 1) (h := 1) (by decide)) (by decide))
        exact ih _ _ (ms_up hm (inc_lt ew3 (iv_lta (l := 0) (h := 17) (r_nle c1) hx4 hx1 (by decide)) (by decide))) (iv_w hw3 (by decide))
  exact loop _ _ _ (ms_init_up _ _) hx4
set_option maxRecDepth 20000 in
theorem s_z_X10_power_0 {x0 : Int32} {x1 : Int32} {post : Int64 → Prop} (hx0 : iv 0 10 x0) (hx1 : iv (-2147483648) 18 x1) (hpost : ∀ (r : Int64), post r) : q_z_X10_power_0 x0 x1 post := by
  exact s_z_X10_power_5 hx0 hx1 (iv_w (iv_lit (l := 0) (h := 0) (by decide)) (by decide)) hpost
-- wl_X2_earshot
set_option maxRecDepth 20000 in
theorem s_wl_X2_earshot_60 {P18 : Int32 → Int32 → Prop} {f_dams : Int32} {f_echoes : Int32} {a_echoFrom : Nat → Int32} {a_echoTo : Nat → Int32} {x1 : Int32} {x2 : Int32} {x3 : Int32} {post : Int32 → Prop} (k_f_dams : iv 0 511 f_dams) (k_f_echoes : iv 1 4 f_echoes) (k_a_echoFrom : ∀ j, iv 0 8 (a_echoFrom j)) (k_a_echoTo : ∀ j, iv 0 8 (a_echoTo j)) (hx1 : iv 0 8 x1) (hx2 : iv 0 511 x2) (hx3 : iv 0 3 x3) (m18 : Int) (hm18 : m18 ≤ x3.toInt) (hP18 : ∀ (x2 : Int32) (x3 : Int32), m18 < x3.toInt → iv 0 511 x2 → iv 0 4 x3 → P18 x2 x3) (hpost : ∀ (r : Int32), iv 0 511 r → post r) : q_wl_X2_earshot_60 P18 f_dams f_echoes a_echoFrom a_echoTo x1 x2 x3 post := by
  intro w1 ew1
  have hw1 := iv_eq ew1 (iv_add (l := 1) (h := 4) hx3 (iv_lit (l := 1) (h := 1) (by decide)) (by decide))
  exact hP18 _ _ (ml_up hm18 (inc_lt ew1 hx3 (by decide))) hx2 (iv_w hw1 (by decide))
set_option maxRecDepth 20000 in
theorem s_wl_X2_earshot_18 {f_dams : Int32} {f_echoes : Int32} {a_echoFrom : Nat → Int32} {a_echoTo : Nat → Int32} {x1 : Int32} {x2 : Int32} {x3 : Int32} {post : Int32 → Prop} (k_f_dams : iv 0 511 f_dams) (k_f_echoes : iv 0 4 f_echoes) (k_a_echoFrom : ∀ j, iv 0 8 (a_echoFrom j)) (k_a_echoTo : ∀ j, iv 0 8 (a_echoTo j)) (hx1 : iv 0 8 x1) (hx2 : iv 0 511 x2) (hx3 : iv 0 4 x3) (hpost : ∀ (r : Int32), iv 0 511 r → post r) : q_wl_X2_earshot_18 f_dams f_echoes a_echoFrom a_echoTo x1 x2 x3 post := by
  intro P hP
  have loop : ∀ (n : Nat) (x2 : Int32) (x3 : Int32), (4 - x3.toInt < (n : Int)) → (iv 0 511 x2) → (iv 0 4 x3) → P x2 x3 := by
    intro n
    induction n with
    | zero => intro x2 x3 hm hx2 hx3; exact (ms0_up hm hx3).elim
    | succ n ih =>
      intro x2 x3 hm hx2 hx3
      apply hP
      refine ⟨fun c1 => ?_, fun c1 => ?_⟩
      · skip
        exact hpost _ hx2
      · skip
        refine ⟨iv_in (iv_lta (l := 0) (h := 3) (r_nle c1) hx3 k_f_echoes (by decide)) (by decide), ?_⟩
        refine ⟨fun c2 => ?_, fun c2 => ?_⟩
        · skip
          exact s_wl_X2_earshot_60 k_f_dams (iv_ltb (l := 1) (h := 4) (r_nle c1) hx3 k_f_echoes (by decide)) k_a_echoFrom k_a_echoTo hx1 hx2 (iv_lta (l := 0) (h := 3) (r_nle c1) hx3 k_f_echoes (by decide)) x3.toInt (Int.le_refl _) (fun u0 u1 hq g0 g1 => ih u0 u1 (ms_up hm hq) g0 g1) hpost
        · skip
          refine ⟨iv_in (iv_lta (l := 0) (h := 3) (r_nle c1) hx3 k_f_echoes (by decide)) (by decide), ?_⟩
          refine ⟨fun c3 => ?_, fun c3 => ?_⟩
          · skip
            refine ⟨fun c4 => ?_, fun c4 => ?_⟩
            · skip
              exact (iv_emp (iv_ne (l := 1) (h := 0) c4 (iv_lit (l := 0) (h := 0) (by decide)) (iv_lit (l := 0) (h := 0) (by decide)) (by decide)) (by decide)).elim
            · skip
              refine ⟨iv_in (iv_lta (l := 0) (h := 3) (r_nle c1) hx3 k_f_echoes (by decide)) (by decide), ?_⟩
              intro w5 ew5
              have hw5 := iv_eq ew5 (iv_or 9 (l := 0) (h := 511) hx2 (iv_shl1 (l := 1) (h := 256) (iv_lit (l := 1) (h := 1) (by decide)) (k_a_echoTo _) (by decide)) (by decide))
              exact s_wl_X2_earshot_60 k_f_dams (iv_ltb (l := 1) (h := 4) (r_nle c1) hx3 k_f_echoes (by decide)) k_a_echoFrom k_a_echoTo hx1 hw5 (iv_lta (l := 0) (h := 3) (r_nle c1) hx3 k_f_echoes (by decide)) x3.toInt (Int.le_refl _) (fun u0 u1 hq g0 g1 => ih u0 u1 (ms_up hm hq) g0 g1) hpost
          · skip
            refine ⟨fun c6 => ?_, fun c6 => ?_⟩
            · skip
              exact s_wl_X2_earshot_60 k_f_dams (iv_ltb (l := 1) (h := 4) (r_nle c1) hx3 k_f_echoes (by decide)) k_a_echoFrom k_a_echoTo hx1 hx2 (iv_lta (l := 0) (h := 3) (r_nle c1) hx3 k_f_echoes (by decide)) x3.toInt (Int.le_refl _) (fun u0 u1 hq g0 g1 => ih u0 u1 (ms_up hm hq) g0 g1) hpost
            · skip
              exact (iv_emp (iv_eqa (l := 1) (h := 0) c6 (iv_lit (l := 1) (h := 1) (by decide)) (iv_lit (l := 0) (h := 0) (by decide)) (by decide)) (by decide)).elim
  exact loop _ _ _ (ms_init_up _ _) hx2 hx3
set_option maxRecDepth 20000 in
theorem s_wl_X2_earshot_15 {f_dams : Int32} {f_echoes : Int32} {a_echoFrom : Nat → Int32} {a_echoTo : Nat → Int32} {x1 : Int32} {y0 : Int32} {post : Int32 → Prop} (k_f_dams : iv 0 511 f_dams) (k_f_echoes : iv 0 4 f_echoes) (k_a_echoFrom : ∀ j, iv 0 8 (a_echoFrom j)) (k_a_echoTo : ∀ j, iv 0 8 (a_echoTo j)) (hx1 : iv 0 8 x1) (hy0 : iv 0 256 y0) (hpost : ∀ (r : Int32), iv 0 511 r → post r) : q_wl_X2_earshot_15 f_dams f_echoes a_echoFrom a_echoTo x1 y0 post := by
  exact s_wl_X2_earshot_18 k_f_dams k_f_echoes k_a_echoFrom k_a_echoTo hx1 (iv_w hy0 (by decide)) (iv_w (iv_lit (l := 0) (h := 0) (by decide)) (by decide)) hpost
set_option maxRecDepth 20000 in
theorem s_wl_X2_earshot_0 {f_dams : Int32} {f_echoes : Int32} {a_echoFrom : Nat → Int32} {a_echoTo : Nat → Int32} {x1 : Int32} {post : Int32 → Prop} (k_f_dams : iv 0 511 f_dams) (k_f_echoes : iv 0 4 f_echoes) (k_a_echoFrom : ∀ j, iv 0 8 (a_echoFrom j)) (k_a_echoTo : ∀ j, iv 0 8 (a_echoTo j)) (hx1 : iv 0 8 x1) (hpost : ∀ (r : Int32), iv 0 511 r → post r) : q_wl_X2_earshot_0 f_dams f_echoes a_echoFrom a_echoTo x1 post := by
  refine ⟨fun c1 => ?_, fun c1 => ?_⟩
  · skip
    refine ⟨fun c2 => ?_, fun c2 => ?_⟩
    · skip
      exact s_wl_X2_earshot_15 k_f_dams k_f_echoes k_a_echoFrom k_a_echoTo hx1 (iv_w (iv_shl1 (l := 1) (h := 256) (iv_lit (l := 1) (h := 1) (by decide)) hx1 (by decide)) (by decide)) hpost
    · skip
      exact (iv_emp (iv_ne (l := 1) (h := 0) c2 (iv_lit (l := 0) (h := 0) (by decide)) (iv_lit (l := 0) (h := 0) (by decide)) (by decide)) (by decide)).elim
  · skip
    refine ⟨fun c3 => ?_, fun c3 => ?_⟩
    · skip
      exact (iv_emp (iv_eqa (l := 1) (h := 0) c3 (iv_lit (l := 1) (h := 1) (by decide)) (iv_lit (l := 0) (h := 0) (by decide)) (by decide)) (by decide)).elim
    · skip
      exact s_wl_X2_earshot_15 k_f_dams k_f_echoes k_a_echoFrom k_a_echoTo hx1 (iv_w (iv_lit (l := 0) (h := 0) (by decide)) (by decide)) hpost
-- wl_X2_highest
set_option maxRecDepth 20000 in
theorem s_wl_X2_highest_42 {P4 : Int32 → Int32 → Prop} {f_huts : Int32} {a_heights : Nat → Int32} {x1 : Int32} {x2 : Int32} {x3 : Int32} {post : Int32 → Prop} (k_f_huts : iv 1 9 f_huts) (k_a_heights : ∀ j, iv 0 99 (a_heights j)) (hx1 : iv 1 511 x1) (hx2 : iv (-1) 8 x2) (hx3 : iv 0 8 x3) (m4 : Int) (hm4 : m4 ≤ x3.toInt) (hP4 : ∀ (x2 : Int32) (x3 : Int32), m4 < x3.toInt → iv (-1) 8 x2 → iv 0 9 x3 → P4 x2 x3) (hpost : ∀ (r : Int32), iv (-1) 8 r → post r) : q_wl_X2_highest_42 P4 f_huts a_heights x1 x2 x3 post := by
  intro w1 ew1
  have hw1 := iv_eq ew1 (iv_add (l := 1) (h := 9) hx3 (iv_lit (l := 1) (h := 1) (by decide)) (by decide))
  exact hP4 _ _ (ml_up hm4 (inc_lt ew1 hx3 (by decide))) hx2 (iv_w hw1 (by decide))
set_option maxRecDepth 20000 in
theorem s_wl_X2_highest_40 {P4 : Int32 → Int32 → Prop} {f_huts : Int32} {a_heights : Nat → Int32} {x1 : Int32} {x3 : Int32} {post : Int32 → Prop} (k_f_huts : iv 1 9 f_huts) (k_a_heights : ∀ j, iv 0 99 (a_heights j)) (hx1 : iv 1 511 x1) (hx3 : iv 0 8 x3) (m4 : Int) (hm4 : m4 ≤ x3.toInt) (hP4 : ∀ (x2 : Int32) (x3 : Int32), m4 < x3.toInt → iv (-1) 8 x2 → iv 0 9 x3 → P4 x2 x3) (hpost : ∀ (r : Int32), iv (-1) 8 r → post r) : q_wl_X2_highest_40 P4 f_huts a_heights x1 x3 post := by
  exact s_wl_X2_highest_42 k_f_huts k_a_heights hx1 (iv_w hx3 (by decide)) hx3 m4 hm4 hP4 hpost
set_option maxRecDepth 20000 in
theorem s_wl_X2_highest_4 {f_huts : Int32} {a_heights : Nat → Int32} {x1 : Int32} {x2 : Int32} {x3 : Int32} {post : Int32 → Prop} (k_f_huts : iv 1 9 f_huts) (k_a_heights : ∀ j, iv 0 99 (a_heights j)) (hx1 : iv 1 511 x1) (hx2 : iv (-1) 8 x2) (hx3 : iv 0 9 x3) (hpost : ∀ (r : Int32), iv (-1) 8 r → post r) : q_wl_X2_highest_4 f_huts a_heights x1 x2 x3 post := by
  intro P hP
  have loop : ∀ (n : Nat) (x2 : Int32) (x3 : Int32), (9 - x3.toInt < (n : Int)) → (iv (-1) 8 x2) → (iv 0 9 x3) → P x2 x3 := by
    intro n
    induction n with
    | zero => intro x2 x3 hm hx2 hx3; exact (ms0_up hm hx3).elim
    | succ n ih =>
      intro x2 x3 hm hx2 hx3
      apply hP
      refine ⟨fun c1 => ?_, fun c1 => ?_⟩
      · skip
        exact hpost _ hx2
      · skip
        refine ⟨fun c2 => ?_, fun c2 => ?_⟩
        · skip
          refine ⟨fun c3 => ?_, fun c3 => ?_⟩
          · skip
            exact s_wl_X2_highest_42 k_f_huts k_a_heights hx1 hx2 (iv_lta (l := 0) (h := 8) (r_nle c1) hx3 k_f_huts (by decide)) x3.toInt (Int.le_refl _) (fun u0 u1 hq g0 g1 => ih u0 u1 (ms_up hm hq) g0 g1) hpost
          · skip
            exact (iv_emp (iv_ne (l := 1) (h := 0) c3 (iv_lit (l := 0) (h := 0) (by decide)) (iv_lit (l := 0) (h := 0) (by decide)) (by decide)) (by decide)).elim
        · skip
          refine ⟨fun c4 => ?_, fun c4 => ?_⟩
          · skip
            exact (iv_emp (iv_eqa (l := 1) (h := 0) c4 (iv_lit (l := 1) (h := 1) (by decide)) (iv_lit (l := 0) (h := 0) (by decide)) (by decide)) (by decide)).elim
          · skip
            refine ⟨fun c5 => ?_, fun c5 => ?_⟩
            · skip
              exact s_wl_X2_highest_40 k_f_huts k_a_heights hx1 (iv_lta (l := 0) (h := 8) (r_nle c1) hx3 k_f_huts (by decide)) x3.toInt (Int.le_refl _) (fun u0 u1 hq g0 g1 => ih u0 u1 (ms_up hm hq) g0 g1) hpost
            · skip
              refine ⟨iv_in (iv_lta (l := 0) (h := 8) (r_nle c1) hx3 k_f_huts (by decide)) (by decide), ?_⟩
              refine ⟨iv_in (iv_ne (l := 0) (h := 8) c5 hx2 (iv_lit (l := (-1)) (h := (-1)) (by decide)) (by decide)) (by decide), ?_⟩
              refine ⟨fun c6 => ?_, fun c6 => ?_⟩
              · skip
                exact s_wl_X2_highest_42 k_f_huts k_a_heights hx1 (iv_w (iv_ne (l := 0) (h := 8) c5 hx2 (iv_lit (l := (-1)) (h := (-1)) (by decide)) (by decide)) (by decide)) (iv_lta (l := 0) (h := 8) (r_nle c1) hx3 k_f_huts (by decide)) x3.toInt (Int.le_refl _) (fun u0 u1 hq g0 g1 => ih u0 u1 (ms_up hm hq) g0 g1) hpost
              · skip
                exact s_wl_X2_highest_40 k_f_huts k_a_heights hx1 (iv_lta (l := 0) (h := 8) (r_nle c1) hx3 k_f_huts (by decide)) x3.toInt (Int.le_refl _) (fun u0 u1 hq g0 g1 => ih u0 u1 (ms_up hm hq) g0 g1) hpost
  exact loop _ _ _ (ms_init_up _ _) hx2 hx3
set_option maxRecDepth 20000 in
theorem s_wl_X2_highest_0 {f_huts : Int32} {a_heights : Nat → Int32} {x1 : Int32} {post : Int32 → Prop} (k_f_huts : iv 1 9 f_huts) (k_a_heights : ∀ j, iv 0 99 (a_heights j)) (hx1 : iv 1 511 x1) (hpost : ∀ (r : Int32), iv (-1) 8 r → post r) : q_wl_X2_highest_0 f_huts a_heights x1 post := by
  exact s_wl_X2_highest_4 k_f_huts k_a_heights hx1 (iv_w (iv_lit (l := (-1)) (h := (-1)) (by decide)) (by decide)) (iv_w (iv_lit (l := 0) (h := 0) (by decide)) (by decide)) hpost
-- wl_X2_look
set_option maxRecDepth 20000 in
theorem s_wl_X2_look_0 {f_huts : Int32} {f_singers : Int32} {f_villages : Int32} {f_dams : Int32} {f_echoes : Int32} {f_deep : Int32} {f_slide : Int32} {a_heights : Nat → Int32} {a_ladders : Nat → Int32} {a_minutes : Nat → Int32} {a_homes : Nat → Int32} {a_talls : Nat → Int32} {a_known : Nat → Int32} {x1 : Int32} {post : Int32 → Prop} (k_f_huts : iv 0 9 f_huts) (k_f_singers : iv 0 6 f_singers) (k_f_villages : iv 0 511 f_villages) (k_f_dams : iv 0 511 f_dams) (k_f_echoes : iv 0 4 f_echoes) (k_f_deep : iv 1 9 f_deep) (k_f_slide : iv 0 10 f_slide) (k_a_heights : ∀ j, iv 0 99 (a_heights j)) (k_a_ladders : ∀ j, iv 0 9 (a_ladders j)) (k_a_minutes : ∀ j, iv 0 9 (a_minutes j)) (k_a_homes : ∀ j, iv 0 8 (a_homes j)) (k_a_talls : ∀ j, iv 0 9 (a_talls j)) (k_a_known : ∀ j, iv 0 31 (a_known j)) (hpost : ∀ (r : Int32), iv (-1) 511 r → post r) : q_wl_X2_look_0 f_huts f_singers f_villages f_dams f_echoes f_deep f_slide a_heights a_ladders a_minutes a_homes a_talls a_known x1 post := by
  refine ⟨fun c1 => ?_, fun c1 => ?_⟩
  · skip
    exact hpost _ (iv_w (iv_lit (l := (-1)) (h := (-1)) (by decide)) (by decide))
  · skip
    refine ⟨fun c2 => ?_, fun c2 => ?_⟩
    · skip
      refine ⟨fun c3 => ?_, fun c3 => ?_⟩
      · skip
        refine ⟨fun c4 => ?_, fun c4 => ?_⟩
        · skip
          intro w5 ew5
          have hw5 := iv_eq ew5 (iv_rem (l := 0) (h := 9) (iv_leb (l := 10) (h := 59) (r_le c4) (iv_lit (l := 10) (h := 10) (by decide)) (iv_lta (l := 0) (h := 59) (r_lt c3) (iv_lta (l := 0) (h := 140) (r_lt c2) (iv_leb (l := 0) (h := 2147483647) (r_nlt c1) (iv_lit (l := 0) (h := 0) (by decide)) (iv_top x1) (by decide)) (iv_lit (l := 141) (h := 141) (by decide)) (by decide)) (iv_lit (l := 60) (h := 60) (by decide)) (by decide)) (by decide)) (iv_lit (l := 10) (h := 10) (by decide)) (by decide))
          refine ⟨fun c6 => ?_, fun c6 => ?_⟩
          · skip
            refine ⟨fun c7 => ?_, fun c7 => ?_⟩
            · skip
              exact (iv_emp (iv_lta (l := 0) (h := (-1)) (r_lt c7) hw5 (iv_lit (l := 0) (h := 0) (by decide)) (by decide)) (by decide)).elim
            · skip
              refine ⟨fun c8 => ?_, fun c8 => ?_⟩
              · skip
                refine ⟨fun c9 => ?_, fun c9 => ?_⟩
                · skip
                  exact (iv_emp (iv_ne (l := 1) (h := 0) c9 (iv_lit (l := 0) (h := 0) (by decide)) (iv_lit (l := 0) (h := 0) (by decide)) (by decide)) (by decide)).elim
                · skip
                  exact hpost _ (iv_w (iv_lit (l := (-1)) (h := (-1)) (by decide)) (by decide))
              · skip
                refine ⟨fun c10 => ?_, fun c10 => ?_⟩
                · skip
                  refine ⟨fun c11 => ?_, fun c11 => ?_⟩
                  · skip
                    refine ⟨fun c12 => ?_, fun c12 => ?_⟩
                    · skip
                      refine ⟨iv_in (iv_lta (l := 0) (h := 5) (r_nle c8) hw5 k_f_singers (by decide)) (by decide), ?_⟩
                      exact hpost _ (iv_w (k_a_known _) (by decide))
                    · skip
                      refine ⟨iv_in (iv_lta (l := 0) (h := 5) (r_nle c8) hw5 k_f_singers (by decide)) (by decide), ?_⟩
                      exact hpost _ (iv_w (k_a_talls _) (by decide))
                  · skip
                    refine ⟨iv_in (iv_lta (l := 0) (h := 5) (r_nle c8) hw5 k_f_singers (by decide)) (by decide), ?_⟩
                    exact hpost _ (iv_w (k_a_homes _) (by decide))
                · skip
                  exact (iv_emp (iv_eqa (l := 1) (h := 0) c10 (iv_lit (l := 1) (h := 1) (by decide)) (iv_lit (l := 0) (h := 0) (by decide)) (by decide)) (by decide)).elim
          · skip
            refine ⟨fun c13 => ?_, fun c13 => ?_⟩
            · skip
              exact (iv_emp (iv_lta (l := 0) (h := (-1)) (r_lt c13) hw5 (iv_lit (l := 0) (h := 0) (by decide)) (by decide)) (by decide)).elim
            · skip
              refine ⟨fun c14 => ?_, fun c14 => ?_⟩
              · skip
                refine ⟨fun c15 => ?_, fun c15 => ?_⟩
                · skip
                  exact (iv_emp (iv_ne (l := 1) (h := 0) c15 (iv_lit (l := 0) (h := 0) (by decide)) (iv_lit (l := 0) (h := 0) (by decide)) (by decide)) (by decide)).elim
                · skip
                  exact hpost _ (iv_w (iv_lit (l := (-1)) (h := (-1)) (by decide)) (by decide))
              · skip
                refine ⟨fun c16 => ?_, fun c16 => ?_⟩
                · skip
                  refine ⟨fun c17 => ?_, fun c17 => ?_⟩
                  · skip
                    refine ⟨iv_in (iv_lta (l := 0) (h := 8) (r_nle c14) hw5 k_f_huts (by decide)) (by decide), ?_⟩
                    exact hpost _ (iv_w (k_a_ladders _) (by decide))
                  · skip
                    refine ⟨iv_in (iv_lta (l := 0) (h := 8) (r_nle c14) hw5 k_f_huts (by decide)) (by decide), ?_⟩
                    exact hpost _ (iv_w (k_a_heights _) (by decide))
                · skip
                  exact (iv_emp (iv_eqa (l := 1) (h := 0) c16 (iv_lit (l := 1) (h := 1) (by decide)) (iv_lit (l := 0) (h := 0) (by decide)) (by decide)) (by decide)).elim
        · skip
          refine ⟨fun c18 => ?_, fun c18 => ?_, fun c18 => ?_, fun c18 => ?_, fun c18 => ?_, fun c18 => ?_, fun c18 => ?_, fun c18 => ?_⟩
          · skip
            exact hpost _ (iv_w (iv_lit (l := (-1)) (h := (-1)) (by decide)) (by decide))
          · skip
            exact hpost _ (iv_w k_f_huts (by decide))
          · skip
            exact hpost _ (iv_w k_f_singers (by decide))
          · skip
            exact hpost _ (iv_w k_f_villages (by decide))
          · skip
            exact hpost _ (iv_w k_f_dams (by decide))
          · skip
            exact hpost _ (iv_w k_f_echoes (by decide))
          · skip
            exact hpost _ (iv_w k_f_deep (by decide))
          · skip
            exact hpost _ (iv_w k_f_slide (by decide))
      · skip
        intro w19 ew19
        have hw19 := iv_eq ew19 (iv_div (l := 0) (h := 8) (iv_sub (l := 0) (h := 80) (iv_leb (l := 60) (h := 140) (r_nlt c3) (iv_lit (l := 60) (h := 60) (by decide)) (iv_lta (l := 0) (h := 140) (r_lt c2) (iv_leb (l := 0) (h := 2147483647) (r_nlt c1) (iv_lit (l := 0) (h := 0) (by decide)) (iv_top x1) (by decide)) (iv_lit (l := 141) (h := 141) (by decide)) (by decide)) (by decide)) (iv_lit (l := 60) (h := 60) (by decide)) (by decide)) (iv_lit (l := 9) (h := 9) (by decide)) (by decide))
        intro w20 ew20
        have hw20 := iv_eq ew20 (iv_rem (l := 0) (h := 8) (iv_sub (l := 0) (h := 80) (iv_leb (l := 60) (h := 140) (r_nlt c3) (iv_lit (l := 60) (h := 60) (by decide)) (iv_lta (l := 0) (h := 140) (r_lt c2) (iv_leb (l := 0) (h := 2147483647) (r_nlt c1) (iv_lit (l := 0) (h := 0) (by decide)) (iv_top x1) (by decide)) (iv_lit (l := 141) (h := 141) (by decide)) (by decide)) (by decide)) (iv_lit (l := 60) (h := 60) (by decide)) (by decide)) (iv_lit (l := 9) (h := 9) (by decide)) (by decide))
        refine ⟨fun c21 => ?_, fun c21 => ?_⟩
        · skip
          exact (iv_emp (iv_lta (l := 0) (h := (-1)) (r_lt c21) hw19 (iv_lit (l := 0) (h := 0) (by decide)) (by decide)) (by decide)).elim
        · skip
          refine ⟨fun c22 => ?_, fun c22 => ?_⟩
          · skip
            refine ⟨fun c23 => ?_, fun c23 => ?_⟩
            · skip
              exact hpost _ (iv_w (iv_lit (l := (-1)) (h := (-1)) (by decide)) (by decide))
            · skip
              exact (iv_emp (iv_ne (l := 1) (h := 0) c23 (iv_lit (l := 0) (h := 0) (by decide)) (iv_lit (l := 0) (h := 0) (by decide)) (by decide)) (by decide)).elim
          · skip
            refine ⟨fun c24 => ?_, fun c24 => ?_⟩
            · skip
              exact (iv_emp (iv_eqa (l := 1) (h := 0) c24 (iv_lit (l := 1) (h := 1) (by decide)) (iv_lit (l := 0) (h := 0) (by decide)) (by decide)) (by decide)).elim
            · skip
              refine ⟨fun c25 => ?_, fun c25 => ?_⟩
              · skip
                exact (iv_emp (iv_lta (l := 0) (h := (-1)) (r_lt c25) hw20 (iv_lit (l := 0) (h := 0) (by decide)) (by decide)) (by decide)).elim
              · skip
                refine ⟨fun c26 => ?_, fun c26 => ?_⟩
                · skip
                  refine ⟨fun c27 => ?_, fun c27 => ?_⟩
                  · skip
                    exact hpost _ (iv_w (iv_lit (l := (-1)) (h := (-1)) (by decide)) (by decide))
                  · skip
                    exact (iv_emp (iv_ne (l := 1) (h := 0) c27 (iv_lit (l := 0) (h := 0) (by decide)) (iv_lit (l := 0) (h := 0) (by decide)) (by decide)) (by decide)).elim
                · skip
                  refine ⟨fun c28 => ?_, fun c28 => ?_⟩
                  · skip
                    exact (iv_emp (iv_eqa (l := 1) (h := 0) c28 (iv_lit (l := 1) (h := 1) (by decide)) (iv_lit (l := 0) (h := 0) (by decide)) (by decide)) (by decide)).elim
                  · skip
                    refine ⟨iv_in (iv_add (l := 0) (h := 80) (iv_mul (l := 0) (h := 72) hw19 (iv_lit (l := 9) (h := 9) (by decide)) (by decide)) hw20 (by decide)) (by decide), ?_⟩
                    exact hpost _ (iv_w (k_a_minutes _) (by decide))
    · skip
      exact hpost _ (iv_w (iv_lit (l := (-1)) (h := (-1)) (by decide)) (by decide))
-- ws_X6_staysWithin
set_option maxRecDepth 20000 in
theorem s_ws_X6_staysWithin_2 {f_facts : Int32} {a_huts : Nat → Int32} {x1 : Int32} {x2 : Int32} {post : Int32 → Prop} (k_f_facts : iv 0 10 f_facts) (k_a_huts : ∀ j, iv 0 8 (a_huts j)) (hx1 : iv 0 9 x1) (hx2 : iv 0 10 x2) (hpost : ∀ (r : Int32), iv 0 1 r → post r) : q_ws_X6_staysWithin_2 f_facts a_huts x1 x2 post := by
  intro P hP
  have loop : ∀ (n : Nat) (x2 : Int32), (10 - x2.toInt < (n : Int)) → (iv 0 10 x2) → P x2 := by
    intro n
    induction n with
    | zero => intro x2 hm hx2; exact (ms0_up hm hx2).elim
    | succ n ih =>
      intro x2 hm hx2
      apply hP
      refine ⟨fun c1 => ?_, fun c1 => ?_⟩
      · skip
        exact hpost _ (iv_w (iv_lit (l := 1) (h := 1) (by decide)) (by decide))
      · skip
        refine ⟨iv_in (iv_lta (l := 0) (h := 9) (r_nle c1) hx2 k_f_facts (by decide)) (by decide), ?_⟩
        refine ⟨fun c2 => ?_, fun c2 => ?_⟩
        · skip
          intro w3 ew3
          have hw3 := iv_eq ew3 (iv_add (l := 1) (h := 10) (iv_lta (l := 0) (h := 9) (r_nle c1) hx2 k_f_facts (by decide)) (iv_lit (l := 1) (h := 1) (by decide)) (by decide))
          exact ih _ (ms_up hm (inc_lt ew3 (iv_lta (l := 0) (h := 9) (r_nle c1) hx2 k_f_facts (by decide)) (by decide))) (iv_w hw3 (by decide))
        · skip
          exact hpost _ (iv_w (iv_lit (l := 0) (h := 0) (by decide)) (by decide))
  exact loop _ _ (ms_init_up _ _) hx2
set_option maxRecDepth 20000 in
theorem s_ws_X6_staysWithin_0 {f_facts : Int32} {a_huts : Nat → Int32} {x1 : Int32} {post : Int32 → Prop} (k_f_facts : iv 0 10 f_facts) (k_a_huts : ∀ j, iv 0 8 (a_huts j)) (hx1 : iv 0 9 x1) (hpost : ∀ (r : Int32), iv 0 1 r → post r) : q_ws_X6_staysWithin_0 f_facts a_huts x1 post := by
  exact s_ws_X6_staysWithin_2 k_f_facts k_a_huts hx1 (iv_w (iv_lit (l := 0) (h := 0) (by decide)) (by decide)) hpost
-- wc_X0_longestFall
set_option maxRecDepth 20000 in
theorem s_wc_X0_longestFall_42 {P6 : Int32 → Int32 → Int32 → Prop} {f_voices : Int32} {a_heights : Nat → Int32} {x1 : Int32} {x3 : Int32} {y0 : Int32} {post : Int32 → Prop} (k_f_voices : iv 1 9 f_voices) (k_a_heights : ∀ j, iv 0 9 (a_heights j)) (hx1 : iv 0 2147483647 x1) (hx3 : iv 0 8 x3) (m6 : Int) (hm6 : m6 ≤ x3.toInt) (hP6 : ∀ (x1 : Int32) (x2 : Int32) (x3 : Int32), m6 < x3.toInt → iv 0 2147483647 x1 → iv 0 9 x3 → P6 x1 x2 x3) (hpost : ∀ (r : Int32), iv 0 2147483647 r → post r) : q_wc_X0_longestFall_42 P6 f_voices a_heights x1 x3 y0 post := by
  intro w1 ew1
  have hw1 := iv_eq ew1 (iv_max (l := 0) (h := 2147483647) hx1 (iv_top y0) (by decide))
  intro w2 ew2
  have hw2 := iv_eq ew2 (iv_add (l := 1) (h := 9) hx3 (iv_lit (l := 1) (h := 1) (by decide)) (by decide))
  exact hP6 _ _ _ (ml_up hm6 (inc_lt ew2 hx3 (by decide))) hw1 (iv_w hw2 (by decide))
set_option maxRecDepth 20000 in
theorem s_wc_X0_longestFall_41 {P6 : Int32 → Int32 → Int32 → Prop} {f_voices : Int32} {a_heights : Nat → Int32} {x1 : Int32} {x3 : Int32} {post : Int32 → Prop} (k_f_voices : iv 1 9 f_voices) (k_a_heights : ∀ j, iv 0 9 (a_heights j)) (hx1 : iv 0 2147483647 x1) (hx3 : iv 0 8 x3) (m6 : Int) (hm6 : m6 ≤ x3.toInt) (hP6 : ∀ (x1 : Int32) (x2 : Int32) (x3 : Int32), m6 < x3.toInt → iv 0 2147483647 x1 → iv 0 9 x3 → P6 x1 x2 x3) (hpost : ∀ (r : Int32), iv 0 2147483647 r → post r) : q_wc_X0_longestFall_41 P6 f_voices a_heights x1 x3 post := by
  exact s_wc_X0_longestFall_42 k_f_voices k_a_heights hx1 hx3 m6 hm6 hP6 hpost
set_option maxRecDepth 20000 in
theorem s_wc_X0_longestFall_6 {f_voices : Int32} {a_heights : Nat → Int32} {x1 : Int32} {x2 : Int32} {x3 : Int32} {post : Int32 → Prop} (k_f_voices : iv 0 9 f_voices) (k_a_heights : ∀ j, iv 0 9 (a_heights j)) (hx1 : iv 0 2147483647 x1) (hx3 : iv 0 9 x3) (hpost : ∀ (r : Int32), iv 0 2147483647 r → post r) : q_wc_X0_longestFall_6 f_voices a_heights x1 x2 x3 post := by
  intro P hP
  have loop : ∀ (n : Nat) (x1 : Int32) (x2 : Int32) (x3 : Int32), (9 - x3.toInt < (n : Int)) → (iv 0 2147483647 x1) → (iv 0 9 x3) → P x1 x2 x3 := by
    intro n
    induction n with
    | zero => intro x1 x2 x3 hm hx1 hx3; exact (ms0_up hm hx3).elim
    | succ n ih =>
      intro x1 x2 x3 hm hx1 hx3
      apply hP
      refine ⟨fun c1 => ?_, fun c1 => ?_⟩
      · skip
        exact hpost _ hx1
      · skip
        refine ⟨fun c2 => ?_, fun c2 => ?_⟩
        · skip
          exact s_wc_X0_longestFall_41 (iv_ltb (l := 1) (h := 9) (r_nle c1) hx3 k_f_voices (by decide)) k_a_heights hx1 (iv_w (iv_lea (l := 0) (h := 0) (r_le c2) (iv_lta (l := 0) (h := 8) (r_nle c1) hx3 k_f_voices (by decide)) (iv_lit (l := 0) (h := 0) (by decide)) (by decide)) (by decide)) x3.toInt (Int.le_refl _) (fun u0 u1 u2 hq g0 g1 => ih u0 u1 u2 (ms_up hm hq) g0 g1) hpost
        · skip
          refine ⟨iv_in (iv_ltb (l := 1) (h := 8) (r_nle c2) (iv_lit (l := 0) (h := 0) (by decide)) (iv_lta (l := 0) (h := 8) (r_nle c1) hx3 k_f_voices (by decide)) (by decide)) (by decide), ?_⟩
          refine ⟨iv_in (iv_sub (l := 0) (h := 7) (iv_ltb (l := 1) (h := 8) (r_nle c2) (iv_lit (l := 0) (h := 0) (by decide)) (iv_lta (l := 0) (h := 8) (r_nle c1) hx3 k_f_voices (by decide)) (by decide)) (iv_lit (l := 1) (h := 1) (by decide)) (by decide)) (by decide), ?_⟩
          refine ⟨fun c3 => ?_, fun c3 => ?_⟩
          · skip
            exact s_wc_X0_longestFall_41 (iv_ltb (l := 1) (h := 9) (r_nle c1) hx3 k_f_voices (by decide)) k_a_heights hx1 (iv_w (iv_ltb (l := 1) (h := 8) (r_nle c2) (iv_lit (l := 0) (h := 0) (by decide)) (iv_lta (l := 0) (h := 8) (r_nle c1) hx3 k_f_voices (by decide)) (by decide)) (by decide)) x3.toInt (Int.le_refl _) (fun u0 u1 u2 hq g0 g1 => ih u0 u1 u2 (ms_up hm hq) g0 g1) hpost
          · skip
            exact s_wc_X0_longestFall_42 (iv_ltb (l := 1) (h := 9) (r_nle c1) hx3 k_f_voices (by decide)) k_a_heights hx1 (iv_w (iv_ltb (l := 1) (h := 8) (r_nle c2) (iv_lit (l := 0) (h := 0) (by decide)) (iv_lta (l := 0) (h := 8) (r_nle c1) hx3 k_f_voices (by decide)) (by decide)) (by decide)) x3.toInt (Int.le_refl _) (fun u0 u1 u2 hq g0 g1 => ih u0 u1 u2 (ms_up hm hq) g0 g1) hpost
  exact loop _ _ _ _ (ms_init_up _ _) hx1 hx3
set_option maxRecDepth 20000 in
theorem s_wc_X0_longestFall_0 {f_voices : Int32} {a_heights : Nat → Int32} {post : Int32 → Prop} (k_f_voices : iv 0 9 f_voices) (k_a_heights : ∀ j, iv 0 9 (a_heights j)) (hpost : ∀ (r : Int32), iv 0 2147483647 r → post r) : q_wc_X0_longestFall_0 f_voices a_heights post := by
  exact s_wc_X0_longestFall_6 k_f_voices k_a_heights (iv_w (iv_lit (l := 0) (h := 0) (by decide)) (by decide)) (iv_w (iv_lit (l := 0) (h := 0) (by decide)) (by decide)) hpost
-- wc_X0_look
set_option maxRecDepth 20000 in
theorem s_wc_X0_look_56 {f_voices : Int32} {f_step : Int32} {a_parts : Nat → Int32} {a_heights : Nat → Int32} {x1 : Int32} {post : Int32 → Prop} (k_f_voices : iv 0 9 f_voices) (k_f_step : iv 0 9 f_step) (k_a_parts : ∀ j, iv 0 3 (a_parts j)) (k_a_heights : ∀ j, iv 0 9 (a_heights j)) (hpost : ∀ (r : Int32), iv (-1) 2147483647 r → post r) : q_wc_X0_look_56 f_voices f_step a_parts a_heights x1 post := by
  refine ⟨fun c1 => ?_, fun c1 => ?_⟩
  · skip
    exact hpost _ (iv_w (iv_lit (l := (-1)) (h := (-1)) (by decide)) (by decide))
  · skip
    refine ⟨fun c2 => ?_, fun c2 => ?_⟩
    · skip
      exact hpost _ (iv_w (iv_lit (l := (-1)) (h := (-1)) (by decide)) (by decide))
    · skip
      refine ⟨iv_in (iv_sub (l := 0) (h := 8) (iv_lta (l := 20) (h := 28) (r_nle c2) (iv_leb (l := 20) (h := 2147483647) (r_nlt c1) (iv_lit (l := 20) (h := 20) (by decide)) (iv_top x1) (by decide)) (iv_add (l := 20) (h := 29) (iv_lit (l := 20) (h := 20) (by decide)) k_f_voices (by decide)) (by decide)) (iv_lit (l := 20) (h := 20) (by decide)) (by decide)) (by decide), ?_⟩
      exact hpost _ (iv_w (k_a_heights _) (by decide))
set_option maxRecDepth 20000 in
theorem s_wc_X0_look_0 {f_voices : Int32} {f_step : Int32} {a_parts : Nat → Int32} {a_heights : Nat → Int32} {x1 : Int32} {post : Int32 → Prop} (k_f_voices : iv 0 9 f_voices) (k_f_step : iv 0 9 f_step) (k_a_parts : ∀ j, iv 0 3 (a_parts j)) (k_a_heights : ∀ j, iv 0 9 (a_heights j)) (hpost : ∀ (r : Int32), iv (-1) 2147483647 r → post r) : q_wc_X0_look_0 f_voices f_step a_parts a_heights x1 post := by
  refine ⟨fun c1 => ?_, fun c1 => ?_⟩
  · skip
    refine ⟨fun c2 => ?_, fun c2 => ?_⟩
    · skip
      refine ⟨fun c3 => ?_, fun c3 => ?_⟩
      · skip
        refine ⟨fun c4 => ?_, fun c4 => ?_⟩
        · skip
          exact s_wc_X0_look_56 k_f_voices k_f_step k_a_parts k_a_heights hpost
        · skip
          refine ⟨fun c5 => ?_, fun c5 => ?_⟩
          · skip
            exact s_wc_X0_look_56 k_f_voices k_f_step k_a_parts k_a_heights hpost
          · skip
            refine ⟨iv_in (iv_sub (l := 0) (h := 8) (iv_lta (l := 10) (h := 18) (r_nle c5) (iv_leb (l := 10) (h := 2147483647) (r_nlt c4) (iv_lit (l := 10) (h := 10) (by decide)) (iv_top x1) (by decide)) (iv_add (l := 10) (h := 19) (iv_lit (l := 10) (h := 10) (by decide)) k_f_voices (by decide)) (by decide)) (iv_lit (l := 10) (h := 10) (by decide)) (by decide)) (by decide), ?_⟩
            exact hpost _ (iv_w (k_a_parts _) (by decide))
      · skip
        refine s_wc_X0_longestFall_0 k_f_voices k_a_heights (fun r6 hr6 => ?_)
        exact hpost _ (iv_w hr6 (by decide))
    · skip
      exact hpost _ (iv_w k_f_step (by decide))
  · skip
    exact hpost _ (iv_w k_f_voices (by decide))
-- wll_X2_copyFrom_9
set_option maxRecDepth 20000 in
theorem s_wll_X2_copyFrom_9_0 {f_huts : Int32} {f_singers : Int32} {f_villages : Int32} {f_dams : Int32} {f_echoes : Int32} {f_deep : Int32} {f_slide : Int32} {a_heights : Nat → Int32} {a_ladders : Nat → Int32} {a_minutes : Nat → Int32} {a_echoFrom : Nat → Int32} {a_echoTo : Nat → Int32} {a_homes : Nat → Int32} {a_talls : Nat → Int32} {a_known : Nat → Int32} {of_huts : Int32} {of_singers : Int32} {of_villages : Int32} {of_dams : Int32} {of_echoes : Int32} {of_deep : Int32} {of_slide : Int32} {oa_heights : Nat → Int32} {oa_ladders : Nat → Int32} {oa_minutes : Nat → Int32} {oa_echoFrom : Nat → Int32} {oa_echoTo : Nat → Int32} {oa_homes : Nat → Int32} {oa_talls : Nat → Int32} {oa_known : Nat → Int32} {post : (Int32) → (Int32) → (Int32) → (Int32) → (Int32) → (Int32) → (Int32) → (Nat → Int32) → (Nat → Int32) → (Nat → Int32) → (Nat → Int32) → (Nat → Int32) → (Nat → Int32) → (Nat → Int32) → (Nat → Int32) → Prop} (k_f_huts : iv 0 9 f_huts) (k_f_singers : iv 0 6 f_singers) (k_f_villages : iv 0 511 f_villages) (k_f_dams : iv 0 511 f_dams) (k_f_echoes : iv 0 4 f_echoes) (k_f_deep : iv 1 9 f_deep) (k_f_slide : iv 0 10 f_slide) (k_a_heights : ∀ j, iv 0 99 (a_heights j)) (k_a_ladders : ∀ j, iv 0 9 (a_ladders j)) (k_a_minutes : ∀ j, iv 0 9 (a_minutes j)) (k_a_echoFrom : ∀ j, iv 0 8 (a_echoFrom j)) (k_a_echoTo : ∀ j, iv 0 8 (a_echoTo j)) (k_a_homes : ∀ j, iv 0 8 (a_homes j)) (k_a_talls : ∀ j, iv 0 9 (a_talls j)) (k_a_known : ∀ j, iv 0 31 (a_known j)) (k_of_huts : iv 0 9 of_huts) (k_of_singers : iv 0 6 of_singers) (k_of_villages : iv 0 511 of_villages) (k_of_dams : iv 0 511 of_dams) (k_of_echoes : iv 0 4 of_echoes) (k_of_deep : iv 1 9 of_deep) (k_of_slide : iv 0 10 of_slide) (k_oa_heights : ∀ j, iv 0 99 (oa_heights j)) (k_oa_ladders : ∀ j, iv 0 9 (oa_ladders j)) (k_oa_minutes : ∀ j, iv 0 9 (oa_minutes j)) (k_oa_echoFrom : ∀ j, iv 0 8 (oa_echoFrom j)) (k_oa_echoTo : ∀ j, iv 0 8 (oa_echoTo j)) (k_oa_homes : ∀ j, iv 0 8 (oa_homes j)) (k_oa_talls : ∀ j, iv 0 9 (oa_talls j)) (k_oa_known : ∀ j, iv 0 31 (oa_known j)) (hpost : ∀ (f_huts : Int32) (f_singers : Int32) (f_villages : Int32) (f_dams : Int32) (f_echoes : Int32) (f_deep : Int32) (f_slide : Int32) (a_heights : Nat → Int32) (a_ladders : Nat → Int32) (a_minutes : Nat → Int32) (a_echoFrom : Nat → Int32) (a_echoTo : Nat → Int32) (a_homes : Nat → Int32) (a_talls : Nat → Int32) (a_known : Nat → Int32), (iv 0 9 f_huts) → (iv 0 6 f_singers) → (iv 0 511 f_villages) → (iv 0 511 f_dams) → (iv 0 4 f_echoes) → (iv 1 9 f_deep) → (iv 0 10 f_slide) → (∀ j, iv 0 99 (a_heights j)) → (∀ j, iv 0 9 (a_ladders j)) → (∀ j, iv 0 9 (a_minutes j)) → (∀ j, iv 0 8 (a_echoFrom j)) → (∀ j, iv 0 8 (a_echoTo j)) → (∀ j, iv 0 8 (a_homes j)) → (∀ j, iv 0 9 (a_talls j)) → (∀ j, iv 0 31 (a_known j)) → post f_huts f_singers f_villages f_dams f_echoes f_deep f_slide a_heights a_ladders a_minutes a_echoFrom a_echoTo a_homes a_talls a_known) : q_wll_X2_copyFrom_9_0 f_huts f_singers f_villages f_dams f_echoes f_deep f_slide a_heights a_ladders a_minutes a_echoFrom a_echoTo a_homes a_talls a_known of_huts of_singers of_villages of_dams of_echoes of_deep of_slide oa_heights oa_ladders oa_minutes oa_echoFrom oa_echoTo oa_homes oa_talls oa_known post := by
  intro a1 ea1
  have k_a1 := iv_cpy ea1 k_oa_heights k_a_heights
  intro a2 ea2
  have k_a2 := iv_cpy ea2 k_oa_ladders k_a_ladders
  intro a3 ea3
  have k_a3 := iv_cpy ea3 k_oa_minutes k_a_minutes
  intro a4 ea4
  have k_a4 := iv_cpy ea4 k_oa_echoFrom k_a_echoFrom
  intro a5 ea5
  have k_a5 := iv_cpy ea5 k_oa_echoTo k_a_echoTo
  intro a6 ea6
  have k_a6 := iv_cpy ea6 k_oa_homes k_a_homes
  intro a7 ea7
  have k_a7 := iv_cpy ea7 k_oa_talls k_a_talls
  intro a8 ea8
  have k_a8 := iv_cpy ea8 k_oa_known k_a_known
  exact hpost _ _ _ _ _ _ _ _ _ _ _ _ _ _ _ k_of_huts k_of_singers k_of_villages k_of_dams k_of_echoes k_of_deep k_of_slide k_a1 k_a2 k_a3 k_a4 k_a5 k_a6 k_a7 k_a8
-- wvv_X1_copyFrom_4
set_option maxRecDepth 20000 in
theorem s_wvv_X1_copyFrom_4_0 {f_deeds : Int32} {a_kinds : Nat → Int32} {a_firsts : Nat → Int32} {a_seconds : Nat → Int32} {of_deeds : Int32} {oa_kinds : Nat → Int32} {oa_firsts : Nat → Int32} {oa_seconds : Nat → Int32} {post : (Int32) → (Nat → Int32) → (Nat → Int32) → (Nat → Int32) → Prop} (k_f_deeds : iv 0 40 f_deeds) (k_a_kinds : ∀ j, iv 0 5 (a_kinds j)) (k_a_firsts : ∀ j, iv 0 5 (a_firsts j)) (k_a_seconds : ∀ j, iv (-1) 8 (a_seconds j)) (k_of_deeds : iv 0 40 of_deeds) (k_oa_kinds : ∀ j, iv 0 5 (oa_kinds j)) (k_oa_firsts : ∀ j, iv 0 5 (oa_firsts j)) (k_oa_seconds : ∀ j, iv (-1) 8 (oa_seconds j)) (hpost : ∀ (f_deeds : Int32) (a_kinds : Nat → Int32) (a_firsts : Nat → Int32) (a_seconds : Nat → Int32), (iv 0 40 f_deeds) → (∀ j, iv 0 5 (a_kinds j)) → (∀ j, iv 0 5 (a_firsts j)) → (∀ j, iv (-1) 8 (a_seconds j)) → post f_deeds a_kinds a_firsts a_seconds) : q_wvv_X1_copyFrom_4_0 f_deeds a_kinds a_firsts a_seconds of_deeds oa_kinds oa_firsts oa_seconds post := by
  refine ⟨iv_nn k_of_deeds (by decide), ?_⟩
  refine ⟨iv_len (iv_lit (l := 0) (h := 0) (by decide)) k_of_deeds (by decide), ?_⟩
  refine ⟨iv_len (iv_lit (l := 0) (h := 0) (by decide)) k_of_deeds (by decide), ?_⟩
  intro a1 ea1
  have k_a1 := iv_cpy ea1 k_oa_kinds k_a_kinds
  refine ⟨iv_nn k_of_deeds (by decide), ?_⟩
  refine ⟨iv_len (iv_lit (l := 0) (h := 0) (by decide)) k_of_deeds (by decide), ?_⟩
  refine ⟨iv_len (iv_lit (l := 0) (h := 0) (by decide)) k_of_deeds (by decide), ?_⟩
  intro a2 ea2
  have k_a2 := iv_cpy ea2 k_oa_firsts k_a_firsts
  refine ⟨iv_nn k_of_deeds (by decide), ?_⟩
  refine ⟨iv_len (iv_lit (l := 0) (h := 0) (by decide)) k_of_deeds (by decide), ?_⟩
  refine ⟨iv_len (iv_lit (l := 0) (h := 0) (by decide)) k_of_deeds (by decide), ?_⟩
  intro a3 ea3
  have k_a3 := iv_cpy ea3 k_oa_seconds k_a_seconds
  exact hpost _ _ _ _ k_of_deeds k_a1 k_a2 k_a3
