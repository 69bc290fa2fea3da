-- wp_X7_fitting_9_18
set_option maxRecDepth 20000 in
theorem s_wp_X7_fitting_9_18_40 {P5 : Int32 → Int32 → Prop} {a_heard : Nat → Int32} {lf_huts : Int32} {lf_dams : Int32} {sf_facts : Int32} {sa_heard : Nat → Int32} {sa_huts : Nat → Int32} {sa_minutes : Nat → Int32} {x3 : Int32} {x4 : Int32} {post : Int32 → Prop} (k_a_heard : ∀ j, iv 0 1000 (a_heard j)) (k_lf_huts : iv 1 9 lf_huts) (k_lf_dams : iv 0 511 lf_dams) (k_sf_facts : iv 0 10 sf_facts) (k_sa_heard : ∀ j, iv 0 1 (sa_heard j)) (k_sa_huts : ∀ j, iv 0 8 (sa_huts j)) (k_sa_minutes : ∀ j, iv 0 60 (sa_minutes j)) (hx3 : iv 0 511 x3) (hx4 : iv 0 8 x4) (m5 : Int) (hm5 : m5 ≤ x4.toInt) (hP5 : ∀ (x3 : Int32) (x4 : Int32), m5 < x4.toInt → iv 0 511 x3 → iv 0 9 x4 → P5 x3 x4) (hpost : ∀ (r : Int32), iv 0 511 r → post r) : q_wp_X7_fitting_9_18_40 P5 a_heard lf_huts lf_dams sf_facts sa_heard sa_huts sa_minutes x3 x4 post := by
  intro w1 ew1
  have hw1 := iv_eq ew1 (iv_add (l := 1) (h := 9) hx4 (iv_lit (l := 1) (h := 1) (by decide)) (by decide))
  exact hP5 _ _ (ml_up hm5 (inc_lt ew1 hx4 (by decide))) hx3 (iv_w hw1 (by decide))
set_option maxRecDepth 20000 in
theorem s_wp_X7_fitting_9_18_5 {a_heard : Nat → Int32} {lf_huts : Int32} {lf_dams : Int32} {sf_facts : Int32} {sa_heard : Nat → Int32} {sa_huts : Nat → Int32} {sa_minutes : Nat → Int32} {x3 : Int32} {x4 : Int32} {post : Int32 → Prop} (k_a_heard : ∀ j, iv 0 1000 (a_heard j)) (k_lf_huts : iv 0 9 lf_huts) (k_lf_dams : iv 0 511 lf_dams) (k_sf_facts : iv 0 10 sf_facts) (k_sa_heard : ∀ j, iv 0 1 (sa_heard j)) (k_sa_huts : ∀ j, iv 0 8 (sa_huts j)) (k_sa_minutes : ∀ j, iv 0 60 (sa_minutes j)) (hx3 : iv 0 511 x3) (hx4 : iv 0 9 x4) (hpost : ∀ (r : Int32), iv 0 511 r → post r) : q_wp_X7_fitting_9_18_5 a_heard lf_huts lf_dams sf_facts sa_heard sa_huts sa_minutes x3 x4 post := by
  intro P hP
  have loop : ∀ (n : Nat) (x3 : Int32) (x4 : Int32), (9 - x4.toInt < (n : Int)) → (iv 0 511 x3) → (iv 0 9 x4) → P x3 x4 := by
    intro n
    induction n with
    | zero => intro x3 x4 hm hx3 hx4; exact (ms0_up hm hx4).elim
    | succ n ih =>
      intro x3 x4 hm hx3 hx4
      apply hP
      refine ⟨fun c1 => ?_, fun c1 => ?_⟩
      · skip
        exact hpost _ hx3
      · skip
        refine ⟨fun c2 => ?_, fun c2 => ?_⟩
        · skip
          refine ⟨fun c3 => ?_, fun c3 => ?_⟩
          · skip
            exact (iv_emp (iv_ne (l := 1) (h := 0) c3 (iv_lit (l := 0) (h := 0) (by decide)) (iv_lit (l := 0) (h := 0) (by decide)) (by decide)) (by decide)).elim
          · skip
            refine s_wp_X7_agrees_18_0 k_a_heard k_sf_facts k_sa_heard k_sa_huts k_sa_minutes (iv_lta (l := 0) (h := 8) (r_nle c1) hx4 k_lf_huts (by decide)) (fun r4 hr4 => ?_)
            refine ⟨fun c5 => ?_, fun c5 => ?_⟩
            · skip
              exact s_wp_X7_fitting_9_18_40 k_a_heard (iv_ltb (l := 1) (h := 9) (r_nle c1) hx4 k_lf_huts (by decide)) k_lf_dams k_sf_facts k_sa_heard k_sa_huts k_sa_minutes hx3 (iv_lta (l := 0) (h := 8) (r_nle c1) hx4 k_lf_huts (by decide)) x4.toInt (Int.le_refl _) (fun u0 u1 hq g0 g1 => ih u0 u1 (ms_up hm hq) g0 g1) hpost
            · skip
              intro w6 ew6
              have hw6 := iv_eq ew6 (iv_or 9 (l := 0) (h := 511) hx3 (iv_shl1 (l := 1) (h := 256) (iv_lit (l := 1) (h := 1) (by decide)) (iv_lta (l := 0) (h := 8) (r_nle c1) hx4 k_lf_huts (by decide)) (by decide)) (by decide))
              exact s_wp_X7_fitting_9_18_40 k_a_heard (iv_ltb (l := 1) (h := 9) (r_nle c1) hx4 k_lf_huts (by decide)) k_lf_dams k_sf_facts k_sa_heard k_sa_huts k_sa_minutes hw6 (iv_lta (l := 0) (h := 8) (r_nle c1) hx4 k_lf_huts (by decide)) x4.toInt (Int.le_refl _) (fun u0 u1 hq g0 g1 => ih u0 u1 (ms_up hm hq) g0 g1) hpost
        · skip
          refine ⟨fun c7 => ?_, fun c7 => ?_⟩
          · skip
            exact s_wp_X7_fitting_9_18_40 k_a_heard (iv_ltb (l := 1) (h := 9) (r_nle c1) hx4 k_lf_huts (by decide)) k_lf_dams k_sf_facts k_sa_heard k_sa_huts k_sa_minutes hx3 (iv_lta (l := 0) (h := 8) (r_nle c1) hx4 k_lf_huts (by decide)) x4.toInt (Int.le_refl _) (fun u0 u1 hq g0 g1 => ih u0 u1 (ms_up hm hq) g0 g1) hpost
          · skip
            exact (iv_emp (iv_eqa (l := 1) (h := 0) c7 (iv_lit (l := 1) (h := 1) (by decide)) (iv_lit (l := 0) (h := 0) (by decide)) (by decide)) (by decide)).elim
  exact loop _ _ _ (ms_init_up _ _) hx3 hx4
set_option maxRecDepth 20000 in
theorem s_wp_X7_fitting_9_18_0 {a_heard : Nat → Int32} {lf_huts : Int32} {lf_dams : Int32} {sf_facts : Int32} {sa_heard : Nat → Int32} {sa_huts : Nat → Int32} {sa_minutes : Nat → Int32} {post : Int32 → Prop} (k_a_heard : ∀ j, iv 0 1000 (a_heard j)) (k_lf_huts : iv 0 9 lf_huts) (k_lf_dams : iv 0 511 lf_dams) (k_sf_facts : iv 0 10 sf_facts) (k_sa_heard : ∀ j, iv 0 1 (sa_heard j)) (k_sa_huts : ∀ j, iv 0 8 (sa_huts j)) (k_sa_minutes : ∀ j, iv 0 60 (sa_minutes j)) (hpost : ∀ (r : Int32), iv 0 511 r → post r) : q_wp_X7_fitting_9_18_0 a_heard lf_huts lf_dams sf_facts sa_heard sa_huts sa_minutes post := by
  exact s_wp_X7_fitting_9_18_5 k_a_heard k_lf_huts k_lf_dams k_sf_facts k_sa_heard k_sa_huts k_sa_minutes (iv_w (iv_lit (l := 0) (h := 0) (by decide)) (by decide)) (iv_w (iv_lit (l := 0) (h := 0) (by decide)) (by decide)) hpost
-- wp_X7_fromBy_9
set_option maxRecDepth 20000 in
theorem s_wp_X7_fromBy_9_40 {P6 : Int32 → Int32 → Prop} {a_heard : Nat → Int32} {lf_huts : Int32} {x2 : Int32} {x3 : Int32} {x4 : Int32} {x5 : Int32} {post : Int32 → Prop} (k_a_heard : ∀ j, iv 0 1000 (a_heard j)) (k_lf_huts : iv 1 9 lf_huts) (hx2 : iv 0 8 x2) (hx3 : iv 0 999 x3) (hx4 : iv 0 511 x4) (hx5 : iv 0 8 x5) (m6 : Int) (hm6 : m6 ≤ x5.toInt) (hP6 : ∀ (x4 : Int32) (x5 : Int32), m6 < x5.toInt → iv 0 511 x4 → iv 0 9 x5 → P6 x4 x5) (hpost : ∀ (r : Int32), iv 0 511 r → post r) : q_wp_X7_fromBy_9_40 P6 a_heard lf_huts x2 x3 x4 x5 post := by
  intro w1 ew1
  have hw1 := iv_eq ew1 (iv_add (l := 1) (h := 9) hx5 (iv_lit (l := 1) (h := 1) (by decide)) (by decide))
  exact hP6 _ _ (ml_up hm6 (inc_lt ew1 hx5 (by decide))) hx4 (iv_w hw1 (by decide))
set_option maxRecDepth 20000 in
theorem s_wp_X7_fromBy_9_6 {a_heard : Nat → Int32} {lf_huts : Int32} {x2 : Int32} {x3 : Int32} {x4 : Int32} {x5 : Int32} {post : Int32 → Prop} (k_a_heard : ∀ j, iv 0 1000 (a_heard j)) (k_lf_huts : iv 1 9 lf_huts) (hx2 : iv 0 8 x2) (hx3 : iv 0 999 x3) (hx4 : iv 0 511 x4) (hx5 : iv 0 9 x5) (hpost : ∀ (r : Int32), iv 0 511 r → post r) : q_wp_X7_fromBy_9_6 a_heard lf_huts x2 x3 x4 x5 post := by
  intro P hP
  have loop : ∀ (n : Nat) (x4 : Int32) (x5 : Int32), (9 - x5.toInt < (n : Int)) → (iv 0 511 x4) → (iv 0 9 x5) → P x4 x5 := by
    intro n
    induction n with
    | zero => intro x4 x5 hm hx4 hx5; exact (ms0_up hm hx5).elim
    | succ n ih =>
      intro x4 x5 hm hx4 hx5
      apply hP
      refine ⟨fun c1 => ?_, fun c1 => ?_⟩
      · skip
        exact hpost _ hx4
      · skip
        refine ⟨iv_in (iv_add (l := 0) (h := 80) (iv_mul (l := 0) (h := 72) (iv_lta (l := 0) (h := 8) (r_nle c1) hx5 k_lf_huts (by decide)) (iv_lit (l := 9) (h := 9) (by decide)) (by decide)) hx2 (by decide)) (by decide), ?_⟩
        refine ⟨fun c2 => ?_, fun c2 => ?_⟩
        · skip
          exact s_wp_X7_fromBy_9_40 k_a_heard k_lf_huts hx2 hx3 hx4 (iv_lta (l := 0) (h := 8) (r_nle c1) hx5 k_lf_huts (by decide)) x5.toInt (Int.le_refl _) (fun u0 u1 hq g0 g1 => ih u0 u1 (ms_up hm hq) g0 g1) hpost
        · skip
          intro w3 ew3
          have hw3 := iv_eq ew3 (iv_or 9 (l := 0) (h := 511) hx4 (iv_shl1 (l := 1) (h := 256) (iv_lit (l := 1) (h := 1) (by decide)) (iv_lta (l := 0) (h := 8) (r_nle c1) hx5 k_lf_huts (by decide)) (by decide)) (by decide))
          exact s_wp_X7_fromBy_9_40 k_a_heard k_lf_huts hx2 hx3 hw3 (iv_lta (l := 0) (h := 8) (r_nle c1) hx5 k_lf_huts (by decide)) x5.toInt (Int.le_refl _) (fun u0 u1 hq g0 g1 => ih u0 u1 (ms_up hm hq) g0 g1) hpost
  exact loop _ _ _ (ms_init_up _ _) hx4 hx5
set_option maxRecDepth 20000 in
theorem s_wp_X7_fromBy_9_0 {a_heard : Nat → Int32} {lf_huts : Int32} {x2 : Int32} {x3 : Int32} {post : Int32 → Prop} (k_a_heard : ∀ j, iv 0 1000 (a_heard j)) (k_lf_huts : iv 1 9 lf_huts) (hx2 : iv 0 8 x2) (hx3 : iv 0 999 x3) (hpost : ∀ (r : Int32), iv 0 511 r → post r) : q_wp_X7_fromBy_9_0 a_heard lf_huts x2 x3 post := by
  exact s_wp_X7_fromBy_9_6 k_a_heard k_lf_huts hx2 hx3 (iv_w (iv_lit (l := 0) (h := 0) (by decide)) (by decide)) (iv_w (iv_lit (l := 0) (h := 0) (by decide)) (by decide)) hpost
-- wp_X7_question_9
set_option maxRecDepth 20000 in
theorem s_wp_X7_question_9_67 {P16 : Int32 → Int32 → Int32 → Prop} {P26 : Int32 → Int32 → Int32 → Prop} {a_heard : Nat → Int32} {lf_huts : Int32} {x2 : Int32} {x3 : Int32} {x4 : Int32} {x5 : Int32} {x6 : Int32} {post : Int32 → Prop} (k_a_heard : ∀ j, iv 0 1000 (a_heard j)) (k_lf_huts : iv 1 9 lf_huts) (hx2 : iv 1 511 x2) (hx3 : iv (-1) 2147483647 x3) (hx4 : iv 0 63 x4) (hx5 : iv 0 60 x5) (hx6 : iv 0 8 x6) (m16 : Int) (hm16 : m16 ≤ x5.toInt) (hP16 : ∀ (x3 : Int32) (x4 : Int32) (x5 : Int32), m16 < x5.toInt → iv (-1) 2147483647 x3 → iv 0 1000 x4 → iv 0 61 x5 → P16 x3 x4 x5) (m26 : Int) (hm26 : m26 ≤ x6.toInt) (hP26 : ∀ (x3 : Int32) (x4 : Int32) (x6 : Int32), m26 < x6.toInt → iv (-1) 2147483647 x3 → iv 0 1000 x4 → iv 0 9 x6 → P26 x3 x4 x6) (hpost : ∀ (r : Int32), iv (-1) 2147483647 r → post r) : q_wp_X7_question_9_67 P16 P26 a_heard lf_huts x2 x3 x4 x5 x6 post := by
  intro w1 ew1
  have hw1 := iv_eq ew1 (iv_add (l := 1) (h := 9) hx6 (iv_lit (l := 1) (h := 1) (by decide)) (by decide))
  exact hP26 _ _ _ (ml_up hm26 (inc_lt ew1 hx6 (by decide))) hx3 (iv_w hx4 (by decide)) (iv_w hw1 (by decide))
set_option maxRecDepth 20000 in
theorem s_wp_X7_question_9_26 {P16 : Int32 → Int32 → Int32 → Prop} {a_heard : Nat → Int32} {lf_huts : Int32} {x2 : Int32} {x3 : Int32} {x4 : Int32} {x5 : Int32} {x6 : Int32} {post : Int32 → Prop} (k_a_heard : ∀ j, iv 0 1000 (a_heard j)) (k_lf_huts : iv 0 9 lf_huts) (hx2 : iv 1 511 x2) (hx3 : iv (-1) 2147483647 x3) (hx4 : iv 0 1000 x4) (hx5 : iv 0 60 x5) (hx6 : iv 0 9 x6) (m16 : Int) (hm16 : m16 ≤ x5.toInt) (hP16 : ∀ (x3 : Int32) (x4 : Int32) (x5 : Int32), m16 < x5.toInt → iv (-1) 2147483647 x3 → iv 0 1000 x4 → iv 0 61 x5 → P16 x3 x4 x5) (hpost : ∀ (r : Int32), iv (-1) 2147483647 r → post r) : q_wp_X7_question_9_26 P16 a_heard lf_huts x2 x3 x4 x5 x6 post := by
  intro P hP
  have loop : ∀ (n : Nat) (x3 : Int32) (x4 : Int32) (x6 : Int32), (9 - x6.toInt < (n : Int)) → (iv (-1) 2147483647 x3) → (iv 0 1000 x4) → (iv 0 9 x6) → P x3 x4 x6 := by
    intro n
    induction n with
    | zero => intro x3 x4 x6 hm hx3 hx4 hx6; exact (ms0_up hm hx6).elim
    | succ n ih =>
      intro x3 x4 x6 hm hx3 hx4 hx6
      apply hP
      refine ⟨fun c1 => ?_, fun c1 => ?_⟩
      · skip
        intro w2 ew2
        have hw2 := iv_eq ew2 (iv_add (l := 1) (h := 61) hx5 (iv_lit (l := 1) (h := 1) (by decide)) (by decide))
        exact hP16 _ _ _ (ml_up hm16 (inc_lt ew2 hx5 (by decide))) hx3 hx4 (iv_w hw2 (by decide))
      · skip
        refine s_wp_X7_fromBy_9_0 k_a_heard (iv_ltb (l := 1) (h := 9) (r_nle c1) hx6 k_lf_huts (by decide)) (iv_lta (l := 0) (h := 8) (r_nle c1) hx6 k_lf_huts (by decide)) (iv_w hx5 (by decide)) (fun r3 hr3 => ?_)
        refine s_z_J6_bitCount_0f7a4_0 (iv_w (iv_andr (l := 0) (h := 511) hr3 (by decide)) (by decide)) (fun r4 hr4 => ?_)
        refine s_z_J6_bitCount_0f7a4_0 (iv_w hx2 (by decide)) (fun r5 hr5 => ?_)
        refine ⟨fun c6 => ?_, fun c6 => ?_⟩
        · skip
          exact s_wp_X7_question_9_67 k_a_heard (iv_ltb (l := 1) (h := 9) (r_nle c1) hx6 k_lf_huts (by decide)) hx2 hx3 (iv_lea (l := 0) (h := 63) (r_le c6) hx4 (iv_max (l := 0) (h := 63) hr4 (iv_sub (l := (-63)) (h := 63) hr5 hr4 (by decide)) (by decide)) (by decide)) hx5 (iv_lta (l := 0) (h := 8) (r_nle c1) hx6 k_lf_huts (by decide)) m16 hm16 hP16 x6.toInt (Int.le_refl _) (fun u0 u1 u2 hq g0 g1 g2 => ih u0 u1 u2 (ms_up hm hq) g0 g1 g2) hpost
        · skip
          intro w7 ew7
          have hw7 := iv_eq ew7 (iv_add (l := 0) (h := 608) (iv_mul (l := 0) (h := 600) (iv_lit (l := 10) (h := 10) (by decide)) hx5 (by decide)) (iv_lta (l := 0) (h := 8) (r_nle c1) hx6 k_lf_huts (by decide)) (by decide))
          exact s_wp_X7_question_9_67 k_a_heard (iv_ltb (l := 1) (h := 9) (r_nle c1) hx6 k_lf_huts (by decide)) hx2 (iv_w hw7 (by decide)) (iv_max (l := 0) (h := 63) hr4 (iv_sub (l := (-63)) (h := 63) hr5 hr4 (by decide)) (by decide)) hx5 (iv_lta (l := 0) (h := 8) (r_nle c1) hx6 k_lf_huts (by decide)) m16 hm16 hP16 x6.toInt (Int.le_refl _) (fun u0 u1 u2 hq g0 g1 g2 => ih u0 u1 u2 (ms_up hm hq) g0 g1 g2) hpost
  exact loop _ _ _ _ (ms_init_up _ _) hx3 hx4 hx6
set_option maxRecDepth 20000 in
theorem s_wp_X7_question_9_16 {a_heard : Nat → Int32} {lf_huts : Int32} {x2 : Int32} {x3 : Int32} {x4 : Int32} {x5 : Int32} {post : Int32 → Prop} (k_a_heard : ∀ j, iv 0 1000 (a_heard j)) (k_lf_huts : iv 0 9 lf_huts) (hx2 : iv 1 511 x2) (hx3 : iv (-1) 2147483647 x3) (hx4 : iv 0 1000 x4) (hx5 : iv 0 61 x5) (hpost : ∀ (r : Int32), iv (-1) 2147483647 r → post r) : q_wp_X7_question_9_16 a_heard lf_huts x2 x3 x4 x5 post := by
  intro P hP
  have loop : ∀ (n : Nat) (x3 : Int32) (x4 : Int32) (x5 : Int32), (61 - x5.toInt < (n : Int)) → (iv (-1) 2147483647 x3) → (iv 0 1000 x4) → (iv 0 61 x5) → P x3 x4 x5 := by
    intro n
    induction n with
    | zero => intro x3 x4 x5 hm hx3 hx4 hx5; exact (ms0_up hm hx5).elim
    | succ n ih =>
      intro x3 x4 x5 hm hx3 hx4 hx5
      apply hP
      refine ⟨fun c1 => ?_, fun c1 => ?_⟩
      · skip
        exact hpost _ hx3
      · skip
        exact s_wp_X7_question_9_26 k_a_heard k_lf_huts hx2 hx3 hx4 (iv_lea (l := 0) (h := 60) (r_nlt c1) hx5 (iv_lit (l := 60) (h := 60) (by decide)) (by decide)) (iv_w (iv_lit (l := 0) (h := 0) (by decide)) (by decide)) x5.toInt (Int.le_refl _) (fun u0 u1 u2 hq g0 g1 g2 => ih u0 u1 u2 (ms_up hm hq) g0 g1 g2) hpost
  exact loop _ _ _ _ (ms_init_up _ _) hx3 hx4 hx5
set_option maxRecDepth 20000 in
theorem s_wp_X7_question_9_0 {a_heard : Nat → Int32} {lf_huts : Int32} {x2 : Int32} {post : Int32 → Prop} (k_a_heard : ∀ j, iv 0 1000 (a_heard j)) (k_lf_huts : iv 0 9 lf_huts) (hx2 : iv 0 511 x2) (hpost : ∀ (r : Int32), iv (-1) 2147483647 r → post r) : q_wp_X7_question_9_0 a_heard lf_huts x2 post := by
  refine ⟨fun c1 => ?_, fun c1 => ?_⟩
  · skip
    exact s_wp_X7_question_9_16 k_a_heard k_lf_huts (iv_ne (l := 1) (h := 511) c1 hx2 (iv_lit (l := 0) (h := 0) (by decide)) (by decide)) (iv_w (iv_lit (l := (-1)) (h := (-1)) (by decide)) (by decide)) (iv_w (iv_lit (l := 1000) (h := 1000) (by decide)) (by decide)) (iv_w (iv_lit (l := 0) (h := 0) (by decide)) (by decide)) hpost
  · skip
    exact hpost _ (iv_w (iv_lit (l := (-1)) (h := (-1)) (by decide)) (by decide))
-- wp_X7_soonest_9
set_option maxRecDepth 20000 in
theorem s_wp_X7_soonest_9_7 {a_heard : Nat → Int32} {lf_huts : Int32} {x2 : Int32} {x3 : Int32} {x4 : Int32} {post : Int32 → Prop} (k_a_heard : ∀ j, iv 0 1000 (a_heard j)) (k_lf_huts : iv 1 9 lf_huts) (hx2 : iv 0 8 x2) (hx3 : iv 0 1000 x3) (hx4 : iv 0 9 x4) (hpost : ∀ (r : Int32), iv 0 1000 r → post r) : q_wp_X7_soonest_9_7 a_heard lf_huts x2 x3 x4 post := by
  intro P hP
  have loop : ∀ (n : Nat) (x3 : Int32) (x4 : Int32), (9 - x4.toInt < (n : Int)) → (iv 0 1000 x3) → (iv 0 9 x4) → P x3 x4 := by
    intro n
    induction n with
    | zero => intro x3 x4 hm hx3 hx4; exact (ms0_up hm hx4).elim
    | succ n ih =>
      intro x3 x4 hm hx3 hx4
      apply hP
      refine ⟨fun c1 => ?_, fun c1 => ?_⟩
      · skip
        exact hpost _ hx3
      · skip
        refine ⟨iv_in (iv_add (l := 0) (h := 80) (iv_mul (l := 0) (h := 72) (iv_lta (l := 0) (h := 8) (r_nle c1) hx4 k_lf_huts (by decide)) (iv_lit (l := 9) (h := 9) (by decide)) (by decide)) hx2 (by decide)) (by decide), ?_⟩
        intro w2 ew2
        have hw2 := iv_eq ew2 (iv_min (l := 0) (h := 1000) hx3 (k_a_heard _) (by decide))
        intro w3 ew3
        have hw3 := iv_eq ew3 (iv_add (l := 1) (h := 9) (iv_lta (l := 0) (h := 8) (r_nle c1) hx4 k_lf_huts (by decide)) (iv_lit (l := 1) (h := 1) (by decide)) (by decide))
        exact ih _ _ (ms_up hm (inc_lt ew3 (iv_lta (l := 0) (h := 8) (r_nle c1) hx4 k_lf_huts (by decide)) (by decide))) hw2 (iv_w hw3 (by decide))
  exact loop _ _ _ (ms_init_up _ _) hx3 hx4
set_option maxRecDepth 20000 in
theorem s_wp_X7_soonest_9_0 {a_heard : Nat → Int32} {lf_huts : Int32} {x2 : Int32} {post : Int32 → Prop} (k_a_heard : ∀ j, iv 0 1000 (a_heard j)) (k_lf_huts : iv 1 9 lf_huts) (hx2 : iv 0 8 x2) (hpost : ∀ (r : Int32), iv 0 1000 r → post r) : q_wp_X7_soonest_9_0 a_heard lf_huts x2 post := by
  exact s_wp_X7_soonest_9_7 k_a_heard k_lf_huts hx2 (iv_w (iv_lit (l := 1000) (h := 1000) (by decide)) (by decide)) (iv_w (iv_lit (l := 0) (h := 0) (by decide)) (by decide)) hpost
-- wp_X7_carried_9
set_option maxRecDepth 20000 in
theorem s_wp_X7_carried_9_66 {P11 : Int32 → Int32 → Int32 → Prop} {a_heard : Nat → Int32} {a_walked : Nat → Int32} {lf_huts : Int32} {lf_villages : Int32} {lf_dams : Int32} {x2 : Int32} {x3 : Int32} {x4 : Int32} {x5 : Int32} {x6 : Int32} {post : Int32 → Prop} (k_a_heard : ∀ j, iv 0 1000 (a_heard j)) (k_a_walked : ∀ j, iv 0 1000 (a_walked j)) (k_lf_huts : iv 1 9 lf_huts) (k_lf_villages : iv 0 511 lf_villages) (k_lf_dams : iv 0 511 lf_dams) (hx2 : iv 0 8 x2) (hx4 : iv (-1) 8 x4) (hx5 : iv 0 1000 x5) (hx6 : iv 0 8 x6) (m11 : Int) (hm11 : m11 ≤ x6.toInt) (hP11 : ∀ (x4 : Int32) (x5 : Int32) (x6 : Int32), m11 < x6.toInt → iv (-1) 8 x4 → iv 0 1000 x5 → iv 0 9 x6 → P11 x4 x5 x6) (hpost : ∀ (r : Int32), iv (-1) 1000 r → post r) : q_wp_X7_carried_9_66 P11 a_heard a_walked lf_huts lf_villages lf_dams x2 x3 x4 x5 x6 post := by
  intro w1 ew1
  have hw1 := iv_eq ew1 (iv_add (l := 1) (h := 9) hx6 (iv_lit (l := 1) (h := 1) (by decide)) (by decide))
  exact hP11 _ _ _ (ml_up hm11 (inc_lt ew1 hx6 (by decide))) hx4 hx5 (iv_w hw1 (by decide))
set_option maxRecDepth 20000 in
theorem s_wp_X7_carried_9_11 {a_heard : Nat → Int32} {a_walked : Nat → Int32} {lf_huts : Int32} {lf_villages : Int32} {lf_dams : Int32} {x2 : Int32} {x3 : Int32} {x4 : Int32} {x5 : Int32} {x6 : Int32} {post : Int32 → Prop} (k_a_heard : ∀ j, iv 0 1000 (a_heard j)) (k_a_walked : ∀ j, iv 0 1000 (a_walked j)) (k_lf_huts : iv 0 9 lf_huts) (k_lf_villages : iv 0 511 lf_villages) (k_lf_dams : iv 0 511 lf_dams) (hx2 : iv 0 8 x2) (hx4 : iv (-1) 8 x4) (hx5 : iv 0 1000 x5) (hx6 : iv 0 9 x6) (hpost : ∀ (r : Int32), iv (-1) 1000 r → post r) : q_wp_X7_carried_9_11 a_heard a_walked lf_huts lf_villages lf_dams x2 x3 x4 x5 x6 post := by
  intro P hP
  have loop : ∀ (n : Nat) (x4 : Int32) (x5 : Int32) (x6 : Int32), (9 - x6.toInt < (n : Int)) → (iv (-1) 8 x4) → (iv 0 1000 x5) → (iv 0 9 x6) → P x4 x5 x6 := by
    intro n
    induction n with
    | zero => intro x4 x5 x6 hm hx4 hx5 hx6; exact (ms0_up hm hx6).elim
    | succ n ih =>
      intro x4 x5 x6 hm hx4 hx5 hx6
      apply hP
      refine ⟨fun c1 => ?_, fun c1 => ?_⟩
      · skip
        refine ⟨fun c2 => ?_, fun c2 => ?_⟩
        · skip
          exact hpost _ (iv_w (iv_eqa (l := (-1)) (h := (-1)) c2 hx4 (iv_lit (l := (-1)) (h := (-1)) (by decide)) (by decide)) (by decide))
        · skip
          refine ⟨fun c3 => ?_, fun c3 => ?_⟩
          · skip
            exact hpost _ (iv_w (iv_ne (l := 0) (h := 8) c2 hx4 (iv_lit (l := (-1)) (h := (-1)) (by decide)) (by decide)) (by decide))
          · skip
            exact hpost _ (iv_w hx5 (by decide))
      · skip
        refine ⟨iv_in (iv_add (l := 0) (h := 80) (iv_mul (l := 0) (h := 72) hx2 (iv_lit (l := 9) (h := 9) (by decide)) (by decide)) (iv_lta (l := 0) (h := 8) (r_nle c1) hx6 k_lf_huts (by decide)) (by decide)) (by decide), ?_⟩
        refine s_wp_X7_lastVillage_9_0 k_a_heard (iv_w (iv_ltb (l := 1) (h := 9) (r_nle c1) hx6 k_lf_huts (by decide)) (by decide)) k_lf_villages k_lf_dams (iv_lta (l := 0) (h := 8) (r_nle c1) hx6 k_lf_huts (by decide)) (fun r4 hr4 => ?_)
        intro w5 ew5
        have hw5 := iv_eq ew5 (iv_add (l := 0) (h := 2000) (k_a_walked _) hr4 (by decide))
        refine ⟨fun c6 => ?_, fun c6 => ?_⟩
        · skip
          refine ⟨fun c7 => ?_, fun c7 => ?_⟩
          · skip
            exact (iv_emp (iv_ne (l := 1) (h := 0) c7 (iv_lit (l := 0) (h := 0) (by decide)) (iv_lit (l := 0) (h := 0) (by decide)) (by decide)) (by decide)).elim
          · skip
            refine ⟨fun c8 => ?_, fun c8 => ?_⟩
            · skip
              exact s_wp_X7_carried_9_66 k_a_heard k_a_walked (iv_ltb (l := 1) (h := 9) (r_nle c1) hx6 k_lf_huts (by decide)) k_lf_villages k_lf_dams hx2 hx4 hx5 (iv_lta (l := 0) (h := 8) (r_nle c1) hx6 k_lf_huts (by decide)) x6.toInt (Int.le_refl _) (fun u0 u1 u2 hq g0 g1 g2 => ih u0 u1 u2 (ms_up hm hq) g0 g1 g2) hpost
            · skip
              exact s_wp_X7_carried_9_66 k_a_heard k_a_walked (iv_ltb (l := 1) (h := 9) (r_nle c1) hx6 k_lf_huts (by decide)) k_lf_villages k_lf_dams hx2 (iv_w (iv_lta (l := 0) (h := 8) (r_nle c1) hx6 k_lf_huts (by decide)) (by decide)) (iv_w (iv_lta (l := 0) (h := 999) (r_nle c8) hw5 hx5 (by decide)) (by decide)) (iv_lta (l := 0) (h := 8) (r_nle c1) hx6 k_lf_huts (by decide)) x6.toInt (Int.le_refl _) (fun u0 u1 u2 hq g0 g1 g2 => ih u0 u1 u2 (ms_up hm hq) g0 g1 g2) hpost
        · skip
          refine ⟨fun c9 => ?_, fun c9 => ?_⟩
          · skip
            exact s_wp_X7_carried_9_66 k_a_heard k_a_walked (iv_ltb (l := 1) (h := 9) (r_nle c1) hx6 k_lf_huts (by decide)) k_lf_villages k_lf_dams hx2 hx4 hx5 (iv_lta (l := 0) (h := 8) (r_nle c1) hx6 k_lf_huts (by decide)) x6.toInt (Int.le_refl _) (fun u0 u1 u2 hq g0 g1 g2 => ih u0 u1 u2 (ms_up hm hq) g0 g1 g2) hpost
          · skip
            exact (iv_emp (iv_eqa (l := 1) (h := 0) c9 (iv_lit (l := 1) (h := 1) (by decide)) (iv_lit (l := 0) (h := 0) (by decide)) (by decide)) (by decide)).elim
  exact loop _ _ _ _ (ms_init_up _ _) hx4 hx5 hx6
set_option maxRecDepth 20000 in
theorem s_wp_X7_carried_9_0 {a_heard : Nat → Int32} {a_walked : Nat → Int32} {lf_huts : Int32} {lf_villages : Int32} {lf_dams : Int32} {x2 : Int32} {x3 : Int32} {post : Int32 → Prop} (k_a_heard : ∀ j, iv 0 1000 (a_heard j)) (k_a_walked : ∀ j, iv 0 1000 (a_walked j)) (k_lf_huts : iv 0 9 lf_huts) (k_lf_villages : iv 0 511 lf_villages) (k_lf_dams : iv 0 511 lf_dams) (hx2 : iv 0 8 x2) (hpost : ∀ (r : Int32), iv (-1) 1000 r → post r) : q_wp_X7_carried_9_0 a_heard a_walked lf_huts lf_villages lf_dams x2 x3 post := by
  exact s_wp_X7_carried_9_11 k_a_heard k_a_walked k_lf_huts k_lf_villages k_lf_dams hx2 (iv_w (iv_lit (l := (-1)) (h := (-1)) (by decide)) (by decide)) (iv_w (iv_lit (l := 1000) (h := 1000) (by decide)) (by decide)) (iv_w (iv_lit (l := 0) (h := 0) (by decide)) (by decide)) hpost
-- wp_X7_tops_9
set_option maxRecDepth 20000 in
theorem s_wp_X7_tops_9_33 {P4 : Int32 → Int32 → Prop} {a_heard : Nat → Int32} {lf_huts : Int32} {x2 : Int32} {x3 : Int32} {post : Int32 → Prop} (k_a_heard : ∀ j, iv 0 1000 (a_heard j)) (k_lf_huts : iv 1 9 lf_huts) (hx2 : iv 0 511 x2) (hx3 : iv 0 8 x3) (m4 : Int) (hm4 : m4 ≤ x3.toInt) (hP4 : ∀ (x2 : Int32) (x3 : Int32), m4 < x3.toInt → iv 0 511 x2 → iv 0 9 x3 → P4 x2 x3) (hpost : ∀ (r : Int32), iv 0 511 r → post r) : q_wp_X7_tops_9_33 P4 a_heard lf_huts x2 x3 post := by
  intro w1 ew1
  have hw1 := iv_eq ew1 (iv_add (l := 1) (h := 9) hx3 (iv_lit (l := 1) (h := 1) (by decide)) (by decide))
  exact hP4 _ _ (ml_up hm4 (inc_lt ew1 hx3 (by decide))) hx2 (iv_w hw1 (by decide))
set_option maxRecDepth 20000 in
theorem s_wp_X7_tops_9_4 {a_heard : Nat → Int32} {lf_huts : Int32} {x2 : Int32} {x3 : Int32} {post : Int32 → Prop} (k_a_heard : ∀ j, iv 0 1000 (a_heard j)) (k_lf_huts : iv 0 9 lf_huts) (hx2 : iv 0 511 x2) (hx3 : iv 0 9 x3) (hpost : ∀ (r : Int32), iv 0 511 r → post r) : q_wp_X7_tops_9_4 a_heard lf_huts x2 x3 post := by
  intro P hP
  have loop : ∀ (n : Nat) (x2 : Int32) (x3 : Int32), (9 - x3.toInt < (n : Int)) → (iv 0 511 x2) → (iv 0 9 x3) → P x2 x3 := by
    intro n
    induction n with
    | zero => intro x2 x3 hm hx2 hx3; exact (ms0_up hm hx3).elim
    | succ n ih =>
      intro x2 x3 hm hx2 hx3
      apply hP
      refine ⟨fun c1 => ?_, fun c1 => ?_⟩
      · skip
        exact hpost _ hx2
      · skip
        refine s_wp_X7_fromBy_9_0 k_a_heard (iv_ltb (l := 1) (h := 9) (r_nle c1) hx3 k_lf_huts (by decide)) (iv_lta (l := 0) (h := 8) (r_nle c1) hx3 k_lf_huts (by decide)) (iv_w (iv_lit (l := 999) (h := 999) (by decide)) (by decide)) (fun r2 hr2 => ?_)
        refine ⟨fun c3 => ?_, fun c3 => ?_⟩
        · skip
          exact s_wp_X7_tops_9_33 k_a_heard (iv_ltb (l := 1) (h := 9) (r_nle c1) hx3 k_lf_huts (by decide)) hx2 (iv_lta (l := 0) (h := 8) (r_nle c1) hx3 k_lf_huts (by decide)) x3.toInt (Int.le_refl _) (fun u0 u1 hq g0 g1 => ih u0 u1 (ms_up hm hq) g0 g1) hpost
        · skip
          intro w4 ew4
          have hw4 := iv_eq ew4 (iv_or 9 (l := 0) (h := 511) hx2 (iv_shl1 (l := 1) (h := 256) (iv_lit (l := 1) (h := 1) (by decide)) (iv_lta (l := 0) (h := 8) (r_nle c1) hx3 k_lf_huts (by decide)) (by decide)) (by decide))
          exact s_wp_X7_tops_9_33 k_a_heard (iv_ltb (l := 1) (h := 9) (r_nle c1) hx3 k_lf_huts (by decide)) hw4 (iv_lta (l := 0) (h := 8) (r_nle c1) hx3 k_lf_huts (by decide)) x3.toInt (Int.le_refl _) (fun u0 u1 hq g0 g1 => ih u0 u1 (ms_up hm hq) g0 g1) hpost
  exact loop _ _ _ (ms_init_up _ _) hx2 hx3
set_option maxRecDepth 20000 in
theorem s_wp_X7_tops_9_0 {a_heard : Nat → Int32} {lf_huts : Int32} {post : Int32 → Prop} (k_a_heard : ∀ j, iv 0 1000 (a_heard j)) (k_lf_huts : iv 0 9 lf_huts) (hpost : ∀ (r : Int32), iv 0 511 r → post r) : q_wp_X7_tops_9_0 a_heard lf_huts post := by
  exact s_wp_X7_tops_9_4 k_a_heard k_lf_huts (iv_w (iv_lit (l := 0) (h := 0) (by decide)) (by decide)) (iv_w (iv_lit (l := 0) (h := 0) (by decide)) (by decide)) hpost
-- wp_X7_heardElsewhere_9
set_option maxRecDepth 20000 in
theorem s_wp_X7_heardElsewhere_9_41 {P5 : Int32 → Int32 → Prop} {a_heard : Nat → Int32} {lf_huts : Int32} {x2 : Int32} {x3 : Int32} {x4 : Int32} {post : Int32 → Prop} (k_a_heard : ∀ j, iv 0 1000 (a_heard j)) (k_lf_huts : iv 1 9 lf_huts) (hx2 : iv 0 8 x2) (hx4 : iv 0 8 x4) (m5 : Int) (hm5 : m5 ≤ x4.toInt) (hP5 : ∀ (x3 : Int32) (x4 : Int32), m5 < x4.toInt → iv 0 9 x4 → P5 x3 x4) (hpost : ∀ (r : Int32), post r) : q_wp_X7_heardElsewhere_9_41 P5 a_heard lf_huts x2 x3 x4 post := by
  intro w1 ew1
  have hw1 := iv_eq ew1 (iv_add (l := 1) (h := 9) hx4 (iv_lit (l := 1) (h := 1) (by decide)) (by decide))
  exact hP5 _ _ (ml_up hm5 (inc_lt ew1 hx4 (by decide))) (iv_w hw1 (by decide))
set_option maxRecDepth 20000 in
theorem s_wp_X7_heardElsewhere_9_5 {a_heard : Nat → Int32} {lf_huts : Int32} {x2 : Int32} {x3 : Int32} {x4 : Int32} {post : Int32 → Prop} (k_a_heard : ∀ j, iv 0 1000 (a_heard j)) (k_lf_huts : iv 1 9 lf_huts) (hx2 : iv 0 8 x2) (hx4 : iv 0 9 x4) (hpost : ∀ (r : Int32), post r) : q_wp_X7_heardElsewhere_9_5 a_heard lf_huts x2 x3 x4 post := by
  intro P hP
  have loop : ∀ (n : Nat) (x3 : Int32) (x4 : Int32), (9 - x4.toInt < (n : Int)) → (iv 0 9 x4) → P x3 x4 := by
    intro n
    induction n with
    | zero => intro x3 x4 hm hx4; exact (ms0_up hm hx4).elim
    | succ n ih =>
      intro x3 x4 hm hx4
      apply hP
      refine ⟨fun c1 => ?_, fun c1 => ?_⟩
      · skip
        exact hpost _
      · skip
        refine ⟨fun c2 => ?_, fun c2 => ?_⟩
        · skip
          exact s_wp_X7_heardElsewhere_9_41 k_a_heard k_lf_huts hx2 (iv_lta (l := 0) (h := 8) (r_nle c1) hx4 k_lf_huts (by decide)) x4.toInt (Int.le_refl _) (fun u0 u1 hq g0 => ih u0 u1 (ms_up hm hq) g0) hpost
        · skip
          refine ⟨iv_in (iv_add (l := 0) (h := 80) (iv_mul (l := 0) (h := 72) hx2 (iv_lit (l := 9) (h := 9) (by decide)) (by decide)) (iv_lta (l := 0) (h := 8) (r_nle c1) hx4 k_lf_huts (by decide)) (by decide)) (by decide), ?_⟩
          refine ⟨fun c3 => ?_, fun c3 => ?_⟩
          · skip
            exact s_wp_X7_heardElsewhere_9_41 k_a_heard k_lf_huts hx2 (iv_lta (l := 0) (h := 8) (r_nle c1) hx4 k_lf_huts (by decide)) x4.toInt (Int.le_refl _) (fun u0 u1 hq g0 => ih u0 u1 (ms_up hm hq) g0) hpost
          · skip
            intro w4 ew4
            exact s_wp_X7_heardElsewhere_9_41 k_a_heard k_lf_huts hx2 (iv_lta (l := 0) (h := 8) (r_nle c1) hx4 k_lf_huts (by decide)) x4.toInt (Int.le_refl _) (fun u0 u1 hq g0 => ih u0 u1 (ms_up hm hq) g0) hpost
  exact loop _ _ _ (ms_init_up _ _) hx4
set_option maxRecDepth 20000 in
theorem s_wp_X7_heardElsewhere_9_0 {a_heard : Nat → Int32} {lf_huts : Int32} {x2 : Int32} {post : Int32 → Prop} (k_a_heard : ∀ j, iv 0 1000 (a_heard j)) (k_lf_huts : iv 1 9 lf_huts) (hx2 : iv 0 8 x2) (hpost : ∀ (r : Int32), post r) : q_wp_X7_heardElsewhere_9_0 a_heard lf_huts x2 post := by
  exact s_wp_X7_heardElsewhere_9_5 k_a_heard k_lf_huts hx2 (iv_w (iv_lit (l := 0) (h := 0) (by decide)) (by decide)) hpost
-- wp_X7_ends_9
set_option maxRecDepth 20000 in
theorem s_wp_X7_ends_9_35 {P4 : Int32 → Int32 → Prop} {a_heard : Nat → Int32} {lf_huts : Int32} {lf_dams : Int32} {x2 : Int32} {x3 : Int32} {post : Int32 → Prop} (k_a_heard : ∀ j, iv 0 1000 (a_heard j)) (k_lf_huts : iv 1 9 lf_huts) (k_lf_dams : iv 0 511 lf_dams) (hx2 : iv 0 511 x2) (hx3 : iv 0 8 x3) (m4 : Int) (hm4 : m4 ≤ x3.toInt) (hP4 : ∀ (x2 : Int32) (x3 : Int32), m4 < x3.toInt → iv 0 511 x2 → iv 0 9 x3 → P4 x2 x3) (hpost : ∀ (r : Int32), iv 0 511 r → post r) : q_wp_X7_ends_9_35 P4 a_heard lf_huts lf_dams x2 x3 post := by
  intro w1 ew1
  have hw1 := iv_eq ew1 (iv_add (l := 1) (h := 9) hx3 (iv_lit (l := 1) (h := 1) (by decide)) (by decide))
  exact hP4 _ _ (ml_up hm4 (inc_lt ew1 hx3 (by decide))) hx2 (iv_w hw1 (by decide))
set_option maxRecDepth 20000 in
theorem s_wp_X7_ends_9_4 {a_heard : Nat → Int32} {lf_huts : Int32} {lf_dams : Int32} {x2 : Int32} {x3 : Int32} {post : Int32 → Prop} (k_a_heard : ∀ j, iv 0 1000 (a_heard j)) (k_lf_huts : iv 0 9 lf_huts) (k_lf_dams : iv 0 511 lf_dams) (hx2 : iv 0 511 x2) (hx3 : iv 0 9 x3) (hpost : ∀ (r : Int32), iv 0 511 r → post r) : q_wp_X7_ends_9_4 a_heard lf_huts lf_dams x2 x3 post := by
  intro P hP
  have loop : ∀ (n : Nat) (x2 : Int32) (x3 : Int32), (9 - x3.toInt < (n : Int)) → (iv 0 511 x2) → (iv 0 9 x3) → P x2 x3 := by
    intro n
    induction n with
    | zero => intro x2 x3 hm hx2 hx3; exact (ms0_up hm hx3).elim
    | succ n ih =>
      intro x2 x3 hm hx2 hx3
      apply hP
      refine ⟨fun c1 => ?_, fun c1 => ?_⟩
      · skip
        exact hpost _ hx2
      · skip
        refine ⟨fun c2 => ?_, fun c2 => ?_⟩
        · skip
          refine ⟨fun c3 => ?_, fun c3 => ?_⟩
          · skip
            exact (iv_emp (iv_ne (l := 1) (h := 0) c3 (iv_lit (l := 0) (h := 0) (by decide)) (iv_lit (l := 0) (h := 0) (by decide)) (by decide)) (by decide)).elim
          · skip
            refine s_wp_X7_heardElsewhere_9_0 k_a_heard (iv_ltb (l := 1) (h := 9) (r_nle c1) hx3 k_lf_huts (by decide)) (iv_lta (l := 0) (h := 8) (r_nle c1) hx3 k_lf_huts (by decide)) (fun r4 => ?_)
            refine ⟨fun c5 => ?_, fun c5 => ?_⟩
            · skip
              exact s_wp_X7_ends_9_35 k_a_heard (iv_ltb (l := 1) (h := 9) (r_nle c1) hx3 k_lf_huts (by decide)) k_lf_dams hx2 (iv_lta (l := 0) (h := 8) (r_nle c1) hx3 k_lf_huts (by decide)) x3.toInt (Int.le_refl _) (fun u0 u1 hq g0 g1 => ih u0 u1 (ms_up hm hq) g0 g1) hpost
            · skip
              intro w6 ew6
              have hw6 := iv_eq ew6 (iv_or 9 (l := 0) (h := 511) hx2 (iv_shl1 (l := 1) (h := 256) (iv_lit (l := 1) (h := 1) (by decide)) (iv_lta (l := 0) (h := 8) (r_nle c1) hx3 k_lf_huts (by decide)) (by decide)) (by decide))
              exact s_wp_X7_ends_9_35 k_a_heard (iv_ltb (l := 1) (h := 9) (r_nle c1) hx3 k_lf_huts (by decide)) k_lf_dams hw6 (iv_lta (l := 0) (h := 8) (r_nle c1) hx3 k_lf_huts (by decide)) x3.toInt (Int.le_refl _) (fun u0 u1 hq g0 g1 => ih u0 u1 (ms_up hm hq) g0 g1) hpost
        · skip
          refine ⟨fun c7 => ?_, fun c7 => ?_⟩
          · skip
            exact s_wp_X7_ends_9_35 k_a_heard (iv_ltb (l := 1) (h := 9) (r_nle c1) hx3 k_lf_huts (by decide)) k_lf_dams hx2 (iv_lta (l := 0) (h := 8) (r_nle c1) hx3 k_lf_huts (by decide)) x3.toInt (Int.le_refl _) (fun u0 u1 hq g0 g1 => ih u0 u1 (ms_up hm hq) g0 g1) hpost
          · skip
            exact (iv_emp (iv_eqa (l := 1) (h := 0) c7 (iv_lit (l := 1) (h := 1) (by decide)) (iv_lit (l := 0) (h := 0) (by decide)) (by decide)) (by decide)).elim
  exact loop _ _ _ (ms_init_up _ _) hx2 hx3
set_option maxRecDepth 20000 in
theorem s_wp_X7_ends_9_0 {a_heard : Nat → Int32} {lf_huts : Int32} {lf_dams : Int32} {post : Int32 → Prop} (k_a_heard : ∀ j, iv 0 1000 (a_heard j)) (k_lf_huts : iv 0 9 lf_huts) (k_lf_dams : iv 0 511 lf_dams) (hpost : ∀ (r : Int32), iv 0 511 r → post r) : q_wp_X7_ends_9_0 a_heard lf_huts lf_dams post := by
  exact s_wp_X7_ends_9_4 k_a_heard k_lf_huts k_lf_dams (iv_w (iv_lit (l := 0) (h := 0) (by decide)) (by decide)) (iv_w (iv_lit (l := 0) (h := 0) (by decide)) (by decide)) hpost
-- wp_X7_couples_9
set_option maxRecDepth 20000 in
theorem s_wp_X7_couples_9_4 {a_heard : Nat → Int32} {lf_huts : Int32} {x2 : Int32} {x3 : Int32} {post : Int32 → Prop} (k_a_heard : ∀ j, iv 0 1000 (a_heard j)) (k_lf_huts : iv 0 9 lf_huts) (hx3 : iv 0 9 x3) (hpost : ∀ (r : Int32), post r) : q_wp_X7_couples_9_4 a_heard lf_huts x2 x3 post := by
  intro P hP
  have loop : ∀ (n : Nat) (x2 : Int32) (x3 : Int32), (9 - x3.toInt < (n : Int)) → (iv 0 9 x3) → P x2 x3 := by
    intro n
    induction n with
    | zero => intro x2 x3 hm hx3; exact (ms0_up hm hx3).elim
    | succ n ih =>
      intro x2 x3 hm hx3
      apply hP
      refine ⟨fun c1 => ?_, fun c1 => ?_⟩
      · skip
        exact hpost _
      · skip
        refine s_wp_X7_heardElsewhere_9_0 k_a_heard (iv_ltb (l := 1) (h := 9) (r_nle c1) hx3 k_lf_huts (by decide)) (iv_lta (l := 0) (h := 8) (r_nle c1) hx3 k_lf_huts (by decide)) (fun r2 => ?_)
        intro w3 ew3
        intro w4 ew4
        have hw4 := iv_eq ew4 (iv_add (l := 1) (h := 9) (iv_lta (l := 0) (h := 8) (r_nle c1) hx3 k_lf_huts (by decide)) (iv_lit (l := 1) (h := 1) (by decide)) (by decide))
        exact ih _ _ (ms_up hm (inc_lt ew4 (iv_lta (l := 0) (h := 8) (r_nle c1) hx3 k_lf_huts (by decide)) (by decide))) (iv_w hw4 (by decide))
  exact loop _ _ _ (ms_init_up _ _) hx3
set_option maxRecDepth 20000 in
theorem s_wp_X7_couples_9_0 {a_heard : Nat → Int32} {lf_huts : Int32} {post : Int32 → Prop} (k_a_heard : ∀ j, iv 0 1000 (a_heard j)) (k_lf_huts : iv 0 9 lf_huts) (hpost : ∀ (r : Int32), post r) : q_wp_X7_couples_9_0 a_heard lf_huts post := by
  exact s_wp_X7_couples_9_4 k_a_heard k_lf_huts (iv_w (iv_lit (l := 0) (h := 0) (by decide)) (by decide)) hpost
-- wp_X7_fewestDams_9
set_option maxRecDepth 20000 in
theorem s_wp_X7_fewestDams_9_85 {P28 : Int32 → Int32 → Int32 → Prop} {a_next : Nat → Int32} {lf_huts : Int32} {lf_dams : Int32} {x2 : Int32} {x3 : Int32} {x4 : Int32} {x5 : Int32} {x6 : Int32} {x7 : Int32} {post : Int32 → Prop} (k_a_next : ∀ j, iv 0 511 (a_next j)) (k_lf_huts : iv 1 9 lf_huts) (k_lf_dams : iv 0 511 lf_dams) (hx2 : iv 0 8 x2) (hx3 : iv 0 8 x3) (hx4 : iv 0 511 x4) (hx5 : iv (-1) 511 x5) (hx6 : iv 0 63 x6) (hx7 : iv 0 511 x7) (m28 : Int) (hm28 : m28 ≤ x7.toInt) (hP28 : ∀ (x5 : Int32) (x6 : Int32) (x7 : Int32), m28 < x7.toInt → iv (-1) 511 x5 → iv 0 63 x6 → iv 0 512 x7 → P28 x5 x6 x7) (hpost : ∀ (r : Int32), iv (-1) 511 r → post r) : q_wp_X7_fewestDams_9_85 P28 a_next lf_huts lf_dams x2 x3 x4 x5 x6 x7 post := by
  intro w1 ew1
  have hw1 := iv_eq ew1 (iv_add (l := 1) (h := 512) hx7 (iv_lit (l := 1) (h := 1) (by decide)) (by decide))
  exact hP28 _ _ _ (ml_up hm28 (inc_lt ew1 hx7 (by decide))) hx5 hx6 (iv_w hw1 (by decide))
set_option maxRecDepth 20000 in
theorem s_wp_X7_fewestDams_9_28 {a_next : Nat → Int32} {lf_huts : Int32} {lf_dams : Int32} {x2 : Int32} {x3 : Int32} {x4 : Int32} {x5 : Int32} {x6 : Int32} {x7 : Int32} {post : Int32 → Prop} (k_a_next : ∀ j, iv 0 511 (a_next j)) (k_lf_huts : iv 1 9 lf_huts) (k_lf_dams : iv 0 511 lf_dams) (hx2 : iv 0 8 x2) (hx3 : iv 0 8 x3) (hx4 : iv 0 511 x4) (hx5 : iv (-1) 511 x5) (hx6 : iv 0 63 x6) (hx7 : iv 0 512 x7) (hpost : ∀ (r : Int32), iv (-1) 511 r → post r) : q_wp_X7_fewestDams_9_28 a_next lf_huts lf_dams x2 x3 x4 x5 x6 x7 post := by
  intro P hP
  have loop : ∀ (n : Nat) (x5 : Int32) (x6 : Int32) (x7 : Int32), (512 - x7.toInt < (n : Int)) → (iv (-1) 511 x5) → (iv 0 63 x6) → (iv 0 512 x7) → P x5 x6 x7 := by
    intro n
    induction n with
    | zero => intro x5 x6 x7 hm hx5 hx6 hx7; exact (ms0_up hm hx7).elim
    | succ n ih =>
      intro x5 x6 x7 hm hx5 hx6 hx7
      apply hP
      refine ⟨fun c1 => ?_, fun c1 => ?_⟩
      · skip
        exact hpost _ hx5
      · skip
        refine ⟨fun c2 => ?_, fun c2 => ?_⟩
        · skip
          exact s_wp_X7_fewestDams_9_85 k_a_next k_lf_huts k_lf_dams hx2 hx3 hx4 hx5 hx6 (iv_lta (l := 0) (h := 511) (r_nle c1) hx7 (iv_shl1 (l := 1) (h := 512) (iv_lit (l := 1) (h := 1) (by decide)) k_lf_huts (by decide)) (by decide)) x7.toInt (Int.le_refl _) (fun u0 u1 u2 hq g0 g1 g2 => ih u0 u1 u2 (ms_up hm hq) g0 g1 g2) hpost
        · skip
          refine s_z_J6_bitCount_0f7a4_0 (iv_w (iv_lta (l := 0) (h := 511) (r_nle c1) hx7 (iv_shl1 (l := 1) (h := 512) (iv_lit (l := 1) (h := 1) (by decide)) k_lf_huts (by decide)) (by decide)) (by decide)) (fun r3 hr3 => ?_)
          refine ⟨fun c4 => ?_, fun c4 => ?_⟩
          · skip
            exact s_wp_X7_fewestDams_9_85 k_a_next k_lf_huts k_lf_dams hx2 hx3 hx4 hx5 hx6 (iv_lta (l := 0) (h := 511) (r_nle c1) hx7 (iv_shl1 (l := 1) (h := 512) (iv_lit (l := 1) (h := 1) (by decide)) k_lf_huts (by decide)) (by decide)) x7.toInt (Int.le_refl _) (fun u0 u1 u2 hq g0 g1 g2 => ih u0 u1 u2 (ms_up hm hq) g0 g1 g2) hpost
          · skip
            refine s_wp_X7_reach_5_0 k_a_next hx2 (iv_lta (l := 0) (h := 511) (r_nle c1) hx7 (iv_shl1 (l := 1) (h := 512) (iv_lit (l := 1) (h := 1) (by decide)) k_lf_huts (by decide)) (by decide)) (fun r5 hr5 => ?_)
            refine ⟨fun c6 => ?_, fun c6 => ?_⟩
            · skip
              refine ⟨fun c7 => ?_, fun c7 => ?_⟩
              · skip
                exact (iv_emp (iv_ne (l := 1) (h := 0) c7 (iv_lit (l := 0) (h := 0) (by decide)) (iv_lit (l := 0) (h := 0) (by decide)) (by decide)) (by decide)).elim
              · skip
                refine s_z_J6_bitCount_0f7a4_0 (iv_w (iv_lta (l := 0) (h := 511) (r_nle c1) hx7 (iv_shl1 (l := 1) (h := 512) (iv_lit (l := 1) (h := 1) (by decide)) k_lf_huts (by decide)) (by decide)) (by decide)) (fun r8 hr8 => ?_)
                exact s_wp_X7_fewestDams_9_85 k_a_next k_lf_huts k_lf_dams hx2 hx3 hx4 (iv_w (iv_lta (l := 0) (h := 511) (r_nle c1) hx7 (iv_shl1 (l := 1) (h := 512) (iv_lit (l := 1) (h := 1) (by decide)) k_lf_huts (by decide)) (by decide)) (by decide)) hr8 (iv_lta (l := 0) (h := 511) (r_nle c1) hx7 (iv_shl1 (l := 1) (h := 512) (iv_lit (l := 1) (h := 1) (by decide)) k_lf_huts (by decide)) (by decide)) x7.toInt (Int.le_refl _) (fun u0 u1 u2 hq g0 g1 g2 => ih u0 u1 u2 (ms_up hm hq) g0 g1 g2) hpost
            · skip
              refine ⟨fun c9 => ?_, fun c9 => ?_⟩
              · skip
                exact s_wp_X7_fewestDams_9_85 k_a_next k_lf_huts k_lf_dams hx2 hx3 hx4 hx5 (iv_w (iv_ltb (l := 1) (h := 63) (r_nle c4) hr3 hx6 (by decide)) (by decide)) (iv_lta (l := 0) (h := 511) (r_nle c1) hx7 (iv_shl1 (l := 1) (h := 512) (iv_lit (l := 1) (h := 1) (by decide)) k_lf_huts (by decide)) (by decide)) x7.toInt (Int.le_refl _) (fun u0 u1 u2 hq g0 g1 g2 => ih u0 u1 u2 (ms_up hm hq) g0 g1 g2) hpost
              · skip
                exact (iv_emp (iv_eqa (l := 1) (h := 0) c9 (iv_lit (l := 1) (h := 1) (by decide)) (iv_lit (l := 0) (h := 0) (by decide)) (by decide)) (by decide)).elim
  exact loop _ _ _ _ (ms_init_up _ _) hx5 hx6 hx7
set_option maxRecDepth 20000 in
theorem s_wp_X7_fewestDams_9_0 {a_next : Nat → Int32} {lf_huts : Int32} {lf_dams : Int32} {x2 : Int32} {x3 : Int32} {post : Int32 → Prop} (k_a_next : ∀ j, iv 0 511 (a_next j)) (k_lf_huts : iv 1 9 lf_huts) (k_lf_dams : iv 0 511 lf_dams) (hx2 : iv 0 8 x2) (hx3 : iv 0 8 x3) (hpost : ∀ (r : Int32), iv (-1) 511 r → post r) : q_wp_X7_fewestDams_9_0 a_next lf_huts lf_dams x2 x3 post := by
  intro w1 ew1
  have hw1 := iv_eq ew1 (iv_or 9 (l := 0) (h := 511) (iv_or 9 (l := 0) (h := 511) k_lf_dams (iv_shl1 (l := 1) (h := 256) (iv_lit (l := 1) (h := 1) (by decide)) hx2 (by decide)) (by decide)) (iv_shl1 (l := 1) (h := 256) (iv_lit (l := 1) (h := 1) (by decide)) hx3 (by decide)) (by decide))
  intro w2 ew2
  have hw2 := iv_eq ew2 (iv_add (l := 2) (h := 10) k_lf_huts (iv_lit (l := 1) (h := 1) (by decide)) (by decide))
  exact s_wp_X7_fewestDams_9_28 k_a_next k_lf_huts k_lf_dams hx2 hx3 hw1 (iv_w (iv_lit (l := (-1)) (h := (-1)) (by decide)) (by decide)) (iv_w hw2 (by decide)) (iv_w (iv_lit (l := 0) (h := 0) (by decide)) (by decide)) hpost
-- wp_X7_together_9_2
set_option maxRecDepth 20000 in
theorem s_wp_X7_together_9_2_59 {P11 : Int32 → Int32 → Int32 → Prop} {a_walked : Nat → Int32} {lf_huts : Int32} {x3 : Int32} {x4 : Int32} {x5 : Int32} {x6 : Int32} {x7 : Int32} {x8 : Int32} {post : Int32 → Prop} (k_a_walked : ∀ j, iv 0 1000 (a_walked j)) (k_lf_huts : iv 1 9 lf_huts) (hx3 : iv 0 8 x3) (hx4 : iv 0 8 x4) (hx6 : iv (-1) 8 x6) (hx7 : iv 0 1000 x7) (hx8 : iv 0 8 x8) (m11 : Int) (hm11 : m11 ≤ x8.toInt) (hP11 : ∀ (x6 : Int32) (x7 : Int32) (x8 : Int32), m11 < x8.toInt → iv (-1) 8 x6 → iv 0 1000 x7 → iv 0 9 x8 → P11 x6 x7 x8) (hpost : ∀ (r : Int32), iv (-1) 1000 r → post r) : q_wp_X7_together_9_2_59 P11 a_walked lf_huts x3 x4 x5 x6 x7 x8 post := by
  intro w1 ew1
  have hw1 := iv_eq ew1 (iv_add (l := 1) (h := 9) hx8 (iv_lit (l := 1) (h := 1) (by decide)) (by decide))
  exact hP11 _ _ _ (ml_up hm11 (inc_lt ew1 hx8 (by decide))) hx6 hx7 (iv_w hw1 (by decide))
set_option maxRecDepth 20000 in
theorem s_wp_X7_together_9_2_11 {a_walked : Nat → Int32} {lf_huts : Int32} {x3 : Int32} {x4 : Int32} {x5 : Int32} {x6 : Int32} {x7 : Int32} {x8 : Int32} {post : Int32 → Prop} (k_a_walked : ∀ j, iv 0 1000 (a_walked j)) (k_lf_huts : iv 0 9 lf_huts) (hx3 : iv 0 8 x3) (hx4 : iv 0 8 x4) (hx6 : iv (-1) 8 x6) (hx7 : iv 0 1000 x7) (hx8 : iv 0 9 x8) (hpost : ∀ (r : Int32), iv (-1) 1000 r → post r) : q_wp_X7_together_9_2_11 a_walked lf_huts x3 x4 x5 x6 x7 x8 post := by
  intro P hP
  have loop : ∀ (n : Nat) (x6 : Int32) (x7 : Int32) (x8 : Int32), (9 - x8.toInt < (n : Int)) → (iv (-1) 8 x6) → (iv 0 1000 x7) → (iv 0 9 x8) → P x6 x7 x8 := by
    intro n
    induction n with
    | zero => intro x6 x7 x8 hm hx6 hx7 hx8; exact (ms0_up hm hx8).elim
    | succ n ih =>
      intro x6 x7 x8 hm hx6 hx7 hx8
      apply hP
      refine ⟨fun c1 => ?_, fun c1 => ?_⟩
      · skip
        refine ⟨fun c2 => ?_, fun c2 => ?_⟩
        · skip
          exact hpost _ (iv_w (iv_eqa (l := (-1)) (h := (-1)) c2 hx6 (iv_lit (l := (-1)) (h := (-1)) (by decide)) (by decide)) (by decide))
        · skip
          refine ⟨fun c3 => ?_, fun c3 => ?_⟩
          · skip
            exact hpost _ (iv_w (iv_ne (l := 0) (h := 8) c2 hx6 (iv_lit (l := (-1)) (h := (-1)) (by decide)) (by decide)) (by decide))
          · skip
            exact hpost _ (iv_w hx7 (by decide))
      · skip
        refine ⟨iv_in (iv_add (l := 0) (h := 80) (iv_mul (l := 0) (h := 72) hx3 (iv_lit (l := 9) (h := 9) (by decide)) (by decide)) (iv_lta (l := 0) (h := 8) (r_nle c1) hx8 k_lf_huts (by decide)) (by decide)) (by decide), ?_⟩
        refine ⟨iv_in (iv_add (l := 0) (h := 80) (iv_mul (l := 0) (h := 72) hx4 (iv_lit (l := 9) (h := 9) (by decide)) (by decide)) (iv_lta (l := 0) (h := 8) (r_nle c1) hx8 k_lf_huts (by decide)) (by decide)) (by decide), ?_⟩
        intro w4 ew4
        have hw4 := iv_eq ew4 (iv_max (l := 0) (h := 1000) (k_a_walked _) (k_a_walked _) (by decide))
        refine ⟨fun c5 => ?_, fun c5 => ?_⟩
        · skip
          exact s_wp_X7_together_9_2_59 k_a_walked (iv_ltb (l := 1) (h := 9) (r_nle c1) hx8 k_lf_huts (by decide)) hx3 hx4 hx6 hx7 (iv_lta (l := 0) (h := 8) (r_nle c1) hx8 k_lf_huts (by decide)) x8.toInt (Int.le_refl _) (fun u0 u1 u2 hq g0 g1 g2 => ih u0 u1 u2 (ms_up hm hq) g0 g1 g2) hpost
        · skip
          exact s_wp_X7_together_9_2_59 k_a_walked (iv_ltb (l := 1) (h := 9) (r_nle c1) hx8 k_lf_huts (by decide)) hx3 hx4 (iv_w (iv_lta (l := 0) (h := 8) (r_nle c1) hx8 k_lf_huts (by decide)) (by decide)) (iv_w (iv_lta (l := 0) (h := 999) (r_nle c5) hw4 hx7 (by decide)) (by decide)) (iv_lta (l := 0) (h := 8) (r_nle c1) hx8 k_lf_huts (by decide)) x8.toInt (Int.le_refl _) (fun u0 u1 u2 hq g0 g1 g2 => ih u0 u1 u2 (ms_up hm hq) g0 g1 g2) hpost
  exact loop _ _ _ _ (ms_init_up _ _) hx6 hx7 hx8
set_option maxRecDepth 20000 in
theorem s_wp_X7_together_9_2_0 {a_walked : Nat → Int32} {lf_huts : Int32} {x3 : Int32} {x4 : Int32} {x5 : Int32} {post : Int32 → Prop} (k_a_walked : ∀ j, iv 0 1000 (a_walked j)) (k_lf_huts : iv 0 9 lf_huts) (hx3 : iv 0 8 x3) (hx4 : iv 0 8 x4) (hpost : ∀ (r : Int32), iv (-1) 1000 r → post r) : q_wp_X7_together_9_2_0 a_walked lf_huts x3 x4 x5 post := by
  exact s_wp_X7_together_9_2_11 k_a_walked k_lf_huts hx3 hx4 (iv_w (iv_lit (l := (-1)) (h := (-1)) (by decide)) (by decide)) (iv_w (iv_lit (l := 1000) (h := 1000) (by decide)) (by decide)) (iv_w (iv_lit (l := 0) (h := 0) (by decide)) (by decide)) hpost
-- wp_X7_together_9_1
set_option maxRecDepth 20000 in
theorem s_wp_X7_together_9_1_59 {P11 : Int32 → Int32 → Int32 → Prop} {a_heard : Nat → Int32} {lf_huts : Int32} {x3 : Int32} {x4 : Int32} {x5 : Int32} {x6 : Int32} {x7 : Int32} {x8 : Int32} {post : Int32 → Prop} (k_a_heard : ∀ j, iv 0 1000 (a_heard j)) (k_lf_huts : iv 1 9 lf_huts) (hx3 : iv 0 8 x3) (hx4 : iv 0 8 x4) (hx6 : iv (-1) 8 x6) (hx7 : iv 0 1000 x7) (hx8 : iv 0 8 x8) (m11 : Int) (hm11 : m11 ≤ x8.toInt) (hP11 : ∀ (x6 : Int32) (x7 : Int32) (x8 : Int32), m11 < x8.toInt → iv (-1) 8 x6 → iv 0 1000 x7 → iv 0 9 x8 → P11 x6 x7 x8) (hpost : ∀ (r : Int32), iv (-1) 1000 r → post r) : q_wp_X7_together_9_1_59 P11 a_heard lf_huts x3 x4 x5 x6 x7 x8 post := by
  intro w1 ew1
  have hw1 := iv_eq ew1 (iv_add (l := 1) (h := 9) hx8 (iv_lit (l := 1) (h := 1) (by decide)) (by decide))
  exact hP11 _ _ _ (ml_up hm11 (inc_lt ew1 hx8 (by decide))) hx6 hx7 (iv_w hw1 (by decide))
set_option maxRecDepth 20000 in
theorem s_wp_X7_together_9_1_11 {a_heard : Nat → Int32} {lf_huts : Int32} {x3 : Int32} {x4 : Int32} {x5 : Int32} {x6 : Int32} {x7 : Int32} {x8 : Int32} {post : Int32 → Prop} (k_a_heard : ∀ j, iv 0 1000 (a_heard j)) (k_lf_huts : iv 1 9 lf_huts) (hx3 : iv 0 8 x3) (hx4 : iv 0 8 x4) (hx6 : iv (-1) 8 x6) (hx7 : iv 0 1000 x7) (hx8 : iv 0 9 x8) (hpost : ∀ (r : Int32), iv (-1) 1000 r → post r) : q_wp_X7_together_9_1_11 a_heard lf_huts x3 x4 x5 x6 x7 x8 post := by
  intro P hP
  have loop : ∀ (n : Nat) (x6 : Int32) (x7 : Int32) (x8 : Int32), (9 - x8.toInt < (n : Int)) → (iv (-1) 8 x6) → (iv 0 1000 x7) → (iv 0 9 x8) → P x6 x7 x8 := by
    intro n
    induction n with
    | zero => intro x6 x7 x8 hm hx6 hx7 hx8; exact (ms0_up hm hx8).elim
    | succ n ih =>
      intro x6 x7 x8 hm hx6 hx7 hx8
      apply hP
      refine ⟨fun c1 => ?_, fun c1 => ?_⟩
      · skip
        refine ⟨fun c2 => ?_, fun c2 => ?_⟩
        · skip
          exact hpost _ (iv_w (iv_eqa (l := (-1)) (h := (-1)) c2 hx6 (iv_lit (l := (-1)) (h := (-1)) (by decide)) (by decide)) (by decide))
        · skip
          refine ⟨fun c3 => ?_, fun c3 => ?_⟩
          · skip
            exact hpost _ (iv_w (iv_ne (l := 0) (h := 8) c2 hx6 (iv_lit (l := (-1)) (h := (-1)) (by decide)) (by decide)) (by decide))
          · skip
            exact hpost _ (iv_w hx7 (by decide))
      · skip
        refine ⟨iv_in (iv_add (l := 0) (h := 80) (iv_mul (l := 0) (h := 72) hx3 (iv_lit (l := 9) (h := 9) (by decide)) (by decide)) (iv_lta (l := 0) (h := 8) (r_nle c1) hx8 k_lf_huts (by decide)) (by decide)) (by decide), ?_⟩
        refine ⟨iv_in (iv_add (l := 0) (h := 80) (iv_mul (l := 0) (h := 72) hx4 (iv_lit (l := 9) (h := 9) (by decide)) (by decide)) (iv_lta (l := 0) (h := 8) (r_nle c1) hx8 k_lf_huts (by decide)) (by decide)) (by decide), ?_⟩
        intro w4 ew4
        have hw4 := iv_eq ew4 (iv_max (l := 0) (h := 1000) (k_a_heard _) (k_a_heard _) (by decide))
        refine ⟨fun c5 => ?_, fun c5 => ?_⟩
        · skip
          exact s_wp_X7_together_9_1_59 k_a_heard k_lf_huts hx3 hx4 hx6 hx7 (iv_lta (l := 0) (h := 8) (r_nle c1) hx8 k_lf_huts (by decide)) x8.toInt (Int.le_refl _) (fun u0 u1 u2 hq g0 g1 g2 => ih u0 u1 u2 (ms_up hm hq) g0 g1 g2) hpost
        · skip
          exact s_wp_X7_together_9_1_59 k_a_heard k_lf_huts hx3 hx4 (iv_w (iv_lta (l := 0) (h := 8) (r_nle c1) hx8 k_lf_huts (by decide)) (by decide)) (iv_w (iv_lta (l := 0) (h := 999) (r_nle c5) hw4 hx7 (by decide)) (by decide)) (iv_lta (l := 0) (h := 8) (r_nle c1) hx8 k_lf_huts (by decide)) x8.toInt (Int.le_refl _) (fun u0 u1 u2 hq g0 g1 g2 => ih u0 u1 u2 (ms_up hm hq) g0 g1 g2) hpost
  exact loop _ _ _ _ (ms_init_up _ _) hx6 hx7 hx8
set_option maxRecDepth 20000 in
theorem s_wp_X7_together_9_1_0 {a_heard : Nat → Int32} {lf_huts : Int32} {x3 : Int32} {x4 : Int32} {x5 : Int32} {post : Int32 → Prop} (k_a_heard : ∀ j, iv 0 1000 (a_heard j)) (k_lf_huts : iv 1 9 lf_huts) (hx3 : iv 0 8 x3) (hx4 : iv 0 8 x4) (hpost : ∀ (r : Int32), iv (-1) 1000 r → post r) : q_wp_X7_together_9_1_0 a_heard lf_huts x3 x4 x5 post := by
  exact s_wp_X7_together_9_1_11 k_a_heard k_lf_huts hx3 hx4 (iv_w (iv_lit (l := (-1)) (h := (-1)) (by decide)) (by decide)) (iv_w (iv_lit (l := 1000) (h := 1000) (by decide)) (by decide)) (iv_w (iv_lit (l := 0) (h := 0) (by decide)) (by decide)) hpost
