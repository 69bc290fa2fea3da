section
-- wn_X7_reach_5
set_option maxRecDepth 20000 in
theorem s_wn_X7_reach_5_49 {P7 : Int32 → Int32 → Prop} {P20 : Int32 → Int32 → Prop} {a_open : Nat → Int32} {x2 : Int32} {x3 : Int32} {x4 : Int32} {x5 : Int32} {x6 : Int32} {post : Int32 → Prop} (k_a_open : ∀ j, iv 0 511 (a_open j)) (hx2 : iv 0 0 x2) (hx3 : iv 0 511 x3) (hx4 : iv 0 8 x4) (hx5 : iv 0 511 x5) (hx6 : iv 0 8 x6) (m7 : Int) (hm7 : m7 ≤ x4.toInt) (hP7 : ∀ (x3 : Int32) (x4 : Int32), m7 < x4.toInt → iv 0 511 x3 → iv 0 9 x4 → P7 x3 x4) (m20 : Int) (hm20 : m20 ≤ x6.toInt) (hP20 : ∀ (x5 : Int32) (x6 : Int32), m20 < x6.toInt → iv 0 511 x5 → iv 0 9 x6 → P20 x5 x6) (hpost : ∀ (r : Int32), iv 0 511 r → post r) : q_wn_X7_reach_5_49 P7 P20 a_open x2 x3 x4 x5 x6 post := by
  intro w1 ew1
  have hw1 := iv_eq ew1 (iv_add (l := 1) (h := 9) hx6 (iv_lit (l := 1) (h := 1) (by decide)) (by decide))
  exact hP20 _ _ (ml_up hm20 (inc_lt ew1 hx6 (by decide))) hx5 (iv_w hw1 (by decide))
set_option maxRecDepth 20000 in
theorem s_wn_X7_reach_5_20 {P7 : Int32 → Int32 → Prop} {a_open : Nat → Int32} {x2 : Int32} {x3 : Int32} {x4 : Int32} {x5 : Int32} {x6 : Int32} {post : Int32 → Prop} (k_a_open : ∀ j, iv 0 511 (a_open j)) (hx2 : iv 0 0 x2) (hx3 : iv 0 511 x3) (hx4 : iv 0 8 x4) (hx5 : iv 0 511 x5) (hx6 : iv 0 9 x6) (m7 : Int) (hm7 : m7 ≤ x4.toInt) (hP7 : ∀ (x3 : Int32) (x4 : Int32), m7 < x4.toInt → iv 0 511 x3 → iv 0 9 x4 → P7 x3 x4) (hpost : ∀ (r : Int32), iv 0 511 r → post r) : q_wn_X7_reach_5_20 P7 a_open x2 x3 x4 x5 x6 post := by
  intro P hP
  have loop : ∀ (n : Nat) (x5 : Int32) (x6 : Int32), (9 - x6.toInt < (n : Int)) → (iv 0 511 x5) → (iv 0 9 x6) → P x5 x6 := by
    intro n
    induction n with
    | zero => intro x5 x6 hm hx5 hx6; exact (ms0_up hm hx6).elim
    | succ n ih =>
      intro x5 x6 hm hx5 hx6
      apply hP
      refine ⟨fun c1 => ?_, fun c1 => ?_⟩
      · skip
        refine ⟨fun c2 => ?_, fun c2 => ?_⟩
        · skip
          intro w3 ew3
          have hw3 := iv_eq ew3 (iv_add (l := 1) (h := 9) hx4 (iv_lit (l := 1) (h := 1) (by decide)) (by decide))
          exact hP7 _ _ (ml_up hm7 (inc_lt ew3 hx4 (by decide))) hx5 (iv_w hw3 (by decide))
        · skip
          exact hpost _ hx3
      · skip
        refine ⟨fun c4 => ?_, fun c4 => ?_⟩
        · skip
          refine ⟨fun c5 => ?_, fun c5 => ?_⟩
          · skip
            exact s_wn_X7_reach_5_49 k_a_open hx2 hx3 hx4 hx5 (iv_lta (l := 0) (h := 8) (r_nle c1) hx6 (iv_lit (l := 9) (h := 9) (by decide)) (by decide)) m7 hm7 hP7 x6.toInt (Int.le_refl _) (fun u0 u1 hq g0 g1 => ih u0 u1 (ms_up hm hq) g0 g1) hpost
          · skip
            exact (iv_emp (iv_ne (l := 1) (h := 0) c5 (iv_lit (l := 0) (h := 0) (by decide)) (iv_lit (l := 0) (h := 0) (by decide)) (by decide)) (by decide)).elim
        · skip
          refine ⟨fun c6 => ?_, fun c6 => ?_⟩
          · skip
            exact (iv_emp (iv_eqa (l := 1) (h := 0) c6 (iv_lit (l := 1) (h := 1) (by decide)) (iv_lit (l := 0) (h := 0) (by decide)) (by decide)) (by decide)).elim
          · skip
            refine ⟨iv_in (iv_lta (l := 0) (h := 8) (r_nle c1) hx6 (iv_lit (l := 9) (h := 9) (by decide)) (by decide)) (by decide), ?_⟩
            intro w7 ew7
            have hw7 := iv_eq ew7 (iv_or 9 (l := 0) (h := 511) hx5 (iv_andl (l := 0) (h := 511) (k_a_open _) (by decide)) (by decide))
            exact s_wn_X7_reach_5_49 k_a_open hx2 hx3 hx4 hw7 (iv_lta (l := 0) (h := 8) (r_nle c1) hx6 (iv_lit (l := 9) (h := 9) (by decide)) (by decide)) m7 hm7 hP7 x6.toInt (Int.le_refl _) (fun u0 u1 hq g0 g1 => ih u0 u1 (ms_up hm hq) g0 g1) hpost
  exact loop _ _ _ (ms_init_up _ _) hx5 hx6
set_option maxRecDepth 20000 in
theorem s_wn_X7_reach_5_7 {a_open : Nat → Int32} {x2 : Int32} {x3 : Int32} {x4 : Int32} {post : Int32 → Prop} (k_a_open : ∀ j, iv 0 511 (a_open j)) (hx2 : iv 0 0 x2) (hx3 : iv 0 511 x3) (hx4 : iv 0 9 x4) (hpost : ∀ (r : Int32), iv 0 511 r → post r) : q_wn_X7_reach_5_7 a_open x2 x3 x4 post := by
  intro P hP
  have loop : ∀ (n : Nat) (x3 : Int32) (x4 : Int32), (9 - x4.toInt < (n : Int)) → (iv 0 511 x3) → (iv 0 9 x4) → P x3 x4 := by
    intro n
    induction n with
    | zero => intro x3 x4 hm hx3 hx4; exact (ms0_up hm hx4).elim
    | succ n ih =>
      intro x3 x4 hm hx3 hx4
      apply hP
      refine ⟨fun c1 => ?_, fun c1 => ?_⟩
      · skip
        exact hpost _ hx3
      · skip
        exact s_wn_X7_reach_5_20 k_a_open hx2 hx3 (iv_lta (l := 0) (h := 8) (r_nle c1) hx4 (iv_lit (l := 9) (h := 9) (by decide)) (by decide)) hx3 (iv_w (iv_lit (l := 0) (h := 0) (by decide)) (by decide)) x4.toInt (Int.le_refl _) (fun u0 u1 hq g0 g1 => ih u0 u1 (ms_up hm hq) g0 g1) hpost
  exact loop _ _ _ (ms_init_up _ _) hx3 hx4
set_option maxRecDepth 20000 in
theorem s_wn_X7_reach_5_0 {a_open : Nat → Int32} {x0 : Int32} {x2 : Int32} {post : Int32 → Prop} (k_a_open : ∀ j, iv 0 511 (a_open j)) (hx0 : iv 0 8 x0) (hx2 : iv 0 0 x2) (hpost : ∀ (r : Int32), iv 0 511 r → post r) : q_wn_X7_reach_5_0 a_open x0 x2 post := by
  intro w1 ew1
  have hw1 := iv_eq ew1 (iv_shl1 (l := 1) (h := 256) (iv_lit (l := 1) (h := 1) (by decide)) hx0 (by decide))
  exact s_wn_X7_reach_5_7 k_a_open hx2 (iv_w hw1 (by decide)) (iv_w (iv_lit (l := 0) (h := 0) (by decide)) (by decide)) hpost
-- wn_X3_lowest_6
set_option maxRecDepth 20000 in
theorem s_wn_X3_lowest_6_71 {P23 : Int32 → Int32 → Prop} {a_huts : Nat → Int32} {a_open : Nat → Int32} {lf_huts : Int32} {lf_dams : Int32} {la_heights : Nat → Int32} {la_talls : Nat → Int32} {x2 : Int32} {x3 : Int32} {x4 : Int32} {x5 : Int32} {post : Int32 → Prop} (k_a_huts : ∀ j, iv 0 8 (a_huts j)) (k_a_open : ∀ j, iv 0 511 (a_open j)) (k_lf_huts : iv 1 9 lf_huts) (k_lf_dams : iv 0 511 lf_dams) (k_la_heights : ∀ j, iv 0 99 (la_heights j)) (k_la_talls : ∀ j, iv 0 9 (la_talls j)) (hx2 : iv 0 5 x2) (hx3 : iv 0 511 x3) (hx4 : iv (-9) 1000 x4) (hx5 : iv 0 8 x5) (m23 : Int) (hm23 : m23 ≤ x5.toInt) (hP23 : ∀ (x4 : Int32) (x5 : Int32), m23 < x5.toInt → iv (-9) 1000 x4 → iv 0 9 x5 → P23 x4 x5) (hpost : ∀ (r : Int32), iv (-9) 1000 r → post r) : q_wn_X3_lowest_6_71 P23 a_huts a_open lf_huts lf_dams la_heights la_talls x2 x3 x4 x5 post := by
  intro w1 ew1
  have hw1 := iv_eq ew1 (iv_add (l := 1) (h := 9) hx5 (iv_lit (l := 1) (h := 1) (by decide)) (by decide))
  exact hP23 _ _ (ml_up hm23 (inc_lt ew1 hx5 (by decide))) hx4 (iv_w hw1 (by decide))
set_option maxRecDepth 20000 in
theorem s_wn_X3_lowest_6_23 {a_huts : Nat → Int32} {a_open : Nat → Int32} {lf_huts : Int32} {lf_dams : Int32} {la_heights : Nat → Int32} {la_talls : Nat → Int32} {x2 : Int32} {x3 : Int32} {x4 : Int32} {x5 : Int32} {post : Int32 → Prop} (k_a_huts : ∀ j, iv 0 8 (a_huts j)) (k_a_open : ∀ j, iv 0 511 (a_open j)) (k_lf_huts : iv 0 9 lf_huts) (k_lf_dams : iv 0 511 lf_dams) (k_la_heights : ∀ j, iv 0 99 (la_heights j)) (k_la_talls : ∀ j, iv 0 9 (la_talls j)) (hx2 : iv 0 5 x2) (hx3 : iv 0 511 x3) (hx4 : iv (-9) 1000 x4) (hx5 : iv 0 9 x5) (hpost : ∀ (r : Int32), iv (-9) 1000 r → post r) : q_wn_X3_lowest_6_23 a_huts a_open lf_huts lf_dams la_heights la_talls x2 x3 x4 x5 post := by
  intro P hP
  have loop : ∀ (n : Nat) (x4 : Int32) (x5 : Int32), (9 - x5.toInt < (n : Int)) → (iv (-9) 1000 x4) → (iv 0 9 x5) → P x4 x5 := by
    intro n
    induction n with
    | zero => intro x4 x5 hm hx4 hx5; exact (ms0_up hm hx5).elim
    | succ n ih =>
      intro x4 x5 hm hx4 hx5
      apply hP
      refine ⟨fun c1 => ?_, fun c1 => ?_⟩
      · skip
        exact hpost _ hx4
      · skip
        refine ⟨fun c2 => ?_, fun c2 => ?_⟩
        · skip
          refine ⟨fun c3 => ?_, fun c3 => ?_⟩
          · skip
            exact s_wn_X3_lowest_6_71 k_a_huts k_a_open (iv_ltb (l := 1) (h := 9) (r_nle c1) hx5 k_lf_huts (by decide)) k_lf_dams k_la_heights k_la_talls hx2 hx3 hx4 (iv_lta (l := 0) (h := 8) (r_nle c1) hx5 k_lf_huts (by decide)) x5.toInt (Int.le_refl _) (fun u0 u1 hq g0 g1 => ih u0 u1 (ms_up hm hq) g0 g1) hpost
          · skip
            exact (iv_emp (iv_ne (l := 1) (h := 0) c3 (iv_lit (l := 0) (h := 0) (by decide)) (iv_lit (l := 0) (h := 0) (by decide)) (by decide)) (by decide)).elim
        · skip
          refine ⟨fun c4 => ?_, fun c4 => ?_⟩
          · skip
            exact (iv_emp (iv_eqa (l := 1) (h := 0) c4 (iv_lit (l := 1) (h := 1) (by decide)) (iv_lit (l := 0) (h := 0) (by decide)) (by decide)) (by decide)).elim
          · skip
            refine ⟨fun c5 => ?_, fun c5 => ?_⟩
            · skip
              refine ⟨fun c6 => ?_, fun c6 => ?_⟩
              · skip
                exact (iv_emp (iv_ne (l := 1) (h := 0) c6 (iv_lit (l := 0) (h := 0) (by decide)) (iv_lit (l := 0) (h := 0) (by decide)) (by decide)) (by decide)).elim
              · skip
                refine ⟨iv_in (iv_lta (l := 0) (h := 8) (r_nle c1) hx5 k_lf_huts (by decide)) (by decide), ?_⟩
                refine ⟨iv_in hx2 (by decide), ?_⟩
                intro w7 ew7
                have hw7 := iv_eq ew7 (iv_min (l := (-9)) (h := 99) hx4 (iv_sub (l := (-9)) (h := 99) (k_la_heights _) (k_la_talls _) (by decide)) (by decide))
                exact s_wn_X3_lowest_6_71 k_a_huts k_a_open (iv_ltb (l := 1) (h := 9) (r_nle c1) hx5 k_lf_huts (by decide)) k_lf_dams k_la_heights k_la_talls hx2 hx3 (iv_w hw7 (by decide)) (iv_lta (l := 0) (h := 8) (r_nle c1) hx5 k_lf_huts (by decide)) x5.toInt (Int.le_refl _) (fun u0 u1 hq g0 g1 => ih u0 u1 (ms_up hm hq) g0 g1) hpost
            · skip
              refine ⟨fun c8 => ?_, fun c8 => ?_⟩
              · skip
                exact s_wn_X3_lowest_6_71 k_a_huts k_a_open (iv_ltb (l := 1) (h := 9) (r_nle c1) hx5 k_lf_huts (by decide)) k_lf_dams k_la_heights k_la_talls hx2 hx3 hx4 (iv_lta (l := 0) (h := 8) (r_nle c1) hx5 k_lf_huts (by decide)) x5.toInt (Int.le_refl _) (fun u0 u1 hq g0 g1 => ih u0 u1 (ms_up hm hq) g0 g1) hpost
              · skip
                exact (iv_emp (iv_eqa (l := 1) (h := 0) c8 (iv_lit (l := 1) (h := 1) (by decide)) (iv_lit (l := 0) (h := 0) (by decide)) (by decide)) (by decide)).elim
  exact loop _ _ _ (ms_init_up _ _) hx4 hx5
set_option maxRecDepth 20000 in
theorem s_wn_X3_lowest_6_0 {a_huts : Nat → Int32} {a_open : Nat → Int32} {lf_huts : Int32} {lf_dams : Int32} {la_heights : Nat → Int32} {la_talls : Nat → Int32} {x2 : Int32} {post : Int32 → Prop} (k_a_huts : ∀ j, iv 0 8 (a_huts j)) (k_a_open : ∀ j, iv 0 511 (a_open j)) (k_lf_huts : iv 0 9 lf_huts) (k_lf_dams : iv 0 511 lf_dams) (k_la_heights : ∀ j, iv 0 99 (la_heights j)) (k_la_talls : ∀ j, iv 0 9 (la_talls j)) (hx2 : iv 0 5 x2) (hpost : ∀ (r : Int32), iv (-9) 1000 r → post r) : q_wn_X3_lowest_6_0 a_huts a_open lf_huts lf_dams la_heights la_talls x2 post := by
  refine ⟨iv_in hx2 (by decide), ?_⟩
  refine s_wn_X7_reach_5_0 k_a_open (k_a_huts _) (iv_lit (l := 0) (h := 0) (by decide)) (fun r1 hr1 => ?_)
  exact s_wn_X3_lowest_6_23 k_a_huts k_a_open k_lf_huts k_lf_dams k_la_heights k_la_talls hx2 hr1 (iv_w (iv_lit (l := 1000) (h := 1000) (by decide)) (by decide)) (iv_w (iv_lit (l := 0) (h := 0) (by decide)) (by decide)) hpost
-- wn_X3_doneFor_6
set_option maxRecDepth 20000 in
theorem s_wn_X3_doneFor_6_72 {P12 : Int32 → Int32 → Prop} {P31 : Int32 → Int32 → Prop} {f_begun : Int32} {a_huts : Nat → Int32} {a_known : Nat → Int32} {a_levels : Nat → Int32} {a_snow : Nat → Int32} {a_open : Nat → Int32} {lf_huts : Int32} {lf_singers : Int32} {lf_dams : Int32} {lf_deep : Int32} {la_heights : Nat → Int32} {la_minutes : Nat → Int32} {la_talls : Nat → Int32} {x2 : Int32} {x3 : Int32} {x4 : Int32} {x5 : Int32} {post : Int32 → (Nat → Int32) → Prop} (k_f_begun : iv 0 31 f_begun) (k_a_huts : ∀ j, iv 0 8 (a_huts j)) (k_a_known : ∀ j, iv 0 31 (a_known j)) (k_a_levels : ∀ j, iv (-9) 122 (a_levels j)) (k_a_open : ∀ j, iv 0 511 (a_open j)) (k_lf_huts : iv 0 9 lf_huts) (k_lf_singers : iv 1 6 lf_singers) (k_lf_dams : iv 0 511 lf_dams) (k_lf_deep : iv 1 9 lf_deep) (k_la_heights : ∀ j, iv 0 99 (la_heights j)) (k_la_minutes : ∀ j, iv 0 9 (la_minutes j)) (k_la_talls : ∀ j, iv 0 9 (la_talls j)) (hx2 : iv 0 31 x2) (hx3 : iv 0 5 x3) (hx4 : iv (-9) 1000 x4) (hx5 : iv 0 4 x5) (m12 : Int) (hm12 : m12 ≤ x3.toInt) (hP12 : ∀ (x2 : Int32) (x3 : Int32), m12 < x3.toInt → iv 0 31 x2 → iv 0 6 x3 → P12 x2 x3) (m31 : Int) (hm31 : m31 ≤ x5.toInt) (hP31 : ∀ (x2 : Int32) (x5 : Int32), m31 < x5.toInt → iv 0 31 x2 → iv 0 5 x5 → P31 x2 x5) (hpost : ∀ (r : Int32) (a_open : Nat → Int32), iv 0 31 r → (∀ j, iv 0 511 (a_open j)) → post r a_open) : q_wn_X3_doneFor_6_72 P12 P31 f_begun a_huts a_known a_levels a_snow a_open lf_huts lf_singers lf_dams lf_deep la_heights la_minutes la_talls x2 x3 x4 x5 post := by
  intro w1 ew1
  have hw1 := iv_eq ew1 (iv_add (l := 1) (h := 5) hx5 (iv_lit (l := 1) (h := 1) (by decide)) (by decide))
  exact hP31 _ _ (ml_up hm31 (inc_lt ew1 hx5 (by decide))) hx2 (iv_w hw1 (by decide))
set_option maxRecDepth 20000 in
theorem s_wn_X3_doneFor_6_31 {P12 : Int32 → Int32 → Prop} {f_begun : Int32} {a_huts : Nat → Int32} {a_known : Nat → Int32} {a_levels : Nat → Int32} {a_snow : Nat → Int32} {a_open : Nat → Int32} {lf_huts : Int32} {lf_singers : Int32} {lf_dams : Int32} {lf_deep : Int32} {la_heights : Nat → Int32} {la_minutes : Nat → Int32} {la_talls : Nat → Int32} {x2 : Int32} {x3 : Int32} {x4 : Int32} {x5 : Int32} {post : Int32 → (Nat → Int32) → Prop} (k_f_begun : iv 0 31 f_begun) (k_a_huts : ∀ j, iv 0 8 (a_huts j)) (k_a_known : ∀ j, iv 0 31 (a_known j)) (k_a_levels : ∀ j, iv (-9) 122 (a_levels j)) (k_a_open : ∀ j, iv 0 511 (a_open j)) (k_lf_huts : iv 0 9 lf_huts) (k_lf_singers : iv 1 6 lf_singers) (k_lf_dams : iv 0 511 lf_dams) (k_lf_deep : iv 1 9 lf_deep) (k_la_heights : ∀ j, iv 0 99 (la_heights j)) (k_la_minutes : ∀ j, iv 0 9 (la_minutes j)) (k_la_talls : ∀ j, iv 0 9 (la_talls j)) (hx2 : iv 0 31 x2) (hx3 : iv 0 5 x3) (hx4 : iv (-9) 1000 x4) (hx5 : iv 0 5 x5) (m12 : Int) (hm12 : m12 ≤ x3.toInt) (hP12 : ∀ (x2 : Int32) (x3 : Int32), m12 < x3.toInt → iv 0 31 x2 → iv 0 6 x3 → P12 x2 x3) (hpost : ∀ (r : Int32) (a_open : Nat → Int32), iv 0 31 r → (∀ j, iv 0 511 (a_open j)) → post r a_open) : q_wn_X3_doneFor_6_31 P12 f_begun a_huts a_known a_levels a_snow a_open lf_huts lf_singers lf_dams lf_deep la_heights la_minutes la_talls x2 x3 x4 x5 post := by
  intro P hP
  have loop : ∀ (n : Nat) (x2 : Int32) (x5 : Int32), (5 - x5.toInt < (n : Int)) → (iv 0 31 x2) → (iv 0 5 x5) → P x2 x5 := by
    intro n
    induction n with
    | zero => intro x2 x5 hm hx2 hx5; exact (ms0_up hm hx5).elim
    | succ n ih =>
      intro x2 x5 hm hx2 hx5
      apply hP
      refine ⟨fun c1 => ?_, fun c1 => ?_⟩
      · skip
        intro w2 ew2
        have hw2 := iv_eq ew2 (iv_add (l := 1) (h := 6) hx3 (iv_lit (l := 1) (h := 1) (by decide)) (by decide))
        exact hP12 _ _ (ml_up hm12 (inc_lt ew2 hx3 (by decide))) hx2 (iv_w hw2 (by decide))
      · skip
        refine ⟨iv_in hx3 (by decide), ?_⟩
        refine ⟨fun c3 => ?_, fun c3 => ?_⟩
        · skip
          refine ⟨fun c4 => ?_, fun c4 => ?_⟩
          · skip
            exact s_wn_X3_doneFor_6_72 k_f_begun k_a_huts k_a_known k_a_levels k_a_open k_lf_huts k_lf_singers k_lf_dams k_lf_deep k_la_heights k_la_minutes k_la_talls hx2 hx3 hx4 (iv_lta (l := 0) (h := 4) (r_nle c1) hx5 (iv_lit (l := 5) (h := 5) (by decide)) (by decide)) m12 hm12 hP12 x5.toInt (Int.le_refl _) (fun u0 u1 hq g0 g1 => ih u0 u1 (ms_up hm hq) g0 g1) hpost
          · skip
            exact (iv_emp (iv_ne (l := 1) (h := 0) c4 (iv_lit (l := 0) (h := 0) (by decide)) (iv_lit (l := 0) (h := 0) (by decide)) (by decide)) (by decide)).elim
        · skip
          refine ⟨fun c5 => ?_, fun c5 => ?_⟩
          · skip
            exact (iv_emp (iv_eqa (l := 1) (h := 0) c5 (iv_lit (l := 1) (h := 1) (by decide)) (iv_lit (l := 0) (h := 0) (by decide)) (by decide)) (by decide)).elim
          · skip
            refine ⟨iv_in (iv_lta (l := 0) (h := 4) (r_nle c1) hx5 (iv_lit (l := 5) (h := 5) (by decide)) (by decide)) (by decide), ?_⟩
            refine ⟨fun c6 => ?_, fun c6 => ?_⟩
            · skip
              exact s_wn_X3_doneFor_6_72 k_f_begun k_a_huts k_a_known k_a_levels k_a_open k_lf_huts k_lf_singers k_lf_dams k_lf_deep k_la_heights k_la_minutes k_la_talls hx2 hx3 hx4 (iv_lta (l := 0) (h := 4) (r_nle c1) hx5 (iv_lit (l := 5) (h := 5) (by decide)) (by decide)) m12 hm12 hP12 x5.toInt (Int.le_refl _) (fun u0 u1 hq g0 g1 => ih u0 u1 (ms_up hm hq) g0 g1) hpost
            · skip
              intro w7 ew7
              have hw7 := iv_eq ew7 (iv_andl (l := 0) (h := 31) hx2 (by decide))
              exact s_wn_X3_doneFor_6_72 k_f_begun k_a_huts k_a_known k_a_levels k_a_open k_lf_huts k_lf_singers k_lf_dams k_lf_deep k_la_heights k_la_minutes k_la_talls hw7 hx3 (iv_w (iv_lta (l := (-9)) (h := 121) (r_nle c6) hx4 (k_a_levels _) (by decide)) (by decide)) (iv_lta (l := 0) (h := 4) (r_nle c1) hx5 (iv_lit (l := 5) (h := 5) (by decide)) (by decide)) m12 hm12 hP12 x5.toInt (Int.le_refl _) (fun u0 u1 hq g0 g1 => ih u0 u1 (ms_up hm hq) g0 g1) hpost
  exact loop _ _ _ (ms_init_up _ _) hx2 hx5
set_option maxRecDepth 20000 in
theorem s_wn_X3_doneFor_6_12 {f_begun : Int32} {a_huts : Nat → Int32} {a_known : Nat → Int32} {a_levels : Nat → Int32} {a_snow : Nat → Int32} {a_open : Nat → Int32} {lf_huts : Int32} {lf_singers : Int32} {lf_dams : Int32} {lf_deep : Int32} {la_heights : Nat → Int32} {la_minutes : Nat → Int32} {la_talls : Nat → Int32} {x2 : Int32} {x3 : Int32} {post : Int32 → (Nat → Int32) → Prop} (k_f_begun : iv 0 31 f_begun) (k_a_huts : ∀ j, iv 0 8 (a_huts j)) (k_a_known : ∀ j, iv 0 31 (a_known j)) (k_a_levels : ∀ j, iv (-9) 122 (a_levels j)) (k_a_open : ∀ j, iv 0 511 (a_open j)) (k_lf_huts : iv 0 9 lf_huts) (k_lf_singers : iv 0 6 lf_singers) (k_lf_dams : iv 0 511 lf_dams) (k_lf_deep : iv 1 9 lf_deep) (k_la_heights : ∀ j, iv 0 99 (la_heights j)) (k_la_minutes : ∀ j, iv 0 9 (la_minutes j)) (k_la_talls : ∀ j, iv 0 9 (la_talls j)) (hx2 : iv 0 31 x2) (hx3 : iv 0 6 x3) (hpost : ∀ (r : Int32) (a_open : Nat → Int32), iv 0 31 r → (∀ j, iv 0 511 (a_open j)) → post r a_open) : q_wn_X3_doneFor_6_12 f_begun a_huts a_known a_levels a_snow a_open lf_huts lf_singers lf_dams lf_deep la_heights la_minutes la_talls x2 x3 post := by
  intro P hP
  have loop : ∀ (n : Nat) (x2 : Int32) (x3 : Int32), (6 - x3.toInt < (n : Int)) → (iv 0 31 x2) → (iv 0 6 x3) → P x2 x3 := by
    intro n
    induction n with
    | zero => intro x2 x3 hm hx2 hx3; exact (ms0_up hm hx3).elim
    | succ n ih =>
      intro x2 x3 hm hx2 hx3
      apply hP
      refine ⟨fun c1 => ?_, fun c1 => ?_⟩
      · skip
        exact hpost _ _ hx2 k_a_open
      · skip
        refine s_wn_X3_lowest_6_0 k_a_huts k_a_open k_lf_huts k_lf_dams k_la_heights k_la_talls (iv_lta (l := 0) (h := 5) (r_nle c1) hx3 k_lf_singers (by decide)) (fun r2 hr2 => ?_)
        exact s_wn_X3_doneFor_6_31 k_f_begun k_a_huts k_a_known k_a_levels k_a_open k_lf_huts (iv_ltb (l := 1) (h := 6) (r_nle c1) hx3 k_lf_singers (by decide)) k_lf_dams k_lf_deep k_la_heights k_la_minutes k_la_talls hx2 (iv_lta (l := 0) (h := 5) (r_nle c1) hx3 k_lf_singers (by decide)) hr2 (iv_w (iv_lit (l := 0) (h := 0) (by decide)) (by decide)) x3.toInt (Int.le_refl _) (fun u0 u1 hq g0 g1 => ih u0 u1 (ms_up hm hq) g0 g1) hpost
  exact loop _ _ _ (ms_init_up _ _) hx2 hx3
set_option maxRecDepth 20000 in
theorem s_wn_X3_doneFor_6_0 {f_begun : Int32} {a_huts : Nat → Int32} {a_known : Nat → Int32} {a_levels : Nat → Int32} {a_snow : Nat → Int32} {a_open : Nat → Int32} {lf_huts : Int32} {lf_singers : Int32} {lf_dams : Int32} {lf_deep : Int32} {la_heights : Nat → Int32} {la_minutes : Nat → Int32} {la_talls : Nat → Int32} {post : Int32 → (Nat → Int32) → Prop} (k_f_begun : iv 0 31 f_begun) (k_a_huts : ∀ j, iv 0 8 (a_huts j)) (k_a_known : ∀ j, iv 0 31 (a_known j)) (k_a_levels : ∀ j, iv (-9) 122 (a_levels j)) (k_a_open : ∀ j, iv 0 511 (a_open j)) (k_lf_huts : iv 0 9 lf_huts) (k_lf_singers : iv 0 6 lf_singers) (k_lf_dams : iv 0 511 lf_dams) (k_lf_deep : iv 1 9 lf_deep) (k_la_heights : ∀ j, iv 0 99 (la_heights j)) (k_la_minutes : ∀ j, iv 0 9 (la_minutes j)) (k_la_talls : ∀ j, iv 0 9 (la_talls j)) (hpost : ∀ (r : Int32) (a_open : Nat → Int32), iv 0 31 r → (∀ j, iv 0 511 (a_open j)) → post r a_open) : q_wn_X3_doneFor_6_0 f_begun a_huts a_known a_levels a_snow a_open lf_huts lf_singers lf_dams lf_deep la_heights la_minutes la_talls post := by
  refine s_wn_X3_openWays_6_0 k_a_open k_lf_huts k_lf_deep k_la_minutes (fun o1 k_o1 => ?_)
  exact s_wn_X3_doneFor_6_12 k_f_begun k_a_huts k_a_known k_a_levels k_o1 k_lf_huts k_lf_singers k_lf_dams k_lf_deep k_la_heights k_la_minutes k_la_talls k_f_begun (iv_w (iv_lit (l := 0) (h := 0) (by decide)) (by decide)) hpost
-- wn_X3_seers_6
set_option maxRecDepth 20000 in
theorem s_wn_X3_seers_6_34 {P4 : Int32 → Int32 → Prop} {f_begun : Int32} {a_known : Nat → Int32} {lf_singers : Int32} {x2 : Int32} {x3 : Int32} {post : Int32 → Prop} (k_f_begun : iv 0 31 f_begun) (k_a_known : ∀ j, iv 0 31 (a_known j)) (k_lf_singers : iv 1 6 lf_singers) (hx2 : iv 0 63 x2) (hx3 : iv 0 5 x3) (m4 : Int) (hm4 : m4 ≤ x3.toInt) (hP4 : ∀ (x2 : Int32) (x3 : Int32), m4 < x3.toInt → iv 0 63 x2 → iv 0 6 x3 → P4 x2 x3) (hpost : ∀ (r : Int32), iv 0 63 r → post r) : q_wn_X3_seers_6_34 P4 f_begun a_known lf_singers x2 x3 post := by
  intro w1 ew1
  have hw1 := iv_eq ew1 (iv_add (l := 1) (h := 6) hx3 (iv_lit (l := 1) (h := 1) (by decide)) (by decide))
  exact hP4 _ _ (ml_up hm4 (inc_lt ew1 hx3 (by decide))) hx2 (iv_w hw1 (by decide))
set_option maxRecDepth 20000 in
theorem s_wn_X3_seers_6_4 {f_begun : Int32} {a_known : Nat → Int32} {lf_singers : Int32} {x2 : Int32} {x3 : Int32} {post : Int32 → Prop} (k_f_begun : iv 0 31 f_begun) (k_a_known : ∀ j, iv 0 31 (a_known j)) (k_lf_singers : iv 0 6 lf_singers) (hx2 : iv 0 63 x2) (hx3 : iv 0 6 x3) (hpost : ∀ (r : Int32), iv 0 63 r → post r) : q_wn_X3_seers_6_4 f_begun a_known lf_singers x2 x3 post := by
  intro P hP
  have loop : ∀ (n : Nat) (x2 : Int32) (x3 : Int32), (6 - x3.toInt < (n : Int)) → (iv 0 63 x2) → (iv 0 6 x3) → P x2 x3 := by
    intro n
    induction n with
    | zero => intro x2 x3 hm hx2 hx3; exact (ms0_up hm hx3).elim
    | succ n ih =>
      intro x2 x3 hm hx2 hx3
      apply hP
      refine ⟨fun c1 => ?_, fun c1 => ?_⟩
      · skip
        exact hpost _ hx2
      · skip
        refine ⟨iv_in (iv_lta (l := 0) (h := 5) (r_nle c1) hx3 k_lf_singers (by decide)) (by decide), ?_⟩
        refine ⟨fun c2 => ?_, fun c2 => ?_⟩
        · skip
          exact s_wn_X3_seers_6_34 k_f_begun k_a_known (iv_ltb (l := 1) (h := 6) (r_nle c1) hx3 k_lf_singers (by decide)) hx2 (iv_lta (l := 0) (h := 5) (r_nle c1) hx3 k_lf_singers (by decide)) x3.toInt (Int.le_refl _) (fun u0 u1 hq g0 g1 => ih u0 u1 (ms_up hm hq) g0 g1) hpost
        · skip
          intro w3 ew3
          have hw3 := iv_eq ew3 (iv_or 6 (l := 0) (h := 63) hx2 (iv_shl1 (l := 1) (h := 32) (iv_lit (l := 1) (h := 1) (by decide)) (iv_lta (l := 0) (h := 5) (r_nle c1) hx3 k_lf_singers (by decide)) (by decide)) (by decide))
          exact s_wn_X3_seers_6_34 k_f_begun k_a_known (iv_ltb (l := 1) (h := 6) (r_nle c1) hx3 k_lf_singers (by decide)) hw3 (iv_lta (l := 0) (h := 5) (r_nle c1) hx3 k_lf_singers (by decide)) x3.toInt (Int.le_refl _) (fun u0 u1 hq g0 g1 => ih u0 u1 (ms_up hm hq) g0 g1) hpost
  exact loop _ _ _ (ms_init_up _ _) hx2 hx3
set_option maxRecDepth 20000 in
theorem s_wn_X3_seers_6_0 {f_begun : Int32} {a_known : Nat → Int32} {lf_singers : Int32} {post : Int32 → Prop} (k_f_begun : iv 0 31 f_begun) (k_a_known : ∀ j, iv 0 31 (a_known j)) (k_lf_singers : iv 0 6 lf_singers) (hpost : ∀ (r : Int32), iv 0 63 r → post r) : q_wn_X3_seers_6_0 f_begun a_known lf_singers post := by
  exact s_wn_X3_seers_6_4 k_f_begun k_a_known k_lf_singers (iv_w (iv_lit (l := 0) (h := 0) (by decide)) (by decide)) (iv_w (iv_lit (l := 0) (h := 0) (by decide)) (by decide)) hpost
-- wn_X3_look_6
set_option maxRecDepth 20000 in
theorem s_wn_X3_look_6_135 {f_minute : Int32} {f_avalanches : Int32} {f_begun : Int32} {f_climbed : Int32} {a_huts : Nat → Int32} {a_known : Nat → Int32} {a_levels : Nat → Int32} {a_snow : Nat → Int32} {a_open : Nat → Int32} {lf_huts : Int32} {lf_singers : Int32} {lf_dams : Int32} {lf_deep : Int32} {la_heights : Nat → Int32} {la_ladders : Nat → Int32} {la_minutes : Nat → Int32} {la_talls : Nat → Int32} {x2 : Int32} {x3 : Int32} {post : Int32 → (Nat → Int32) → Prop} (k_f_begun : iv 0 31 f_begun) (k_f_climbed : iv 0 63 f_climbed) (k_a_huts : ∀ j, iv 0 8 (a_huts j)) (k_a_known : ∀ j, iv 0 31 (a_known j)) (k_a_levels : ∀ j, iv (-9) 122 (a_levels j)) (k_a_open : ∀ j, iv 0 511 (a_open j)) (k_lf_huts : iv 0 9 lf_huts) (k_lf_singers : iv 0 6 lf_singers) (k_lf_dams : iv 0 511 lf_dams) (k_lf_deep : iv 1 9 lf_deep) (k_la_heights : ∀ j, iv 0 99 (la_heights j)) (k_la_ladders : ∀ j, iv 0 9 (la_ladders j)) (k_la_minutes : ∀ j, iv 0 9 (la_minutes j)) (k_la_talls : ∀ j, iv 0 9 (la_talls j)) (hx2 : iv 0 79 x2) (hx3 : iv 0 9 x3) (hpost : ∀ (r : Int32) (a_open : Nat → Int32), (∀ j, iv 0 511 (a_open j)) → post r a_open) : q_wn_X3_look_6_135 f_minute f_avalanches f_begun f_climbed a_huts a_known a_levels a_snow a_open lf_huts lf_singers lf_dams lf_deep la_heights la_ladders la_minutes la_talls x2 x3 post := by
  refine ⟨fun c1 => ?_, fun c1 => ?_⟩
  · skip
    exact (iv_emp (iv_lta (l := 0) (h := (-1)) (r_lt c1) hx3 (iv_lit (l := 0) (h := 0) (by decide)) (by decide)) (by decide)).elim
  · skip
    refine ⟨fun c2 => ?_, fun c2 => ?_⟩
    · skip
      refine ⟨fun c3 => ?_, fun c3 => ?_⟩
      · skip
        exact hpost _ _ k_a_open
      · skip
        exact (iv_emp (iv_ne (l := 1) (h := 0) c3 (iv_lit (l := 0) (h := 0) (by decide)) (iv_lit (l := 0) (h := 0) (by decide)) (by decide)) (by decide)).elim
    · skip
      refine ⟨fun c4 => ?_, fun c4 => ?_⟩
      · skip
        exact (iv_emp (iv_eqa (l := 1) (h := 0) c4 (iv_lit (l := 1) (h := 1) (by decide)) (iv_lit (l := 0) (h := 0) (by decide)) (by decide)) (by decide)).elim
      · skip
        refine ⟨fun c5 => ?_, fun c5 => ?_, fun c5 => ?_, fun c5 => ?_⟩
        · skip
          refine ⟨iv_in (iv_lta (l := 0) (h := 5) (r_nle c2) hx3 k_lf_singers (by decide)) (by decide), ?_⟩
          intro w6 ew6
          have hw6 := iv_eq ew6 (k_a_huts _)
          refine ⟨iv_in hw6 (by decide), ?_⟩
          refine ⟨iv_in (iv_lta (l := 0) (h := 5) (r_nle c2) hx3 k_lf_singers (by decide)) (by decide), ?_⟩
          intro w7 ew7
          have hw7 := iv_eq ew7 (iv_sub (l := (-9)) (h := 99) (k_la_heights _) (k_la_talls _) (by decide))
          refine ⟨fun c8 => ?_, fun c8 => ?_⟩
          · skip
            refine ⟨fun c9 => ?_, fun c9 => ?_⟩
            · skip
              exact hpost _ _ k_a_open
            · skip
              exact (iv_emp (iv_ne (l := 1) (h := 0) c9 (iv_lit (l := 0) (h := 0) (by decide)) (iv_lit (l := 0) (h := 0) (by decide)) (by decide)) (by decide)).elim
          · skip
            refine ⟨fun c10 => ?_, fun c10 => ?_⟩
            · skip
              exact (iv_emp (iv_eqa (l := 1) (h := 0) c10 (iv_lit (l := 1) (h := 1) (by decide)) (iv_lit (l := 0) (h := 0) (by decide)) (by decide)) (by decide)).elim
            · skip
              refine ⟨iv_in hw6 (by decide), ?_⟩
              exact hpost _ _ k_a_open
        · skip
          refine ⟨iv_in (iv_lta (l := 0) (h := 5) (r_nle c2) hx3 k_lf_singers (by decide)) (by decide), ?_⟩
          exact hpost _ _ k_a_open
        · skip
          refine ⟨iv_in (iv_lta (l := 0) (h := 5) (r_nle c2) hx3 k_lf_singers (by decide)) (by decide), ?_⟩
          exact hpost _ _ k_a_open
        · skip
          refine ⟨fun c11 => ?_, fun c11 => ?_⟩
          · skip
            refine ⟨fun c12 => ?_, fun c12 => ?_⟩
            · skip
              exact hpost _ _ k_a_open
            · skip
              exact (iv_emp (iv_ne (l := 1) (h := 0) c12 (iv_lit (l := 0) (h := 0) (by decide)) (iv_lit (l := 0) (h := 0) (by decide)) (by decide)) (by decide)).elim
          · skip
            refine ⟨fun c13 => ?_, fun c13 => ?_⟩
            · skip
              exact (iv_emp (iv_eqa (l := 1) (h := 0) c13 (iv_lit (l := 1) (h := 1) (by decide)) (iv_lit (l := 0) (h := 0) (by decide)) (by decide)) (by decide)).elim
            · skip
              exact hpost _ _ k_a_open
set_option maxRecDepth 20000 in
theorem s_wn_X3_look_6_0 {f_minute : Int32} {f_avalanches : Int32} {f_begun : Int32} {f_climbed : Int32} {a_huts : Nat → Int32} {a_known : Nat → Int32} {a_levels : Nat → Int32} {a_snow : Nat → Int32} {a_open : Nat → Int32} {lf_huts : Int32} {lf_singers : Int32} {lf_dams : Int32} {lf_deep : Int32} {la_heights : Nat → Int32} {la_ladders : Nat → Int32} {la_minutes : Nat → Int32} {la_talls : Nat → Int32} {x2 : Int32} {post : Int32 → (Nat → Int32) → Prop} (k_f_begun : iv 0 31 f_begun) (k_f_climbed : iv 0 63 f_climbed) (k_a_huts : ∀ j, iv 0 8 (a_huts j)) (k_a_known : ∀ j, iv 0 31 (a_known j)) (k_a_levels : ∀ j, iv (-9) 122 (a_levels j)) (k_a_open : ∀ j, iv 0 511 (a_open j)) (k_lf_huts : iv 0 9 lf_huts) (k_lf_singers : iv 0 6 lf_singers) (k_lf_dams : iv 0 511 lf_dams) (k_lf_deep : iv 1 9 lf_deep) (k_la_heights : ∀ j, iv 0 99 (la_heights j)) (k_la_ladders : ∀ j, iv 0 9 (la_ladders j)) (k_la_minutes : ∀ j, iv 0 9 (la_minutes j)) (k_la_talls : ∀ j, iv 0 9 (la_talls j)) (hpost : ∀ (r : Int32) (a_open : Nat → Int32), (∀ j, iv 0 511 (a_open j)) → post r a_open) : q_wn_X3_look_6_0 f_minute f_avalanches f_begun f_climbed a_huts a_known a_levels a_snow a_open lf_huts lf_singers lf_dams lf_deep la_heights la_ladders la_minutes la_talls x2 post := by
  refine ⟨fun c1 => ?_, fun c1 => ?_⟩
  · skip
    exact hpost _ _ k_a_open
  · skip
    refine ⟨fun c2 => ?_, fun c2 => ?_⟩
    · skip
      intro w3 ew3
      have hw3 := iv_eq ew3 (iv_rem (l := 0) (h := 9) (iv_lea (l := 0) (h := 79) (r_le c2) (iv_leb (l := 0) (h := 2147483647) (r_nlt c1) (iv_lit (l := 0) (h := 0) (by decide)) (iv_top x2) (by decide)) (iv_lit (l := 79) (h := 79) (by decide)) (by decide)) (iv_lit (l := 10) (h := 10) (by decide)) (by decide))
      refine ⟨fun c4 => ?_, fun c4 => ?_, fun c4 => ?_, fun c4 => ?_, fun c4 => ?_, fun c4 => ?_, fun c4 => ?_, fun c4 => ?_, fun c4 => ?_⟩
      · skip
        exact (iv_sw c4 (iv_div (l := 0) (h := 7) (iv_lea (l := 0) (h := 79) (r_le c2) (iv_leb (l := 0) (h := 2147483647) (r_nlt c1) (iv_lit (l := 0) (h := 0) (by decide)) (iv_top x2) (by decide)) (iv_lit (l := 79) (h := 79) (by decide)) (by decide)) (iv_lit (l := 10) (h := 10) (by decide)) (by decide)) (by decide)).elim
      · skip
        refine ⟨fun c5 => ?_, fun c5 => ?_, fun c5 => ?_, fun c5 => ?_, fun c5 => ?_, fun c5 => ?_⟩
        · skip
          exact hpost _ _ k_a_open
        · skip
          exact hpost _ _ k_a_open
        · skip
          exact hpost _ _ k_a_open
        · skip
          refine s_wn_X3_seers_6_0 k_f_begun k_a_known k_lf_singers (fun r6 hr6 => ?_)
          exact hpost _ _ k_a_open
        · skip
          exact hpost _ _ k_a_open
        · skip
          refine s_wn_X3_doneFor_6_0 k_f_begun k_a_huts k_a_known k_a_levels k_a_open k_lf_huts k_lf_singers k_lf_dams k_lf_deep k_la_heights k_la_minutes k_la_talls (fun r7 o8 hr7 k_o8 => ?_)
          exact hpost _ _ k_o8
      · skip
        refine ⟨fun c9 => ?_, fun c9 => ?_⟩
        · skip
          exact hpost _ _ k_a_open
        · skip
          refine ⟨iv_in (iv_lta (l := 0) (h := 4) (r_nle c9) hw3 (iv_lit (l := 5) (h := 5) (by decide)) (by decide)) (by decide), ?_⟩
          exact hpost _ _ k_a_open
      · skip
        refine ⟨fun c10 => ?_, fun c10 => ?_⟩
        · skip
          exact hpost _ _ k_a_open
        · skip
          refine s_wn_X3_knowers_6_0 k_a_known k_lf_singers (iv_lta (l := 0) (h := 4) (r_nle c10) hw3 (iv_lit (l := 5) (h := 5) (by decide)) (by decide)) (fun r11 hr11 => ?_)
          refine s_z_J6_bitCount_0f7a4_0 (iv_w hr11 (by decide)) (fun r12 hr12 => ?_)
          exact hpost _ _ k_a_open
      · skip
        exact s_wn_X3_look_6_135 k_f_begun k_f_climbed k_a_huts k_a_known k_a_levels k_a_open k_lf_huts k_lf_singers k_lf_dams k_lf_deep k_la_heights k_la_ladders k_la_minutes k_la_talls (iv_lea (l := 0) (h := 79) (r_le c2) (iv_leb (l := 0) (h := 2147483647) (r_nlt c1) (iv_lit (l := 0) (h := 0) (by decide)) (iv_top x2) (by decide)) (iv_lit (l := 79) (h := 79) (by decide)) (by decide)) hw3 hpost
      · skip
        exact s_wn_X3_look_6_135 k_f_begun k_f_climbed k_a_huts k_a_known k_a_levels k_a_open k_lf_huts k_lf_singers k_lf_dams k_lf_deep k_la_heights k_la_ladders k_la_minutes k_la_talls (iv_lea (l := 0) (h := 79) (r_le c2) (iv_leb (l := 0) (h := 2147483647) (r_nlt c1) (iv_lit (l := 0) (h := 0) (by decide)) (iv_top x2) (by decide)) (iv_lit (l := 79) (h := 79) (by decide)) (by decide)) hw3 hpost
      · skip
        exact s_wn_X3_look_6_135 k_f_begun k_f_climbed k_a_huts k_a_known k_a_levels k_a_open k_lf_huts k_lf_singers k_lf_dams k_lf_deep k_la_heights k_la_ladders k_la_minutes k_la_talls (iv_lea (l := 0) (h := 79) (r_le c2) (iv_leb (l := 0) (h := 2147483647) (r_nlt c1) (iv_lit (l := 0) (h := 0) (by decide)) (iv_top x2) (by decide)) (iv_lit (l := 79) (h := 79) (by decide)) (by decide)) hw3 hpost
      · skip
        exact s_wn_X3_look_6_135 k_f_begun k_f_climbed k_a_huts k_a_known k_a_levels k_a_open k_lf_huts k_lf_singers k_lf_dams k_lf_deep k_la_heights k_la_ladders k_la_minutes k_la_talls (iv_lea (l := 0) (h := 79) (r_le c2) (iv_leb (l := 0) (h := 2147483647) (r_nlt c1) (iv_lit (l := 0) (h := 0) (by decide)) (iv_top x2) (by decide)) (iv_lit (l := 79) (h := 79) (by decide)) (by decide)) hw3 hpost
      · skip
        refine ⟨fun c13 => ?_, fun c13 => ?_⟩
        · skip
          exact (iv_emp (iv_lta (l := 0) (h := (-1)) (r_lt c13) hw3 (iv_lit (l := 0) (h := 0) (by decide)) (by decide)) (by decide)).elim
        · skip
          refine ⟨fun c14 => ?_, fun c14 => ?_⟩
          · skip
            refine ⟨fun c15 => ?_, fun c15 => ?_⟩
            · skip
              exact hpost _ _ k_a_open
            · skip
              exact (iv_emp (iv_ne (l := 1) (h := 0) c15 (iv_lit (l := 0) (h := 0) (by decide)) (iv_lit (l := 0) (h := 0) (by decide)) (by decide)) (by decide)).elim
          · skip
            refine ⟨fun c16 => ?_, fun c16 => ?_⟩
            · skip
              exact (iv_emp (iv_eqa (l := 1) (h := 0) c16 (iv_lit (l := 1) (h := 1) (by decide)) (iv_lit (l := 0) (h := 0) (by decide)) (by decide)) (by decide)).elim
            · skip
              refine ⟨iv_in (iv_lta (l := 0) (h := 8) (r_nle c14) hw3 k_lf_huts (by decide)) (by decide), ?_⟩
              exact hpost _ _ k_a_open
    · skip
      exact hpost _ _ k_a_open
-- wn_X3_highestOf_6
set_option maxRecDepth 20000 in
theorem s_wn_X3_highestOf_6_52 {P10 : Int32 → Int32 → Int32 → Prop} {f_climbed : Int32} {a_huts : Nat → Int32} {lf_singers : Int32} {la_heights : Nat → Int32} {la_ladders : Nat → Int32} {la_talls : Nat → Int32} {x2 : Int32} {x3 : Int32} {x4 : Int32} {x5 : Int32} {post : Int32 → Prop} (k_f_climbed : iv 0 63 f_climbed) (k_a_huts : ∀ j, iv 0 8 (a_huts j)) (k_lf_singers : iv 1 6 lf_singers) (k_la_heights : ∀ j, iv 0 99 (la_heights j)) (k_la_ladders : ∀ j, iv 0 9 (la_ladders j)) (k_la_talls : ∀ j, iv 0 9 (la_talls j)) (hx2 : iv 1 2147483647 x2) (hx3 : iv 0 5 x3) (hx4 : iv (-1000) 108 x4) (hx5 : iv 0 5 x5) (m10 : Int) (hm10 : m10 ≤ x5.toInt) (hP10 : ∀ (x3 : Int32) (x4 : Int32) (x5 : Int32), m10 < x5.toInt → iv 0 5 x3 → iv (-1000) 108 x4 → iv 0 6 x5 → P10 x3 x4 x5) (hpost : ∀ (r : Int32), iv 0 5 r → post r) : q_wn_X3_highestOf_6_52 P10 f_climbed a_huts lf_singers la_heights la_ladders la_talls x2 x3 x4 x5 post := by
  intro w1 ew1
  have hw1 := iv_eq ew1 (iv_add (l := 1) (h := 6) hx5 (iv_lit (l := 1) (h := 1) (by decide)) (by decide))
  exact hP10 _ _ _ (ml_up hm10 (inc_lt ew1 hx5 (by decide))) hx3 hx4 (iv_w hw1 (by decide))
set_option maxRecDepth 20000 in
theorem s_wn_X3_highestOf_6_10 {f_climbed : Int32} {a_huts : Nat → Int32} {lf_singers : Int32} {la_heights : Nat → Int32} {la_ladders : Nat → Int32} {la_talls : Nat → Int32} {x2 : Int32} {x3 : Int32} {x4 : Int32} {x5 : Int32} {post : Int32 → Prop} (k_f_climbed : iv 0 63 f_climbed) (k_a_huts : ∀ j, iv 0 8 (a_huts j)) (k_lf_singers : iv 0 6 lf_singers) (k_la_heights : ∀ j, iv 0 99 (la_heights j)) (k_la_ladders : ∀ j, iv 0 9 (la_ladders j)) (k_la_talls : ∀ j, iv 0 9 (la_talls j)) (hx2 : iv 1 2147483647 x2) (hx3 : iv 0 5 x3) (hx4 : iv (-1000) 108 x4) (hx5 : iv 0 6 x5) (hpost : ∀ (r : Int32), iv 0 5 r → post r) : q_wn_X3_highestOf_6_10 f_climbed a_huts lf_singers la_heights la_ladders la_talls x2 x3 x4 x5 post := by
  intro P hP
  have loop : ∀ (n : Nat) (x3 : Int32) (x4 : Int32) (x5 : Int32), (6 - x5.toInt < (n : Int)) → (iv 0 5 x3) → (iv (-1000) 108 x4) → (iv 0 6 x5) → P x3 x4 x5 := by
    intro n
    induction n with
    | zero => intro x3 x4 x5 hm hx3 hx4 hx5; exact (ms0_up hm hx5).elim
    | succ n ih =>
      intro x3 x4 x5 hm hx3 hx4 hx5
      apply hP
      refine ⟨fun c1 => ?_, fun c1 => ?_⟩
      · skip
        exact hpost _ hx3
      · skip
        refine ⟨fun c2 => ?_, fun c2 => ?_⟩
        · skip
          refine ⟨fun c3 => ?_, fun c3 => ?_⟩
          · skip
            exact s_wn_X3_highestOf_6_52 k_f_climbed k_a_huts (iv_ltb (l := 1) (h := 6) (r_nle c1) hx5 k_lf_singers (by decide)) k_la_heights k_la_ladders k_la_talls hx2 hx3 hx4 (iv_lta (l := 0) (h := 5) (r_nle c1) hx5 k_lf_singers (by decide)) x5.toInt (Int.le_refl _) (fun u0 u1 u2 hq g0 g1 g2 => ih u0 u1 u2 (ms_up hm hq) g0 g1 g2) hpost
          · skip
            exact (iv_emp (iv_ne (l := 1) (h := 0) c3 (iv_lit (l := 0) (h := 0) (by decide)) (iv_lit (l := 0) (h := 0) (by decide)) (by decide)) (by decide)).elim
        · skip
          refine ⟨fun c4 => ?_, fun c4 => ?_⟩
          · skip
            exact (iv_emp (iv_eqa (l := 1) (h := 0) c4 (iv_lit (l := 1) (h := 1) (by decide)) (iv_lit (l := 0) (h := 0) (by decide)) (by decide)) (by decide)).elim
          · skip
            refine ⟨iv_in (iv_lta (l := 0) (h := 5) (r_nle c1) hx5 k_lf_singers (by decide)) (by decide), ?_⟩
            intro w5 ew5
            have hw5 := iv_eq ew5 (k_a_huts _)
            refine ⟨iv_in hw5 (by decide), ?_⟩
            refine ⟨iv_in (iv_lta (l := 0) (h := 5) (r_nle c1) hx5 k_lf_singers (by decide)) (by decide), ?_⟩
            intro w6 ew6
            have hw6 := iv_eq ew6 (iv_sub (l := (-9)) (h := 99) (k_la_heights _) (k_la_talls _) (by decide))
            refine ⟨fun c7 => ?_, fun c7 => ?_⟩
            · skip
              refine ⟨fun c8 => ?_, fun c8 => ?_⟩
              · skip
                refine ⟨fun c9 => ?_, fun c9 => ?_⟩
                · skip
                  exact s_wn_X3_highestOf_6_52 k_f_climbed k_a_huts (iv_ltb (l := 1) (h := 6) (r_nle c1) hx5 k_lf_singers (by decide)) k_la_heights k_la_ladders k_la_talls hx2 hx3 (iv_w (iv_leb (l := (-9)) (h := 108) (r_le c9) hw6 hx4 (by decide)) (by decide)) (iv_lta (l := 0) (h := 5) (r_nle c1) hx5 k_lf_singers (by decide)) x5.toInt (Int.le_refl _) (fun u0 u1 u2 hq g0 g1 g2 => ih u0 u1 u2 (ms_up hm hq) g0 g1 g2) hpost
                · skip
                  refine ⟨iv_in (iv_lta (l := 0) (h := 5) (r_nle c1) hx5 k_lf_singers (by decide)) (by decide), ?_⟩
                  intro w10 ew10
                  have hw10 := iv_eq ew10 (k_a_huts _)
                  refine ⟨iv_in hw10 (by decide), ?_⟩
                  refine ⟨iv_in (iv_lta (l := 0) (h := 5) (r_nle c1) hx5 k_lf_singers (by decide)) (by decide), ?_⟩
                  intro w11 ew11
                  have hw11 := iv_eq ew11 (iv_sub (l := (-9)) (h := 99) (k_la_heights _) (k_la_talls _) (by decide))
                  refine ⟨fun c12 => ?_, fun c12 => ?_⟩
                  · skip
                    refine ⟨fun c13 => ?_, fun c13 => ?_⟩
                    · skip
                      exact s_wn_X3_highestOf_6_52 k_f_climbed k_a_huts (iv_ltb (l := 1) (h := 6) (r_nle c1) hx5 k_lf_singers (by decide)) k_la_heights k_la_ladders k_la_talls hx2 (iv_lta (l := 0) (h := 5) (r_nle c1) hx5 k_lf_singers (by decide)) (iv_w hw11 (by decide)) (iv_lta (l := 0) (h := 5) (r_nle c1) hx5 k_lf_singers (by decide)) x5.toInt (Int.le_refl _) (fun u0 u1 u2 hq g0 g1 g2 => ih u0 u1 u2 (ms_up hm hq) g0 g1 g2) hpost
                    · skip
                      exact (iv_emp (iv_ne (l := 1) (h := 0) c13 (iv_lit (l := 0) (h := 0) (by decide)) (iv_lit (l := 0) (h := 0) (by decide)) (by decide)) (by decide)).elim
                  · skip
                    exact (iv_emp (iv_ne (l := 1) (h := 0) c12 (iv_eqa (l := 0) (h := 0) c7 (iv_andr (l := 0) (h := 1) (iv_lit (l := 1) (h := 1) (by decide)) (by decide)) (iv_lit (l := 0) (h := 0) (by decide)) (by decide)) (iv_lit (l := 0) (h := 0) (by decide)) (by decide)) (by decide)).elim
              · skip
                exact (iv_emp (iv_ne (l := 1) (h := 0) c8 (iv_lit (l := 0) (h := 0) (by decide)) (iv_lit (l := 0) (h := 0) (by decide)) (by decide)) (by decide)).elim
            · skip
              refine ⟨fun c14 => ?_, fun c14 => ?_⟩
              · skip
                exact (iv_emp (iv_eqa (l := 1) (h := 0) c14 (iv_lit (l := 1) (h := 1) (by decide)) (iv_lit (l := 0) (h := 0) (by decide)) (by decide)) (by decide)).elim
              · skip
                refine ⟨iv_in hw5 (by decide), ?_⟩
                refine ⟨fun c15 => ?_, fun c15 => ?_⟩
                · skip
                  exact s_wn_X3_highestOf_6_52 k_f_climbed k_a_huts (iv_ltb (l := 1) (h := 6) (r_nle c1) hx5 k_lf_singers (by decide)) k_la_heights k_la_ladders k_la_talls hx2 hx3 (iv_w (iv_leb (l := (-9)) (h := 108) (r_le c15) (iv_add (l := (-9)) (h := 108) hw6 (k_la_ladders _) (by decide)) hx4 (by decide)) (by decide)) (iv_lta (l := 0) (h := 5) (r_nle c1) hx5 k_lf_singers (by decide)) x5.toInt (Int.le_refl _) (fun u0 u1 u2 hq g0 g1 g2 => ih u0 u1 u2 (ms_up hm hq) g0 g1 g2) hpost
                · skip
                  refine ⟨iv_in (iv_lta (l := 0) (h := 5) (r_nle c1) hx5 k_lf_singers (by decide)) (by decide), ?_⟩
                  intro w16 ew16
                  have hw16 := iv_eq ew16 (k_a_huts _)
                  refine ⟨iv_in hw16 (by decide), ?_⟩
                  refine ⟨iv_in (iv_lta (l := 0) (h := 5) (r_nle c1) hx5 k_lf_singers (by decide)) (by decide), ?_⟩
                  intro w17 ew17
                  have hw17 := iv_eq ew17 (iv_sub (l := (-9)) (h := 99) (k_la_heights _) (k_la_talls _) (by decide))
                  refine ⟨fun c18 => ?_, fun c18 => ?_⟩
                  · skip
                    exact (iv_emp (iv_eqa (l := 1) (h := 0) c18 (iv_ne (l := 1) (h := 1) c7 (iv_andr (l := 0) (h := 1) (iv_lit (l := 1) (h := 1) (by decide)) (by decide)) (iv_lit (l := 0) (h := 0) (by decide)) (by decide)) (iv_lit (l := 0) (h := 0) (by decide)) (by decide)) (by decide)).elim
                  · skip
                    refine ⟨fun c19 => ?_, fun c19 => ?_⟩
                    · skip
                      exact (iv_emp (iv_eqa (l := 1) (h := 0) c19 (iv_lit (l := 1) (h := 1) (by decide)) (iv_lit (l := 0) (h := 0) (by decide)) (by decide)) (by decide)).elim
                    · skip
                      refine ⟨iv_in hw16 (by decide), ?_⟩
                      exact s_wn_X3_highestOf_6_52 k_f_climbed k_a_huts (iv_ltb (l := 1) (h := 6) (r_nle c1) hx5 k_lf_singers (by decide)) k_la_heights k_la_ladders k_la_talls hx2 (iv_lta (l := 0) (h := 5) (r_nle c1) hx5 k_lf_singers (by decide)) (iv_w (iv_add (l := (-9)) (h := 108) hw17 (k_la_ladders _) (by decide)) (by decide)) (iv_lta (l := 0) (h := 5) (r_nle c1) hx5 k_lf_singers (by decide)) x5.toInt (Int.le_refl _) (fun u0 u1 u2 hq g0 g1 g2 => ih u0 u1 u2 (ms_up hm hq) g0 g1 g2) hpost
  exact loop _ _ _ _ (ms_init_up _ _) hx3 hx4 hx5
set_option maxRecDepth 20000 in
theorem s_wn_X3_highestOf_6_0 {f_climbed : Int32} {a_huts : Nat → Int32} {lf_singers : Int32} {la_heights : Nat → Int32} {la_ladders : Nat → Int32} {la_talls : Nat → Int32} {x2 : Int32} {post : Int32 → Prop} (k_f_climbed : iv 0 63 f_climbed) (k_a_huts : ∀ j, iv 0 8 (a_huts j)) (k_lf_singers : iv 0 6 lf_singers) (k_la_heights : ∀ j, iv 0 99 (la_heights j)) (k_la_ladders : ∀ j, iv 0 9 (la_ladders j)) (k_la_talls : ∀ j, iv 0 9 (la_talls j)) (hx2 : iv 1 2147483647 x2) (hpost : ∀ (r : Int32), iv 0 5 r → post r) : q_wn_X3_highestOf_6_0 f_climbed a_huts lf_singers la_heights la_ladders la_talls x2 post := by
  exact s_wn_X3_highestOf_6_10 k_f_climbed k_a_huts k_lf_singers k_la_heights k_la_ladders k_la_talls hx2 (iv_w (iv_lit (l := 0) (h := 0) (by decide)) (by decide)) (iv_w (iv_lit (l := (-1000)) (h := (-1000)) (by decide)) (by decide)) (iv_w (iv_lit (l := 0) (h := 0) (by decide)) (by decide)) hpost
-- wn_X3_spreads_6
set_option maxRecDepth 20000 in
theorem s_wn_X3_spreads_6_144 {f_begun : Int32} {f_climbed : Int32} {a_huts : Nat → Int32} {a_known : Nat → Int32} {a_levels : Nat → Int32} {lf_singers : Int32} {lf_dams : Int32} {lf_echoes : Int32} {la_heights : Nat → Int32} {la_ladders : Nat → Int32} {la_echoFrom : Nat → Int32} {la_echoTo : Nat → Int32} {la_talls : Nat → Int32} {x4 : Int32} {post : Int32 → Prop} (k_f_begun : iv 0 31 f_begun) (k_f_climbed : iv 0 63 f_climbed) (k_a_huts : ∀ j, iv 0 8 (a_huts j)) (k_a_known : ∀ j, iv 0 31 (a_known j)) (k_a_levels : ∀ j, iv (-9) 122 (a_levels j)) (k_lf_singers : iv 0 6 lf_singers) (k_lf_dams : iv 0 511 lf_dams) (k_lf_echoes : iv 0 4 lf_echoes) (k_la_heights : ∀ j, iv 0 99 (la_heights j)) (k_la_ladders : ∀ j, iv 0 9 (la_ladders j)) (k_la_echoFrom : ∀ j, iv 0 8 (la_echoFrom j)) (k_la_echoTo : ∀ j, iv 0 8 (la_echoTo j)) (k_la_talls : ∀ j, iv 0 9 (la_talls j)) (hx4 : iv 0 63 x4) (hpost : ∀ (r : Int32), iv 0 1 r → post r) : q_wn_X3_spreads_6_144 f_begun f_climbed a_huts a_known a_levels lf_singers lf_dams lf_echoes la_heights la_ladders la_echoFrom la_echoTo la_talls x4 post := by
  refine s_z_J6_bitCount_0f7a4_0 (iv_w hx4 (by decide)) (fun r1 hr1 => ?_)
  refine ⟨fun c2 => ?_, fun c2 => ?_⟩
  · skip
    exact hpost _ (iv_w (iv_lit (l := 0) (h := 0) (by decide)) (by decide))
  · skip
    exact hpost _ (iv_w (iv_lit (l := 1) (h := 1) (by decide)) (by decide))
set_option maxRecDepth 20000 in
theorem s_wn_X3_spreads_6_39 {f_begun : Int32} {f_climbed : Int32} {a_huts : Nat → Int32} {a_known : Nat → Int32} {a_levels : Nat → Int32} {lf_singers : Int32} {lf_dams : Int32} {lf_echoes : Int32} {la_heights : Nat → Int32} {la_ladders : Nat → Int32} {la_echoFrom : Nat → Int32} {la_echoTo : Nat → Int32} {la_talls : Nat → Int32} {x4 : Int32} {x5 : Int32} {x6 : Int32} {x7 : Int32} {post : Int32 → Prop} (k_f_begun : iv 0 31 f_begun) (k_f_climbed : iv 0 63 f_climbed) (k_a_huts : ∀ j, iv 0 8 (a_huts j)) (k_a_known : ∀ j, iv 0 31 (a_known j)) (k_a_levels : ∀ j, iv (-9) 122 (a_levels j)) (k_lf_singers : iv 0 6 lf_singers) (k_lf_dams : iv 0 511 lf_dams) (k_lf_echoes : iv 0 4 lf_echoes) (k_la_heights : ∀ j, iv 0 99 (la_heights j)) (k_la_ladders : ∀ j, iv 0 9 (la_ladders j)) (k_la_echoFrom : ∀ j, iv 0 8 (la_echoFrom j)) (k_la_echoTo : ∀ j, iv 0 8 (la_echoTo j)) (k_la_talls : ∀ j, iv 0 9 (la_talls j)) (hx4 : iv 0 63 x4) (hx5 : iv (-9) 1000 x5) (hx6 : iv 0 2147483647 x6) (hx7 : iv 0 6 x7) (hpost : ∀ (r : Int32), iv 0 1 r → post r) : q_wn_X3_spreads_6_39 f_begun f_climbed a_huts a_known a_levels lf_singers lf_dams lf_echoes la_heights la_ladders la_echoFrom la_echoTo la_talls x4 x5 x6 x7 post := by
  intro P hP
  have loop : ∀ (n : Nat) (x4 : Int32) (x5 : Int32) (x6 : Int32) (x7 : Int32), (6 - x7.toInt < (n : Int)) → (iv 0 63 x4) → (iv (-9) 1000 x5) → (iv 0 2147483647 x6) → (iv 0 6 x7) → P x4 x5 x6 x7 := by
    intro n
    induction n with
    | zero => intro x4 x5 x6 x7 hm hx4 hx5 hx6 hx7; exact (ms0_up hm hx7).elim
    | succ n ih =>
      intro x4 x5 x6 x7 hm hx4 hx5 hx6 hx7
      apply hP
      refine ⟨fun c1 => ?_, fun c1 => ?_⟩
      · skip
        exact s_wn_X3_spreads_6_144 k_f_begun k_f_climbed k_a_huts k_a_known k_a_levels k_lf_singers k_lf_dams k_lf_echoes k_la_heights k_la_ladders k_la_echoFrom k_la_echoTo k_la_talls hx4 hpost
      · skip
        refine ⟨fun c2 => ?_, fun c2 => ?_⟩
        · skip
          exact s_wn_X3_spreads_6_144 k_f_begun k_f_climbed k_a_huts k_a_known k_a_levels k_lf_singers k_lf_dams k_lf_echoes k_la_heights k_la_ladders k_la_echoFrom k_la_echoTo k_la_talls hx4 hpost
        · skip
          refine s_wn_X3_highestOf_6_0 k_f_climbed k_a_huts k_lf_singers k_la_heights k_la_ladders k_la_talls (iv_ne (l := 1) (h := 2147483647) c2 hx6 (iv_lit (l := 0) (h := 0) (by decide)) (by decide)) (fun r3 hr3 => ?_)
          refine ⟨iv_in hr3 (by decide), ?_⟩
          intro w4 ew4
          have hw4 := iv_eq ew4 (k_a_huts _)
          refine ⟨iv_in hw4 (by decide), ?_⟩
          refine ⟨iv_in hr3 (by decide), ?_⟩
          intro w5 ew5
          have hw5 := iv_eq ew5 (iv_sub (l := (-9)) (h := 99) (k_la_heights _) (k_la_talls _) (by decide))
          refine ⟨fun c6 => ?_, fun c6 => ?_⟩
          · skip
            refine ⟨fun c7 => ?_, fun c7 => ?_⟩
            · skip
              refine ⟨fun c8 => ?_, fun c8 => ?_⟩
              · skip
                refine ⟨fun c9 => ?_, fun c9 => ?_⟩
                · skip
                  exact hpost _ (iv_w (iv_lit (l := 0) (h := 0) (by decide)) (by decide))
                · skip
                  exact (iv_emp (iv_ne (l := 1) (h := 0) c9 (iv_lit (l := 0) (h := 0) (by decide)) (iv_lit (l := 0) (h := 0) (by decide)) (by decide)) (by decide)).elim
              · skip
                refine ⟨fun c10 => ?_, fun c10 => ?_⟩
                · skip
                  exact (iv_emp (iv_eqa (l := 1) (h := 0) c10 (iv_lit (l := 1) (h := 1) (by decide)) (iv_lit (l := 0) (h := 0) (by decide)) (by decide)) (by decide)).elim
                · skip
                  refine ⟨fun c11 => ?_, fun c11 => ?_⟩
                  · skip
                    exact hpost _ (iv_w (iv_lit (l := 0) (h := 0) (by decide)) (by decide))
                  · skip
                    refine ⟨iv_in hr3 (by decide), ?_⟩
                    refine ⟨fun c12 => ?_, fun c12 => ?_⟩
                    · skip
                      refine ⟨fun c13 => ?_, fun c13 => ?_⟩
                      · skip
                        refine ⟨iv_in hr3 (by decide), ?_⟩
                        refine s_wl_X2_earshot_0 k_lf_dams k_lf_echoes k_la_echoFrom k_la_echoTo (k_a_huts _) (fun r14 hr14 => ?_)
                        refine s_wn_X3_singersIn_6_0 k_a_huts k_lf_singers hr14 (fun r15 hr15 => ?_)
                        intro w16 ew16
                        have hw16 := iv_eq ew16 (iv_or 6 (l := 0) (h := 63) hx4 hr15 (by decide))
                        intro w17 ew17
                        have hw17 := iv_eq ew17 (iv_andl (l := 0) (h := 2147483647) (iv_ne (l := 1) (h := 2147483647) c2 hx6 (iv_lit (l := 0) (h := 0) (by decide)) (by decide)) (by decide))
                        intro w18 ew18
                        have hw18 := iv_eq ew18 (iv_add (l := 1) (h := 6) (iv_lta (l := 0) (h := 5) (r_nle c1) hx7 (iv_lit (l := 6) (h := 6) (by decide)) (by decide)) (iv_lit (l := 1) (h := 1) (by decide)) (by decide))
                        exact ih _ _ _ _ (ms_up hm (inc_lt ew18 (iv_lta (l := 0) (h := 5) (r_nle c1) hx7 (iv_lit (l := 6) (h := 6) (by decide)) (by decide)) (by decide))) hw16 (iv_w hw5 (by decide)) hw17 (iv_w hw18 (by decide))
                      · skip
                        exact (iv_emp (iv_ne (l := 1) (h := 0) c13 (iv_lit (l := 0) (h := 0) (by decide)) (iv_lit (l := 0) (h := 0) (by decide)) (by decide)) (by decide)).elim
                    · skip
                      refine ⟨fun c19 => ?_, fun c19 => ?_⟩
                      · skip
                        exact (iv_emp (iv_eqa (l := 1) (h := 0) c19 (iv_lit (l := 1) (h := 1) (by decide)) (iv_lit (l := 0) (h := 0) (by decide)) (by decide)) (by decide)).elim
                      · skip
                        exact hpost _ (iv_w (iv_lit (l := 0) (h := 0) (by decide)) (by decide))
            · skip
              exact (iv_emp (iv_ne (l := 1) (h := 0) c7 (iv_lit (l := 0) (h := 0) (by decide)) (iv_lit (l := 0) (h := 0) (by decide)) (by decide)) (by decide)).elim
          · skip
            refine ⟨fun c20 => ?_, fun c20 => ?_⟩
            · skip
              exact (iv_emp (iv_eqa (l := 1) (h := 0) c20 (iv_lit (l := 1) (h := 1) (by decide)) (iv_lit (l := 0) (h := 0) (by decide)) (by decide)) (by decide)).elim
            · skip
              refine ⟨iv_in hw4 (by decide), ?_⟩
              refine ⟨fun c21 => ?_, fun c21 => ?_⟩
              · skip
                refine ⟨fun c22 => ?_, fun c22 => ?_⟩
                · skip
                  exact hpost _ (iv_w (iv_lit (l := 0) (h := 0) (by decide)) (by decide))
                · skip
                  exact (iv_emp (iv_ne (l := 1) (h := 0) c22 (iv_lit (l := 0) (h := 0) (by decide)) (iv_lit (l := 0) (h := 0) (by decide)) (by decide)) (by decide)).elim
              · skip
                refine ⟨fun c23 => ?_, fun c23 => ?_⟩
                · skip
                  exact (iv_emp (iv_eqa (l := 1) (h := 0) c23 (iv_lit (l := 1) (h := 1) (by decide)) (iv_lit (l := 0) (h := 0) (by decide)) (by decide)) (by decide)).elim
                · skip
                  refine ⟨fun c24 => ?_, fun c24 => ?_⟩
                  · skip
                    exact hpost _ (iv_w (iv_lit (l := 0) (h := 0) (by decide)) (by decide))
                  · skip
                    refine ⟨iv_in hr3 (by decide), ?_⟩
                    refine ⟨fun c25 => ?_, fun c25 => ?_⟩
                    · skip
                      refine ⟨fun c26 => ?_, fun c26 => ?_⟩
                      · skip
                        refine ⟨iv_in hr3 (by decide), ?_⟩
                        refine s_wl_X2_earshot_0 k_lf_dams k_lf_echoes k_la_echoFrom k_la_echoTo (k_a_huts _) (fun r27 hr27 => ?_)
                        refine s_wn_X3_singersIn_6_0 k_a_huts k_lf_singers hr27 (fun r28 hr28 => ?_)
                        intro w29 ew29
                        have hw29 := iv_eq ew29 (iv_or 6 (l := 0) (h := 63) hx4 hr28 (by decide))
                        intro w30 ew30
                        have hw30 := iv_eq ew30 (iv_andl (l := 0) (h := 2147483647) (iv_ne (l := 1) (h := 2147483647) c2 hx6 (iv_lit (l := 0) (h := 0) (by decide)) (by decide)) (by decide))
                        intro w31 ew31
                        have hw31 := iv_eq ew31 (iv_add (l := 1) (h := 6) (iv_lta (l := 0) (h := 5) (r_nle c1) hx7 (iv_lit (l := 6) (h := 6) (by decide)) (by decide)) (iv_lit (l := 1) (h := 1) (by decide)) (by decide))
                        exact ih _ _ _ _ (ms_up hm (inc_lt ew31 (iv_lta (l := 0) (h := 5) (r_nle c1) hx7 (iv_lit (l := 6) (h := 6) (by decide)) (by decide)) (by decide))) hw29 (iv_w (iv_add (l := (-9)) (h := 108) hw5 (k_la_ladders _) (by decide)) (by decide)) hw30 (iv_w hw31 (by decide))
                      · skip
                        exact (iv_emp (iv_ne (l := 1) (h := 0) c26 (iv_lit (l := 0) (h := 0) (by decide)) (iv_lit (l := 0) (h := 0) (by decide)) (by decide)) (by decide)).elim
                    · skip
                      refine ⟨fun c32 => ?_, fun c32 => ?_⟩
                      · skip
                        exact (iv_emp (iv_eqa (l := 1) (h := 0) c32 (iv_lit (l := 1) (h := 1) (by decide)) (iv_lit (l := 0) (h := 0) (by decide)) (by decide)) (by decide)).elim
                      · skip
                        exact hpost _ (iv_w (iv_lit (l := 0) (h := 0) (by decide)) (by decide))
  exact loop _ _ _ _ _ (ms_init_up _ _) hx4 hx5 hx6 hx7
set_option maxRecDepth 20000 in
theorem s_wn_X3_spreads_6_31 {f_begun : Int32} {f_climbed : Int32} {a_huts : Nat → Int32} {a_known : Nat → Int32} {a_levels : Nat → Int32} {lf_singers : Int32} {lf_dams : Int32} {lf_echoes : Int32} {la_heights : Nat → Int32} {la_ladders : Nat → Int32} {la_echoFrom : Nat → Int32} {la_echoTo : Nat → Int32} {la_talls : Nat → Int32} {x3 : Int32} {x4 : Int32} {y0 : Int32} {post : Int32 → Prop} (k_f_begun : iv 0 31 f_begun) (k_f_climbed : iv 0 63 f_climbed) (k_a_huts : ∀ j, iv 0 8 (a_huts j)) (k_a_known : ∀ j, iv 0 31 (a_known j)) (k_a_levels : ∀ j, iv (-9) 122 (a_levels j)) (k_lf_singers : iv 0 6 lf_singers) (k_lf_dams : iv 0 511 lf_dams) (k_lf_echoes : iv 0 4 lf_echoes) (k_la_heights : ∀ j, iv 0 99 (la_heights j)) (k_la_ladders : ∀ j, iv 0 9 (la_ladders j)) (k_la_echoFrom : ∀ j, iv 0 8 (la_echoFrom j)) (k_la_echoTo : ∀ j, iv 0 8 (la_echoTo j)) (k_la_talls : ∀ j, iv 0 9 (la_talls j)) (hx3 : iv 0 63 x3) (hx4 : iv 0 63 x4) (hy0 : iv (-9) 1000 y0) (hpost : ∀ (r : Int32), iv 0 1 r → post r) : q_wn_X3_spreads_6_31 f_begun f_climbed a_huts a_known a_levels lf_singers lf_dams lf_echoes la_heights la_ladders la_echoFrom la_echoTo la_talls x3 x4 y0 post := by
  exact s_wn_X3_spreads_6_39 k_f_begun k_f_climbed k_a_huts k_a_known k_a_levels k_lf_singers k_lf_dams k_lf_echoes k_la_heights k_la_ladders k_la_echoFrom k_la_echoTo k_la_talls hx4 hy0 (iv_w hx3 (by decide)) (iv_w (iv_lit (l := 0) (h := 0) (by decide)) (by decide)) hpost
set_option maxRecDepth 20000 in
theorem s_wn_X3_spreads_6_0 {f_begun : Int32} {f_climbed : Int32} {a_huts : Nat → Int32} {a_known : Nat → Int32} {a_levels : Nat → Int32} {lf_singers : Int32} {lf_dams : Int32} {lf_echoes : Int32} {la_heights : Nat → Int32} {la_ladders : Nat → Int32} {la_echoFrom : Nat → Int32} {la_echoTo : Nat → Int32} {la_talls : Nat → Int32} {x2 : Int32} {x3 : Int32} {post : Int32 → Prop} (k_f_begun : iv 0 31 f_begun) (k_f_climbed : iv 0 63 f_climbed) (k_a_huts : ∀ j, iv 0 8 (a_huts j)) (k_a_known : ∀ j, iv 0 31 (a_known j)) (k_a_levels : ∀ j, iv (-9) 122 (a_levels j)) (k_lf_singers : iv 0 6 lf_singers) (k_lf_dams : iv 0 511 lf_dams) (k_lf_echoes : iv 0 4 lf_echoes) (k_la_heights : ∀ j, iv 0 99 (la_heights j)) (k_la_ladders : ∀ j, iv 0 9 (la_ladders j)) (k_la_echoFrom : ∀ j, iv 0 8 (la_echoFrom j)) (k_la_echoTo : ∀ j, iv 0 8 (la_echoTo j)) (k_la_talls : ∀ j, iv 0 9 (la_talls j)) (hx2 : iv 0 4 x2) (hx3 : iv 0 63 x3) (hpost : ∀ (r : Int32), iv 0 1 r → post r) : q_wn_X3_spreads_6_0 f_begun f_climbed a_huts a_known a_levels lf_singers lf_dams lf_echoes la_heights la_ladders la_echoFrom la_echoTo la_talls x2 x3 post := by
  refine s_wn_X3_knowers_6_0 k_a_known k_lf_singers hx2 (fun r1 hr1 => ?_)
  refine ⟨fun c2 => ?_, fun c2 => ?_⟩
  · skip
    refine ⟨fun c3 => ?_, fun c3 => ?_⟩
    · skip
      exact s_wn_X3_spreads_6_31 k_f_begun k_f_climbed k_a_huts k_a_known k_a_levels k_lf_singers k_lf_dams k_lf_echoes k_la_heights k_la_ladders k_la_echoFrom k_la_echoTo k_la_talls hx3 hr1 (iv_w (iv_lit (l := 1000) (h := 1000) (by decide)) (by decide)) hpost
    · skip
      exact (iv_emp (iv_ne (l := 1) (h := 0) c3 (iv_lit (l := 0) (h := 0) (by decide)) (iv_lit (l := 0) (h := 0) (by decide)) (by decide)) (by decide)).elim
  · skip
    refine ⟨fun c4 => ?_, fun c4 => ?_⟩
    · skip
      exact (iv_emp (iv_eqa (l := 1) (h := 0) c4 (iv_lit (l := 1) (h := 1) (by decide)) (iv_lit (l := 0) (h := 0) (by decide)) (by decide)) (by decide)).elim
    · skip
      refine ⟨iv_in hx2 (by decide), ?_⟩
      exact s_wn_X3_spreads_6_31 k_f_begun k_f_climbed k_a_huts k_a_known k_a_levels k_lf_singers k_lf_dams k_lf_echoes k_la_heights k_la_ladders k_la_echoFrom k_la_echoTo k_la_talls hx3 hr1 (iv_w (k_a_levels _) (by decide)) hpost
-- wn_X3_fewestTimes_6
set_option maxRecDepth 20000 in
theorem s_wn_X3_fewestTimes_6_48 {P5 : Int32 → Int32 → Prop} {f_begun : Int32} {f_climbed : Int32} {a_huts : Nat → Int32} {a_known : Nat → Int32} {a_levels : Nat → Int32} {lf_singers : Int32} {lf_dams : Int32} {lf_echoes : Int32} {la_heights : Nat → Int32} {la_ladders : Nat → Int32} {la_echoFrom : Nat → Int32} {la_echoTo : Nat → Int32} {la_talls : Nat → Int32} {x2 : Int32} {x3 : Int32} {x4 : Int32} {post : Int32 → Prop} (k_f_begun : iv 0 31 f_begun) (k_f_climbed : iv 0 63 f_climbed) (k_a_huts : ∀ j, iv 0 8 (a_huts j)) (k_a_known : ∀ j, iv 0 31 (a_known j)) (k_a_levels : ∀ j, iv (-9) 122 (a_levels j)) (k_lf_singers : iv 0 6 lf_singers) (k_lf_dams : iv 0 511 lf_dams) (k_lf_echoes : iv 0 4 lf_echoes) (k_la_heights : ∀ j, iv 0 99 (la_heights j)) (k_la_ladders : ∀ j, iv 0 9 (la_ladders j)) (k_la_echoFrom : ∀ j, iv 0 8 (la_echoFrom j)) (k_la_echoTo : ∀ j, iv 0 8 (la_echoTo j)) (k_la_talls : ∀ j, iv 0 9 (la_talls j)) (hx2 : iv 0 4 x2) (hx3 : iv (-1) 63 x3) (hx4 : iv 0 63 x4) (m5 : Int) (hm5 : m5 ≤ x4.toInt) (hP5 : ∀ (x3 : Int32) (x4 : Int32), m5 < x4.toInt → iv (-1) 63 x3 → iv 0 64 x4 → P5 x3 x4) (hpost : ∀ (r : Int32), iv (-1) 63 r → post r) : q_wn_X3_fewestTimes_6_48 P5 f_begun f_climbed a_huts a_known a_levels lf_singers lf_dams lf_echoes la_heights la_ladders la_echoFrom la_echoTo la_talls x2 x3 x4 post := by
  intro w1 ew1
  have hw1 := iv_eq ew1 (iv_add (l := 1) (h := 64) hx4 (iv_lit (l := 1) (h := 1) (by decide)) (by decide))
  exact hP5 _ _ (ml_up hm5 (inc_lt ew1 hx4 (by decide))) hx3 (iv_w hw1 (by decide))
set_option maxRecDepth 20000 in
theorem s_wn_X3_fewestTimes_6_34 {P5 : Int32 → Int32 → Prop} {f_begun : Int32} {f_climbed : Int32} {a_huts : Nat → Int32} {a_known : Nat → Int32} {a_levels : Nat → Int32} {lf_singers : Int32} {lf_dams : Int32} {lf_echoes : Int32} {la_heights : Nat → Int32} {la_ladders : Nat → Int32} {la_echoFrom : Nat → Int32} {la_echoTo : Nat → Int32} {la_talls : Nat → Int32} {x2 : Int32} {x3 : Int32} {x4 : Int32} {x5 : Int32} {post : Int32 → Prop} (k_f_begun : iv 0 31 f_begun) (k_f_climbed : iv 0 63 f_climbed) (k_a_huts : ∀ j, iv 0 8 (a_huts j)) (k_a_known : ∀ j, iv 0 31 (a_known j)) (k_a_levels : ∀ j, iv (-9) 122 (a_levels j)) (k_lf_singers : iv 0 6 lf_singers) (k_lf_dams : iv 0 511 lf_dams) (k_lf_echoes : iv 0 4 lf_echoes) (k_la_heights : ∀ j, iv 0 99 (la_heights j)) (k_la_ladders : ∀ j, iv 0 9 (la_ladders j)) (k_la_echoFrom : ∀ j, iv 0 8 (la_echoFrom j)) (k_la_echoTo : ∀ j, iv 0 8 (la_echoTo j)) (k_la_talls : ∀ j, iv 0 9 (la_talls j)) (hx2 : iv 0 4 x2) (hx3 : iv (-1) 63 x3) (hx4 : iv 0 63 x4) (hx5 : iv 0 63 x5) (m5 : Int) (hm5 : m5 ≤ x4.toInt) (hP5 : ∀ (x3 : Int32) (x4 : Int32), m5 < x4.toInt → iv (-1) 63 x3 → iv 0 64 x4 → P5 x3 x4) (hpost : ∀ (r : Int32), iv (-1) 63 r → post r) : q_wn_X3_fewestTimes_6_34 P5 f_begun f_climbed a_huts a_known a_levels lf_singers lf_dams lf_echoes la_heights la_ladders la_echoFrom la_echoTo la_talls x2 x3 x4 x5 post := by
  refine s_wn_X3_spreads_6_0 k_f_begun k_f_climbed k_a_huts k_a_known k_a_levels k_lf_singers k_lf_dams k_lf_echoes k_la_heights k_la_ladders k_la_echoFrom k_la_echoTo k_la_talls hx2 hx4 (fun r1 hr1 => ?_)
  refine ⟨fun c2 => ?_, fun c2 => ?_⟩
  · skip
    exact s_wn_X3_fewestTimes_6_48 k_f_begun k_f_climbed k_a_huts k_a_known k_a_levels k_lf_singers k_lf_dams k_lf_echoes k_la_heights k_la_ladders k_la_echoFrom k_la_echoTo k_la_talls hx2 hx3 hx4 m5 hm5 hP5 hpost
  · skip
    exact s_wn_X3_fewestTimes_6_48 k_f_begun k_f_climbed k_a_huts k_a_known k_a_levels k_lf_singers k_lf_dams k_lf_echoes k_la_heights k_la_ladders k_la_echoFrom k_la_echoTo k_la_talls hx2 (iv_w hx5 (by decide)) hx4 m5 hm5 hP5 hpost
set_option maxRecDepth 20000 in
theorem s_wn_X3_fewestTimes_6_5 {f_begun : Int32} {f_climbed : Int32} {a_huts : Nat → Int32} {a_known : Nat → Int32} {a_levels : Nat → Int32} {lf_singers : Int32} {lf_dams : Int32} {lf_echoes : Int32} {la_heights : Nat → Int32} {la_ladders : Nat → Int32} {la_echoFrom : Nat → Int32} {la_echoTo : Nat → Int32} {la_talls : Nat → Int32} {x2 : Int32} {x3 : Int32} {x4 : Int32} {post : Int32 → Prop} (k_f_begun : iv 0 31 f_begun) (k_f_climbed : iv 0 63 f_climbed) (k_a_huts : ∀ j, iv 0 8 (a_huts j)) (k_a_known : ∀ j, iv 0 31 (a_known j)) (k_a_levels : ∀ j, iv (-9) 122 (a_levels j)) (k_lf_singers : iv 0 6 lf_singers) (k_lf_dams : iv 0 511 lf_dams) (k_lf_echoes : iv 0 4 lf_echoes) (k_la_heights : ∀ j, iv 0 99 (la_heights j)) (k_la_ladders : ∀ j, iv 0 9 (la_ladders j)) (k_la_echoFrom : ∀ j, iv 0 8 (la_echoFrom j)) (k_la_echoTo : ∀ j, iv 0 8 (la_echoTo j)) (k_la_talls : ∀ j, iv 0 9 (la_talls j)) (hx2 : iv 0 4 x2) (hx3 : iv (-1) 63 x3) (hx4 : iv 0 64 x4) (hpost : ∀ (r : Int32), iv (-1) 63 r → post r) : q_wn_X3_fewestTimes_6_5 f_begun f_climbed a_huts a_known a_levels lf_singers lf_dams lf_echoes la_heights la_ladders la_echoFrom la_echoTo la_talls x2 x3 x4 post := by
  intro P hP
  have loop : ∀ (n : Nat) (x3 : Int32) (x4 : Int32), (64 - x4.toInt < (n : Int)) → (iv (-1) 63 x3) → (iv 0 64 x4) → P x3 x4 := by
    intro n
    induction n with
    | zero => intro x3 x4 hm hx3 hx4; exact (ms0_up hm hx4).elim
    | succ n ih =>
      intro x3 x4 hm hx3 hx4
      apply hP
      refine ⟨fun c1 => ?_, fun c1 => ?_⟩
      · skip
        exact hpost _ hx3
      · skip
        refine s_z_J6_bitCount_0f7a4_0 (iv_w (iv_lta (l := 0) (h := 63) (r_nle c1) hx4 (iv_shl1 (l := 1) (h := 64) (iv_lit (l := 1) (h := 1) (by decide)) k_lf_singers (by decide)) (by decide)) (by decide)) (fun r2 hr2 => ?_)
        refine ⟨fun c3 => ?_, fun c3 => ?_⟩
        · skip
          exact s_wn_X3_fewestTimes_6_34 k_f_begun k_f_climbed k_a_huts k_a_known k_a_levels k_lf_singers k_lf_dams k_lf_echoes k_la_heights k_la_ladders k_la_echoFrom k_la_echoTo k_la_talls hx2 (iv_w (iv_eqa (l := (-1)) (h := (-1)) c3 hx3 (iv_lit (l := (-1)) (h := (-1)) (by decide)) (by decide)) (by decide)) (iv_lta (l := 0) (h := 63) (r_nle c1) hx4 (iv_shl1 (l := 1) (h := 64) (iv_lit (l := 1) (h := 1) (by decide)) k_lf_singers (by decide)) (by decide)) hr2 x4.toInt (Int.le_refl _) (fun u0 u1 hq g0 g1 => ih u0 u1 (ms_up hm hq) g0 g1) hpost
        · skip
          refine ⟨fun c4 => ?_, fun c4 => ?_⟩
          · skip
            exact s_wn_X3_fewestTimes_6_48 k_f_begun k_f_climbed k_a_huts k_a_known k_a_levels k_lf_singers k_lf_dams k_lf_echoes k_la_heights k_la_ladders k_la_echoFrom k_la_echoTo k_la_talls hx2 (iv_w (iv_ne (l := 0) (h := 63) c3 hx3 (iv_lit (l := (-1)) (h := (-1)) (by decide)) (by decide)) (by decide)) (iv_lta (l := 0) (h := 63) (r_nle c1) hx4 (iv_shl1 (l := 1) (h := 64) (iv_lit (l := 1) (h := 1) (by decide)) k_lf_singers (by decide)) (by decide)) x4.toInt (Int.le_refl _) (fun u0 u1 hq g0 g1 => ih u0 u1 (ms_up hm hq) g0 g1) hpost
          · skip
            exact s_wn_X3_fewestTimes_6_34 k_f_begun k_f_climbed k_a_huts k_a_known k_a_levels k_lf_singers k_lf_dams k_lf_echoes k_la_heights k_la_ladders k_la_echoFrom k_la_echoTo k_la_talls hx2 (iv_w (iv_ltb (l := 1) (h := 63) (r_nle c4) hr2 (iv_ne (l := 0) (h := 63) c3 hx3 (iv_lit (l := (-1)) (h := (-1)) (by decide)) (by decide)) (by decide)) (by decide)) (iv_lta (l := 0) (h := 63) (r_nle c1) hx4 (iv_shl1 (l := 1) (h := 64) (iv_lit (l := 1) (h := 1) (by decide)) k_lf_singers (by decide)) (by decide)) (iv_w (iv_lta (l := 0) (h := 62) (r_nle c4) hr2 (iv_ne (l := 0) (h := 63) c3 hx3 (iv_lit (l := (-1)) (h := (-1)) (by decide)) (by decide)) (by decide)) (by decide)) x4.toInt (Int.le_refl _) (fun u0 u1 hq g0 g1 => ih u0 u1 (ms_up hm hq) g0 g1) hpost
  exact loop _ _ _ (ms_init_up _ _) hx3 hx4
set_option maxRecDepth 20000 in
theorem s_wn_X3_fewestTimes_6_0 {f_begun : Int32} {f_climbed : Int32} {a_huts : Nat → Int32} {a_known : Nat → Int32} {a_levels : Nat → Int32} {lf_singers : Int32} {lf_dams : Int32} {lf_echoes : Int32} {la_heights : Nat → Int32} {la_ladders : Nat → Int32} {la_echoFrom : Nat → Int32} {la_echoTo : Nat → Int32} {la_talls : Nat → Int32} {x2 : Int32} {post : Int32 → Prop} (k_f_begun : iv 0 31 f_begun) (k_f_climbed : iv 0 63 f_climbed) (k_a_huts : ∀ j, iv 0 8 (a_huts j)) (k_a_known : ∀ j, iv 0 31 (a_known j)) (k_a_levels : ∀ j, iv (-9) 122 (a_levels j)) (k_lf_singers : iv 0 6 lf_singers) (k_lf_dams : iv 0 511 lf_dams) (k_lf_echoes : iv 0 4 lf_echoes) (k_la_heights : ∀ j, iv 0 99 (la_heights j)) (k_la_ladders : ∀ j, iv 0 9 (la_ladders j)) (k_la_echoFrom : ∀ j, iv 0 8 (la_echoFrom j)) (k_la_echoTo : ∀ j, iv 0 8 (la_echoTo j)) (k_la_talls : ∀ j, iv 0 9 (la_talls j)) (hx2 : iv 0 4 x2) (hpost : ∀ (r : Int32), iv (-1) 63 r → post r) : q_wn_X3_fewestTimes_6_0 f_begun f_climbed a_huts a_known a_levels lf_singers lf_dams lf_echoes la_heights la_ladders la_echoFrom la_echoTo la_talls x2 post := by
  exact s_wn_X3_fewestTimes_6_5 k_f_begun k_f_climbed k_a_huts k_a_known k_a_levels k_lf_singers k_lf_dams k_lf_echoes k_la_heights k_la_ladders k_la_echoFrom k_la_echoTo k_la_talls hx2 (iv_w (iv_lit (l := (-1)) (h := (-1)) (by decide)) (by decide)) (iv_w (iv_lit (l := 0) (h := 0) (by decide)) (by decide)) hpost
-- wp_J7_fill_53178_1
set_option maxRecDepth 20000 in
theorem s_wp_J7_fill_53178_1_5 {a_heard : Nat → Int32} {x1 : Int32} {x2 : Int32} {x3 : Int32} {post : (Nat → Int32) → Prop} (k_a_heard : ∀ j, iv 0 1000 (a_heard j)) (hx1 : iv 1000 1000 x1) (hx2 : iv 0 81 x2) (hx3 : iv 81 81 x3) (hpost : ∀ (a_heard : Nat → Int32), (∀ j, iv 0 1000 (a_heard j)) → post a_heard) : q_wp_J7_fill_53178_1_5 a_heard x1 x2 x3 post := by
  intro P hP
  have loop : ∀ (n : Nat) (x2 : Int32) (a_heard : Nat → Int32), (81 - x2.toInt < (n : Int)) → (iv 0 81 x2) → (∀ j, iv 0 1000 (a_heard j)) → P x2 a_heard := by
    intro n
    induction n with
    | zero => intro x2 a_heard hm hx2 k_a_heard; exact (ms0_up hm hx2).elim
    | succ n ih =>
      intro x2 a_heard hm hx2 k_a_heard
      apply hP
      refine ⟨fun c1 => ?_, fun c1 => ?_⟩
      · skip
        exact hpost _ k_a_heard
      · skip
        refine ⟨iv_in (iv_lta (l := 0) (h := 80) (r_nle c1) hx2 hx3 (by decide)) (by decide), ?_⟩
        intro a2 ea2
        have k_a2 := iv_upd ea2 k_a_heard (iv_w hx1 (by decide))
        intro w3 ew3
        have hw3 := iv_eq ew3 (iv_add (l := 1) (h := 81) (iv_lta (l := 0) (h := 80) (r_nle c1) hx2 hx3 (by decide)) (iv_lit (l := 1) (h := 1) (by decide)) (by decide))
        exact ih _ _ (ms_up hm (inc_lt ew3 (iv_lta (l := 0) (h := 80) (r_nle c1) hx2 hx3 (by decide)) (by decide))) (iv_w hw3 (by decide)) k_a2
  exact loop _ _ _ (ms_init_up _ _) hx2 k_a_heard
set_option maxRecDepth 20000 in
theorem s_wp_J7_fill_53178_1_0 {a_heard : Nat → Int32} {x1 : Int32} {post : (Nat → Int32) → Prop} (k_a_heard : ∀ j, iv 0 1000 (a_heard j)) (hx1 : iv 1000 1000 x1) (hpost : ∀ (a_heard : Nat → Int32), (∀ j, iv 0 1000 (a_heard j)) → post a_heard) : q_wp_J7_fill_53178_1_0 a_heard x1 post := by
  exact s_wp_J7_fill_53178_1_5 k_a_heard hx1 (iv_w (iv_lit (l := 0) (h := 0) (by decide)) (by decide)) (iv_lit (l := 81) (h := 81) (by decide)) hpost
-- wp_X7_shorten_1
set_option maxRecDepth 20000 in
theorem s_wp_X7_shorten_1_80 {P2 : Int32 → (Nat → Int32) → Prop} {P9 : Int32 → (Nat → Int32) → Prop} {P27 : Int32 → (Nat → Int32) → Prop} {a_heard : Nat → Int32} {x1 : Int32} {x2 : Int32} {x3 : Int32} {x4 : Int32} {x5 : Int32} {post : (Nat → Int32) → Prop} (k_a_heard : ∀ j, iv 0 1000 (a_heard j)) (hx1 : iv 1 9 x1) (hx2 : iv 0 8 x2) (hx3 : iv 0 8 x3) (hx4 : iv 0 999 x4) (hx5 : iv 0 8 x5) (m2 : Int) (hm2 : m2 ≤ x2.toInt) (hP2 : ∀ (x2 : Int32) (a_heard : Nat → Int32), m2 < x2.toInt → iv 0 9 x2 → (∀ j, iv 0 1000 (a_heard j)) → P2 x2 a_heard) (m9 : Int) (hm9 : m9 ≤ x3.toInt) (hP9 : ∀ (x3 : Int32) (a_heard : Nat → Int32), m9 < x3.toInt → iv 0 9 x3 → (∀ j, iv 0 1000 (a_heard j)) → P9 x3 a_heard) (m27 : Int) (hm27 : m27 ≤ x5.toInt) (hP27 : ∀ (x5 : Int32) (a_heard : Nat → Int32), m27 < x5.toInt → iv 0 9 x5 → (∀ j, iv 0 1000 (a_heard j)) → P27 x5 a_heard) (hpost : ∀ (a_heard : Nat → Int32), (∀ j, iv 0 1000 (a_heard j)) → post a_heard) : q_wp_X7_shorten_1_80 P2 P9 P27 a_heard x1 x2 x3 x4 x5 post := by
  intro w1 ew1
  have hw1 := iv_eq ew1 (iv_add (l := 1) (h := 9) hx5 (iv_lit (l := 1) (h := 1) (by decide)) (by decide))
  exact hP27 _ _ (ml_up hm27 (inc_lt ew1 hx5 (by decide))) (iv_w hw1 (by decide)) k_a_heard
set_option maxRecDepth 20000 in
theorem s_wp_X7_shorten_1_86 {P2 : Int32 → (Nat → Int32) → Prop} {P9 : Int32 → (Nat → Int32) → Prop} {a_heard : Nat → Int32} {x1 : Int32} {x2 : Int32} {x3 : Int32} {post : (Nat → Int32) → Prop} (k_a_heard : ∀ j, iv 0 1000 (a_heard j)) (hx1 : iv 1 9 x1) (hx2 : iv 0 8 x2) (hx3 : iv 0 8 x3) (m2 : Int) (hm2 : m2 ≤ x2.toInt) (hP2 : ∀ (x2 : Int32) (a_heard : Nat → Int32), m2 < x2.toInt → iv 0 9 x2 → (∀ j, iv 0 1000 (a_heard j)) → P2 x2 a_heard) (m9 : Int) (hm9 : m9 ≤ x3.toInt) (hP9 : ∀ (x3 : Int32) (a_heard : Nat → Int32), m9 < x3.toInt → iv 0 9 x3 → (∀ j, iv 0 1000 (a_heard j)) → P9 x3 a_heard) (hpost : ∀ (a_heard : Nat → Int32), (∀ j, iv 0 1000 (a_heard j)) → post a_heard) : q_wp_X7_shorten_1_86 P2 P9 a_heard x1 x2 x3 post := by
  intro w1 ew1
  have hw1 := iv_eq ew1 (iv_add (l := 1) (h := 9) hx3 (iv_lit (l := 1) (h := 1) (by decide)) (by decide))
  exact hP9 _ _ (ml_up hm9 (inc_lt ew1 hx3 (by decide))) (iv_w hw1 (by decide)) k_a_heard
set_option maxRecDepth 20000 in
theorem s_wp_X7_shorten_1_27 {P2 : Int32 → (Nat → Int32) → Prop} {P9 : Int32 → (Nat → Int32) → Prop} {a_heard : Nat → Int32} {x1 : Int32} {x2 : Int32} {x3 : Int32} {x4 : Int32} {x5 : Int32} {post : (Nat → Int32) → Prop} (k_a_heard : ∀ j, iv 0 1000 (a_heard j)) (hx1 : iv 1 9 x1) (hx2 : iv 0 8 x2) (hx3 : iv 0 8 x3) (hx4 : iv 0 1000 x4) (hx5 : iv 0 9 x5) (m2 : Int) (hm2 : m2 ≤ x2.toInt) (hP2 : ∀ (x2 : Int32) (a_heard : Nat → Int32), m2 < x2.toInt → iv 0 9 x2 → (∀ j, iv 0 1000 (a_heard j)) → P2 x2 a_heard) (m9 : Int) (hm9 : m9 ≤ x3.toInt) (hP9 : ∀ (x3 : Int32) (a_heard : Nat → Int32), m9 < x3.toInt → iv 0 9 x3 → (∀ j, iv 0 1000 (a_heard j)) → P9 x3 a_heard) (hpost : ∀ (a_heard : Nat → Int32), (∀ j, iv 0 1000 (a_heard j)) → post a_heard) : q_wp_X7_shorten_1_27 P2 P9 a_heard x1 x2 x3 x4 x5 post := by
  intro P hP
  have loop : ∀ (n : Nat) (x5 : Int32) (a_heard : Nat → Int32), (9 - x5.toInt < (n : Int)) → (iv 0 9 x5) → (∀ j, iv 0 1000 (a_heard j)) → P x5 a_heard := by
    intro n
    induction n with
    | zero => intro x5 a_heard hm hx5 k_a_heard; exact (ms0_up hm hx5).elim
    | succ n ih =>
      intro x5 a_heard hm hx5 k_a_heard
      apply hP
      refine ⟨fun c1 => ?_, fun c1 => ?_⟩
      · skip
        exact s_wp_X7_shorten_1_86 k_a_heard hx1 hx2 hx3 m2 hm2 hP2 m9 hm9 hP9 hpost
      · skip
        refine ⟨fun c2 => ?_, fun c2 => ?_⟩
        · skip
          exact s_wp_X7_shorten_1_86 k_a_heard hx1 hx2 hx3 m2 hm2 hP2 m9 hm9 hP9 hpost
        · skip
          refine ⟨iv_in (iv_add (l := 0) (h := 80) (iv_mul (l := 0) (h := 72) hx2 (iv_lit (l := 9) (h := 9) (by decide)) (by decide)) (iv_lta (l := 0) (h := 8) (r_nle c1) hx5 hx1 (by decide)) (by decide)) (by decide), ?_⟩
          intro w3 ew3
          have hw3 := iv_eq ew3 (iv_add (l := 0) (h := 1999) (iv_lta (l := 0) (h := 999) (r_nle c2) hx4 (iv_lit (l := 1000) (h := 1000) (by decide)) (by decide)) (k_a_heard _) (by decide))
          refine ⟨iv_in (iv_add (l := 0) (h := 80) (iv_mul (l := 0) (h := 72) hx3 (iv_lit (l := 9) (h := 9) (by decide)) (by decide)) (iv_lta (l := 0) (h := 8) (r_nle c1) hx5 hx1 (by decide)) (by decide)) (by decide), ?_⟩
          refine ⟨fun c4 => ?_, fun c4 => ?_⟩
          · skip
            exact s_wp_X7_shorten_1_80 k_a_heard hx1 hx2 hx3 (iv_lta (l := 0) (h := 999) (r_nle c2) hx4 (iv_lit (l := 1000) (h := 1000) (by decide)) (by decide)) (iv_lta (l := 0) (h := 8) (r_nle c1) hx5 hx1 (by decide)) m2 hm2 hP2 m9 hm9 hP9 x5.toInt (Int.le_refl _) (fun u0 u1 hq g0 g1 => ih u0 u1 (ms_up hm hq) g0 g1) hpost
          · skip
            refine ⟨iv_in (iv_add (l := 0) (h := 80) (iv_mul (l := 0) (h := 72) hx3 (iv_lit (l := 9) (h := 9) (by decide)) (by decide)) (iv_lta (l := 0) (h := 8) (r_nle c1) hx5 hx1 (by decide)) (by decide)) (by decide), ?_⟩
            intro a5 ea5
            have k_a5 := iv_upd ea5 k_a_heard (iv_w (iv_lta (l := 0) (h := 999) (r_nle c4) hw3 (k_a_heard _) (by decide)) (by decide))
            exact s_wp_X7_shorten_1_80 k_a5 hx1 hx2 hx3 (iv_lta (l := 0) (h := 999) (r_nle c2) hx4 (iv_lit (l := 1000) (h := 1000) (by decide)) (by decide)) (iv_lta (l := 0) (h := 8) (r_nle c1) hx5 hx1 (by decide)) m2 hm2 hP2 m9 hm9 hP9 x5.toInt (Int.le_refl _) (fun u0 u1 hq g0 g1 => ih u0 u1 (ms_up hm hq) g0 g1) hpost
  exact loop _ _ _ (ms_init_up _ _) hx5 k_a_heard
set_option maxRecDepth 20000 in
theorem s_wp_X7_shorten_1_9 {P2 : Int32 → (Nat → Int32) → Prop} {a_heard : Nat → Int32} {x1 : Int32} {x2 : Int32} {x3 : Int32} {post : (Nat → Int32) → Prop} (k_a_heard : ∀ j, iv 0 1000 (a_heard j)) (hx1 : iv 1 9 x1) (hx2 : iv 0 8 x2) (hx3 : iv 0 9 x3) (m2 : Int) (hm2 : m2 ≤ x2.toInt) (hP2 : ∀ (x2 : Int32) (a_heard : Nat → Int32), m2 < x2.toInt → iv 0 9 x2 → (∀ j, iv 0 1000 (a_heard j)) → P2 x2 a_heard) (hpost : ∀ (a_heard : Nat → Int32), (∀ j, iv 0 1000 (a_heard j)) → post a_heard) : q_wp_X7_shorten_1_9 P2 a_heard x1 x2 x3 post := by
  intro P hP
  have loop : ∀ (n : Nat) (x3 : Int32) (a_heard : Nat → Int32), (9 - x3.toInt < (n : Int)) → (iv 0 9 x3) → (∀ j, iv 0 1000 (a_heard j)) → P x3 a_heard := by
    intro n
    induction n with
    | zero => intro x3 a_heard hm hx3 k_a_heard; exact (ms0_up hm hx3).elim
    | succ n ih =>
      intro x3 a_heard hm hx3 k_a_heard
      apply hP
      refine ⟨fun c1 => ?_, fun c1 => ?_⟩
      · skip
        intro w2 ew2
        have hw2 := iv_eq ew2 (iv_add (l := 1) (h := 9) hx2 (iv_lit (l := 1) (h := 1) (by decide)) (by decide))
        exact hP2 _ _ (ml_up hm2 (inc_lt ew2 hx2 (by decide))) (iv_w hw2 (by decide)) k_a_heard
      · skip
        refine ⟨iv_in (iv_add (l := 0) (h := 80) (iv_mul (l := 0) (h := 72) (iv_lta (l := 0) (h := 8) (r_nle c1) hx3 hx1 (by decide)) (iv_lit (l := 9) (h := 9) (by decide)) (by decide)) hx2 (by decide)) (by decide), ?_⟩
        intro w3 ew3
        have hw3 := iv_eq ew3 (k_a_heard _)
        exact s_wp_X7_shorten_1_27 k_a_heard hx1 hx2 (iv_lta (l := 0) (h := 8) (r_nle c1) hx3 hx1 (by decide)) hw3 (iv_w (iv_lit (l := 0) (h := 0) (by decide)) (by decide)) m2 hm2 hP2 x3.toInt (Int.le_refl _) (fun u0 u1 hq g0 g1 => ih u0 u1 (ms_up hm hq) g0 g1) hpost
  exact loop _ _ _ (ms_init_up _ _) hx3 k_a_heard
set_option maxRecDepth 20000 in
theorem s_wp_X7_shorten_1_2 {a_heard : Nat → Int32} {x1 : Int32} {x2 : Int32} {post : (Nat → Int32) → Prop} (k_a_heard : ∀ j, iv 0 1000 (a_heard j)) (hx1 : iv 0 9 x1) (hx2 : iv 0 9 x2) (hpost : ∀ (a_heard : Nat → Int32), (∀ j, iv 0 1000 (a_heard j)) → post a_heard) : q_wp_X7_shorten_1_2 a_heard x1 x2 post := by
  intro P hP
  have loop : ∀ (n : Nat) (x2 : Int32) (a_heard : Nat → Int32), (9 - x2.toInt < (n : Int)) → (iv 0 9 x2) → (∀ j, iv 0 1000 (a_heard j)) → P x2 a_heard := by
    intro n
    induction n with
    | zero => intro x2 a_heard hm hx2 k_a_heard; exact (ms0_up hm hx2).elim
    | succ n ih =>
      intro x2 a_heard hm hx2 k_a_heard
      apply hP
      refine ⟨fun c1 => ?_, fun c1 => ?_⟩
      · skip
        exact hpost _ k_a_heard
      · skip
        exact s_wp_X7_shorten_1_9 k_a_heard (iv_ltb (l := 1) (h := 9) (r_nle c1) hx2 hx1 (by decide)) (iv_lta (l := 0) (h := 8) (r_nle c1) hx2 hx1 (by decide)) (iv_w (iv_lit (l := 0) (h := 0) (by decide)) (by decide)) x2.toInt (Int.le_refl _) (fun u0 u1 hq g0 g1 => ih u0 u1 (ms_up hm hq) g0 g1) hpost
  exact loop _ _ _ (ms_init_up _ _) hx2 k_a_heard
set_option maxRecDepth 20000 in
theorem s_wp_X7_shorten_1_0 {a_heard : Nat → Int32} {x1 : Int32} {post : (Nat → Int32) → Prop} (k_a_heard : ∀ j, iv 0 1000 (a_heard j)) (hx1 : iv 0 9 x1) (hpost : ∀ (a_heard : Nat → Int32), (∀ j, iv 0 1000 (a_heard j)) → post a_heard) : q_wp_X7_shorten_1_0 a_heard x1 post := by
  exact s_wp_X7_shorten_1_2 k_a_heard hx1 (iv_w (iv_lit (l := 0) (h := 0) (by decide)) (by decide)) hpost
end
section
-- wp_X7_markAtOnce
set_option maxRecDepth 20000 in
theorem s_wp_X7_markAtOnce_28 {P2 : Int32 → (Nat → Int32) → Prop} {a_heard : Nat → Int32} {x1 : Int32} {x2 : Int32} {x3 : Int32} {post : (Nat → Int32) → Prop} (k_a_heard : ∀ j, iv 0 1000 (a_heard j)) (hx1 : iv 0 8 x1) (hx2 : iv 0 511 x2) (hx3 : iv 0 8 x3) (m2 : Int) (hm2 : m2 ≤ x3.toInt) (hP2 : ∀ (x3 : Int32) (a_heard : Nat → Int32), m2 < x3.toInt → iv 0 9 x3 → (∀ j, iv 0 1000 (a_heard j)) → P2 x3 a_heard) (hpost : ∀ (a_heard : Nat → Int32), (∀ j, iv 0 1000 (a_heard j)) → post a_heard) : q_wp_X7_markAtOnce_28 P2 a_heard x1 x2 x3 post := by
  intro w1 ew1
  have hw1 := iv_eq ew1 (iv_add (l := 1) (h := 9) hx3 (iv_lit (l := 1) (h := 1) (by decide)) (by decide))
  exact hP2 _ _ (ml_up hm2 (inc_lt ew1 hx3 (by decide))) (iv_w hw1 (by decide)) k_a_heard
set_option maxRecDepth 20000 in
theorem s_wp_X7_markAtOnce_2 {a_heard : Nat → Int32} {x1 : Int32} {x2 : Int32} {x3 : Int32} {post : (Nat → Int32) → Prop} (k_a_heard : ∀ j, iv 0 1000 (a_heard j)) (hx1 : iv 0 8 x1) (hx2 : iv 0 511 x2) (hx3 : iv 0 9 x3) (hpost : ∀ (a_heard : Nat → Int32), (∀ j, iv 0 1000 (a_heard j)) → post a_heard) : q_wp_X7_markAtOnce_2 a_heard x1 x2 x3 post := by
  intro P hP
  have loop : ∀ (n : Nat) (x3 : Int32) (a_heard : Nat → Int32), (9 - x3.toInt < (n : Int)) → (iv 0 9 x3) → (∀ j, iv 0 1000 (a_heard j)) → P x3 a_heard := by
    intro n
    induction n with
    | zero => intro x3 a_heard hm hx3 k_a_heard; exact (ms0_up hm hx3).elim
    | succ n ih =>
      intro x3 a_heard hm hx3 k_a_heard
      apply hP
      refine ⟨fun c1 => ?_, fun c1 => ?_⟩
      · skip
        exact hpost _ k_a_heard
      · skip
        refine ⟨fun c2 => ?_, fun c2 => ?_⟩
        · skip
          refine ⟨fun c3 => ?_, fun c3 => ?_⟩
          · skip
            exact s_wp_X7_markAtOnce_28 k_a_heard hx1 hx2 (iv_lta (l := 0) (h := 8) (r_nle c1) hx3 (iv_lit (l := 9) (h := 9) (by decide)) (by decide)) x3.toInt (Int.le_refl _) (fun u0 u1 hq g0 g1 => ih u0 u1 (ms_up hm hq) g0 g1) hpost
          · skip
            exact (iv_emp (iv_ne (l := 1) (h := 0) c3 (iv_lit (l := 0) (h := 0) (by decide)) (iv_lit (l := 0) (h := 0) (by decide)) (by decide)) (by decide)).elim
        · skip
          refine ⟨fun c4 => ?_, fun c4 => ?_⟩
          · skip
            exact (iv_emp (iv_eqa (l := 1) (h := 0) c4 (iv_lit (l := 1) (h := 1) (by decide)) (iv_lit (l := 0) (h := 0) (by decide)) (by decide)) (by decide)).elim
          · skip
            refine ⟨iv_in (iv_add (l := 0) (h := 80) (iv_mul (l := 0) (h := 72) hx1 (iv_lit (l := 9) (h := 9) (by decide)) (by decide)) (iv_lta (l := 0) (h := 8) (r_nle c1) hx3 (iv_lit (l := 9) (h := 9) (by decide)) (by decide)) (by decide)) (by decide), ?_⟩
            intro a5 ea5
            have k_a5 := iv_upd ea5 k_a_heard (iv_w (iv_lit (l := 0) (h := 0) (by decide)) (by decide))
            exact s_wp_X7_markAtOnce_28 k_a5 hx1 hx2 (iv_lta (l := 0) (h := 8) (r_nle c1) hx3 (iv_lit (l := 9) (h := 9) (by decide)) (by decide)) x3.toInt (Int.le_refl _) (fun u0 u1 hq g0 g1 => ih u0 u1 (ms_up hm hq) g0 g1) hpost
  exact loop _ _ _ (ms_init_up _ _) hx3 k_a_heard
set_option maxRecDepth 20000 in
theorem s_wp_X7_markAtOnce_0 {a_heard : Nat → Int32} {x1 : Int32} {x2 : Int32} {post : (Nat → Int32) → Prop} (k_a_heard : ∀ j, iv 0 1000 (a_heard j)) (hx1 : iv 0 8 x1) (hx2 : iv 0 511 x2) (hpost : ∀ (a_heard : Nat → Int32), (∀ j, iv 0 1000 (a_heard j)) → post a_heard) : q_wp_X7_markAtOnce_0 a_heard x1 x2 post := by
  exact s_wp_X7_markAtOnce_2 k_a_heard hx1 hx2 (iv_w (iv_lit (l := 0) (h := 0) (by decide)) (by decide)) hpost
-- wp_X7_hear_9
set_option maxRecDepth 20000 in
theorem s_wp_X7_hear_9_61 {P12 : Int32 → (Nat → Int32) → Prop} {P22 : Int32 → (Nat → Int32) → Prop} {a_heard : Nat → Int32} {lf_huts : Int32} {lf_dams : Int32} {lf_echoes : Int32} {la_heights : Nat → Int32} {la_minutes : Nat → Int32} {la_echoFrom : Nat → Int32} {la_echoTo : Nat → Int32} {x2 : Int32} {x3 : Int32} {post : (Nat → Int32) → Prop} (k_a_heard : ∀ j, iv 0 1000 (a_heard j)) (k_lf_huts : iv 1 9 lf_huts) (k_lf_dams : iv 0 511 lf_dams) (k_lf_echoes : iv 0 4 lf_echoes) (k_la_heights : ∀ j, iv 0 99 (la_heights j)) (k_la_minutes : ∀ j, iv 0 9 (la_minutes j)) (k_la_echoFrom : ∀ j, iv 0 8 (la_echoFrom j)) (k_la_echoTo : ∀ j, iv 0 8 (la_echoTo j)) (hx2 : iv 0 8 x2) (hx3 : iv 0 8 x3) (m12 : Int) (hm12 : m12 ≤ x2.toInt) (hP12 : ∀ (x2 : Int32) (a_heard : Nat → Int32), m12 < x2.toInt → iv 0 9 x2 → (∀ j, iv 0 1000 (a_heard j)) → P12 x2 a_heard) (m22 : Int) (hm22 : m22 ≤ x3.toInt) (hP22 : ∀ (x3 : Int32) (a_heard : Nat → Int32), m22 < x3.toInt → iv 0 9 x3 → (∀ j, iv 0 1000 (a_heard j)) → P22 x3 a_heard) (hpost : ∀ (a_heard : Nat → Int32), (∀ j, iv 0 1000 (a_heard j)) → post a_heard) : q_wp_X7_hear_9_61 P12 P22 a_heard lf_huts lf_dams lf_echoes la_heights la_minutes la_echoFrom la_echoTo x2 x3 post := by
  intro w1 ew1
  have hw1 := iv_eq ew1 (iv_add (l := 1) (h := 9) hx3 (iv_lit (l := 1) (h := 1) (by decide)) (by decide))
  exact hP22 _ _ (ml_up hm22 (inc_lt ew1 hx3 (by decide))) (iv_w hw1 (by decide)) k_a_heard
set_option maxRecDepth 20000 in
theorem s_wp_X7_hear_9_85 {P12 : Int32 → (Nat → Int32) → Prop} {a_heard : Nat → Int32} {lf_huts : Int32} {lf_dams : Int32} {lf_echoes : Int32} {la_heights : Nat → Int32} {la_minutes : Nat → Int32} {la_echoFrom : Nat → Int32} {la_echoTo : Nat → Int32} {x2 : Int32} {post : (Nat → Int32) → Prop} (k_a_heard : ∀ j, iv 0 1000 (a_heard j)) (k_lf_huts : iv 1 9 lf_huts) (k_lf_dams : iv 0 511 lf_dams) (k_lf_echoes : iv 0 4 lf_echoes) (k_la_heights : ∀ j, iv 0 99 (la_heights j)) (k_la_minutes : ∀ j, iv 0 9 (la_minutes j)) (k_la_echoFrom : ∀ j, iv 0 8 (la_echoFrom j)) (k_la_echoTo : ∀ j, iv 0 8 (la_echoTo j)) (hx2 : iv 0 8 x2) (m12 : Int) (hm12 : m12 ≤ x2.toInt) (hP12 : ∀ (x2 : Int32) (a_heard : Nat → Int32), m12 < x2.toInt → iv 0 9 x2 → (∀ j, iv 0 1000 (a_heard j)) → P12 x2 a_heard) (hpost : ∀ (a_heard : Nat → Int32), (∀ j, iv 0 1000 (a_heard j)) → post a_heard) : q_wp_X7_hear_9_85 P12 a_heard lf_huts lf_dams lf_echoes la_heights la_minutes la_echoFrom la_echoTo x2 post := by
  intro w1 ew1
  have hw1 := iv_eq ew1 (iv_add (l := 1) (h := 9) hx2 (iv_lit (l := 1) (h := 1) (by decide)) (by decide))
  exact hP12 _ _ (ml_up hm12 (inc_lt ew1 hx2 (by decide))) (iv_w hw1 (by decide)) k_a_heard
set_option maxRecDepth 20000 in
theorem s_wp_X7_hear_9_22 {P12 : Int32 → (Nat → Int32) → Prop} {a_heard : Nat → Int32} {lf_huts : Int32} {lf_dams : Int32} {lf_echoes : Int32} {la_heights : Nat → Int32} {la_minutes : Nat → Int32} {la_echoFrom : Nat → Int32} {la_echoTo : Nat → Int32} {x2 : Int32} {x3 : Int32} {post : (Nat → Int32) → Prop} (k_a_heard : ∀ j, iv 0 1000 (a_heard j)) (k_lf_huts : iv 1 9 lf_huts) (k_lf_dams : iv 0 511 lf_dams) (k_lf_echoes : iv 0 4 lf_echoes) (k_la_heights : ∀ j, iv 0 99 (la_heights j)) (k_la_minutes : ∀ j, iv 0 9 (la_minutes j)) (k_la_echoFrom : ∀ j, iv 0 8 (la_echoFrom j)) (k_la_echoTo : ∀ j, iv 0 8 (la_echoTo j)) (hx2 : iv 0 8 x2) (hx3 : iv 0 9 x3) (m12 : Int) (hm12 : m12 ≤ x2.toInt) (hP12 : ∀ (x2 : Int32) (a_heard : Nat → Int32), m12 < x2.toInt → iv 0 9 x2 → (∀ j, iv 0 1000 (a_heard j)) → P12 x2 a_heard) (hpost : ∀ (a_heard : Nat → Int32), (∀ j, iv 0 1000 (a_heard j)) → post a_heard) : q_wp_X7_hear_9_22 P12 a_heard lf_huts lf_dams lf_echoes la_heights la_minutes la_echoFrom la_echoTo x2 x3 post := by
  intro P hP
  have loop : ∀ (n : Nat) (x3 : Int32) (a_heard : Nat → Int32), (9 - x3.toInt < (n : Int)) → (iv 0 9 x3) → (∀ j, iv 0 1000 (a_heard j)) → P x3 a_heard := by
    intro n
    induction n with
    | zero => intro x3 a_heard hm hx3 k_a_heard; exact (ms0_up hm hx3).elim
    | succ n ih =>
      intro x3 a_heard hm hx3 k_a_heard
      apply hP
      refine ⟨fun c1 => ?_, fun c1 => ?_⟩
      · skip
        refine ⟨fun c2 => ?_, fun c2 => ?_⟩
        · skip
          refine ⟨fun c3 => ?_, fun c3 => ?_⟩
          · skip
            exact (iv_emp (iv_ne (l := 1) (h := 0) c3 (iv_lit (l := 0) (h := 0) (by decide)) (iv_lit (l := 0) (h := 0) (by decide)) (by decide)) (by decide)).elim
          · skip
            refine s_wl_X2_earshot_0 k_lf_dams k_lf_echoes k_la_echoFrom k_la_echoTo hx2 (fun r4 hr4 => ?_)
            refine s_wp_X7_markAtOnce_0 k_a_heard hx2 hr4 (fun o5 k_o5 => ?_)
            exact s_wp_X7_hear_9_85 k_o5 k_lf_huts k_lf_dams k_lf_echoes k_la_heights k_la_minutes k_la_echoFrom k_la_echoTo hx2 m12 hm12 hP12 hpost
        · skip
          refine ⟨fun c6 => ?_, fun c6 => ?_⟩
          · skip
            exact s_wp_X7_hear_9_85 k_a_heard k_lf_huts k_lf_dams k_lf_echoes k_la_heights k_la_minutes k_la_echoFrom k_la_echoTo hx2 m12 hm12 hP12 hpost
          · skip
            exact (iv_emp (iv_eqa (l := 1) (h := 0) c6 (iv_lit (l := 1) (h := 1) (by decide)) (iv_lit (l := 0) (h := 0) (by decide)) (by decide)) (by decide)).elim
      · skip
        refine ⟨iv_in (iv_add (l := 0) (h := 80) (iv_mul (l := 0) (h := 72) hx2 (iv_lit (l := 9) (h := 9) (by decide)) (by decide)) (iv_lta (l := 0) (h := 8) (r_nle c1) hx3 k_lf_huts (by decide)) (by decide)) (by decide), ?_⟩
        refine ⟨fun c7 => ?_, fun c7 => ?_⟩
        · skip
          refine ⟨fun c8 => ?_, fun c8 => ?_⟩
          · skip
            exact s_wp_X7_hear_9_61 k_a_heard k_lf_huts k_lf_dams k_lf_echoes k_la_heights k_la_minutes k_la_echoFrom k_la_echoTo hx2 (iv_lta (l := 0) (h := 8) (r_nle c1) hx3 k_lf_huts (by decide)) m12 hm12 hP12 x3.toInt (Int.le_refl _) (fun u0 u1 hq g0 g1 => ih u0 u1 (ms_up hm hq) g0 g1) hpost
          · skip
            exact (iv_emp (iv_ne (l := 1) (h := 0) c8 (iv_lit (l := 0) (h := 0) (by decide)) (iv_lit (l := 0) (h := 0) (by decide)) (by decide)) (by decide)).elim
        · skip
          refine ⟨iv_in (iv_lta (l := 0) (h := 8) (r_nle c1) hx3 k_lf_huts (by decide)) (by decide), ?_⟩
          refine ⟨iv_in hx2 (by decide), ?_⟩
          refine ⟨fun c9 => ?_, fun c9 => ?_⟩
          · skip
            refine ⟨fun c10 => ?_, fun c10 => ?_⟩
            · skip
              exact s_wp_X7_hear_9_61 k_a_heard k_lf_huts k_lf_dams k_lf_echoes k_la_heights k_la_minutes k_la_echoFrom k_la_echoTo hx2 (iv_lta (l := 0) (h := 8) (r_nle c1) hx3 k_lf_huts (by decide)) m12 hm12 hP12 x3.toInt (Int.le_refl _) (fun u0 u1 hq g0 g1 => ih u0 u1 (ms_up hm hq) g0 g1) hpost
            · skip
              exact (iv_emp (iv_ne (l := 1) (h := 0) c10 (iv_lit (l := 0) (h := 0) (by decide)) (iv_lit (l := 0) (h := 0) (by decide)) (by decide)) (by decide)).elim
          · skip
            refine ⟨fun c11 => ?_, fun c11 => ?_⟩
            · skip
              refine ⟨fun c12 => ?_, fun c12 => ?_⟩
              · skip
                exact (iv_emp (iv_ne (l := 1) (h := 0) c12 (iv_lit (l := 0) (h := 0) (by decide)) (iv_lit (l := 0) (h := 0) (by decide)) (by decide)) (by decide)).elim
              · skip
                refine ⟨fun c13 => ?_, fun c13 => ?_⟩
                · skip
                  refine ⟨fun c14 => ?_, fun c14 => ?_⟩
                  · skip
                    exact (iv_emp (iv_ne (l := 1) (h := 0) c14 (iv_lit (l := 0) (h := 0) (by decide)) (iv_lit (l := 0) (h := 0) (by decide)) (by decide)) (by decide)).elim
                  · skip
                    refine ⟨fun c15 => ?_, fun c15 => ?_⟩
                    · skip
                      exact (iv_emp (iv_eqa (l := 1) (h := 0) c15 (iv_lit (l := 1) (h := 1) (by decide)) (iv_lit (l := 0) (h := 0) (by decide)) (by decide)) (by decide)).elim
                    · skip
                      refine ⟨iv_in (iv_add (l := 0) (h := 80) (iv_mul (l := 0) (h := 72) hx2 (iv_lit (l := 9) (h := 9) (by decide)) (by decide)) (iv_lta (l := 0) (h := 8) (r_nle c1) hx3 k_lf_huts (by decide)) (by decide)) (by decide), ?_⟩
                      intro w16 ew16
                      have hw16 := iv_eq ew16 (iv_ltb (l := 1) (h := 9) (r_nle c7) (iv_lit (l := 0) (h := 0) (by decide)) (k_la_minutes _) (by decide))
                      refine ⟨iv_in (iv_add (l := 0) (h := 80) (iv_mul (l := 0) (h := 72) hx2 (iv_lit (l := 9) (h := 9) (by decide)) (by decide)) (iv_lta (l := 0) (h := 8) (r_nle c1) hx3 k_lf_huts (by decide)) (by decide)) (by decide), ?_⟩
                      intro a17 ea17
                      have k_a17 := iv_upd ea17 k_a_heard (iv_w hw16 (by decide))
                      exact s_wp_X7_hear_9_61 k_a17 k_lf_huts k_lf_dams k_lf_echoes k_la_heights k_la_minutes k_la_echoFrom k_la_echoTo hx2 (iv_lta (l := 0) (h := 8) (r_nle c1) hx3 k_lf_huts (by decide)) m12 hm12 hP12 x3.toInt (Int.le_refl _) (fun u0 u1 hq g0 g1 => ih u0 u1 (ms_up hm hq) g0 g1) hpost
                · skip
                  refine ⟨fun c18 => ?_, fun c18 => ?_⟩
                  · skip
                    refine ⟨fun c19 => ?_, fun c19 => ?_⟩
                    · skip
                      exact s_wp_X7_hear_9_61 k_a_heard k_lf_huts k_lf_dams k_lf_echoes k_la_heights k_la_minutes k_la_echoFrom k_la_echoTo hx2 (iv_lta (l := 0) (h := 8) (r_nle c1) hx3 k_lf_huts (by decide)) m12 hm12 hP12 x3.toInt (Int.le_refl _) (fun u0 u1 hq g0 g1 => ih u0 u1 (ms_up hm hq) g0 g1) hpost
                    · skip
                      exact (iv_emp (iv_ne (l := 1) (h := 0) c19 (iv_lit (l := 0) (h := 0) (by decide)) (iv_lit (l := 0) (h := 0) (by decide)) (by decide)) (by decide)).elim
                  · skip
                    exact (iv_emp (iv_eqa (l := 1) (h := 0) c18 (iv_lit (l := 1) (h := 1) (by decide)) (iv_lit (l := 0) (h := 0) (by decide)) (by decide)) (by decide)).elim
            · skip
              refine ⟨fun c20 => ?_, fun c20 => ?_⟩
              · skip
                refine ⟨fun c21 => ?_, fun c21 => ?_⟩
                · skip
                  exact s_wp_X7_hear_9_61 k_a_heard k_lf_huts k_lf_dams k_lf_echoes k_la_heights k_la_minutes k_la_echoFrom k_la_echoTo hx2 (iv_lta (l := 0) (h := 8) (r_nle c1) hx3 k_lf_huts (by decide)) m12 hm12 hP12 x3.toInt (Int.le_refl _) (fun u0 u1 hq g0 g1 => ih u0 u1 (ms_up hm hq) g0 g1) hpost
                · skip
                  exact (iv_emp (iv_ne (l := 1) (h := 0) c21 (iv_lit (l := 0) (h := 0) (by decide)) (iv_lit (l := 0) (h := 0) (by decide)) (by decide)) (by decide)).elim
              · skip
                exact (iv_emp (iv_eqa (l := 1) (h := 0) c20 (iv_lit (l := 1) (h := 1) (by decide)) (iv_lit (l := 0) (h := 0) (by decide)) (by decide)) (by decide)).elim
  exact loop _ _ _ (ms_init_up _ _) hx3 k_a_heard
set_option maxRecDepth 20000 in
theorem s_wp_X7_hear_9_12 {a_heard : Nat → Int32} {lf_huts : Int32} {lf_dams : Int32} {lf_echoes : Int32} {la_heights : Nat → Int32} {la_minutes : Nat → Int32} {la_echoFrom : Nat → Int32} {la_echoTo : Nat → Int32} {x2 : Int32} {post : (Nat → Int32) → Prop} (k_a_heard : ∀ j, iv 0 1000 (a_heard j)) (k_lf_huts : iv 0 9 lf_huts) (k_lf_dams : iv 0 511 lf_dams) (k_lf_echoes : iv 0 4 lf_echoes) (k_la_heights : ∀ j, iv 0 99 (la_heights j)) (k_la_minutes : ∀ j, iv 0 9 (la_minutes j)) (k_la_echoFrom : ∀ j, iv 0 8 (la_echoFrom j)) (k_la_echoTo : ∀ j, iv 0 8 (la_echoTo j)) (hx2 : iv 0 9 x2) (hpost : ∀ (a_heard : Nat → Int32), (∀ j, iv 0 1000 (a_heard j)) → post a_heard) : q_wp_X7_hear_9_12 a_heard lf_huts lf_dams lf_echoes la_heights la_minutes la_echoFrom la_echoTo x2 post := by
  intro P hP
  have loop : ∀ (n : Nat) (x2 : Int32) (a_heard : Nat → Int32), (9 - x2.toInt < (n : Int)) → (iv 0 9 x2) → (∀ j, iv 0 1000 (a_heard j)) → P x2 a_heard := by
    intro n
    induction n with
    | zero => intro x2 a_heard hm hx2 k_a_heard; exact (ms0_up hm hx2).elim
    | succ n ih =>
      intro x2 a_heard hm hx2 k_a_heard
      apply hP
      refine ⟨fun c1 => ?_, fun c1 => ?_⟩
      · skip
        refine s_wp_X7_shorten_1_0 k_a_heard k_lf_huts (fun o2 k_o2 => ?_)
        exact hpost _ k_o2
      · skip
        exact s_wp_X7_hear_9_22 k_a_heard (iv_ltb (l := 1) (h := 9) (r_nle c1) hx2 k_lf_huts (by decide)) k_lf_dams k_lf_echoes k_la_heights k_la_minutes k_la_echoFrom k_la_echoTo (iv_lta (l := 0) (h := 8) (r_nle c1) hx2 k_lf_huts (by decide)) (iv_w (iv_lit (l := 0) (h := 0) (by decide)) (by decide)) x2.toInt (Int.le_refl _) (fun u0 u1 hq g0 g1 => ih u0 u1 (ms_up hm hq) g0 g1) hpost
  exact loop _ _ _ (ms_init_up _ _) hx2 k_a_heard
set_option maxRecDepth 20000 in
theorem s_wp_X7_hear_9_0 {a_heard : Nat → Int32} {lf_huts : Int32} {lf_dams : Int32} {lf_echoes : Int32} {la_heights : Nat → Int32} {la_minutes : Nat → Int32} {la_echoFrom : Nat → Int32} {la_echoTo : Nat → Int32} {post : (Nat → Int32) → Prop} (k_a_heard : ∀ j, iv 0 1000 (a_heard j)) (k_lf_huts : iv 0 9 lf_huts) (k_lf_dams : iv 0 511 lf_dams) (k_lf_echoes : iv 0 4 lf_echoes) (k_la_heights : ∀ j, iv 0 99 (la_heights j)) (k_la_minutes : ∀ j, iv 0 9 (la_minutes j)) (k_la_echoFrom : ∀ j, iv 0 8 (la_echoFrom j)) (k_la_echoTo : ∀ j, iv 0 8 (la_echoTo j)) (hpost : ∀ (a_heard : Nat → Int32), (∀ j, iv 0 1000 (a_heard j)) → post a_heard) : q_wp_X7_hear_9_0 a_heard lf_huts lf_dams lf_echoes la_heights la_minutes la_echoFrom la_echoTo post := by
  refine s_wp_J7_fill_53178_1_0 k_a_heard (iv_lit (l := 1000) (h := 1000) (by decide)) (fun o1 k_o1 => ?_)
  exact s_wp_X7_hear_9_12 k_o1 k_lf_huts k_lf_dams k_lf_echoes k_la_heights k_la_minutes k_la_echoFrom k_la_echoTo (iv_w (iv_lit (l := 0) (h := 0) (by decide)) (by decide)) hpost
-- wp_J7_fill_53178_2
set_option maxRecDepth 20000 in
theorem s_wp_J7_fill_53178_2_5 {a_walked : Nat → Int32} {x1 : Int32} {x2 : Int32} {x3 : Int32} {post : (Nat → Int32) → Prop} (k_a_walked : ∀ j, iv 0 1000 (a_walked j)) (hx1 : iv 1000 1000 x1) (hx2 : iv 0 81 x2) (hx3 : iv 81 81 x3) (hpost : ∀ (a_walked : Nat → Int32), (∀ j, iv 0 1000 (a_walked j)) → post a_walked) : q_wp_J7_fill_53178_2_5 a_walked x1 x2 x3 post := by
  intro P hP
  have loop : ∀ (n : Nat) (x2 : Int32) (a_walked : Nat → Int32), (81 - x2.toInt < (n : Int)) → (iv 0 81 x2) → (∀ j, iv 0 1000 (a_walked j)) → P x2 a_walked := by
    intro n
    induction n with
    | zero => intro x2 a_walked hm hx2 k_a_walked; exact (ms0_up hm hx2).elim
    | succ n ih =>
      intro x2 a_walked hm hx2 k_a_walked
      apply hP
      refine ⟨fun c1 => ?_, fun c1 => ?_⟩
      · skip
        exact hpost _ k_a_walked
      · skip
        refine ⟨iv_in (iv_lta (l := 0) (h := 80) (r_nle c1) hx2 hx3 (by decide)) (by decide), ?_⟩
        intro a2 ea2
        have k_a2 := iv_upd ea2 k_a_walked (iv_w hx1 (by decide))
        intro w3 ew3
        have hw3 := iv_eq ew3 (iv_add (l := 1) (h := 81) (iv_lta (l := 0) (h := 80) (r_nle c1) hx2 hx3 (by decide)) (iv_lit (l := 1) (h := 1) (by decide)) (by decide))
        exact ih _ _ (ms_up hm (inc_lt ew3 (iv_lta (l := 0) (h := 80) (r_nle c1) hx2 hx3 (by decide)) (by decide))) (iv_w hw3 (by decide)) k_a2
  exact loop _ _ _ (ms_init_up _ _) hx2 k_a_walked
set_option maxRecDepth 20000 in
theorem s_wp_J7_fill_53178_2_0 {a_walked : Nat → Int32} {x1 : Int32} {post : (Nat → Int32) → Prop} (k_a_walked : ∀ j, iv 0 1000 (a_walked j)) (hx1 : iv 1000 1000 x1) (hpost : ∀ (a_walked : Nat → Int32), (∀ j, iv 0 1000 (a_walked j)) → post a_walked) : q_wp_J7_fill_53178_2_0 a_walked x1 post := by
  exact s_wp_J7_fill_53178_2_5 k_a_walked hx1 (iv_w (iv_lit (l := 0) (h := 0) (by decide)) (by decide)) (iv_lit (l := 81) (h := 81) (by decide)) hpost
-- wp_X7_shorten_2
set_option maxRecDepth 20000 in
theorem s_wp_X7_shorten_2_80 {P2 : Int32 → (Nat → Int32) → Prop} {P9 : Int32 → (Nat → Int32) → Prop} {P27 : Int32 → (Nat → Int32) → Prop} {a_walked : Nat → Int32} {x1 : Int32} {x2 : Int32} {x3 : Int32} {x4 : Int32} {x5 : Int32} {post : (Nat → Int32) → Prop} (k_a_walked : ∀ j, iv 0 1000 (a_walked j)) (hx1 : iv 1 9 x1) (hx2 : iv 0 8 x2) (hx3 : iv 0 8 x3) (hx4 : iv 0 999 x4) (hx5 : iv 0 8 x5) (m2 : Int) (hm2 : m2 ≤ x2.toInt) (hP2 : ∀ (x2 : Int32) (a_walked : Nat → Int32), m2 < x2.toInt → iv 0 9 x2 → (∀ j, iv 0 1000 (a_walked j)) → P2 x2 a_walked) (m9 : Int) (hm9 : m9 ≤ x3.toInt) (hP9 : ∀ (x3 : Int32) (a_walked : Nat → Int32), m9 < x3.toInt → iv 0 9 x3 → (∀ j, iv 0 1000 (a_walked j)) → P9 x3 a_walked) (m27 : Int) (hm27 : m27 ≤ x5.toInt) (hP27 : ∀ (x5 : Int32) (a_walked : Nat → Int32), m27 < x5.toInt → iv 0 9 x5 → (∀ j, iv 0 1000 (a_walked j)) → P27 x5 a_walked) (hpost : ∀ (a_walked : Nat → Int32), (∀ j, iv 0 1000 (a_walked j)) → post a_walked) : q_wp_X7_shorten_2_80 P2 P9 P27 a_walked x1 x2 x3 x4 x5 post := by
  intro w1 ew1
  have hw1 := iv_eq ew1 (iv_add (l := 1) (h := 9) hx5 (iv_lit (l := 1) (h := 1) (by decide)) (by decide))
  exact hP27 _ _ (ml_up hm27 (inc_lt ew1 hx5 (by decide))) (iv_w hw1 (by decide)) k_a_walked
set_option maxRecDepth 20000 in
theorem s_wp_X7_shorten_2_86 {P2 : Int32 → (Nat → Int32) → Prop} {P9 : Int32 → (Nat → Int32) → Prop} {a_walked : Nat → Int32} {x1 : Int32} {x2 : Int32} {x3 : Int32} {post : (Nat → Int32) → Prop} (k_a_walked : ∀ j, iv 0 1000 (a_walked j)) (hx1 : iv 1 9 x1) (hx2 : iv 0 8 x2) (hx3 : iv 0 8 x3) (m2 : Int) (hm2 : m2 ≤ x2.toInt) (hP2 : ∀ (x2 : Int32) (a_walked : Nat → Int32), m2 < x2.toInt → iv 0 9 x2 → (∀ j, iv 0 1000 (a_walked j)) → P2 x2 a_walked) (m9 : Int) (hm9 : m9 ≤ x3.toInt) (hP9 : ∀ (x3 : Int32) (a_walked : Nat → Int32), m9 < x3.toInt → iv 0 9 x3 → (∀ j, iv 0 1000 (a_walked j)) → P9 x3 a_walked) (hpost : ∀ (a_walked : Nat → Int32), (∀ j, iv 0 1000 (a_walked j)) → post a_walked) : q_wp_X7_shorten_2_86 P2 P9 a_walked x1 x2 x3 post := by
  intro w1 ew1
  have hw1 := iv_eq ew1 (iv_add (l := 1) (h := 9) hx3 (iv_lit (l := 1) (h := 1) (by decide)) (by decide))
  exact hP9 _ _ (ml_up hm9 (inc_lt ew1 hx3 (by decide))) (iv_w hw1 (by decide)) k_a_walked
set_option maxRecDepth 20000 in
theorem s_wp_X7_shorten_2_27 {P2 : Int32 → (Nat → Int32) → Prop} {P9 : Int32 → (Nat → Int32) → Prop} {a_walked : Nat → Int32} {x1 : Int32} {x2 : Int32} {x3 : Int32} {x4 : Int32} {x5 : Int32} {post : (Nat → Int32) → Prop} (k_a_walked : ∀ j, iv 0 1000 (a_walked j)) (hx1 : iv 1 9 x1) (hx2 : iv 0 8 x2) (hx3 : iv 0 8 x3) (hx4 : iv 0 1000 x4) (hx5 : iv 0 9 x5) (m2 : Int) (hm2 : m2 ≤ x2.toInt) (hP2 : ∀ (x2 : Int32) (a_walked : Nat → Int32), m2 < x2.toInt → iv 0 9 x2 → (∀ j, iv 0 1000 (a_walked j)) → P2 x2 a_walked) (m9 : Int) (hm9 : m9 ≤ x3.toInt) (hP9 : ∀ (x3 : Int32) (a_walked : Nat → Int32), m9 < x3.toInt → iv 0 9 x3 → (∀ j, iv 0 1000 (a_walked j)) → P9 x3 a_walked) (hpost : ∀ (a_walked : Nat → Int32), (∀ j, iv 0 1000 (a_walked j)) → post a_walked) : q_wp_X7_shorten_2_27 P2 P9 a_walked x1 x2 x3 x4 x5 post := by
  intro P hP
  have loop : ∀ (n : Nat) (x5 : Int32) (a_walked : Nat → Int32), (9 - x5.toInt < (n : Int)) → (iv 0 9 x5) → (∀ j, iv 0 1000 (a_walked j)) → P x5 a_walked := by
    intro n
    induction n with
    | zero => intro x5 a_walked hm hx5 k_a_walked; exact (ms0_up hm hx5).elim
    | succ n ih =>
      intro x5 a_walked hm hx5 k_a_walked
      apply hP
      refine ⟨fun c1 => ?_, fun c1 => ?_⟩
      · skip
        exact s_wp_X7_shorten_2_86 k_a_walked hx1 hx2 hx3 m2 hm2 hP2 m9 hm9 hP9 hpost
      · skip
        refine ⟨fun c2 => ?_, fun c2 => ?_⟩
        · skip
          exact s_wp_X7_shorten_2_86 k_a_walked hx1 hx2 hx3 m2 hm2 hP2 m9 hm9 hP9 hpost
        · skip
          refine ⟨iv_in (iv_add (l := 0) (h := 80) (iv_mul (l := 0) (h := 72) hx2 (iv_lit (l := 9) (h := 9) (by decide)) (by decide)) (iv_lta (l := 0) (h := 8) (r_nle c1) hx5 hx1 (by decide)) (by decide)) (by decide), ?_⟩
          intro w3 ew3
          have hw3 := iv_eq ew3 (iv_add (l := 0) (h := 1999) (iv_lta (l := 0) (h := 999) (r_nle c2) hx4 (iv_lit (l := 1000) (h := 1000) (by decide)) (by decide)) (k_a_walked _) (by decide))
          refine ⟨iv_in (iv_add (l := 0) (h := 80) (iv_mul (l := 0) (h := 72) hx3 (iv_lit (l := 9) (h := 9) (by decide)) (by decide)) (iv_lta (l := 0) (h := 8) (r_nle c1) hx5 hx1 (by decide)) (by decide)) (by decide), ?_⟩
          refine ⟨fun c4 => ?_, fun c4 => ?_⟩
          · skip
            exact s_wp_X7_shorten_2_80 k_a_walked hx1 hx2 hx3 (iv_lta (l := 0) (h := 999) (r_nle c2) hx4 (iv_lit (l := 1000) (h := 1000) (by decide)) (by decide)) (iv_lta (l := 0) (h := 8) (r_nle c1) hx5 hx1 (by decide)) m2 hm2 hP2 m9 hm9 hP9 x5.toInt (Int.le_refl _) (fun u0 u1 hq g0 g1 => ih u0 u1 (ms_up hm hq) g0 g1) hpost
          · skip
            refine ⟨iv_in (iv_add (l := 0) (h := 80) (iv_mul (l := 0) (h := 72) hx3 (iv_lit (l := 9) (h := 9) (by decide)) (by decide)) (iv_lta (l := 0) (h := 8) (r_nle c1) hx5 hx1 (by decide)) (by decide)) (by decide), ?_⟩
            intro a5 ea5
            have k_a5 := iv_upd ea5 k_a_walked (iv_w (iv_lta (l := 0) (h := 999) (r_nle c4) hw3 (k_a_walked _) (by decide)) (by decide))
            exact s_wp_X7_shorten_2_80 k_a5 hx1 hx2 hx3 (iv_lta (l := 0) (h := 999) (r_nle c2) hx4 (iv_lit (l := 1000) (h := 1000) (by decide)) (by decide)) (iv_lta (l := 0) (h := 8) (r_nle c1) hx5 hx1 (by decide)) m2 hm2 hP2 m9 hm9 hP9 x5.toInt (Int.le_refl _) (fun u0 u1 hq g0 g1 => ih u0 u1 (ms_up hm hq) g0 g1) hpost
  exact loop _ _ _ (ms_init_up _ _) hx5 k_a_walked
set_option maxRecDepth 20000 in
theorem s_wp_X7_shorten_2_9 {P2 : Int32 → (Nat → Int32) → Prop} {a_walked : Nat → Int32} {x1 : Int32} {x2 : Int32} {x3 : Int32} {post : (Nat → Int32) → Prop} (k_a_walked : ∀ j, iv 0 1000 (a_walked j)) (hx1 : iv 1 9 x1) (hx2 : iv 0 8 x2) (hx3 : iv 0 9 x3) (m2 : Int) (hm2 : m2 ≤ x2.toInt) (hP2 : ∀ (x2 : Int32) (a_walked : Nat → Int32), m2 < x2.toInt → iv 0 9 x2 → (∀ j, iv 0 1000 (a_walked j)) → P2 x2 a_walked) (hpost : ∀ (a_walked : Nat → Int32), (∀ j, iv 0 1000 (a_walked j)) → post a_walked) : q_wp_X7_shorten_2_9 P2 a_walked x1 x2 x3 post := by
  intro P hP
  have loop : ∀ (n : Nat) (x3 : Int32) (a_walked : Nat → Int32), (9 - x3.toInt < (n : Int)) → (iv 0 9 x3) → (∀ j, iv 0 1000 (a_walked j)) → P x3 a_walked := by
    intro n
    induction n with
    | zero => intro x3 a_walked hm hx3 k_a_walked; exact (ms0_up hm hx3).elim
    | succ n ih =>
      intro x3 a_walked hm hx3 k_a_walked
      apply hP
      refine ⟨fun c1 => ?_, fun c1 => ?_⟩
      · skip
        intro w2 ew2
        have hw2 := iv_eq ew2 (iv_add (l := 1) (h := 9) hx2 (iv_lit (l := 1) (h := 1) (by decide)) (by decide))
        exact hP2 _ _ (ml_up hm2 (inc_lt ew2 hx2 (by decide))) (iv_w hw2 (by decide)) k_a_walked
      · skip
        refine ⟨iv_in (iv_add (l := 0) (h := 80) (iv_mul (l := 0) (h := 72) (iv_lta (l := 0) (h := 8) (r_nle c1) hx3 hx1 (by decide)) (iv_lit (l := 9) (h := 9) (by decide)) (by decide)) hx2 (by decide)) (by decide), ?_⟩
        intro w3 ew3
        have hw3 := iv_eq ew3 (k_a_walked _)
        exact s_wp_X7_shorten_2_27 k_a_walked hx1 hx2 (iv_lta (l := 0) (h := 8) (r_nle c1) hx3 hx1 (by decide)) hw3 (iv_w (iv_lit (l := 0) (h := 0) (by decide)) (by decide)) m2 hm2 hP2 x3.toInt (Int.le_refl _) (fun u0 u1 hq g0 g1 => ih u0 u1 (ms_up hm hq) g0 g1) hpost
  exact loop _ _ _ (ms_init_up _ _) hx3 k_a_walked
set_option maxRecDepth 20000 in
theorem s_wp_X7_shorten_2_2 {a_walked : Nat → Int32} {x1 : Int32} {x2 : Int32} {post : (Nat → Int32) → Prop} (k_a_walked : ∀ j, iv 0 1000 (a_walked j)) (hx1 : iv 0 9 x1) (hx2 : iv 0 9 x2) (hpost : ∀ (a_walked : Nat → Int32), (∀ j, iv 0 1000 (a_walked j)) → post a_walked) : q_wp_X7_shorten_2_2 a_walked x1 x2 post := by
  intro P hP
  have loop : ∀ (n : Nat) (x2 : Int32) (a_walked : Nat → Int32), (9 - x2.toInt < (n : Int)) → (iv 0 9 x2) → (∀ j, iv 0 1000 (a_walked j)) → P x2 a_walked := by
    intro n
    induction n with
    | zero => intro x2 a_walked hm hx2 k_a_walked; exact (ms0_up hm hx2).elim
    | succ n ih =>
      intro x2 a_walked hm hx2 k_a_walked
      apply hP
      refine ⟨fun c1 => ?_, fun c1 => ?_⟩
      · skip
        exact hpost _ k_a_walked
      · skip
        exact s_wp_X7_shorten_2_9 k_a_walked (iv_ltb (l := 1) (h := 9) (r_nle c1) hx2 hx1 (by decide)) (iv_lta (l := 0) (h := 8) (r_nle c1) hx2 hx1 (by decide)) (iv_w (iv_lit (l := 0) (h := 0) (by decide)) (by decide)) x2.toInt (Int.le_refl _) (fun u0 u1 hq g0 g1 => ih u0 u1 (ms_up hm hq) g0 g1) hpost
  exact loop _ _ _ (ms_init_up _ _) hx2 k_a_walked
set_option maxRecDepth 20000 in
theorem s_wp_X7_shorten_2_0 {a_walked : Nat → Int32} {x1 : Int32} {post : (Nat → Int32) → Prop} (k_a_walked : ∀ j, iv 0 1000 (a_walked j)) (hx1 : iv 0 9 x1) (hpost : ∀ (a_walked : Nat → Int32), (∀ j, iv 0 1000 (a_walked j)) → post a_walked) : q_wp_X7_shorten_2_0 a_walked x1 post := by
  exact s_wp_X7_shorten_2_2 k_a_walked hx1 (iv_w (iv_lit (l := 0) (h := 0) (by decide)) (by decide)) hpost
-- wp_X7_walk_9
set_option maxRecDepth 20000 in
theorem s_wp_X7_walk_9_61 {P12 : Int32 → (Nat → Int32) → Prop} {P22 : Int32 → (Nat → Int32) → Prop} {a_walked : Nat → Int32} {lf_huts : Int32} {la_minutes : Nat → Int32} {x2 : Int32} {x3 : Int32} {post : (Nat → Int32) → Prop} (k_a_walked : ∀ j, iv 0 1000 (a_walked j)) (k_lf_huts : iv 1 9 lf_huts) (k_la_minutes : ∀ j, iv 0 9 (la_minutes j)) (hx2 : iv 0 8 x2) (hx3 : iv 0 8 x3) (m12 : Int) (hm12 : m12 ≤ x2.toInt) (hP12 : ∀ (x2 : Int32) (a_walked : Nat → Int32), m12 < x2.toInt → iv 0 9 x2 → (∀ j, iv 0 1000 (a_walked j)) → P12 x2 a_walked) (m22 : Int) (hm22 : m22 ≤ x3.toInt) (hP22 : ∀ (x3 : Int32) (a_walked : Nat → Int32), m22 < x3.toInt → iv 0 9 x3 → (∀ j, iv 0 1000 (a_walked j)) → P22 x3 a_walked) (hpost : ∀ (a_walked : Nat → Int32), (∀ j, iv 0 1000 (a_walked j)) → post a_walked) : q_wp_X7_walk_9_61 P12 P22 a_walked lf_huts la_minutes x2 x3 post := by
  intro w1 ew1
  have hw1 := iv_eq ew1 (iv_add (l := 1) (h := 9) hx3 (iv_lit (l := 1) (h := 1) (by decide)) (by decide))
  exact hP22 _ _ (ml_up hm22 (inc_lt ew1 hx3 (by decide))) (iv_w hw1 (by decide)) k_a_walked
set_option maxRecDepth 20000 in
theorem s_wp_X7_walk_9_22 {P12 : Int32 → (Nat → Int32) → Prop} {a_walked : Nat → Int32} {lf_huts : Int32} {la_minutes : Nat → Int32} {x2 : Int32} {x3 : Int32} {post : (Nat → Int32) → Prop} (k_a_walked : ∀ j, iv 0 1000 (a_walked j)) (k_lf_huts : iv 1 9 lf_huts) (k_la_minutes : ∀ j, iv 0 9 (la_minutes j)) (hx2 : iv 0 8 x2) (hx3 : iv 0 9 x3) (m12 : Int) (hm12 : m12 ≤ x2.toInt) (hP12 : ∀ (x2 : Int32) (a_walked : Nat → Int32), m12 < x2.toInt → iv 0 9 x2 → (∀ j, iv 0 1000 (a_walked j)) → P12 x2 a_walked) (hpost : ∀ (a_walked : Nat → Int32), (∀ j, iv 0 1000 (a_walked j)) → post a_walked) : q_wp_X7_walk_9_22 P12 a_walked lf_huts la_minutes x2 x3 post := by
  intro P hP
  have loop : ∀ (n : Nat) (x3 : Int32) (a_walked : Nat → Int32), (9 - x3.toInt < (n : Int)) → (iv 0 9 x3) → (∀ j, iv 0 1000 (a_walked j)) → P x3 a_walked := by
    intro n
    induction n with
    | zero => intro x3 a_walked hm hx3 k_a_walked; exact (ms0_up hm hx3).elim
    | succ n ih =>
      intro x3 a_walked hm hx3 k_a_walked
      apply hP
      refine ⟨fun c1 => ?_, fun c1 => ?_⟩
      · skip
        refine ⟨iv_in (iv_add (l := 0) (h := 80) (iv_mul (l := 0) (h := 72) hx2 (iv_lit (l := 9) (h := 9) (by decide)) (by decide)) hx2 (by decide)) (by decide), ?_⟩
        intro a2 ea2
        have k_a2 := iv_upd ea2 k_a_walked (iv_w (iv_lit (l := 0) (h := 0) (by decide)) (by decide))
        intro w3 ew3
        have hw3 := iv_eq ew3 (iv_add (l := 1) (h := 9) hx2 (iv_lit (l := 1) (h := 1) (by decide)) (by decide))
        exact hP12 _ _ (ml_up hm12 (inc_lt ew3 hx2 (by decide))) (iv_w hw3 (by decide)) k_a2
      · skip
        refine ⟨iv_in (iv_add (l := 0) (h := 80) (iv_mul (l := 0) (h := 72) hx2 (iv_lit (l := 9) (h := 9) (by decide)) (by decide)) (iv_lta (l := 0) (h := 8) (r_nle c1) hx3 k_lf_huts (by decide)) (by decide)) (by decide), ?_⟩
        intro w4 ew4
        have hw4 := iv_eq ew4 (k_la_minutes _)
        refine ⟨fun c5 => ?_, fun c5 => ?_⟩
        · skip
          exact s_wp_X7_walk_9_61 k_a_walked k_lf_huts k_la_minutes hx2 (iv_lta (l := 0) (h := 8) (r_nle c1) hx3 k_lf_huts (by decide)) m12 hm12 hP12 x3.toInt (Int.le_refl _) (fun u0 u1 hq g0 g1 => ih u0 u1 (ms_up hm hq) g0 g1) hpost
        · skip
          refine ⟨iv_in (iv_add (l := 0) (h := 80) (iv_mul (l := 0) (h := 72) hx2 (iv_lit (l := 9) (h := 9) (by decide)) (by decide)) (iv_lta (l := 0) (h := 8) (r_nle c1) hx3 k_lf_huts (by decide)) (by decide)) (by decide), ?_⟩
          intro a6 ea6
          have k_a6 := iv_upd ea6 k_a_walked (iv_w (iv_ltb (l := 1) (h := 9) (r_nle c5) (iv_lit (l := 0) (h := 0) (by decide)) hw4 (by decide)) (by decide))
          exact s_wp_X7_walk_9_61 k_a6 k_lf_huts k_la_minutes hx2 (iv_lta (l := 0) (h := 8) (r_nle c1) hx3 k_lf_huts (by decide)) m12 hm12 hP12 x3.toInt (Int.le_refl _) (fun u0 u1 hq g0 g1 => ih u0 u1 (ms_up hm hq) g0 g1) hpost
  exact loop _ _ _ (ms_init_up _ _) hx3 k_a_walked
set_option maxRecDepth 20000 in
theorem s_wp_X7_walk_9_12 {a_walked : Nat → Int32} {lf_huts : Int32} {la_minutes : Nat → Int32} {x2 : Int32} {post : (Nat → Int32) → Prop} (k_a_walked : ∀ j, iv 0 1000 (a_walked j)) (k_lf_huts : iv 0 9 lf_huts) (k_la_minutes : ∀ j, iv 0 9 (la_minutes j)) (hx2 : iv 0 9 x2) (hpost : ∀ (a_walked : Nat → Int32), (∀ j, iv 0 1000 (a_walked j)) → post a_walked) : q_wp_X7_walk_9_12 a_walked lf_huts la_minutes x2 post := by
  intro P hP
  have loop : ∀ (n : Nat) (x2 : Int32) (a_walked : Nat → Int32), (9 - x2.toInt < (n : Int)) → (iv 0 9 x2) → (∀ j, iv 0 1000 (a_walked j)) → P x2 a_walked := by
    intro n
    induction n with
    | zero => intro x2 a_walked hm hx2 k_a_walked; exact (ms0_up hm hx2).elim
    | succ n ih =>
      intro x2 a_walked hm hx2 k_a_walked
      apply hP
      refine ⟨fun c1 => ?_, fun c1 => ?_⟩
      · skip
        refine s_wp_X7_shorten_2_0 k_a_walked k_lf_huts (fun o2 k_o2 => ?_)
        exact hpost _ k_o2
      · skip
        exact s_wp_X7_walk_9_22 k_a_walked (iv_ltb (l := 1) (h := 9) (r_nle c1) hx2 k_lf_huts (by decide)) k_la_minutes (iv_lta (l := 0) (h := 8) (r_nle c1) hx2 k_lf_huts (by decide)) (iv_w (iv_lit (l := 0) (h := 0) (by decide)) (by decide)) x2.toInt (Int.le_refl _) (fun u0 u1 hq g0 g1 => ih u0 u1 (ms_up hm hq) g0 g1) hpost
  exact loop _ _ _ (ms_init_up _ _) hx2 k_a_walked
set_option maxRecDepth 20000 in
theorem s_wp_X7_walk_9_0 {a_walked : Nat → Int32} {lf_huts : Int32} {la_minutes : Nat → Int32} {post : (Nat → Int32) → Prop} (k_a_walked : ∀ j, iv 0 1000 (a_walked j)) (k_lf_huts : iv 0 9 lf_huts) (k_la_minutes : ∀ j, iv 0 9 (la_minutes j)) (hpost : ∀ (a_walked : Nat → Int32), (∀ j, iv 0 1000 (a_walked j)) → post a_walked) : q_wp_X7_walk_9_0 a_walked lf_huts la_minutes post := by
  refine s_wp_J7_fill_53178_2_0 k_a_walked (iv_lit (l := 1000) (h := 1000) (by decide)) (fun o1 k_o1 => ?_)
  exact s_wp_X7_walk_9_12 k_o1 k_lf_huts k_la_minutes (iv_w (iv_lit (l := 0) (h := 0) (by decide)) (by decide)) hpost
-- wp_X7_link_9
set_option maxRecDepth 20000 in
theorem s_wp_X7_link_9_64 {P2 : Int32 → (Nat → Int32) → Prop} {P35 : Int32 → (Nat → Int32) → Prop} {a_next : Nat → Int32} {lf_huts : Int32} {lf_dams : Int32} {lf_echoes : Int32} {la_heights : Nat → Int32} {la_minutes : Nat → Int32} {la_echoFrom : Nat → Int32} {la_echoTo : Nat → Int32} {x2 : Int32} {x3 : Int32} {post : (Nat → Int32) → Prop} (k_a_next : ∀ j, iv 0 511 (a_next j)) (k_lf_huts : iv 1 9 lf_huts) (k_lf_dams : iv 0 511 lf_dams) (k_lf_echoes : iv 0 4 lf_echoes) (k_la_heights : ∀ j, iv 0 99 (la_heights j)) (k_la_minutes : ∀ j, iv 0 9 (la_minutes j)) (k_la_echoFrom : ∀ j, iv 0 8 (la_echoFrom j)) (k_la_echoTo : ∀ j, iv 0 8 (la_echoTo j)) (hx2 : iv 0 8 x2) (hx3 : iv 0 8 x3) (m2 : Int) (hm2 : m2 ≤ x2.toInt) (hP2 : ∀ (x2 : Int32) (a_next : Nat → Int32), m2 < x2.toInt → iv 0 9 x2 → (∀ j, iv 0 511 (a_next j)) → P2 x2 a_next) (m35 : Int) (hm35 : m35 ≤ x3.toInt) (hP35 : ∀ (x3 : Int32) (a_next : Nat → Int32), m35 < x3.toInt → iv 0 9 x3 → (∀ j, iv 0 511 (a_next j)) → P35 x3 a_next) (hpost : ∀ (a_next : Nat → Int32), (∀ j, iv 0 511 (a_next j)) → post a_next) : q_wp_X7_link_9_64 P2 P35 a_next lf_huts lf_dams lf_echoes la_heights la_minutes la_echoFrom la_echoTo x2 x3 post := by
  intro w1 ew1
  have hw1 := iv_eq ew1 (iv_add (l := 1) (h := 9) hx3 (iv_lit (l := 1) (h := 1) (by decide)) (by decide))
  exact hP35 _ _ (ml_up hm35 (inc_lt ew1 hx3 (by decide))) (iv_w hw1 (by decide)) k_a_next
set_option maxRecDepth 20000 in
theorem s_wp_X7_link_9_35 {P2 : Int32 → (Nat → Int32) → Prop} {a_next : Nat → Int32} {lf_huts : Int32} {lf_dams : Int32} {lf_echoes : Int32} {la_heights : Nat → Int32} {la_minutes : Nat → Int32} {la_echoFrom : Nat → Int32} {la_echoTo : Nat → Int32} {x2 : Int32} {x3 : Int32} {post : (Nat → Int32) → Prop} (k_a_next : ∀ j, iv 0 511 (a_next j)) (k_lf_huts : iv 1 9 lf_huts) (k_lf_dams : iv 0 511 lf_dams) (k_lf_echoes : iv 0 4 lf_echoes) (k_la_heights : ∀ j, iv 0 99 (la_heights j)) (k_la_minutes : ∀ j, iv 0 9 (la_minutes j)) (k_la_echoFrom : ∀ j, iv 0 8 (la_echoFrom j)) (k_la_echoTo : ∀ j, iv 0 8 (la_echoTo j)) (hx2 : iv 0 8 x2) (hx3 : iv 0 9 x3) (m2 : Int) (hm2 : m2 ≤ x2.toInt) (hP2 : ∀ (x2 : Int32) (a_next : Nat → Int32), m2 < x2.toInt → iv 0 9 x2 → (∀ j, iv 0 511 (a_next j)) → P2 x2 a_next) (hpost : ∀ (a_next : Nat → Int32), (∀ j, iv 0 511 (a_next j)) → post a_next) : q_wp_X7_link_9_35 P2 a_next lf_huts lf_dams lf_echoes la_heights la_minutes la_echoFrom la_echoTo x2 x3 post := by
  intro P hP
  have loop : ∀ (n : Nat) (x3 : Int32) (a_next : Nat → Int32), (9 - x3.toInt < (n : Int)) → (iv 0 9 x3) → (∀ j, iv 0 511 (a_next j)) → P x3 a_next := by
    intro n
    induction n with
    | zero => intro x3 a_next hm hx3 k_a_next; exact (ms0_up hm hx3).elim
    | succ n ih =>
      intro x3 a_next hm hx3 k_a_next
      apply hP
      refine ⟨fun c1 => ?_, fun c1 => ?_⟩
      · skip
        intro w2 ew2
        have hw2 := iv_eq ew2 (iv_add (l := 1) (h := 9) hx2 (iv_lit (l := 1) (h := 1) (by decide)) (by decide))
        exact hP2 _ _ (ml_up hm2 (inc_lt ew2 hx2 (by decide))) (iv_w hw2 (by decide)) k_a_next
      · skip
        refine ⟨iv_in (iv_add (l := 0) (h := 80) (iv_mul (l := 0) (h := 72) hx2 (iv_lit (l := 9) (h := 9) (by decide)) (by decide)) (iv_lta (l := 0) (h := 8) (r_nle c1) hx3 k_lf_huts (by decide)) (by decide)) (by decide), ?_⟩
        refine ⟨fun c3 => ?_, fun c3 => ?_⟩
        · skip
          refine ⟨fun c4 => ?_, fun c4 => ?_⟩
          · skip
            exact s_wp_X7_link_9_64 k_a_next k_lf_huts k_lf_dams k_lf_echoes k_la_heights k_la_minutes k_la_echoFrom k_la_echoTo hx2 (iv_lta (l := 0) (h := 8) (r_nle c1) hx3 k_lf_huts (by decide)) m2 hm2 hP2 x3.toInt (Int.le_refl _) (fun u0 u1 hq g0 g1 => ih u0 u1 (ms_up hm hq) g0 g1) hpost
          · skip
            exact (iv_emp (iv_ne (l := 1) (h := 0) c4 (iv_lit (l := 0) (h := 0) (by decide)) (iv_lit (l := 0) (h := 0) (by decide)) (by decide)) (by decide)).elim
        · skip
          refine ⟨iv_in (iv_lta (l := 0) (h := 8) (r_nle c1) hx3 k_lf_huts (by decide)) (by decide), ?_⟩
          refine ⟨iv_in hx2 (by decide), ?_⟩
          refine ⟨fun c5 => ?_, fun c5 => ?_⟩
          · skip
            refine ⟨fun c6 => ?_, fun c6 => ?_⟩
            · skip
              exact s_wp_X7_link_9_64 k_a_next k_lf_huts k_lf_dams k_lf_echoes k_la_heights k_la_minutes k_la_echoFrom k_la_echoTo hx2 (iv_lta (l := 0) (h := 8) (r_nle c1) hx3 k_lf_huts (by decide)) m2 hm2 hP2 x3.toInt (Int.le_refl _) (fun u0 u1 hq g0 g1 => ih u0 u1 (ms_up hm hq) g0 g1) hpost
            · skip
              exact (iv_emp (iv_ne (l := 1) (h := 0) c6 (iv_lit (l := 0) (h := 0) (by decide)) (iv_lit (l := 0) (h := 0) (by decide)) (by decide)) (by decide)).elim
          · skip
            refine ⟨fun c7 => ?_, fun c7 => ?_⟩
            · skip
              refine ⟨fun c8 => ?_, fun c8 => ?_⟩
              · skip
                exact (iv_emp (iv_ne (l := 1) (h := 0) c8 (iv_lit (l := 0) (h := 0) (by decide)) (iv_lit (l := 0) (h := 0) (by decide)) (by decide)) (by decide)).elim
              · skip
                refine ⟨fun c9 => ?_, fun c9 => ?_⟩
                · skip
                  refine ⟨fun c10 => ?_, fun c10 => ?_⟩
                  · skip
                    exact (iv_emp (iv_ne (l := 1) (h := 0) c10 (iv_lit (l := 0) (h := 0) (by decide)) (iv_lit (l := 0) (h := 0) (by decide)) (by decide)) (by decide)).elim
                  · skip
                    refine ⟨fun c11 => ?_, fun c11 => ?_⟩
                    · skip
                      exact (iv_emp (iv_eqa (l := 1) (h := 0) c11 (iv_lit (l := 1) (h := 1) (by decide)) (iv_lit (l := 0) (h := 0) (by decide)) (by decide)) (by decide)).elim
                    · skip
                      refine ⟨iv_in hx2 (by decide), ?_⟩
                      intro w12 ew12
                      have hw12 := iv_eq ew12 (iv_or 9 (l := 0) (h := 511) (k_a_next _) (iv_shl1 (l := 1) (h := 256) (iv_lit (l := 1) (h := 1) (by decide)) (iv_lta (l := 0) (h := 8) (r_nle c1) hx3 k_lf_huts (by decide)) (by decide)) (by decide))
                      refine ⟨iv_in hx2 (by decide), ?_⟩
                      intro a13 ea13
                      have k_a13 := iv_upd ea13 k_a_next hw12
                      exact s_wp_X7_link_9_64 k_a13 k_lf_huts k_lf_dams k_lf_echoes k_la_heights k_la_minutes k_la_echoFrom k_la_echoTo hx2 (iv_lta (l := 0) (h := 8) (r_nle c1) hx3 k_lf_huts (by decide)) m2 hm2 hP2 x3.toInt (Int.le_refl _) (fun u0 u1 hq g0 g1 => ih u0 u1 (ms_up hm hq) g0 g1) hpost
                · skip
                  refine ⟨fun c14 => ?_, fun c14 => ?_⟩
                  · skip
                    refine ⟨fun c15 => ?_, fun c15 => ?_⟩
                    · skip
                      exact s_wp_X7_link_9_64 k_a_next k_lf_huts k_lf_dams k_lf_echoes k_la_heights k_la_minutes k_la_echoFrom k_la_echoTo hx2 (iv_lta (l := 0) (h := 8) (r_nle c1) hx3 k_lf_huts (by decide)) m2 hm2 hP2 x3.toInt (Int.le_refl _) (fun u0 u1 hq g0 g1 => ih u0 u1 (ms_up hm hq) g0 g1) hpost
                    · skip
                      exact (iv_emp (iv_ne (l := 1) (h := 0) c15 (iv_lit (l := 0) (h := 0) (by decide)) (iv_lit (l := 0) (h := 0) (by decide)) (by decide)) (by decide)).elim
                  · skip
                    exact (iv_emp (iv_eqa (l := 1) (h := 0) c14 (iv_lit (l := 1) (h := 1) (by decide)) (iv_lit (l := 0) (h := 0) (by decide)) (by decide)) (by decide)).elim
            · skip
              refine ⟨fun c16 => ?_, fun c16 => ?_⟩
              · skip
                refine ⟨fun c17 => ?_, fun c17 => ?_⟩
                · skip
                  exact s_wp_X7_link_9_64 k_a_next k_lf_huts k_lf_dams k_lf_echoes k_la_heights k_la_minutes k_la_echoFrom k_la_echoTo hx2 (iv_lta (l := 0) (h := 8) (r_nle c1) hx3 k_lf_huts (by decide)) m2 hm2 hP2 x3.toInt (Int.le_refl _) (fun u0 u1 hq g0 g1 => ih u0 u1 (ms_up hm hq) g0 g1) hpost
                · skip
                  exact (iv_emp (iv_ne (l := 1) (h := 0) c17 (iv_lit (l := 0) (h := 0) (by decide)) (iv_lit (l := 0) (h := 0) (by decide)) (by decide)) (by decide)).elim
              · skip
                exact (iv_emp (iv_eqa (l := 1) (h := 0) c16 (iv_lit (l := 1) (h := 1) (by decide)) (iv_lit (l := 0) (h := 0) (by decide)) (by decide)) (by decide)).elim
  exact loop _ _ _ (ms_init_up _ _) hx3 k_a_next
set_option maxRecDepth 20000 in
theorem s_wp_X7_link_9_32 {P2 : Int32 → (Nat → Int32) → Prop} {a_next : Nat → Int32} {lf_huts : Int32} {lf_dams : Int32} {lf_echoes : Int32} {la_heights : Nat → Int32} {la_minutes : Nat → Int32} {la_echoFrom : Nat → Int32} {la_echoTo : Nat → Int32} {x2 : Int32} {y0 : Int32} {y1 : Int32} {post : (Nat → Int32) → Prop} (k_a_next : ∀ j, iv 0 511 (a_next j)) (k_lf_huts : iv 1 9 lf_huts) (k_lf_dams : iv 0 511 lf_dams) (k_lf_echoes : iv 0 4 lf_echoes) (k_la_heights : ∀ j, iv 0 99 (la_heights j)) (k_la_minutes : ∀ j, iv 0 9 (la_minutes j)) (k_la_echoFrom : ∀ j, iv 0 8 (la_echoFrom j)) (k_la_echoTo : ∀ j, iv 0 8 (la_echoTo j)) (hx2 : iv 0 8 x2) (hy0 : iv 0 8 y0) (hy1 : iv 0 511 y1) (m2 : Int) (hm2 : m2 ≤ x2.toInt) (hP2 : ∀ (x2 : Int32) (a_next : Nat → Int32), m2 < x2.toInt → iv 0 9 x2 → (∀ j, iv 0 511 (a_next j)) → P2 x2 a_next) (hpost : ∀ (a_next : Nat → Int32), (∀ j, iv 0 511 (a_next j)) → post a_next) : q_wp_X7_link_9_32 P2 a_next lf_huts lf_dams lf_echoes la_heights la_minutes la_echoFrom la_echoTo x2 y0 y1 post := by
  refine ⟨iv_in hy0 (by decide), ?_⟩
  intro a1 ea1
  have k_a1 := iv_upd ea1 k_a_next hy1
  exact s_wp_X7_link_9_35 k_a1 k_lf_huts k_lf_dams k_lf_echoes k_la_heights k_la_minutes k_la_echoFrom k_la_echoTo hx2 (iv_w (iv_lit (l := 0) (h := 0) (by decide)) (by decide)) m2 hm2 hP2 hpost
set_option maxRecDepth 20000 in
theorem s_wp_X7_link_9_2 {a_next : Nat → Int32} {lf_huts : Int32} {lf_dams : Int32} {lf_echoes : Int32} {la_heights : Nat → Int32} {la_minutes : Nat → Int32} {la_echoFrom : Nat → Int32} {la_echoTo : Nat → Int32} {x2 : Int32} {post : (Nat → Int32) → Prop} (k_a_next : ∀ j, iv 0 511 (a_next j)) (k_lf_huts : iv 1 9 lf_huts) (k_lf_dams : iv 0 511 lf_dams) (k_lf_echoes : iv 0 4 lf_echoes) (k_la_heights : ∀ j, iv 0 99 (la_heights j)) (k_la_minutes : ∀ j, iv 0 9 (la_minutes j)) (k_la_echoFrom : ∀ j, iv 0 8 (la_echoFrom j)) (k_la_echoTo : ∀ j, iv 0 8 (la_echoTo j)) (hx2 : iv 0 9 x2) (hpost : ∀ (a_next : Nat → Int32), (∀ j, iv 0 511 (a_next j)) → post a_next) : q_wp_X7_link_9_2 a_next lf_huts lf_dams lf_echoes la_heights la_minutes la_echoFrom la_echoTo x2 post := by
  intro P hP
  have loop : ∀ (n : Nat) (x2 : Int32) (a_next : Nat → Int32), (9 - x2.toInt < (n : Int)) → (iv 0 9 x2) → (∀ j, iv 0 511 (a_next j)) → P x2 a_next := by
    intro n
    induction n with
    | zero => intro x2 a_next hm hx2 k_a_next; exact (ms0_up hm hx2).elim
    | succ n ih =>
      intro x2 a_next hm hx2 k_a_next
      apply hP
      refine ⟨fun c1 => ?_, fun c1 => ?_⟩
      · skip
        exact hpost _ k_a_next
      · skip
        refine ⟨fun c2 => ?_, fun c2 => ?_⟩
        · skip
          refine ⟨fun c3 => ?_, fun c3 => ?_⟩
          · skip
            refine s_wl_X2_earshot_0 k_lf_dams k_lf_echoes k_la_echoFrom k_la_echoTo (iv_lta (l := 0) (h := 8) (r_nle c1) hx2 k_lf_huts (by decide)) (fun r4 hr4 => ?_)
            exact s_wp_X7_link_9_32 k_a_next k_lf_huts k_lf_dams k_lf_echoes k_la_heights k_la_minutes k_la_echoFrom k_la_echoTo (iv_lta (l := 0) (h := 8) (r_nle c1) hx2 k_lf_huts (by decide)) (iv_lta (l := 0) (h := 8) (r_nle c1) hx2 k_lf_huts (by decide)) hr4 x2.toInt (Int.le_refl _) (fun u0 u1 hq g0 g1 => ih u0 u1 (ms_up hm hq) g0 g1) hpost
          · skip
            exact (iv_emp (iv_ne (l := 1) (h := 0) c3 (iv_lit (l := 0) (h := 0) (by decide)) (iv_lit (l := 0) (h := 0) (by decide)) (by decide)) (by decide)).elim
        · skip
          refine ⟨fun c5 => ?_, fun c5 => ?_⟩
          · skip
            exact (iv_emp (iv_eqa (l := 1) (h := 0) c5 (iv_lit (l := 1) (h := 1) (by decide)) (iv_lit (l := 0) (h := 0) (by decide)) (by decide)) (by decide)).elim
          · skip
            exact s_wp_X7_link_9_32 k_a_next k_lf_huts k_lf_dams k_lf_echoes k_la_heights k_la_minutes k_la_echoFrom k_la_echoTo (iv_lta (l := 0) (h := 8) (r_nle c1) hx2 k_lf_huts (by decide)) (iv_lta (l := 0) (h := 8) (r_nle c1) hx2 k_lf_huts (by decide)) (iv_w (iv_lit (l := 0) (h := 0) (by decide)) (by decide)) x2.toInt (Int.le_refl _) (fun u0 u1 hq g0 g1 => ih u0 u1 (ms_up hm hq) g0 g1) hpost
  exact loop _ _ _ (ms_init_up _ _) hx2 k_a_next
set_option maxRecDepth 20000 in
theorem s_wp_X7_link_9_0 {a_next : Nat → Int32} {lf_huts : Int32} {lf_dams : Int32} {lf_echoes : Int32} {la_heights : Nat → Int32} {la_minutes : Nat → Int32} {la_echoFrom : Nat → Int32} {la_echoTo : Nat → Int32} {post : (Nat → Int32) → Prop} (k_a_next : ∀ j, iv 0 511 (a_next j)) (k_lf_huts : iv 1 9 lf_huts) (k_lf_dams : iv 0 511 lf_dams) (k_lf_echoes : iv 0 4 lf_echoes) (k_la_heights : ∀ j, iv 0 99 (la_heights j)) (k_la_minutes : ∀ j, iv 0 9 (la_minutes j)) (k_la_echoFrom : ∀ j, iv 0 8 (la_echoFrom j)) (k_la_echoTo : ∀ j, iv 0 8 (la_echoTo j)) (hpost : ∀ (a_next : Nat → Int32), (∀ j, iv 0 511 (a_next j)) → post a_next) : q_wp_X7_link_9_0 a_next lf_huts lf_dams lf_echoes la_heights la_minutes la_echoFrom la_echoTo post := by
  exact s_wp_X7_link_9_2 k_a_next k_lf_huts k_lf_dams k_lf_echoes k_la_heights k_la_minutes k_la_echoFrom k_la_echoTo (iv_w (iv_lit (l := 0) (h := 0) (by decide)) (by decide)) hpost
-- wp_X7_lastVillage_9
set_option maxRecDepth 20000 in
theorem s_wp_X7_lastVillage_9_52 {P5 : Int32 → Int32 → Prop} {a_heard : Nat → Int32} {lf_huts : Int32} {lf_villages : Int32} {lf_dams : Int32} {x2 : Int32} {x3 : Int32} {x4 : Int32} {post : Int32 → Prop} (k_a_heard : ∀ j, iv 0 1000 (a_heard j)) (k_lf_huts : iv 1 9 lf_huts) (k_lf_villages : iv 0 511 lf_villages) (k_lf_dams : iv 0 511 lf_dams) (hx2 : iv 0 8 x2) (hx3 : iv 0 1000 x3) (hx4 : iv 0 8 x4) (m5 : Int) (hm5 : m5 ≤ x4.toInt) (hP5 : ∀ (x3 : Int32) (x4 : Int32), m5 < x4.toInt → iv 0 1000 x3 → iv 0 9 x4 → P5 x3 x4) (hpost : ∀ (r : Int32), iv 0 1000 r → post r) : q_wp_X7_lastVillage_9_52 P5 a_heard lf_huts lf_villages lf_dams x2 x3 x4 post := by
  intro w1 ew1
  have hw1 := iv_eq ew1 (iv_add (l := 1) (h := 9) hx4 (iv_lit (l := 1) (h := 1) (by decide)) (by decide))
  exact hP5 _ _ (ml_up hm5 (inc_lt ew1 hx4 (by decide))) hx3 (iv_w hw1 (by decide))
set_option maxRecDepth 20000 in
theorem s_wp_X7_lastVillage_9_5 {a_heard : Nat → Int32} {lf_huts : Int32} {lf_villages : Int32} {lf_dams : Int32} {x2 : Int32} {x3 : Int32} {x4 : Int32} {post : Int32 → Prop} (k_a_heard : ∀ j, iv 0 1000 (a_heard j)) (k_lf_huts : iv 0 9 lf_huts) (k_lf_villages : iv 0 511 lf_villages) (k_lf_dams : iv 0 511 lf_dams) (hx2 : iv 0 8 x2) (hx3 : iv 0 1000 x3) (hx4 : iv 0 9 x4) (hpost : ∀ (r : Int32), iv 0 1000 r → post r) : q_wp_X7_lastVillage_9_5 a_heard lf_huts lf_villages lf_dams x2 x3 x4 post := by
  intro P hP
  have loop : ∀ (n : Nat) (x3 : Int32) (x4 : Int32), (9 - x4.toInt < (n : Int)) → (iv 0 1000 x3) → (iv 0 9 x4) → P x3 x4 := by
    intro n
    induction n with
    | zero => intro x3 x4 hm hx3 hx4; exact (ms0_up hm hx4).elim
    | succ n ih =>
      intro x3 x4 hm hx3 hx4
      apply hP
      refine ⟨fun c1 => ?_, fun c1 => ?_⟩
      · skip
        exact hpost _ hx3
      · skip
        refine ⟨fun c2 => ?_, fun c2 => ?_⟩
        · skip
          refine ⟨fun c3 => ?_, fun c3 => ?_⟩
          · skip
            exact s_wp_X7_lastVillage_9_52 k_a_heard (iv_ltb (l := 1) (h := 9) (r_nle c1) hx4 k_lf_huts (by decide)) k_lf_villages k_lf_dams hx2 hx3 (iv_lta (l := 0) (h := 8) (r_nle c1) hx4 k_lf_huts (by decide)) x4.toInt (Int.le_refl _) (fun u0 u1 hq g0 g1 => ih u0 u1 (ms_up hm hq) g0 g1) hpost
          · skip
            exact (iv_emp (iv_ne (l := 1) (h := 0) c3 (iv_lit (l := 0) (h := 0) (by decide)) (iv_lit (l := 0) (h := 0) (by decide)) (by decide)) (by decide)).elim
        · skip
          refine ⟨fun c4 => ?_, fun c4 => ?_⟩
          · skip
            exact (iv_emp (iv_eqa (l := 1) (h := 0) c4 (iv_lit (l := 1) (h := 1) (by decide)) (iv_lit (l := 0) (h := 0) (by decide)) (by decide)) (by decide)).elim
          · skip
            refine ⟨fun c5 => ?_, fun c5 => ?_⟩
            · skip
              refine ⟨fun c6 => ?_, fun c6 => ?_⟩
              · skip
                exact (iv_emp (iv_ne (l := 1) (h := 0) c6 (iv_lit (l := 0) (h := 0) (by decide)) (iv_lit (l := 0) (h := 0) (by decide)) (by decide)) (by decide)).elim
              · skip
                refine ⟨iv_in (iv_add (l := 0) (h := 80) (iv_mul (l := 0) (h := 72) hx2 (iv_lit (l := 9) (h := 9) (by decide)) (by decide)) (iv_lta (l := 0) (h := 8) (r_nle c1) hx4 k_lf_huts (by decide)) (by decide)) (by decide), ?_⟩
                intro w7 ew7
                have hw7 := iv_eq ew7 (iv_max (l := 0) (h := 1000) hx3 (k_a_heard _) (by decide))
                exact s_wp_X7_lastVillage_9_52 k_a_heard (iv_ltb (l := 1) (h := 9) (r_nle c1) hx4 k_lf_huts (by decide)) k_lf_villages k_lf_dams hx2 hw7 (iv_lta (l := 0) (h := 8) (r_nle c1) hx4 k_lf_huts (by decide)) x4.toInt (Int.le_refl _) (fun u0 u1 hq g0 g1 => ih u0 u1 (ms_up hm hq) g0 g1) hpost
            · skip
              refine ⟨fun c8 => ?_, fun c8 => ?_⟩
              · skip
                exact s_wp_X7_lastVillage_9_52 k_a_heard (iv_ltb (l := 1) (h := 9) (r_nle c1) hx4 k_lf_huts (by decide)) k_lf_villages k_lf_dams hx2 hx3 (iv_lta (l := 0) (h := 8) (r_nle c1) hx4 k_lf_huts (by decide)) x4.toInt (Int.le_refl _) (fun u0 u1 hq g0 g1 => ih u0 u1 (ms_up hm hq) g0 g1) hpost
              · skip
                exact (iv_emp (iv_eqa (l := 1) (h := 0) c8 (iv_lit (l := 1) (h := 1) (by decide)) (iv_lit (l := 0) (h := 0) (by decide)) (by decide)) (by decide)).elim
  exact loop _ _ _ (ms_init_up _ _) hx3 hx4
set_option maxRecDepth 20000 in
theorem s_wp_X7_lastVillage_9_0 {a_heard : Nat → Int32} {lf_huts : Int32} {lf_villages : Int32} {lf_dams : Int32} {x2 : Int32} {post : Int32 → Prop} (k_a_heard : ∀ j, iv 0 1000 (a_heard j)) (k_lf_huts : iv 0 9 lf_huts) (k_lf_villages : iv 0 511 lf_villages) (k_lf_dams : iv 0 511 lf_dams) (hx2 : iv 0 8 x2) (hpost : ∀ (r : Int32), iv 0 1000 r → post r) : q_wp_X7_lastVillage_9_0 a_heard lf_huts lf_villages lf_dams x2 post := by
  exact s_wp_X7_lastVillage_9_5 k_a_heard k_lf_huts k_lf_villages k_lf_dams hx2 (iv_w (iv_lit (l := 0) (h := 0) (by decide)) (by decide)) (iv_w (iv_lit (l := 0) (h := 0) (by decide)) (by decide)) hpost
-- wp_X7_allBy_9
set_option maxRecDepth 20000 in
theorem s_wp_X7_allBy_9_41 {P5 : Int32 → Int32 → Prop} {a_heard : Nat → Int32} {lf_huts : Int32} {lf_villages : Int32} {lf_dams : Int32} {x2 : Int32} {x3 : Int32} {x4 : Int32} {post : Int32 → Prop} (k_a_heard : ∀ j, iv 0 1000 (a_heard j)) (k_lf_huts : iv 1 9 lf_huts) (k_lf_villages : iv 0 511 lf_villages) (k_lf_dams : iv 0 511 lf_dams) (hx2 : iv 0 99 x2) (hx3 : iv 0 511 x3) (hx4 : iv 0 8 x4) (m5 : Int) (hm5 : m5 ≤ x4.toInt) (hP5 : ∀ (x3 : Int32) (x4 : Int32), m5 < x4.toInt → iv 0 511 x3 → iv 0 9 x4 → P5 x3 x4) (hpost : ∀ (r : Int32), iv 0 511 r → post r) : q_wp_X7_allBy_9_41 P5 a_heard lf_huts lf_villages lf_dams x2 x3 x4 post := by
  intro w1 ew1
  have hw1 := iv_eq ew1 (iv_add (l := 1) (h := 9) hx4 (iv_lit (l := 1) (h := 1) (by decide)) (by decide))
  exact hP5 _ _ (ml_up hm5 (inc_lt ew1 hx4 (by decide))) hx3 (iv_w hw1 (by decide))
set_option maxRecDepth 20000 in
theorem s_wp_X7_allBy_9_5 {a_heard : Nat → Int32} {lf_huts : Int32} {lf_villages : Int32} {lf_dams : Int32} {x2 : Int32} {x3 : Int32} {x4 : Int32} {post : Int32 → Prop} (k_a_heard : ∀ j, iv 0 1000 (a_heard j)) (k_lf_huts : iv 0 9 lf_huts) (k_lf_villages : iv 0 511 lf_villages) (k_lf_dams : iv 0 511 lf_dams) (hx2 : iv 0 99 x2) (hx3 : iv 0 511 x3) (hx4 : iv 0 9 x4) (hpost : ∀ (r : Int32), iv 0 511 r → post r) : q_wp_X7_allBy_9_5 a_heard lf_huts lf_villages lf_dams x2 x3 x4 post := by
  intro P hP
  have loop : ∀ (n : Nat) (x3 : Int32) (x4 : Int32), (9 - x4.toInt < (n : Int)) → (iv 0 511 x3) → (iv 0 9 x4) → P x3 x4 := by
    intro n
    induction n with
    | zero => intro x3 x4 hm hx3 hx4; exact (ms0_up hm hx4).elim
    | succ n ih =>
      intro x3 x4 hm hx3 hx4
      apply hP
      refine ⟨fun c1 => ?_, fun c1 => ?_⟩
      · skip
        exact hpost _ hx3
      · skip
        refine ⟨fun c2 => ?_, fun c2 => ?_⟩
        · skip
          refine ⟨fun c3 => ?_, fun c3 => ?_⟩
          · skip
            exact (iv_emp (iv_ne (l := 1) (h := 0) c3 (iv_lit (l := 0) (h := 0) (by decide)) (iv_lit (l := 0) (h := 0) (by decide)) (by decide)) (by decide)).elim
          · skip
            refine s_wp_X7_lastVillage_9_0 k_a_heard (iv_w (iv_ltb (l := 1) (h := 9) (r_nle c1) hx4 k_lf_huts (by decide)) (by decide)) k_lf_villages k_lf_dams (iv_lta (l := 0) (h := 8) (r_nle c1) hx4 k_lf_huts (by decide)) (fun r4 hr4 => ?_)
            refine ⟨fun c5 => ?_, fun c5 => ?_⟩
            · skip
              exact s_wp_X7_allBy_9_41 k_a_heard (iv_ltb (l := 1) (h := 9) (r_nle c1) hx4 k_lf_huts (by decide)) k_lf_villages k_lf_dams hx2 hx3 (iv_lta (l := 0) (h := 8) (r_nle c1) hx4 k_lf_huts (by decide)) x4.toInt (Int.le_refl _) (fun u0 u1 hq g0 g1 => ih u0 u1 (ms_up hm hq) g0 g1) hpost
            · skip
              intro w6 ew6
              have hw6 := iv_eq ew6 (iv_or 9 (l := 0) (h := 511) hx3 (iv_shl1 (l := 1) (h := 256) (iv_lit (l := 1) (h := 1) (by decide)) (iv_lta (l := 0) (h := 8) (r_nle c1) hx4 k_lf_huts (by decide)) (by decide)) (by decide))
              exact s_wp_X7_allBy_9_41 k_a_heard (iv_ltb (l := 1) (h := 9) (r_nle c1) hx4 k_lf_huts (by decide)) k_lf_villages k_lf_dams hx2 hw6 (iv_lta (l := 0) (h := 8) (r_nle c1) hx4 k_lf_huts (by decide)) x4.toInt (Int.le_refl _) (fun u0 u1 hq g0 g1 => ih u0 u1 (ms_up hm hq) g0 g1) hpost
        · skip
          refine ⟨fun c7 => ?_, fun c7 => ?_⟩
          · skip
            exact s_wp_X7_allBy_9_41 k_a_heard (iv_ltb (l := 1) (h := 9) (r_nle c1) hx4 k_lf_huts (by decide)) k_lf_villages k_lf_dams hx2 hx3 (iv_lta (l := 0) (h := 8) (r_nle c1) hx4 k_lf_huts (by decide)) x4.toInt (Int.le_refl _) (fun u0 u1 hq g0 g1 => ih u0 u1 (ms_up hm hq) g0 g1) hpost
          · skip
            exact (iv_emp (iv_eqa (l := 1) (h := 0) c7 (iv_lit (l := 1) (h := 1) (by decide)) (iv_lit (l := 0) (h := 0) (by decide)) (by decide)) (by decide)).elim
  exact loop _ _ _ (ms_init_up _ _) hx3 hx4
set_option maxRecDepth 20000 in
theorem s_wp_X7_allBy_9_0 {a_heard : Nat → Int32} {lf_huts : Int32} {lf_villages : Int32} {lf_dams : Int32} {x2 : Int32} {post : Int32 → Prop} (k_a_heard : ∀ j, iv 0 1000 (a_heard j)) (k_lf_huts : iv 0 9 lf_huts) (k_lf_villages : iv 0 511 lf_villages) (k_lf_dams : iv 0 511 lf_dams) (hx2 : iv 0 99 x2) (hpost : ∀ (r : Int32), iv 0 511 r → post r) : q_wp_X7_allBy_9_0 a_heard lf_huts lf_villages lf_dams x2 post := by
  exact s_wp_X7_allBy_9_5 k_a_heard k_lf_huts k_lf_villages k_lf_dams hx2 (iv_w (iv_lit (l := 0) (h := 0) (by decide)) (by decide)) (iv_w (iv_lit (l := 0) (h := 0) (by decide)) (by decide)) hpost
-- wp_X7_bestHut_9
set_option maxRecDepth 20000 in
theorem s_wp_X7_bestHut_9_49 {P9 : Int32 → Int32 → Int32 → Prop} {a_heard : Nat → Int32} {lf_huts : Int32} {lf_villages : Int32} {lf_dams : Int32} {x2 : Int32} {x3 : Int32} {x4 : Int32} {post : Int32 → Prop} (k_a_heard : ∀ j, iv 0 1000 (a_heard j)) (k_lf_huts : iv 1 9 lf_huts) (k_lf_villages : iv 0 511 lf_villages) (k_lf_dams : iv 0 511 lf_dams) (hx2 : iv (-1) 8 x2) (hx3 : iv 0 1000 x3) (hx4 : iv 0 8 x4) (m9 : Int) (hm9 : m9 ≤ x4.toInt) (hP9 : ∀ (x2 : Int32) (x3 : Int32) (x4 : Int32), m9 < x4.toInt → iv (-1) 8 x2 → iv 0 1000 x3 → iv 0 9 x4 → P9 x2 x3 x4) (hpost : ∀ (r : Int32), iv (-1) 8 r → post r) : q_wp_X7_bestHut_9_49 P9 a_heard lf_huts lf_villages lf_dams x2 x3 x4 post := by
  intro w1 ew1
  have hw1 := iv_eq ew1 (iv_add (l := 1) (h := 9) hx4 (iv_lit (l := 1) (h := 1) (by decide)) (by decide))
  exact hP9 _ _ _ (ml_up hm9 (inc_lt ew1 hx4 (by decide))) hx2 hx3 (iv_w hw1 (by decide))
set_option maxRecDepth 20000 in
theorem s_wp_X7_bestHut_9_9 {a_heard : Nat → Int32} {lf_huts : Int32} {lf_villages : Int32} {lf_dams : Int32} {x2 : Int32} {x3 : Int32} {x4 : Int32} {post : Int32 → Prop} (k_a_heard : ∀ j, iv 0 1000 (a_heard j)) (k_lf_huts : iv 0 9 lf_huts) (k_lf_villages : iv 0 511 lf_villages) (k_lf_dams : iv 0 511 lf_dams) (hx2 : iv (-1) 8 x2) (hx3 : iv 0 1000 x3) (hx4 : iv 0 9 x4) (hpost : ∀ (r : Int32), iv (-1) 8 r → post r) : q_wp_X7_bestHut_9_9 a_heard lf_huts lf_villages lf_dams x2 x3 x4 post := by
  intro P hP
  have loop : ∀ (n : Nat) (x2 : Int32) (x3 : Int32) (x4 : Int32), (9 - x4.toInt < (n : Int)) → (iv (-1) 8 x2) → (iv 0 1000 x3) → (iv 0 9 x4) → P x2 x3 x4 := by
    intro n
    induction n with
    | zero => intro x2 x3 x4 hm hx2 hx3 hx4; exact (ms0_up hm hx4).elim
    | succ n ih =>
      intro x2 x3 x4 hm hx2 hx3 hx4
      apply hP
      refine ⟨fun c1 => ?_, fun c1 => ?_⟩
      · skip
        exact hpost _ hx2
      · skip
        refine ⟨fun c2 => ?_, fun c2 => ?_⟩
        · skip
          refine ⟨fun c3 => ?_, fun c3 => ?_⟩
          · skip
            exact (iv_emp (iv_ne (l := 1) (h := 0) c3 (iv_lit (l := 0) (h := 0) (by decide)) (iv_lit (l := 0) (h := 0) (by decide)) (by decide)) (by decide)).elim
          · skip
            refine s_wp_X7_lastVillage_9_0 k_a_heard (iv_w (iv_ltb (l := 1) (h := 9) (r_nle c1) hx4 k_lf_huts (by decide)) (by decide)) k_lf_villages k_lf_dams (iv_lta (l := 0) (h := 8) (r_nle c1) hx4 k_lf_huts (by decide)) (fun r4 hr4 => ?_)
            refine ⟨fun c5 => ?_, fun c5 => ?_⟩
            · skip
              exact s_wp_X7_bestHut_9_49 k_a_heard (iv_ltb (l := 1) (h := 9) (r_nle c1) hx4 k_lf_huts (by decide)) k_lf_villages k_lf_dams hx2 hx3 (iv_lta (l := 0) (h := 8) (r_nle c1) hx4 k_lf_huts (by decide)) x4.toInt (Int.le_refl _) (fun u0 u1 u2 hq g0 g1 g2 => ih u0 u1 u2 (ms_up hm hq) g0 g1 g2) hpost
            · skip
              refine s_wp_X7_lastVillage_9_0 k_a_heard (iv_w (iv_ltb (l := 1) (h := 9) (r_nle c1) hx4 k_lf_huts (by decide)) (by decide)) k_lf_villages k_lf_dams (iv_lta (l := 0) (h := 8) (r_nle c1) hx4 k_lf_huts (by decide)) (fun r6 hr6 => ?_)
              exact s_wp_X7_bestHut_9_49 k_a_heard (iv_ltb (l := 1) (h := 9) (r_nle c1) hx4 k_lf_huts (by decide)) k_lf_villages k_lf_dams (iv_w (iv_lta (l := 0) (h := 8) (r_nle c1) hx4 k_lf_huts (by decide)) (by decide)) hr6 (iv_lta (l := 0) (h := 8) (r_nle c1) hx4 k_lf_huts (by decide)) x4.toInt (Int.le_refl _) (fun u0 u1 u2 hq g0 g1 g2 => ih u0 u1 u2 (ms_up hm hq) g0 g1 g2) hpost
        · skip
          refine ⟨fun c7 => ?_, fun c7 => ?_⟩
          · skip
            exact s_wp_X7_bestHut_9_49 k_a_heard (iv_ltb (l := 1) (h := 9) (r_nle c1) hx4 k_lf_huts (by decide)) k_lf_villages k_lf_dams hx2 hx3 (iv_lta (l := 0) (h := 8) (r_nle c1) hx4 k_lf_huts (by decide)) x4.toInt (Int.le_refl _) (fun u0 u1 u2 hq g0 g1 g2 => ih u0 u1 u2 (ms_up hm hq) g0 g1 g2) hpost
          · skip
            exact (iv_emp (iv_eqa (l := 1) (h := 0) c7 (iv_lit (l := 1) (h := 1) (by decide)) (iv_lit (l := 0) (h := 0) (by decide)) (by decide)) (by decide)).elim
  exact loop _ _ _ _ (ms_init_up _ _) hx2 hx3 hx4
set_option maxRecDepth 20000 in
theorem s_wp_X7_bestHut_9_0 {a_heard : Nat → Int32} {lf_huts : Int32} {lf_villages : Int32} {lf_dams : Int32} {post : Int32 → Prop} (k_a_heard : ∀ j, iv 0 1000 (a_heard j)) (k_lf_huts : iv 0 9 lf_huts) (k_lf_villages : iv 0 511 lf_villages) (k_lf_dams : iv 0 511 lf_dams) (hpost : ∀ (r : Int32), iv (-1) 8 r → post r) : q_wp_X7_bestHut_9_0 a_heard lf_huts lf_villages lf_dams post := by
  exact s_wp_X7_bestHut_9_9 k_a_heard k_lf_huts k_lf_villages k_lf_dams (iv_w (iv_lit (l := (-1)) (h := (-1)) (by decide)) (by decide)) (iv_w (iv_lit (l := 1000) (h := 1000) (by decide)) (by decide)) (iv_w (iv_lit (l := 0) (h := 0) (by decide)) (by decide)) hpost
-- wp_X7_coverBy_1
set_option maxRecDepth 20000 in
theorem s_wp_X7_coverBy_1_54 {P3 : Int32 → (Nat → Int32) → Prop} {P20 : Int32 → (Nat → Int32) → Prop} {a_heard : Nat → Int32} {a_cover : Nat → Int32} {x2 : Int32} {x3 : Int32} {x4 : Int32} {x5 : Int32} {post : (Nat → Int32) → Prop} (k_a_heard : ∀ j, iv 0 1000 (a_heard j)) (k_a_cover : ∀ j, iv 0 511 (a_cover j)) (hx2 : iv 1 9 x2) (hx3 : iv 0 99 x3) (hx4 : iv 0 8 x4) (hx5 : iv 0 8 x5) (m3 : Int) (hm3 : m3 ≤ x4.toInt) (hP3 : ∀ (x4 : Int32) (a_cover : Nat → Int32), m3 < x4.toInt → iv 0 9 x4 → (∀ j, iv 0 511 (a_cover j)) → P3 x4 a_cover) (m20 : Int) (hm20 : m20 ≤ x5.toInt) (hP20 : ∀ (x5 : Int32) (a_cover : Nat → Int32), m20 < x5.toInt → iv 0 9 x5 → (∀ j, iv 0 511 (a_cover j)) → P20 x5 a_cover) (hpost : ∀ (a_cover : Nat → Int32), (∀ j, iv 0 511 (a_cover j)) → post a_cover) : q_wp_X7_coverBy_1_54 P3 P20 a_heard a_cover x2 x3 x4 x5 post := by
  intro w1 ew1
  have hw1 := iv_eq ew1 (iv_add (l := 1) (h := 9) hx5 (iv_lit (l := 1) (h := 1) (by decide)) (by decide))
  exact hP20 _ _ (ml_up hm20 (inc_lt ew1 hx5 (by decide))) (iv_w hw1 (by decide)) k_a_cover
set_option maxRecDepth 20000 in
theorem s_wp_X7_coverBy_1_20 {P3 : Int32 → (Nat → Int32) → Prop} {a_heard : Nat → Int32} {a_cover : Nat → Int32} {x2 : Int32} {x3 : Int32} {x4 : Int32} {x5 : Int32} {post : (Nat → Int32) → Prop} (k_a_heard : ∀ j, iv 0 1000 (a_heard j)) (k_a_cover : ∀ j, iv 0 511 (a_cover j)) (hx2 : iv 1 9 x2) (hx3 : iv 0 99 x3) (hx4 : iv 0 8 x4) (hx5 : iv 0 9 x5) (m3 : Int) (hm3 : m3 ≤ x4.toInt) (hP3 : ∀ (x4 : Int32) (a_cover : Nat → Int32), m3 < x4.toInt → iv 0 9 x4 → (∀ j, iv 0 511 (a_cover j)) → P3 x4 a_cover) (hpost : ∀ (a_cover : Nat → Int32), (∀ j, iv 0 511 (a_cover j)) → post a_cover) : q_wp_X7_coverBy_1_20 P3 a_heard a_cover x2 x3 x4 x5 post := by
  intro P hP
  have loop : ∀ (n : Nat) (x5 : Int32) (a_cover : Nat → Int32), (9 - x5.toInt < (n : Int)) → (iv 0 9 x5) → (∀ j, iv 0 511 (a_cover j)) → P x5 a_cover := by
    intro n
    induction n with
    | zero => intro x5 a_cover hm hx5 k_a_cover; exact (ms0_up hm hx5).elim
    | succ n ih =>
      intro x5 a_cover hm hx5 k_a_cover
      apply hP
      refine ⟨fun c1 => ?_, fun c1 => ?_⟩
      · skip
        intro w2 ew2
        have hw2 := iv_eq ew2 (iv_add (l := 1) (h := 9) hx4 (iv_lit (l := 1) (h := 1) (by decide)) (by decide))
        exact hP3 _ _ (ml_up hm3 (inc_lt ew2 hx4 (by decide))) (iv_w hw2 (by decide)) k_a_cover
      · skip
        refine ⟨iv_in (iv_add (l := 0) (h := 80) (iv_mul (l := 0) (h := 72) hx4 (iv_lit (l := 9) (h := 9) (by decide)) (by decide)) (iv_lta (l := 0) (h := 8) (r_nle c1) hx5 hx2 (by decide)) (by decide)) (by decide), ?_⟩
        refine ⟨fun c3 => ?_, fun c3 => ?_⟩
        · skip
          exact s_wp_X7_coverBy_1_54 k_a_heard k_a_cover hx2 hx3 hx4 (iv_lta (l := 0) (h := 8) (r_nle c1) hx5 hx2 (by decide)) m3 hm3 hP3 x5.toInt (Int.le_refl _) (fun u0 u1 hq g0 g1 => ih u0 u1 (ms_up hm hq) g0 g1) hpost
        · skip
          refine ⟨iv_in hx4 (by decide), ?_⟩
          intro w4 ew4
          have hw4 := iv_eq ew4 (iv_or 9 (l := 0) (h := 511) (k_a_cover _) (iv_shl1 (l := 1) (h := 256) (iv_lit (l := 1) (h := 1) (by decide)) (iv_lta (l := 0) (h := 8) (r_nle c1) hx5 hx2 (by decide)) (by decide)) (by decide))
          refine ⟨iv_in hx4 (by decide), ?_⟩
          intro a5 ea5
          have k_a5 := iv_upd ea5 k_a_cover hw4
          exact s_wp_X7_coverBy_1_54 k_a_heard k_a5 hx2 hx3 hx4 (iv_lta (l := 0) (h := 8) (r_nle c1) hx5 hx2 (by decide)) m3 hm3 hP3 x5.toInt (Int.le_refl _) (fun u0 u1 hq g0 g1 => ih u0 u1 (ms_up hm hq) g0 g1) hpost
  exact loop _ _ _ (ms_init_up _ _) hx5 k_a_cover
set_option maxRecDepth 20000 in
theorem s_wp_X7_coverBy_1_3 {a_heard : Nat → Int32} {a_cover : Nat → Int32} {x2 : Int32} {x3 : Int32} {x4 : Int32} {post : (Nat → Int32) → Prop} (k_a_heard : ∀ j, iv 0 1000 (a_heard j)) (k_a_cover : ∀ j, iv 0 511 (a_cover j)) (hx2 : iv 0 9 x2) (hx3 : iv 0 99 x3) (hx4 : iv 0 9 x4) (hpost : ∀ (a_cover : Nat → Int32), (∀ j, iv 0 511 (a_cover j)) → post a_cover) : q_wp_X7_coverBy_1_3 a_heard a_cover x2 x3 x4 post := by
  intro P hP
  have loop : ∀ (n : Nat) (x4 : Int32) (a_cover : Nat → Int32), (9 - x4.toInt < (n : Int)) → (iv 0 9 x4) → (∀ j, iv 0 511 (a_cover j)) → P x4 a_cover := by
    intro n
    induction n with
    | zero => intro x4 a_cover hm hx4 k_a_cover; exact (ms0_up hm hx4).elim
    | succ n ih =>
      intro x4 a_cover hm hx4 k_a_cover
      apply hP
      refine ⟨fun c1 => ?_, fun c1 => ?_⟩
      · skip
        exact hpost _ k_a_cover
      · skip
        refine ⟨iv_in (iv_lta (l := 0) (h := 8) (r_nle c1) hx4 hx2 (by decide)) (by decide), ?_⟩
        intro a2 ea2
        have k_a2 := iv_upd ea2 k_a_cover (iv_w (iv_lit (l := 0) (h := 0) (by decide)) (by decide))
        exact s_wp_X7_coverBy_1_20 k_a_heard k_a2 (iv_ltb (l := 1) (h := 9) (r_nle c1) hx4 hx2 (by decide)) hx3 (iv_lta (l := 0) (h := 8) (r_nle c1) hx4 hx2 (by decide)) (iv_w (iv_lit (l := 0) (h := 0) (by decide)) (by decide)) x4.toInt (Int.le_refl _) (fun u0 u1 hq g0 g1 => ih u0 u1 (ms_up hm hq) g0 g1) hpost
  exact loop _ _ _ (ms_init_up _ _) hx4 k_a_cover
set_option maxRecDepth 20000 in
theorem s_wp_X7_coverBy_1_0 {a_heard : Nat → Int32} {a_cover : Nat → Int32} {x2 : Int32} {x3 : Int32} {post : (Nat → Int32) → Prop} (k_a_heard : ∀ j, iv 0 1000 (a_heard j)) (k_a_cover : ∀ j, iv 0 511 (a_cover j)) (hx2 : iv 0 9 x2) (hx3 : iv 0 99 x3) (hpost : ∀ (a_cover : Nat → Int32), (∀ j, iv 0 511 (a_cover j)) → post a_cover) : q_wp_X7_coverBy_1_0 a_heard a_cover x2 x3 post := by
  exact s_wp_X7_coverBy_1_3 k_a_heard k_a_cover hx2 hx3 (iv_w (iv_lit (l := 0) (h := 0) (by decide)) (by decide)) hpost
-- wp_X7_covered
set_option maxRecDepth 20000 in
theorem s_wp_X7_covered_30 {P5 : Int32 → Int32 → Prop} {a_cover : Nat → Int32} {x1 : Int32} {x2 : Int32} {x3 : Int32} {x4 : Int32} {post : Int32 → Prop} (k_a_cover : ∀ j, iv 0 511 (a_cover j)) (hx1 : iv 0 511 x1) (hx2 : iv 1 9 x2) (hx3 : iv 0 511 x3) (hx4 : iv 0 8 x4) (m5 : Int) (hm5 : m5 ≤ x4.toInt) (hP5 : ∀ (x3 : Int32) (x4 : Int32), m5 < x4.toInt → iv 0 511 x3 → iv 0 9 x4 → P5 x3 x4) (hpost : ∀ (r : Int32), iv 0 511 r → post r) : q_wp_X7_covered_30 P5 a_cover x1 x2 x3 x4 post := by
  intro w1 ew1
  have hw1 := iv_eq ew1 (iv_add (l := 1) (h := 9) hx4 (iv_lit (l := 1) (h := 1) (by decide)) (by decide))
  exact hP5 _ _ (ml_up hm5 (inc_lt ew1 hx4 (by decide))) hx3 (iv_w hw1 (by decide))
set_option maxRecDepth 20000 in
theorem s_wp_X7_covered_5 {a_cover : Nat → Int32} {x1 : Int32} {x2 : Int32} {x3 : Int32} {x4 : Int32} {post : Int32 → Prop} (k_a_cover : ∀ j, iv 0 511 (a_cover j)) (hx1 : iv 0 511 x1) (hx2 : iv 0 9 x2) (hx3 : iv 0 511 x3) (hx4 : iv 0 9 x4) (hpost : ∀ (r : Int32), iv 0 511 r → post r) : q_wp_X7_covered_5 a_cover x1 x2 x3 x4 post := by
  intro P hP
  have loop : ∀ (n : Nat) (x3 : Int32) (x4 : Int32), (9 - x4.toInt < (n : Int)) → (iv 0 511 x3) → (iv 0 9 x4) → P x3 x4 := by
    intro n
    induction n with
    | zero => intro x3 x4 hm hx3 hx4; exact (ms0_up hm hx4).elim
    | succ n ih =>
      intro x3 x4 hm hx3 hx4
      apply hP
      refine ⟨fun c1 => ?_, fun c1 => ?_⟩
      · skip
        exact hpost _ hx3
      · skip
        refine ⟨fun c2 => ?_, fun c2 => ?_⟩
        · skip
          refine ⟨fun c3 => ?_, fun c3 => ?_⟩
          · skip
            exact s_wp_X7_covered_30 k_a_cover hx1 (iv_ltb (l := 1) (h := 9) (r_nle c1) hx4 hx2 (by decide)) hx3 (iv_lta (l := 0) (h := 8) (r_nle c1) hx4 hx2 (by decide)) x4.toInt (Int.le_refl _) (fun u0 u1 hq g0 g1 => ih u0 u1 (ms_up hm hq) g0 g1) hpost
          · skip
            exact (iv_emp (iv_ne (l := 1) (h := 0) c3 (iv_lit (l := 0) (h := 0) (by decide)) (iv_lit (l := 0) (h := 0) (by decide)) (by decide)) (by decide)).elim
        · skip
          refine ⟨fun c4 => ?_, fun c4 => ?_⟩
          · skip
            exact (iv_emp (iv_eqa (l := 1) (h := 0) c4 (iv_lit (l := 1) (h := 1) (by decide)) (iv_lit (l := 0) (h := 0) (by decide)) (by decide)) (by decide)).elim
          · skip
            refine ⟨iv_in (iv_lta (l := 0) (h := 8) (r_nle c1) hx4 hx2 (by decide)) (by decide), ?_⟩
            intro w5 ew5
            have hw5 := iv_eq ew5 (iv_or 9 (l := 0) (h := 511) hx3 (k_a_cover _) (by decide))
            exact s_wp_X7_covered_30 k_a_cover hx1 (iv_ltb (l := 1) (h := 9) (r_nle c1) hx4 hx2 (by decide)) hw5 (iv_lta (l := 0) (h := 8) (r_nle c1) hx4 hx2 (by decide)) x4.toInt (Int.le_refl _) (fun u0 u1 hq g0 g1 => ih u0 u1 (ms_up hm hq) g0 g1) hpost
  exact loop _ _ _ (ms_init_up _ _) hx3 hx4
set_option maxRecDepth 20000 in
theorem s_wp_X7_covered_0 {a_cover : Nat → Int32} {x1 : Int32} {x2 : Int32} {post : Int32 → Prop} (k_a_cover : ∀ j, iv 0 511 (a_cover j)) (hx1 : iv 0 511 x1) (hx2 : iv 0 9 x2) (hpost : ∀ (r : Int32), iv 0 511 r → post r) : q_wp_X7_covered_0 a_cover x1 x2 post := by
  exact s_wp_X7_covered_5 k_a_cover hx1 hx2 (iv_w (iv_lit (l := 0) (h := 0) (by decide)) (by decide)) (iv_w (iv_lit (l := 0) (h := 0) (by decide)) (by decide)) hpost
end
