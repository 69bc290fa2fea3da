-- wp_X7_markAtOnce
set_option maxRecDepth 20000 in
theorem s_wp_X7_markAtOnce_28 {P2 : Int32 → (Nat → Int32) → Prop} {a_heard : Nat → Int32} {x1 : Int32} {x2 : Int32} {x3 : Int32} {post : (Nat → Int32) → Prop} (k_a_heard : ∀ j, iv 0 1000 (a_heard j)) (hx1 : iv 0 8 x1) (hx2 : iv 0 511 x2) (hx3 : iv 0 8 x3) (m2 : Int) (hm2 : m2 ≤ x3.toInt) (hP2 : ∀ (x3 : Int32) (a_heard : Nat → Int32), m2 < x3.toInt → iv 0 9 x3 → (∀ j, iv 0 1000 (a_heard j)) → P2 x3 a_heard) (hpost : ∀ (a_heard : Nat → Int32), (∀ j, iv 0 1000 (a_heard j)) → post a_heard) : q_wp_X7_markAtOnce_28 P2 a_heard x1 x2 x3 post := by
  intro w1 ew1
  have hw1 := iv_eq ew1 (iv_add (l := 1) (h := 9) hx3 (iv_lit (l := 1) (h := 1) (by decide)) (by decide))
  exact hP2 _ _ (ml_up hm2 (inc_lt ew1 hx3 (by decide))) (iv_w hw1 (by decide)) k_a_heard
set_option maxRecDepth 20000 in
theorem s_wp_X7_markAtOnce_2 {a_heard : Nat → Int32} {x1 : Int32} {x2 : Int32} {x3 : Int32} {post : (Nat → Int32) → Prop} (k_a_heard : ∀ j, iv 0 1000 (a_heard j)) (hx1 : iv 0 8 x1) (hx2 : iv 0 511 x2) (hx3 : iv 0 9 x3) (hpost : ∀ (a_heard : Nat → Int32), (∀ j, iv 0 1000 (a_heard j)) → post a_heard) : q_wp_X7_markAtOnce_2 a_heard x1 x2 x3 post := by
  intro P hP
  have loop : ∀ (n : Nat) (x3 : Int32) (a_heard : Nat → Int32), (9 - x3.toInt < (n : Int)) → (iv 0 9 x3) → (∀ j, iv 0 1000 (a_heard j)) → P x3 a_heard := by
    intro n
    induction n with
    | zero => intro x3 a_heard hm hx3 k_a_heard; exact (ms0_up hm hx3).elim
    | succ n ih =>
      intro x3 a_heard hm hx3 k_a_heard
      apply hP
      refine ⟨fun c1 => ?_, fun c1 => ?_⟩
      · skip
        exact hpost _ k_a_heard
      · skip
        refine ⟨fun c2 => ?_, fun c2 => ?_⟩
        · skip
          refine ⟨fun c3 => ?_, fun c3 => ?_⟩
          · skip
            exact s_wp_X7_markAtOnce_28 k_a_heard hx1 hx2 (iv_lta (l := 0) (h := 8) (r_nle c1) hx3 (iv_lit (l := 9) (h := 9) (by decide)) (by decide)) x3.toInt (Int.le_refl _) (fun u0 u1 hq g0 g1 => ih u0 u1 (ms_up hm hq) g0 g1) hpost
          · skip
            exact (iv_emp (iv_ne (l := 1) (h := 0) c3 (iv_lit (l := 0) (h := 0) (by decide)) (iv_lit (l := 0) (h := 0) (by decide)) (by decide)) (by decide)).elim
        · skip
          refine ⟨fun c4 => ?_, fun c4 => ?_⟩
          · skip
            exact (iv_emp (iv_eqa (l := 1) (h := 0) c4 (iv_lit (l := 1) (h := 1) (by decide)) (iv_lit (l := 0) (h := 0) (by decide)) (by decide)) (by decide)).elim
          · skip
            refine ⟨iv_in (iv_add (l := 0) (h := 80) (iv_mul (l := 0) (h := 72) hx1 (iv_lit (l := 9) (h := 9) (by decide)) (by decide)) (iv_lta (l := 0) (h := 8) (r_nle c1) hx3 (iv_lit (l := 9) (h := 9) (by decide)) (by decide)) (by decide)) (by decide), ?_⟩
            intro a5 ea5
            have k_a5 := iv_upd ea5 k_a_heard (iv_w (iv_lit (l := 0) (h := 0) (by decide)) (by decide))
            exact s_wp_X7_markAtOnce_28 k_a5 hx1 hx2 (iv_lta (l := 0) (h := 8) (r_nle c1) hx3 (iv_lit (l := 9) (h := 9) (by decide)) (by decide)) x3.toInt (Int.le_refl _) (fun u0 u1 hq g0 g1 => ih u0 u1 (ms_up hm hq) g0 g1) hpost
  exact loop _ _ _ (ms_init_up _ _) hx3 k_a_heard
set_option maxRecDepth 20000 in
theorem s_wp_X7_markAtOnce_0 {a_heard : Nat → Int32} {x1 : Int32} {x2 : Int32} {post : (Nat → Int32) → Prop} (k_a_heard : ∀ j, iv 0 1000 (a_heard j)) (hx1 : iv 0 8 x1) (hx2 : iv 0 511 x2) (hpost : ∀ (a_heard : Nat → Int32), (∀ j, iv 0 1000 (a_heard j)) → post a_heard) : q_wp_X7_markAtOnce_0 a_heard x1 x2 post := by
  exact s_wp_X7_markAtOnce_2 k_a_heard hx1 hx2 (iv_w (iv_lit (l := 0) (h := 0) (by decide)) (by decide)) hpost
-- wp_X7_hear_9
set_option maxRecDepth 20000 in
theorem s_wp_X7_hear_9_61 {P12 : Int32 → (Nat → Int32) → Prop} {P22 : Int32 → (Nat → Int32) → Prop} {a_heard : Nat → Int32} {lf_huts : Int32} {lf_dams : Int32} {lf_echoes : Int32} {la_heights : Nat → Int32} {la_minutes : Nat → Int32} {la_echoFrom : Nat → Int32} {la_echoTo : Nat → Int32} {x2 : Int32} {x3 : Int32} {post : (Nat → Int32) → Prop} (k_a_heard : ∀ j, iv 0 1000 (a_heard j)) (k_lf_huts : iv 1 9 lf_huts) (k_lf_dams : iv 0 511 lf_dams) (k_lf_echoes : iv 0 4 lf_echoes) (k_la_heights : ∀ j, iv 0 99 (la_heights j)) (k_la_minutes : ∀ j, iv 0 9 (la_minutes j)) (k_la_echoFrom : ∀ j, iv 0 8 (la_echoFrom j)) (k_la_echoTo : ∀ j, iv 0 8 (la_echoTo j)) (hx2 : iv 0 8 x2) (hx3 : iv 0 8 x3) (m12 : Int) (hm12 : m12 ≤ x2.toInt) (hP12 : ∀ (x2 : Int32) (a_heard : Nat → Int32), m12 < x2.toInt → iv 0 9 x2 → (∀ j, iv 0 1000 (a_heard j)) → P12 x2 a_heard) (m22 : Int) (hm22 : m22 ≤ x3.toInt) (hP22 : ∀ (x3 : Int32) (a_heard : Nat → Int32), m22 < x3.toInt → iv 0 9 x3 → (∀ j, iv 0 1000 (a_heard j)) → P22 x3 a_heard) (hpost : ∀ (a_heard : Nat → Int32), (∀ j, iv 0 1000 (a_heard j)) → post a_heard) : q_wp_X7_hear_9_61 P12 P22 a_heard lf_huts lf_dams lf_echoes la_heights la_minutes la_echoFrom la_echoTo x2 x3 post := by
  intro w1 ew1
  have hw1 := iv_eq ew1 (iv_add (l := 1) (h := 9) hx3 (iv_lit (l := 1) (h := 1) (by decide)) (by decide))
  exact hP22 _ _ (ml_up hm22 (inc_lt ew1 hx3 (by decide))) (iv_w hw1 (by decide)) k_a_heard
set_option maxRecDepth 20000 in
theorem s_wp_X7_hear_9_85 {P12 : Int32 → (Nat → Int32) → Prop} {a_heard : Nat → Int32} {lf_huts : Int32} {lf_dams : Int32} {lf_echoes : Int32} {la_heights : Nat → Int32} {la_minutes : Nat → Int32} {la_echoFrom : Nat → Int32} {la_echoTo : Nat → Int32} {x2 : Int32} {post : (Nat → Int32) → Prop} (k_a_heard : ∀ j, iv 0 1000 (a_heard j)) (k_lf_huts : iv 1 9 lf_huts) (k_lf_dams : iv 0 511 lf_dams) (k_lf_echoes : iv 0 4 lf_echoes) (k_la_heights : ∀ j, iv 0 99 (la_heights j)) (k_la_minutes : ∀ j, iv 0 9 (la_minutes j)) (k_la_echoFrom : ∀ j, iv 0 8 (la_echoFrom j)) (k_la_echoTo : ∀ j, iv 0 8 (la_echoTo j)) (hx2 : iv 0 8 x2) (m12 : Int) (hm12 : m12 ≤ x2.toInt) (hP12 : ∀ (x2 : Int32) (a_heard : Nat → Int32), m12 < x2.toInt → iv 0 9 x2 → (∀ j, iv 0 1000 (a_heard j)) → P12 x2 a_heard) (hpost : ∀ (a_heard : Nat → Int32), (∀ j, iv 0 1000 (a_heard j)) → post a_heard) : q_wp_X7_hear_9_85 P12 a_heard lf_huts lf_dams lf_echoes la_heights la_minutes la_echoFrom la_echoTo x2 post := by
  intro w1 ew1
  have hw1 := iv_eq ew1 (iv_add (l := 1) (h := 9) hx2 (iv_lit (l := 1) (h := 1) (by decide)) (by decide))
  exact hP12 _ _ (ml_up hm12 (inc_lt ew1 hx2 (by decide))) (iv_w hw1 (by decide)) k_a_heard
set_option maxRecDepth 20000 in
theorem s_wp_X7_hear_9_22 {P12 : Int32 → (Nat → Int32) → Prop} {a_heard : Nat → Int32} {lf_huts : Int32} {lf_dams : Int32} {lf_echoes : Int32} {la_heights : Nat → Int32} {la_minutes : Nat → Int32} {la_echoFrom : Nat → Int32} {la_echoTo : Nat → Int32} {x2 : Int32} {x3 : Int32} {post : (Nat → Int32) → Prop} (k_a_heard : ∀ j, iv 0 1000 (a_heard j)) (k_lf_huts : iv 1 9 lf_huts) (k_lf_dams : iv 0 511 lf_dams) (k_lf_echoes : iv 0 4 lf_echoes) (k_la_heights : ∀ j, iv 0 99 (la_heights j)) (k_la_minutes : ∀ j, iv 0 9 (la_minutes j)) (k_la_echoFrom : ∀ j, iv 0 8 (la_echoFrom j)) (k_la_echoTo : ∀ j, iv 0 8 (la_echoTo j)) (hx2 : iv 0 8 x2) (hx3 : iv 0 9 x3) (m12 : Int) (hm12 : m12 ≤ x2.toInt) (hP12 : ∀ (x2 : Int32) (a_heard : Nat → Int32), m12 < x2.toInt → iv 0 9 x2 → (∀ j, iv 0 1000 (a_heard j)) → P12 x2 a_heard) (hpost : ∀ (a_heard : Nat → Int32), (∀ j, iv 0 1000 (a_heard j)) → post a_heard) : q_wp_X7_hear_9_22 P12 a_heard lf_huts lf_dams lf_echoes la_heights la_minutes la_echoFrom la_echoTo x2 x3 post := by
  intro P hP
  have loop : ∀ (n : Nat) (x3 : Int32) (a_heard : Nat → Int32), (9 - x3.toInt < (n : Int)) → (iv 0 9 x3) → (∀ j, iv 0 1000 (a_heard j)) → P x3 a_heard := by
    intro n
    induction n with
    | zero => intro x3 a_heard hm hx3 k_a_heard; exact (ms0_up hm hx3).elim
    | succ n ih =>
      intro x3 a_heard hm hx3 k_a_heard
      apply hP
      refine ⟨fun c1 => ?_, fun c1 => ?_⟩
      · skip
        refine ⟨fun c2 => ?_, fun c2 => ?_⟩
        · skip
          refine ⟨fun c3 => ?_, fun c3 => ?_⟩
          · skip
            exact (iv_emp (iv_ne (l := 1) (h := 0) c3 (iv_lit (l := 0) (h := 0) (by decide)) (iv_lit (l := 0) (h := 0) (by decide)) (by decide)) (by decide)).elim
          · skip
            refine s_wl_X2_earshot_0 k_lf_dams k_lf_echoes k_la_echoFrom k_la_echoTo hx2 (fun r4 hr4 => ?_)
            refine s_wp_X7_markAtOnce_0 k_a_heard hx2 hr4 (fun o5 k_o5 => ?_)
            exact s_wp_X7_hear_9_85 k_o5 k_lf_huts k_lf_dams k_lf_echoes k_la_heights k_la_minutes k_la_echoFrom k_la_echoTo hx2 m12 hm12 hP12 hpost
        · skip
          refine ⟨fun c6 => ?_, fun c6 => ?_⟩
          · skip
            exact s_wp_X7_hear_9_85 k_a_heard k_lf_huts k_lf_dams k_lf_echoes k_la_heights k_la_minutes k_la_echoFrom k_la_echoTo hx2 m12 hm12 hP12 hpost
          · skip
            exact (iv_emp (iv_eqa (l := 1) (h := 0) c6 (iv_lit (l := 1) (h := 1) (by decide)) (iv_lit (l := 0) (h := 0) (by decide)) (by decide)) (by decide)).elim
      · skip
        refine ⟨iv_in (iv_add (l := 0) (h := 80) (iv_mul (l := 0) (h := 72) hx2 (iv_lit (l := 9) (h := 9) (by decide)) (by decide)) (iv_lta (l := 0) (h := 8) (r_nle c1) hx3 k_lf_huts (by decide)) (by decide)) (by decide), ?_⟩
        refine ⟨fun c7 => ?_, fun c7 => ?_⟩
        · skip
          refine ⟨fun c8 => ?_, fun c8 => ?_⟩
          · skip
            exact s_wp_X7_hear_9_61 k_a_heard k_lf_huts k_lf_dams k_lf_echoes k_la_heights k_la_minutes k_la_echoFrom k_la_echoTo hx2 (iv_lta (l := 0) (h := 8) (r_nle c1) hx3 k_lf_huts (by decide)) m12 hm12 hP12 x3.toInt (Int.le_refl _) (fun u0 u1 hq g0 g1 => ih u0 u1 (ms_up hm hq) g0 g1) hpost
          · skip
            exact (iv_emp (iv_ne (l := 1) (h := 0) c8 (iv_lit (l := 0) (h := 0) (by decide)) (iv_lit (l := 0) (h := 0) (by decide)) (by decide)) (by decide)).elim
        · skip
          refine ⟨iv_in (iv_lta (l := 0) (h := 8) (r_nle c1) hx3 k_lf_huts (by decide)) (by decide), ?_⟩
          refine ⟨iv_in hx2 (by decide), ?_⟩
          refine ⟨fun c9 => ?_, fun c9 => ?_⟩
          · skip
            refine ⟨fun c10 => ?_, fun c10 => ?_⟩
            · skip
              exact s_wp_X7_hear_9_61 k_a_heard k_lf_huts k_lf_dams k_lf_echoes k_la_heights k_la_minutes k_la_echoFrom k_la_echoTo hx2 (iv_lta (l := 0) (h := 8) (r_nle c1) hx3 k_lf_huts (by decide)) m12 hm12 hP12 x3.toInt (Int.le_refl _) (fun u0 u1 hq g0 g1 => ih u0 u1 (ms_up hm hq) g0 g1) hpost
            · skip
              exact (iv_emp (iv_ne (l := 1) (h := 0) c10 (iv_lit (l := 0) (h := 0) (by decide)) (iv_lit (l := 0) (h := 0) (by decide)) (by decide)) (by decide)).elim
          · skip
            refine ⟨fun c11 => ?_, fun c11 => ?_⟩
            · skip
              refine ⟨fun c12 => ?_, fun c12 => ?_⟩
              · skip
                exact (iv_emp (iv_ne (l := 1) (h := 0) c12 (iv_lit (l := 0) (h := 0) (by decide)) (iv_lit (l := 0) (h := 0) (by decide)) (by decide)) (by decide)).elim
              · skip
                refine ⟨fun c13 => ?_, fun c13 => ?_⟩
                · skip
                  refine ⟨fun c14 => ?_, fun c14 => ?_⟩
                  · skip
                    exact (iv_emp (iv_ne (l := 1) (h := 0) c14 (iv_lit (l := 0) (h := 0) (by decide)) (iv_lit (l := 0) (h := 0) (by decide)) (by decide)) (by decide)).elim
                  · skip
                    refine ⟨fun c15 => ?_, fun c15 => ?_⟩
                    · skip
                      exact (iv_emp (iv_eqa (l := 1) (h := 0) c15 (iv_lit (l := 1) (h := 1) (by decide)) (iv_lit (l := 0) (h := 0) (by decide)) (by decide)) (by decide)).elim
                    · skip
                      refine ⟨iv_in (iv_add (l := 0) (h := 80) (iv_mul (l := 0) (h := 72) hx2 (iv_lit (l := 9) (h := 9) (by decide)) (by decide)) (iv_lta (l := 0) (h := 8) (r_nle c1) hx3 k_lf_huts (by decide)) (by decide)) (by decide), ?_⟩
                      intro w16 ew16
                      have hw16 := iv_eq ew16 (iv_ltb (l := 1) (h := 9) (r_nle c7) (iv_lit (l := 0) (h := 0) (by decide)) (k_la_minutes _) (by decide))
                      refine ⟨iv_in (iv_add (l := 0) (h := 80) (iv_mul (l := 0) (h := 72) hx2 (iv_lit (l := 9) (h := 9) (by decide)) (by decide)) (iv_lta (l := 0) (h := 8) (r_nle c1) hx3 k_lf_huts (by decide)) (by decide)) (by decide), ?_⟩
                      intro a17 ea17
                      have k_a17 := iv_upd ea17 k_a_heard (iv_w hw16 (by decide))
                      exact s_wp_X7_hear_9_61 k_a17 k_lf_huts k_lf_dams k_lf_echoes k_la_heights k_la_minutes k_la_echoFrom k_la_echoTo hx2 (iv_lta (l := 0) (h := 8) (r_nle c1) hx3 k_lf_huts (by decide)) m12 hm12 hP12 x3.toInt (Int.le_refl _) (fun u0 u1 hq g0 g1 => ih u0 u1 (ms_up hm hq) g0 g1) hpost
                · skip
                  refine ⟨fun c18 => ?_, fun c18 => ?_⟩
                  · skip
                    refine ⟨fun c19 => ?_, fun c19 => ?_⟩
                    · skip
                      exact s_wp_X7_hear_9_61 k_a_heard k_lf_huts k_lf_dams k_lf_echoes k_la_heights k_la_minutes k_la_echoFrom k_la_echoTo hx2 (iv_lta (l := 0) (h := 8) (r_nle c1) hx3 k_lf_huts (by decide)) m12 hm12 hP12 x3.toInt (Int.le_refl _) (fun u0 u1 hq g0 g1 => ih u0 u1 (ms_up hm hq) g0 g1) hpost
                    · skip
                      exact (iv_emp (iv_ne (l := 1) (h := 0) c19 (iv_lit (l := 0) (h := 0) (by decide)) (iv_lit (l := 0) (h := 0) (by decide)) (by decide)) (by decide)).elim
                  · skip
                    exact (iv_emp (iv_eqa (l := 1) (h := 0) c18 (iv_lit (l := 1) (h := 1) (by decide)) (iv_lit (l := 0) (h := 0) (by decide)) (by decide)) (by decide)).elim
            · skip
              refine ⟨fun c20 => ?_, fun c20 => ?_⟩
              · skip
                refine ⟨fun c21 => ?_, fun c21 => ?_⟩
                · skip
                  exact s_wp_X7_hear_9_61 k_a_heard k_lf_huts k_lf_dams k_lf_echoes k_la_heights k_la_minutes k_la_echoFrom k_la_echoTo hx2 (iv_lta (l := 0) (h := 8) (r_nle c1) hx3 k_lf_huts (by decide)) m12 hm12 hP12 x3.toInt (Int.le_refl _) (fun u0 u1 hq g0 g1 => ih u0 u1 (ms_up hm hq) g0 g1) hpost
                · skip
                  exact (iv_emp (iv_ne (l := 1) (h := 0) c21 (iv_lit (l := 0) (h := 0) (by decide)) (iv_lit (l := 0) (h := 0) (by decide)) (by decide)) (by decide)).elim
              · skip
                exact (iv_emp (iv_eqa (l := 1) (h := 0) c20 (iv_lit (l := 1) (h := 1) (by decide)) (iv_lit (l := 0) (h := 0) (by decide)) (by decide)) (by decide)).elim
  exact loop _ _ _ (ms_init_up _ _) hx3 k_a_heard
set_option maxRecDepth 20000 in
theorem s_wp_X7_hear_9_12 {a_heard : Nat → Int32} {lf_huts : Int32} {lf_dams : Int32} {lf_echoes : Int32} {la_heights : Nat → Int32} {la_minutes : Nat → Int32} {la_echoFrom : Nat → Int32} {la_echoTo : Nat → Int32} {x2 : Int32} {post : (Nat → Int32) → Prop} (k_a_heard : ∀ j, iv 0 1000 (a_heard j)) (k_lf_huts : iv 0 9 lf_huts) (k_lf_dams : iv 0 511 lf_dams) (k_lf_echoes : iv 0 4 lf_echoes) (k_la_heights : ∀ j, iv 0 99 (la_heights j)) (k_la_minutes : ∀ j, iv 0 9 (la_minutes j)) (k_la_echoFrom : ∀ j, iv 0 8 (la_echoFrom j)) (k_la_echoTo : ∀ j, iv 0 8 (la_echoTo j)) (hx2 : iv 0 9 x2) (hpost : ∀ (a_heard : Nat → Int32), (∀ j, iv 0 1000 (a_heard j)) → post a_heard) : q_wp_X7_hear_9_12 a_heard lf_huts lf_dams lf_echoes la_heights la_minutes la_echoFrom la_echoTo x2 post := by
  intro P hP
  have loop : ∀ (n : Nat) (x2 : Int32) (a_heard : Nat → Int32), (9 - x2.toInt < (n : Int)) → (iv 0 9 x2) → (∀ j, iv 0 1000 (a_heard j)) → P x2 a_heard := by
    intro n
    induction n with
    | zero => intro x2 a_heard hm hx2 k_a_heard; exact (ms0_up hm hx2).elim
    | succ n ih =>
      intro x2 a_heard hm hx2 k_a_heard
      apply hP
      refine ⟨fun c1 => ?_, fun c1 => ?_⟩
      · skip
        refine s_wp_X7_shorten_1_0 k_a_heard k_lf_huts (fun o2 k_o2 => ?_)
        exact hpost _ k_o2
      · skip
        exact s_wp_X7_hear_9_22 k_a_heard (iv_ltb (l := 1) (h := 9) (r_nle c1) hx2 k_lf_huts (by decide)) k_lf_dams k_lf_echoes k_la_heights k_la_minutes k_la_echoFrom k_la_echoTo (iv_lta (l := 0) (h := 8) (r_nle c1) hx2 k_lf_huts (by decide)) (iv_w (iv_lit (l := 0) (h := 0) (by decide)) (by decide)) x2.toInt (Int.le_refl _) (fun u0 u1 hq g0 g1 => ih u0 u1 (ms_up hm hq) g0 g1) hpost
  exact loop _ _ _ (ms_init_up _ _) hx2 k_a_heard
set_option maxRecDepth 20000 in
theorem s_wp_X7_hear_9_0 {a_heard : Nat → Int32} {lf_huts : Int32} {lf_dams : Int32} {lf_echoes : Int32} {la_heights : Nat → Int32} {la_minutes : Nat → Int32} {la_echoFrom : Nat → Int32} {la_echoTo : Nat → Int32} {post : (Nat → Int32) → Prop} (k_a_heard : ∀ j, iv 0 1000 (a_heard j)) (k_lf_huts : iv 0 9 lf_huts) (k_lf_dams : iv 0 511 lf_dams) (k_lf_echoes : iv 0 4 lf_echoes) (k_la_heights : ∀ j, iv 0 99 (la_heights j)) (k_la_minutes : ∀ j, iv 0 9 (la_minutes j)) (k_la_echoFrom : ∀ j, iv 0 8 (la_echoFrom j)) (k_la_echoTo : ∀ j, iv 0 8 (la_echoTo j)) (hpost : ∀ (a_heard : Nat → Int32), (∀ j, iv 0 1000 (a_heard j)) → post a_heard) : q_wp_X7_hear_9_0 a_heard lf_huts lf_dams lf_echoes la_heights la_minutes la_echoFrom la_echoTo post := by
  refine s_wp_J7_fill_53178_1_0 k_a_heard (iv_lit (l := 1000) (h := 1000) (by decide)) (fun o1 k_o1 => ?_)
  exact s_wp_X7_hear_9_12 k_o1 k_lf_huts k_lf_dams k_lf_echoes k_la_heights k_la_minutes k_la_echoFrom k_la_echoTo (iv_w (iv_lit (l := 0) (h := 0) (by decide)) (by decide)) hpost
-- wp_J7_fill_53178_2
set_option maxRecDepth 20000 in
theorem s_wp_J7_fill_53178_2_5 {a_walked : Nat → Int32} {x1 : Int32} {x2 : Int32} {x3 : Int32} {post : (Nat → Int32) → Prop} (k_a_walked : ∀ j, iv 0 1000 (a_walked j)) (hx1 : iv 1000 1000 x1) (hx2 : iv 0 81 x2) (hx3 : iv 81 81 x3) (hpost : ∀ (a_walked : Nat → Int32), (∀ j, iv 0 1000 (a_walked j)) → post a_walked) : q_wp_J7_fill_53178_2_5 a_walked x1 x2 x3 post := by
  intro P hP
  have loop : ∀ (n : Nat) (x2 : Int32) (a_walked : Nat → Int32), (81 - x2.toInt < (n : Int)) → (iv 0 81 x2) → (∀ j, iv 0 1000 (a_walked j)) → P x2 a_walked := by
    intro n
    induction n with
    | zero => intro x2 a_walked hm hx2 k_a_walked; exact (ms0_up hm hx2).elim
    | succ n ih =>
      intro x2 a_walked hm hx2 k_a_walked
      apply hP
      refine ⟨fun c1 => ?_, fun c1 => ?_⟩
      · skip
        exact hpost _ k_a_walked
      · skip
        refine ⟨iv_in (iv_lta (l := 0) (h := 80) (r_nle c1) hx2 hx3 (by decide)) (by decide), ?_⟩
        intro a2 ea2
        have k_a2 := iv_upd ea2 k_a_walked (iv_w hx1 (by decide))
        intro w3 ew3
        have hw3 := iv_eq ew3 (iv_add (l := 1) (h := 81) (iv_lta (l := 0) (h := 80) (r_nle c1) hx2 hx3 (by decide)) (iv_lit (l := 1) (h := 1) (by decide)) (by decide))
        exact ih _ _ (ms_up hm (inc_lt ew3 (iv_lta (l := 0) (h := 80) (r_nle c1) hx2 hx3 (by decide)) (by decide))) (iv_w hw3 (by decide)) k_a2
  exact loop _ _ _ (ms_init_up _ _) hx2 k_a_walked
set_option maxRecDepth 20000 in
theorem s_wp_J7_fill_53178_2_0 {a_walked : Nat → Int32} {x1 : Int32} {post : (Nat → Int32) → Prop} (k_a_walked : ∀ j, iv 0 1000 (a_walked j)) (hx1 : iv 1000 1000 x1) (hpost : ∀ (a_walked : Nat → Int32), (∀ j, iv 0 1000 (a_walked j)) → post a_walked) : q_wp_J7_fill_53178_2_0 a_walked x1 post := by
  exact s_wp_J7_fill_53178_2_5 k_a_walked hx1 (iv_w (iv_lit (l := 0) (h := 0) (by decide)) (by decide)) (iv_lit (l := 81) (h := 81) (by decide)) hpost
-- wp_X7_shorten_2
set_option maxRecDepth 20000 in
theorem s_wp_X7_shorten_2_80 {P2 : Int32 → (Nat → Int32) → Prop} {P9 : Int32 → (Nat → Int32) → Prop} {P27 : Int32 → (Nat → Int32) → Prop} {a_walked : Nat → Int32} {x1 : Int32} {x2 : Int32} {x3 : Int32} {x4 : Int32} {x5 : Int32} {post : (Nat → Int32) → Prop} (k_a_walked : ∀ j, iv 0 1000 (a_walked j)) (hx1 : iv 1 9 x1) (hx2 : iv 0 8 x2) (hx3 : iv 0 8 x3) (hx4 : iv 0 999 x4) (hx5 : iv 0 8 x5) (m2 : Int) (hm2 : m2 ≤ x2.toInt) (hP2 : ∀ (x2 : Int32) (a_walked : Nat → Int32), m2 < x2.toInt → iv 0 9 x2 → (∀ j, iv 0 1000 (a_walked j)) → P2 x2 a_walked) (m9 : Int) (hm9 : m9 ≤ x3.toInt) (hP9 : ∀ (x3 : Int32) (a_walked : Nat → Int32), m9 < x3.toInt → iv 0 9 x3 → (∀ j, iv 0 1000 (a_walked j)) → P9 x3 a_walked) (m27 : Int) (hm27 : m27 ≤ x5.toInt) (hP27 : ∀ (x5 : Int32) (a_walked : Nat → Int32), m27 < x5.toInt → iv 0 9 x5 → (∀ j, iv 0 1000 (a_walked j)) → P27 x5 a_walked) (hpost : ∀ (a_walked : Nat → Int32), (∀ j, iv 0 1000 (a_walked j)) → post a_walked) : q_wp_X7_shorten_2_80 P2 P9 P27 a_walked x1 x2 x3 x4 x5 post := by
  intro w1 ew1
  have hw1 := iv_eq ew1 (iv_add (l := 1) (h := 9) hx5 (iv_lit (l := 1) (h := 1) (by decide)) (by decide))
  exact hP27 _ _ (ml_up hm27 (inc_lt ew1 hx5 (by decide))) (iv_w hw1 (by decide)) k_a_walked
set_option maxRecDepth 20000 in
theorem s_wp_X7_shorten_2_86 {P2 : Int32 → (Nat → Int32) → Prop} {P9 : Int32 → (Nat → Int32) → Prop} {a_walked : Nat → Int32} {x1 : Int32} {x2 : Int32} {x3 : Int32} {post : (Nat → Int32) → Prop} (k_a_walked : ∀ j, iv 0 1000 (a_walked j)) (hx1 : iv 1 9 x1) (hx2 : iv 0 8 x2) (hx3 : iv 0 8 x3) (m2 : Int) (hm2 : m2 ≤ x2.toInt) (hP2 : ∀ (x2 : Int32) (a_walked : Nat → Int32), m2 < x2.toInt → iv 0 9 x2 → (∀ j, iv 0 1000 (a_walked j)) → P2 x2 a_walked) (m9 : Int) (hm9 : m9 ≤ x3.toInt) (hP9 : ∀ (x3 : Int32) (a_walked : Nat → Int32), m9 < x3.toInt → iv 0 9 x3 → (∀ j, iv 0 1000 (a_walked j)) → P9 x3 a_walked) (hpost : ∀ (a_walked : Nat → Int32), (∀ j, iv 0 1000 (a_walked j)) → post a_walked) : q_wp_X7_shorten_2_86 P2 P9 a_walked x1 x2 x3 post := by
  intro w1 ew1
  have hw1 := iv_eq ew1 (iv_add (l := 1) (h := 9) hx3 (iv_lit (l := 1) (h := 1) (by decide)) (by decide))
  exact hP9 _ _ (ml_up hm9 (inc_lt ew1 hx3 (by decide))) (iv_w hw1 (by decide)) k_a_walked
set_option maxRecDepth 20000 in
theorem s_wp_X7_shorten_2_27 {P2 : Int32 → (Nat → Int32) → Prop} {P9 : Int32 → (Nat → Int32) → Prop} {a_walked : Nat → Int32} {x1 : Int32} {x2 : Int32} {x3 : Int32} {x4 : Int32} {x5 : Int32} {post : (Nat → Int32) → Prop} (k_a_walked : ∀ j, iv 0 1000 (a_walked j)) (hx1 : iv 1 9 x1) (hx2 : iv 0 8 x2) (hx3 : iv 0 8 x3) (hx4 : iv 0 1000 x4) (hx5 : iv 0 9 x5) (m2 : Int) (hm2 : m2 ≤ x2.toInt) (hP2 : ∀ (x2 : Int32) (a_walked : Nat → Int32), m2 < x2.toInt → iv 0 9 x2 → (∀ j, iv 0 1000 (a_walked j)) → P2 x2 a_walked) (m9 : Int) (hm9 : m9 ≤ x3.toInt) (hP9 : ∀ (x3 : Int32) (a_walked : Nat → Int32), m9 < x3.toInt → iv 0 9 x3 → (∀ j, iv 0 1000 (a_walked j)) → P9 x3 a_walked) (hpost : ∀ (a_walked : Nat → Int32), (∀ j, iv 0 1000 (a_walked j)) → post a_walked) : q_wp_X7_shorten_2_27 P2 P9 a_walked x1 x2 x3 x4 x5 post := by
  intro P hP
  have loop : ∀ (n : Nat) (x5 : Int32) (a_walked : Nat → Int32), (9 - x5.toInt < (n : Int)) → (iv 0 9 x5) → (∀ j, iv 0 1000 (a_walked j)) → P x5 a_walked := by
    intro n
    induction n with
    | zero => intro x5 a_walked hm hx5 k_a_walked; exact (ms0_up hm hx5).elim
    | succ n ih =>
      intro x5 a_walked hm hx5 k_a_walked
      apply hP
      refine ⟨fun c1 => ?_, fun c1 => ?_⟩
      · skip
        exact s_wp_X7_shorten_2_86 k_a_walked hx1 hx2 hx3 m2 hm2 hP2 m9 hm9 hP9 hpost
      · skip
        refine ⟨fun c2 => ?_, fun c2 => ?_⟩
        · skip
          exact s_wp_X7_shorten_2_86 k_a_walked hx1 hx2 hx3 m2 hm2 hP2 m9 hm9 hP9 hpost
        · skip
          refine ⟨iv_in (iv_add (l := 0) (h := 80) (iv_mul (l := 0) (h := 72) hx2 (iv_lit (l := 9) (h := 9) (by decide)) (by decide)) (iv_lta (l := 0) (h := 8) (r_nle c1) hx5 hx1 (by decide)) (by decide)) (by decide), ?_⟩
          intro w3 ew3
          have hw3 := iv_eq ew3 (iv_add (l := 0) (h := 1999) (iv_lta (l := 0) (h := 999) (r_nle c2) hx4 (iv_lit (l := 1000) (h := 1000) (by decide)) (by decide)) (k_a_walked _) (by decide))
          refine ⟨iv_in (iv_add (l := 0) (h := 80) (iv_mul (l := 0) (h := 72) hx3 (iv_lit (l := 9) (h := 9) (by decide)) (by decide)) (iv_lta (l := 0) (h := 8) (r_nle c1) hx5 hx1 (by decide)) (by decide)) (by decide), ?_⟩
          refine ⟨fun c4 => ?_, fun c4 => ?_⟩
          · skip
            exact s_wp_X7_shorten_2_80 k_a_walked hx1 hx2 hx3 (iv_lta (l := 0) (h := 999) (r_nle c2) hx4 (iv_lit (l := 1000) (h := 1000) (by decide)) (by decide)) (iv_lta (l := 0) (h := 8) (r_nle c1) hx5 hx1 (by decide)) m2 hm2 hP2 m9 hm9 hP9 x5.toInt (Int.le_refl _) (fun u0 u1 hq g0 g1 => ih u0 u1 (ms_up hm hq) g0 g1) hpost
          · skip
            refine ⟨iv_in (iv_add (l := 0) (h := 80) (iv_mul (l := 0) (h := 72) hx3 (iv_lit (l := 9) (h := 9) (by decide)) (by decide)) (iv_lta (l := 0) (h := 8) (r_nle c1) hx5 hx1 (by decide)) (by decide)) (by decide), ?_⟩
            intro a5 ea5
            have k_a5 := iv_upd ea5 k_a_walked (iv_w (iv_lta (l := 0) (h := 999) (r_nle c4) hw3 (k_a_walked _) (by decide)) (by decide))
            exact s_wp_X7_shorten_2_80 k_a5 hx1 hx2 hx3 (iv_lta (l := 0) (h := 999) (r_nle c2) hx4 (iv_lit (l := 1000) (h := 1000) (by decide)) (by decide)) (iv_lta (l := 0) (h := 8) (r_nle c1) hx5 hx1 (by decide)) m2 hm2 hP2 m9 hm9 hP9 x5.toInt (Int.le_refl _) (fun u0 u1 hq g0 g1 => ih u0 u1 (ms_up hm hq) g0 g1) hpost
  exact loop _ _ _ (ms_init_up _ _) hx5 k_a_walked
set_option maxRecDepth 20000 in
theorem s_wp_X7_shorten_2_9 {P2 : Int32 → (Nat → Int32) → Prop} {a_walked : Nat → Int32} {x1 : Int32} {x2 : Int32} {x3 : Int32} {post : (Nat → Int32) → Prop} (k_a_walked : ∀ j, iv 0 1000 (a_walked j)) (hx1 : iv 1 9 x1) (hx2 : iv 0 8 x2) (hx3 : iv 0 9 x3) (m2 : Int) (hm2 : m2 ≤ x2.toInt) (hP2 : ∀ (x2 : Int32) (a_walked : Nat → Int32), m2 < x2.toInt → iv 0 9 x2 → (∀ j, iv 0 1000 (a_walked j)) → P2 x2 a_walked) (hpost : ∀ (a_walked : Nat → Int32), (∀ j, iv 0 1000 (a_walked j)) → post a_walked) : q_wp_X7_shorten_2_9 P2 a_walked x1 x2 x3 post := by
  intro P hP
  have loop : ∀ (n : Nat) (x3 : Int32) (a_walked : Nat → Int32), (9 - x3.toInt < (n : Int)) → (iv 0 9 x3) → (∀ j, iv 0 1000 (a_walked j)) → P x3 a_walked := by
    intro n
    induction n with
    | zero => intro x3 a_walked hm hx3 k_a_walked; exact (ms0_up hm hx3).elim
    | succ n ih =>
      intro x3 a_walked hm hx3 k_a_walked
      apply hP
      refine ⟨fun c1 => ?_, fun c1 => ?_⟩
      · skip
        intro w2 ew2
        have hw2 := iv_eq ew2 (iv_add (l := 1) (h := 9) hx2 (iv_lit (l := 1) (h := 1) (by decide)) (by decide))
        exact hP2 _ _ (ml_up hm2 (inc_lt ew2 hx2 (by decide))) (iv_w hw2 (by decide)) k_a_walked
      · skip
        refine ⟨iv_in (iv_add (l := 0) (h := 80) (iv_mul (l := 0) (h := 72) (iv_lta (l := 0) (h := 8) (r_nle c1) hx3 hx1 (by decide)) (iv_lit (l := 9) (h := 9) (by decide)) (by decide)) hx2 (by decide)) (by decide), ?_⟩
        intro w3 ew3
        have hw3 := iv_eq ew3 (k_a_walked _)
        exact s_wp_X7_shorten_2_27 k_a_walked hx1 hx2 (iv_lta (l := 0) (h := 8) (r_nle c1) hx3 hx1 (by decide)) hw3 (iv_w (iv_lit (l := 0) (h := 0) (by decide)) (by decide)) m2 hm2 hP2 x3.toInt (Int.le_refl _) (fun u0 u1 hq g0 g1 => ih u0 u1 (ms_up hm hq) g0 g1) hpost
  exact loop _ _ _ (ms_init_up _ _) hx3 k_a_walked
set_option maxRecDepth 20000 in
theorem s_wp_X7_shorten_2_2 {a_walked : Nat → Int32} {x1 : Int32} {x2 : Int32} {post : (Nat → Int32) → Prop} (k_a_walked : ∀ j, iv 0 1000 (a_walked j)) (hx1 : iv 0 9 x1) (hx2 : iv 0 9 x2) (hpost : ∀ (a_walked : Nat → Int32), (∀ j, iv 0 1000 (a_walked j)) → post a_walked) : q_wp_X7_shorten_2_2 a_walked x1 x2 post := by
  intro P hP
  have loop : ∀ (n : Nat) (x2 : Int32) (a_walked : Nat → Int32), (9 - x2.toInt < (n : Int)) → (iv 0 9 x2) → (∀ j, iv 0 1000 (a_walked j)) → P x2 a_walked := by
    intro n
    induction n with
    | zero => intro x2 a_walked hm hx2 k_a_walked; exact (ms0_up hm hx2).elim
    | succ n ih =>
      intro x2 a_walked hm hx2 k_a_walked
      apply hP
      refine ⟨fun c1 => ?_, fun c1 => ?_⟩
      · skip
        exact hpost _ k_a_walked
      · skip
        exact s_wp_X7_shorten_2_9 k_a_walked (iv_ltb (l := 1) (h := 9) (r_nle c1) hx2 hx1 (by decide)) (iv_lta (l := 0) (h := 8) (r_nle c1) hx2 hx1 (by decide)) (iv_w (iv_lit (l := 0) (h := 0) (by decide)) (by decide)) x2.toInt (Int.le_refl _) (fun u0 u1 hq g0 g1 => ih u0 u1 (ms_up hm hq) g0 g1) hpost
  exact loop _ _ _ (ms_init_up _ _) hx2 k_a_walked
set_option maxRecDepth 20000 in
theorem s_wp_X7_shorten_2_0 {a_walked : Nat → Int32} {x1 : Int32} {post : (Nat → Int32) → Prop} (k_a_walked : ∀ j, iv 0 1000 (a_walked j)) (hx1 : iv 0 9 x1) (hpost : ∀ (a_walked : Nat → Int32), (∀ j, iv 0 1000 (a_walked j)) → post a_walked) : q_wp_X7_shorten_2_0 a_walked x1 post := by
  exact s_wp_X7_shorten_2_2 k_a_walked hx1 (iv_w (iv_lit (l := 0) (h := 0) (by decide)) (by decide)) hpost
-- wp_X7_walk_9
set_option maxRecDepth 20000 in
theorem s_wp_X7_walk_9_61 {P12 : Int32 → (Nat → Int32) → Prop} {P22 : Int32 → (Nat → Int32) → Prop} {a_walked : Nat → Int32} {lf_huts : Int32} {la_minutes : Nat → Int32} {x2 : Int32} {x3 : Int32} {post : (Nat → Int32) → Prop} (k_a_walked : ∀ j, iv 0 1000 (a_walked j)) (k_lf_huts : iv 1 9 lf_huts) (k_la_minutes : ∀ j, iv 0 9 (la_minutes j)) (hx2 : iv 0 8 x2) (hx3 : iv 0 8 x3) (m12 : Int) (hm12 : m12 ≤ x2.toInt) (hP12 : ∀ (x2 : Int32) (a_walked : Nat → Int32), m12 < x2.toInt → iv 0 9 x2 → (∀ j, iv 0 1000 (a_walked j)) → P12 x2 a_walked) (m22 : Int) (hm22 : m22 ≤ x3.toInt) (hP22 : ∀ (x3 : Int32) (a_walked : Nat → Int32), m22 < x3.toInt → iv 0 9 x3 → (∀ j, iv 0 1000 (a_walked j)) → P22 x3 a_walked) (hpost : ∀ (a_walked : Nat → Int32), (∀ j, iv 0 1000 (a_walked j)) → post a_walked) : q_wp_X7_walk_9_61 P12 P22 a_walked lf_huts la_minutes x2 x3 post := by
  intro w1 ew1
  have hw1 := iv_eq ew1 (iv_add (l := 1) (h := 9) hx3 (iv_lit (l := 1) (h := 1) (by decide)) (by decide))
  exact hP22 _ _ (ml_up hm22 (inc_lt ew1 hx3 (by decide))) (iv_w hw1 (by decide)) k_a_walked
set_option maxRecDepth 20000 in
theorem s_wp_X7_walk_9_22 {P12 : Int32 → (Nat → Int32) → Prop} {a_walked : Nat → Int32} {lf_huts : Int32} {la_minutes : Nat → Int32} {x2 : Int32} {x3 : Int32} {post : (Nat → Int32) → Prop} (k_a_walked : ∀ j, iv 0 1000 (a_walked j)) (k_lf_huts : iv 1 9 lf_huts) (k_la_minutes : ∀ j, iv 0 9 (la_minutes j)) (hx2 : iv 0 8 x2) (hx3 : iv 0 9 x3) (m12 : Int) (hm12 : m12 ≤ x2.toInt) (hP12 : ∀ (x2 : Int32) (a_walked : Nat → Int32), m12 < x2.toInt → iv 0 9 x2 → (∀ j, iv 0 1000 (a_walked j)) → P12 x2 a_walked) (hpost : ∀ (a_walked : Nat → Int32), (∀ j, iv 0 1000 (a_walked j)) → post a_walked) : q_wp_X7_walk_9_22 P12 a_walked lf_huts la_minutes x2 x3 post := by
  intro P hP
  have loop : ∀ (n : Nat) (x3 : Int32) (a_walked : Nat → Int32), (9 - x3.toInt < (n : Int)) → (iv 0 9 x3) → (∀ j, iv 0 1000 (a_walked j)) → P x3 a_walked := by
    intro n
    induction n with
    | zero => intro x3 a_walked hm hx3 k_a_walked; exact (ms0_up hm hx3).elim
    | succ n ih =>
      intro x3 a_walked hm hx3 k_a_walked
      apply hP
      refine ⟨fun c1 => ?_, fun c1 => ?_⟩
      · skip
        refine ⟨iv_in (iv_add (l := 0) (h := 80) (iv_mul (l := 0) (h := 72) hx2 (iv_lit (l := 9) (h := 9) (by decide)) (by decide)) hx2 (by decide)) (by decide), ?_⟩
        intro a2 ea2
        have k_a2 := iv_upd ea2 k_a_walked (iv_w (iv_lit (l := 0) (h := 0) (by decide)) (by decide))
        intro w3 ew3
        have hw3 := iv_eq ew3 (iv_add (l := 1) (h := 9) hx2 (iv_lit (l := 1) (h := 1) (by decide)) (by decide))
        exact hP12 _ _ (ml_up hm12 (inc_lt ew3 hx2 (by decide))) (iv_w hw3 (by decide)) k_a2
      · skip
        refine ⟨iv_in (iv_add (l := 0) (h := 80) (iv_mul (l := 0) (h := 72) hx2 (iv_lit (l := 9) (h := 9) (by decide)) (by decide)) (iv_lta (l := 0) (h := 8) (r_nle c1) hx3 k_lf_huts (by decide)) (by decide)) (by decide), ?_⟩
        intro w4 ew4
        have hw4 := iv_eq ew4 (k_la_minutes _)
        refine ⟨fun c5 => ?_, fun c5 => ?_⟩
        · skip
          exact s_wp_X7_walk_9_61 k_a_walked k_lf_huts k_la_minutes hx2 (iv_lta (l := 0) (h := 8) (r_nle c1) hx3 k_lf_huts (by decide)) m12 hm12 hP12 x3.toInt (Int.le_refl _) (fun u0 u1 hq g0 g1 => ih u0 u1 (ms_up hm hq) g0 g1) hpost
        · skip
          refine ⟨iv_in (iv_add (l := 0) (h := 80) (iv_mul (l := 0) (h := 72) hx2 (iv_lit (l := 9) (h := 9) (by decide)) (by decide)) (iv_lta (l := 0) (h := 8) (r_nle c1) hx3 k_lf_huts (by decide)) (by decide)) (by decide), ?_⟩
          intro a6 ea6
          have k_a6 := iv_upd ea6 k_a_walked (iv_w (iv_ltb (l := 1) (h := 9) (r_nle c5) (iv_lit (l := 0) (h := 0) (by decide)) hw4 (by decide)) (by decide))
          exact s_wp_X7_walk_9_61 k_a6 k_lf_huts k_la_minutes hx2 (iv_lta (l := 0) (h := 8) (r_nle c1) hx3 k_lf_huts (by decide)) m12 hm12 hP12 x3.toInt (Int.le_refl _) (fun u0 u1 hq g0 g1 => ih u0 u1 (ms_up hm hq) g0 g1) hpost
  exact loop _ _ _ (ms_init_up _ _) hx3 k_a_walked
set_option maxRecDepth 20000 in
theorem s_wp_X7_walk_9_12 {a_walked : Nat → Int32} {lf_huts : Int32} {la_minutes : Nat → Int32} {x2 : Int32} {post : (Nat → Int32) → Prop} (k_a_walked : ∀ j, iv 0 1000 (a_walked j)) (k_lf_huts : iv 0 9 lf_huts) (k_la_minutes : ∀ j, iv 0 9 (la_minutes j)) (hx2 : iv 0 9 x2) (hpost : ∀ (a_walked : Nat → Int32), (∀ j, iv 0 1000 (a_walked j)) → post a_walked) : q_wp_X7_walk_9_12 a_walked lf_huts la_minutes x2 post := by
  intro P hP
  have loop : ∀ (n : Nat) (x2 : Int32) (a_walked : Nat → Int32), (9 - x2.toInt < (n : Int)) → (iv 0 9 x2) → (∀ j, iv 0 1000 (a_walked j)) → P x2 a_walked := by
    intro n
    induction n with
    | zero => intro x2 a_walked hm hx2 k_a_walked; exact (ms0_up hm hx2).elim
    | succ n ih =>
      intro x2 a_walked hm hx2 k_a_walked
      apply hP
      refine ⟨fun c1 => ?_, fun c1 => ?_⟩
      · skip
        refine s_wp_X7_shorten_2_0 k_a_walked k_lf_huts (fun o2 k_o2 => ?_)
        exact hpost _ k_o2
      · skip
        exact s_wp_X7_walk_9_22 k_a_walked (iv_ltb (l := 1) (h := 9) (r_nle c1) hx2 k_lf_huts (by decide)) k_la_minutes (iv_lta (l := 0) (h := 8) (r_nle c1) hx2 k_lf_huts (by decide)) (iv_w (iv_lit (l := 0) (h := 0) (by decide)) (by decide)) x2.toInt (Int.le_refl _) (fun u0 u1 hq g0 g1 => ih u0 u1 (ms_up hm hq) g0 g1) hpost
  exact loop _ _ _ (ms_init_up _ _) hx2 k_a_walked
set_option maxRecDepth 20000 in
theorem s_wp_X7_walk_9_0 {a_walked : Nat → Int32} {lf_huts : Int32} {la_minutes : Nat → Int32} {post : (Nat → Int32) → Prop} (k_a_walked : ∀ j, iv 0 1000 (a_walked j)) (k_lf_huts : iv 0 9 lf_huts) (k_la_minutes : ∀ j, iv 0 9 (la_minutes j)) (hpost : ∀ (a_walked : Nat → Int32), (∀ j, iv 0 1000 (a_walked j)) → post a_walked) : q_wp_X7_walk_9_0 a_walked lf_huts la_minutes post := by
  refine s_wp_J7_fill_53178_2_0 k_a_walked (iv_lit (l := 1000) (h := 1000) (by decide)) (fun o1 k_o1 => ?_)
  exact s_wp_X7_walk_9_12 k_o1 k_lf_huts k_la_minutes (iv_w (iv_lit (l := 0) (h := 0) (by decide)) (by decide)) hpost
-- wp_X7_link_9
set_option maxRecDepth 20000 in
theorem s_wp_X7_link_9_64 {P2 : Int32 → (Nat → Int32) → Prop} {P35 : Int32 → (Nat → Int32) → Prop} {a_next : Nat → Int32} {lf_huts : Int32} {lf_dams : Int32} {lf_echoes : Int32} {la_heights : Nat → Int32} {la_minutes : Nat → Int32} {la_echoFrom : Nat → Int32} {la_echoTo : Nat → Int32} {x2 : Int32} {x3 : Int32} {post : (Nat → Int32) → Prop} (k_a_next : ∀ j, iv 0 511 (a_next j)) (k_lf_huts : iv 1 9 lf_huts) (k_lf_dams : iv 0 511 lf_dams) (k_lf_echoes : iv 0 4 lf_echoes) (k_la_heights : ∀ j, iv 0 99 (la_heights j)) (k_la_minutes : ∀ j, iv 0 9 (la_minutes j)) (k_la_echoFrom : ∀ j, iv 0 8 (la_echoFrom j)) (k_la_echoTo : ∀ j, iv 0 8 (la_echoTo j)) (hx2 : iv 0 8 x2) (hx3 : iv 0 8 x3) (m2 : Int) (hm2 : m2 ≤ x2.toInt) (hP2 : ∀ (x2 : Int32) (a_next : Nat → Int32), m2 < x2.toInt → iv 0 9 x2 → (∀ j, iv 0 511 (a_next j)) → P2 x2 a_next) (m35 : Int) (hm35 : m35 ≤ x3.toInt) (hP35 : ∀ (x3 : Int32) (a_next : Nat → Int32), m35 < x3.toInt → iv 0 9 x3 → (∀ j, iv 0 511 (a_next j)) → P35 x3 a_next) (hpost : ∀ (a_next : Nat → Int32), (∀ j, iv 0 511 (a_next j)) → post a_next) : q_wp_X7_link_9_64 P2 P35 a_next lf_huts lf_dams lf_echoes la_heights la_minutes la_echoFrom la_echoTo x2 x3 post := by
  intro w1 ew1
  have hw1 := iv_eq ew1 (iv_add (l := 1) (h := 9) hx3 (iv_lit (l := 1) (h := 1) (by decide)) (by decide))
  exact hP35 _ _ (ml_up hm35 (inc_lt ew1 hx3 (by decide))) (iv_w hw1 (by decide)) k_a_next
set_option maxRecDepth 20000 in
theorem s_wp_X7_link_9_35 {P2 : Int32 → (Nat → Int32) → Prop} {a_next : Nat → Int32} {lf_huts : Int32} {lf_dams : Int32} {lf_echoes : Int32} {la_heights : Nat → Int32} {la_minutes : Nat → Int32} {la_echoFrom : Nat → Int32} {la_echoTo : Nat → Int32} {x2 : Int32} {x3 : Int32} {post : (Nat → Int32) → Prop} (k_a_next : ∀ j, iv 0 511 (a_next j)) (k_lf_huts : iv 1 9 lf_huts) (k_lf_dams : iv 0 511 lf_dams) (k_lf_echoes : iv 0 4 lf_echoes) (k_la_heights : ∀ j, iv 0 99 (la_heights j)) (k_la_minutes : ∀ j, iv 0 9 (la_minutes j)) (k_la_echoFrom : ∀ j, iv 0 8 (la_echoFrom j)) (k_la_echoTo : ∀ j, iv 0 8 (la_echoTo j)) (hx2 : iv 0 8 x2) (hx3 : iv 0 9 x3) (m2 : Int) (hm2 : m2 ≤ x2.toInt) (hP2 : ∀ (x2 : Int32) (a_next : Nat → Int32), m2 < x2.toInt → iv 0 9 x2 → (∀ j, iv 0 511 (a_next j)) → P2 x2 a_next) (hpost : ∀ (a_next : Nat → Int32), (∀ j, iv 0 511 (a_next j)) → post a_next) : q_wp_X7_link_9_35 P2 a_next lf_huts lf_dams lf_echoes la_heights la_minutes la_echoFrom la_echoTo x2 x3 post := by
  intro P hP
  have loop : ∀ (n : Nat) (x3 : Int32) (a_next : Nat → Int32), (9 - x3.toInt < (n : Int)) → (iv 0 9 x3) → (∀ j, iv 0 511 (a_next j)) → P x3 a_next := by
    intro n
    induction n with
    | zero => intro x3 a_next hm hx3 k_a_next; exact (ms0_up hm hx3).elim
    | succ n ih =>
      intro x3 a_next hm hx3 k_a_next
      apply hP
      refine ⟨fun c1 => ?_, fun c1 => ?_⟩
      · skip
        intro w2 ew2
        have hw2 := iv_eq ew2 (iv_add (l := 1) (h := 9) hx2 (iv_lit (l := 1) (h := 1) (by decide)) (by decide))
        exact hP2 _ _ (ml_up hm2 (inc_lt ew2 hx2 (by decide))) (iv_w hw2 (by decide)) k_a_next
      · skip
        refine ⟨iv_in (iv_add (l := 0) (h := 80) (iv_mul (l := 0) (h := 72) hx2 (iv_lit (l := 9) (h := 9) (by decide)) (by decide)) (iv_lta (l := 0) (h := 8) (r_nle c1) hx3 k_lf_huts (by decide)) (by decide)) (by decide), ?_⟩
        refine ⟨fun c3 => ?_, fun c3 => ?_⟩
        · skip
          refine ⟨fun c4 => ?_, fun c4 => ?_⟩
          · skip
            exact s_wp_X7_link_9_64 k_a_next k_lf_huts k_lf_dams k_lf_echoes k_la_heights k_la_minutes k_la_echoFrom k_la_echoTo hx2 (iv_lta (l := 0) (h := 8) (r_nle c1) hx3 k_lf_huts (by decide)) m2 hm2 hP2 x3.toInt (Int.le_refl _) (fun u0 u1 hq g0 g1 => ih u0 u1 (ms_up hm hq) g0 g1) hpost
          · skip
            exact (iv_emp (iv_ne (l := 1) (h := 0) c4 (iv_lit (l := 0) (h := 0) (by decide)) (iv_lit (l := 0) (h := 0) (by decide)) (by decide)) (by decide)).elim
        · skip
          refine ⟨iv_in (iv_lta (l := 0) (h := 8) (r_nle c1) hx3 k_lf_huts (by decide)) (by decide), ?_⟩
          refine ⟨iv_in hx2 (by decide), ?_⟩
          refine ⟨fun c5 => ?_, fun c5 => ?_⟩
          · skip
            refine ⟨fun c6 => ?_, fun c6 => ?_⟩
            · skip
              exact s_wp_X7_link_9_64 k_a_next k_lf_huts k_lf_dams k_lf_echoes k_la_heights k_la_minutes k_la_echoFrom k_la_echoTo hx2 (iv_lta (l := 0) (h := 8) (r_nle c1) hx3 k_lf_huts (by decide)) m2 hm2 hP2 x3.toInt (Int.le_refl _) (fun u0 u1 hq g0 g1 => ih u0 u1 (ms_up hm hq) g0 g1) hpost
            · skip
              exact (iv_emp (iv_ne (l := 1) (h := 0) c6 (iv_lit (l := 0) (h := 0) (by decide)) (iv_lit (l := 0) (h := 0) (by decide)) (by decide)) (by decide)).elim
          · skip
            refine ⟨fun c7 => ?_, fun c7 => ?_⟩
            · skip
              refine ⟨fun c8 => ?_, fun c8 => ?_⟩
              · skip
                exact (iv_emp (iv_ne (l := 1) (h := 0) c8 (iv_lit (l := 0) (h := 0) (by decide)) (iv_lit (l := 0) (h := 0) (by decide)) (by decide)) (by decide)).elim
              · skip
                refine ⟨fun c9 => ?_, fun c9 => ?_⟩
                · skip
                  refine ⟨fun c10 => ?_, fun c10 => ?_⟩
                  · skip
                    exact (iv_emp (iv_ne (l := 1) (h := 0) c10 (iv_lit (l := 0) (h := 0) (by decide)) (iv_lit (l := 0) (h := 0) (by decide)) (by decide)) (by decide)).elim
                  · skip
                    refine ⟨fun c11 => ?_, fun c11 => ?_⟩
                    · skip
                      exact (iv_emp (iv_eqa (l := 1) (h := 0) c11 (iv_lit (l := 1) (h := 1) (by decide)) (iv_lit (l := 0) (h := 0) (by decide)) (by decide)) (by decide)).elim
                    · skip
                      refine ⟨iv_in hx2 (by decide), ?_⟩
                      intro w12 ew12
                      have hw12 := iv_eq ew12 (iv_or 9 (l := 0) (h := 511) (k_a_next _) (iv_shl1 (l := 1) (h := 256) (iv_lit (l := 1) (h := 1) (by decide)) (iv_lta (l := 0) (h := 8) (r_nle c1) hx3 k_lf_huts (by decide)) (by decide)) (by decide))
                      refine ⟨iv_in hx2 (by decide), ?_⟩
                      intro a13 ea13
                      have k_a13 := iv_upd ea13 k_a_next hw12
                      exact s_wp_X7_link_9_64 k_a13 k_lf_huts k_lf_dams k_lf_echoes k_la_heights k_la_minutes k_la_echoFrom k_la_echoTo hx2 (iv_lta (l := 0) (h := 8) (r_nle c1) hx3 k_lf_huts (by decide)) m2 hm2 hP2 x3.toInt (Int.le_refl _) (fun u0 u1 hq g0 g1 => ih u0 u1 (ms_up hm hq) g0 g1) hpost
                · skip
                  refine ⟨fun c14 => ?_, fun c14 => ?_⟩
                  · skip
                    refine ⟨fun c15 => ?_, fun c15 => ?_⟩
                    · skip
                      exact s_wp_X7_link_9_64 k_a_next k_lf_huts k_lf_dams k_lf_echoes k_la_heights k_la_minutes k_la_echoFrom k_la_echoTo hx2 (iv_lta (l := 0) (h := 8) (r_nle c1) hx3 k_lf_huts (by decide)) m2 hm2 hP2 x3.toInt (Int.le_refl _) (fun u0 u1 hq g0 g1 => ih u0 u1 (ms_up hm hq) g0 g1) hpost
                    · skip
                      exact (iv_emp (iv_ne (l := 1) (h := 0) c15 (iv_lit (l := 0) (h := 0) (by decide)) (iv_lit (l := 0) (h := 0) (by decide)) (by decide)) (by decide)).elim
                  · skip
                    exact (iv_emp (iv_eqa (l := 1) (h := 0) c14 (iv_lit (l := 1) (h := 1) (by decide)) (iv_lit (l := 0) (h := 0) (by decide)) (by decide)) (by decide)).elim
            · skip
              refine ⟨fun c16 => ?_, fun c16 => ?_⟩
              · skip
                refine ⟨fun c17 => ?_, fun c17 => ?_⟩
                · skip
                  exact s_wp_X7_link_9_64 k_a_next k_lf_huts k_lf_dams k_lf_echoes k_la_heights k_la_minutes k_la_echoFrom k_la_echoTo hx2 (iv_lta (l := 0) (h := 8) (r_nle c1) hx3 k_lf_huts (by decide)) m2 hm2 hP2 x3.toInt (Int.le_refl _) (fun u0 u1 hq g0 g1 => ih u0 u1 (ms_up hm hq) g0 g1) hpost
                · skip
                  exact (iv_emp (iv_ne (l := 1) (h := 0) c17 (iv_lit (l := 0) (h := 0) (by decide)) (iv_lit (l := 0) (h := 0) (by decide)) (by decide)) (by decide)).elim
              · skip
                exact (iv_emp (iv_eqa (l := 1) (h := 0) c16 (iv_lit (l := 1) (h := 1) (by decide)) (iv_lit (l := 0) (h := 0) (by decide)) (by decide)) (by decide)).elim
  exact loop _ _ _ (ms_init_up _ _) hx3 k_a_next
set_option maxRecDepth 20000 in
theorem s_wp_X7_link_9_32 {P2 : Int32 → (Nat → Int32) → Prop} {a_next : Nat → Int32} {lf_huts : Int32} {lf_dams : Int32} {lf_echoes : Int32} {la_heights : Nat → Int32} {la_minutes : Nat → Int32} {la_echoFrom : Nat → Int32} {la_echoTo : Nat → Int32} {x2 : Int32} {y0 : Int32} {y1 : Int32} {post : (Nat → Int32) → Prop} (k_a_next : ∀ j, iv 0 511 (a_next j)) (k_lf_huts : iv 1 9 lf_huts) (k_lf_dams : iv 0 511 lf_dams) (k_lf_echoes : iv 0 4 lf_echoes) (k_la_heights : ∀ j, iv 0 99 (la_heights j)) (k_la_minutes : ∀ j, iv 0 9 (la_minutes j)) (k_la_echoFrom : ∀ j, iv 0 8 (la_echoFrom j)) (k_la_echoTo : ∀ j, iv 0 8 (la_echoTo j)) (hx2 : iv 0 8 x2) (hy0 : iv 0 8 y0) (hy1 : iv 0 511 y1) (m2 : Int) (hm2 : m2 ≤ x2.toInt) (hP2 : ∀ (x2 : Int32) (a_next : Nat → Int32), m2 < x2.toInt → iv 0 9 x2 → (∀ j, iv 0 511 (a_next j)) → P2 x2 a_next) (hpost : ∀ (a_next : Nat → Int32), (∀ j, iv 0 511 (a_next j)) → post a_next) : q_wp_X7_link_9_32 P2 a_next lf_huts lf_dams lf_echoes la_heights la_minutes la_echoFrom la_echoTo x2 y0 y1 post := by
  refine ⟨iv_in hy0 (by decide), ?_⟩
  intro a1 ea1
  have k_a1 := iv_upd ea1 k_a_next hy1
  exact s_wp_X7_link_9_35 k_a1 k_lf_huts k_lf_dams k_lf_echoes k_la_heights k_la_minutes k_la_echoFrom k_la_echoTo hx2 (iv_w (iv_lit (l := 0) (h := 0) (by decide)) (by decide)) m2 hm2 hP2 hpost
set_option maxRecDepth 20000 in
theorem s_wp_X7_link_9_2 {a_next : Nat → Int32} {lf_huts : Int32} {lf_dams : Int32} {lf_echoes : Int32} {la_heights : Nat → Int32} {la_minutes : Nat → Int32} {la_echoFrom : Nat → Int32} {la_echoTo : Nat → Int32} {x2 : Int32} {post : (Nat → Int32) → Prop} (k_a_next : ∀ j, iv 0 511 (a_next j)) (k_lf_huts : iv 1 9 lf_huts) (k_lf_dams : iv 0 511 lf_dams) (k_lf_echoes : iv 0 4 lf_echoes) (k_la_heights : ∀ j, iv 0 99 (la_heights j)) (k_la_minutes : ∀ j, iv 0 9 (la_minutes j)) (k_la_echoFrom : ∀ j, iv 0 8 (la_echoFrom j)) (k_la_echoTo : ∀ j, iv 0 8 (la_echoTo j)) (hx2 : iv 0 9 x2) (hpost : ∀ (a_next : Nat → Int32), (∀ j, iv 0 511 (a_next j)) → post a_next) : q_wp_X7_link_9_2 a_next lf_huts lf_dams lf_echoes la_heights la_minutes la_echoFrom la_echoTo x2 post := by
  intro P hP
  have loop : ∀ (n : Nat) (x2 : Int32) (a_next : Nat → Int32), (9 - x2.toInt < (n : Int)) → (iv 0 9 x2) → (∀ j, iv 0 511 (a_next j)) → P x2 a_next := by
    intro n
    induction n with
    | zero => intro x2 a_next hm hx2 k_a_next; exact (ms0_up hm hx2).elim
    | succ n ih =>
      intro x2 a_next hm hx2 k_a_next
      apply hP
      refine ⟨fun c1 => ?_, fun c1 => ?_⟩
      · skip
        exact hpost _ k_a_next
      · skip
        refine ⟨fun c2 => ?_, fun c2 => ?_⟩
        · skip
          refine ⟨fun c3 => ?_, fun c3 => ?_⟩
          · skip
            refine s_wl_X2_earshot_0 k_lf_dams k_lf_echoes k_la_echoFrom k_la_echoTo (iv_lta (l := 0) (h := 8) (r_nle c1) hx2 k_lf_huts (by decide)) (fun r4 hr4 => ?_)
            exact s_wp_X7_link_9_32 k_a_next k_lf_huts k_lf_dams k_lf_echoes k_la_heights k_la_minutes k_la_echoFrom k_la_echoTo (iv_lta (l := 0) (h := 8) (r_nle c1) hx2 k_lf_huts (by decide)) (iv_lta (l := 0) (h := 8) (r_nle c1) hx2 k_lf_huts (by decide)) hr4 x2.toInt (Int.le_refl _) (fun u0 u1 hq g0 g1 => ih u0 u1 (ms_up hm hq) g0 g1) hpost
          · skip
            exact (iv_emp (iv_ne (l := 1) (h := 0) c3 (iv_lit (l := 0) (h := 0) (by decide)) (iv_lit (l := 0) (h := 0) (by decide)) (by decide)) (by decide)).elim
        · skip
          refine ⟨fun c5 => ?_, fun c5 => ?_⟩
          · skip
            exact (iv_emp (iv_eqa (l := 1) (h := 0) c5 (iv_lit (l := 1) (h := 1) (by decide)) (iv_lit (l := 0) (h := 0) (by decide)) (by decide)) (by decide)).elim
          · skip
            exact s_wp_X7_link_9_32 k_a_next k_lf_huts k_lf_dams k_lf_echoes k_la_heights k_la_minutes k_la_echoFrom k_la_echoTo (iv_lta (l := 0) (h := 8) (r_nle c1) hx2 k_lf_huts (by decide)) (iv_lta (l := 0) (h := 8) (r_nle c1) hx2 k_lf_huts (by decide)) (iv_w (iv_lit (l := 0) (h := 0) (by decide)) (by decide)) x2.toInt (Int.le_refl _) (fun u0 u1 hq g0 g1 => ih u0 u1 (ms_up hm hq) g0 g1) hpost
  exact loop _ _ _ (ms_init_up _ _) hx2 k_a_next
set_option maxRecDepth 20000 in
theorem s_wp_X7_link_9_0 {a_next : Nat → Int32} {lf_huts : Int32} {lf_dams : Int32} {lf_echoes : Int32} {la_heights : Nat → Int32} {la_minutes : Nat → Int32} {la_echoFrom : Nat → Int32} {la_echoTo : Nat → Int32} {post : (Nat → Int32) → Prop} (k_a_next : ∀ j, iv 0 511 (a_next j)) (k_lf_huts : iv 1 9 lf_huts) (k_lf_dams : iv 0 511 lf_dams) (k_lf_echoes : iv 0 4 lf_echoes) (k_la_heights : ∀ j, iv 0 99 (la_heights j)) (k_la_minutes : ∀ j, iv 0 9 (la_minutes j)) (k_la_echoFrom : ∀ j, iv 0 8 (la_echoFrom j)) (k_la_echoTo : ∀ j, iv 0 8 (la_echoTo j)) (hpost : ∀ (a_next : Nat → Int32), (∀ j, iv 0 511 (a_next j)) → post a_next) : q_wp_X7_link_9_0 a_next lf_huts lf_dams lf_echoes la_heights la_minutes la_echoFrom la_echoTo post := by
  exact s_wp_X7_link_9_2 k_a_next k_lf_huts k_lf_dams k_lf_echoes k_la_heights k_la_minutes k_la_echoFrom k_la_echoTo (iv_w (iv_lit (l := 0) (h := 0) (by decide)) (by decide)) hpost
-- wp_X7_lastVillage_9
set_option maxRecDepth 20000 in
theorem s_wp_X7_lastVillage_9_52 {P5 : Int32 → Int32 → Prop} {a_heard : Nat → Int32} {lf_huts : Int32} {lf_villages : Int32} {lf_dams : Int32} {x2 : Int32} {x3 : Int32} {x4 : Int32} {post : Int32 → Prop} (k_a_heard : ∀ j, iv 0 1000 (a_heard j)) (k_lf_huts : iv 1 9 lf_huts) (k_lf_villages : iv 0 511 lf_villages) (k_lf_dams : iv 0 511 lf_dams) (hx2 : iv 0 8 x2) (hx3 : iv 0 1000 x3) (hx4 : iv 0 8 x4) (m5 : Int) (hm5 : m5 ≤ x4.toInt) (hP5 : ∀ (x3 : Int32) (x4 : Int32), m5 < x4.toInt → iv 0 1000 x3 → iv 0 9 x4 → P5 x3 x4) (hpost : ∀ (r : Int32), iv 0 1000 r → post r) : q_wp_X7_lastVillage_9_52 P5 a_heard lf_huts lf_villages lf_dams x2 x3 x4 post := by
  intro w1 ew1
  have hw1 := iv_eq ew1 (iv_add (l := 1) (h := 9) hx4 (iv_lit (l := 1) (h := 1) (by decide)) (by decide))
  exact hP5 _ _ (ml_up hm5 (inc_lt ew1 hx4 (by decide))) hx3 (iv_w hw1 (by decide))
set_option maxRecDepth 20000 in
theorem s_wp_X7_lastVillage_9_5 {a_heard : Nat → Int32} {lf_huts : Int32} {lf_villages : Int32} {lf_dams : Int32} {x2 : Int32} {x3 : Int32} {x4 : Int32} {post : Int32 → Prop} (k_a_heard : ∀ j, iv 0 1000 (a_heard j)) (k_lf_huts : iv 0 9 lf_huts) (k_lf_villages : iv 0 511 lf_villages) (k_lf_dams : iv 0 511 lf_dams) (hx2 : iv 0 8 x2) (hx3 : iv 0 1000 x3) (hx4 : iv 0 9 x4) (hpost : ∀ (r : Int32), iv 0 1000 r → post r) : q_wp_X7_lastVillage_9_5 a_heard lf_huts lf_villages lf_dams x2 x3 x4 post := by
  intro P hP
  have loop : ∀ (n : Nat) (x3 : Int32) (x4 : Int32), (9 - x4.toInt < (n : Int)) → (iv 0 1000 x3) → (iv 0 9 x4) → P x3 x4 := by
    intro n
    induction n with
    | zero => intro x3 x4 hm hx3 hx4; exact (ms0_up hm hx4).elim
    | succ n ih =>
      intro x3 x4 hm hx3 hx4
      apply hP
      refine ⟨fun c1 => ?_, fun c1 => ?_⟩
      · skip
        exact hpost _ hx3
      · skip
        refine ⟨fun c2 => ?_, fun c2 => ?_⟩
        · skip
          refine ⟨fun c3 => ?_, fun c3 => ?_⟩
          · skip
            exact s_wp_X7_lastVillage_9_52 k_a_heard (iv_ltb (l := 1) (h := 9) (r_nle c1) hx4 k_lf_huts (by decide)) k_lf_villages k_lf_dams hx2 hx3 (iv_lta (l := 0) (h := 8) (r_nle c1) hx4 k_lf_huts (by decide)) x4.toInt (Int.le_refl _) (fun u0 u1 hq g0 g1 => ih u0 u1 (ms_up hm hq) g0 g1) hpost
          · skip
            exact (iv_emp (iv_ne (l := 1) (h := 0) c3 (iv_lit (l := 0) (h := 0) (by decide)) (iv_lit (l := 0) (h := 0) (by decide)) (by decide)) (by decide)).elim
        · skip
          refine ⟨fun c4 => ?_, fun c4 => ?_⟩
          · skip
            exact (iv_emp (iv_eqa (l := 1) (h := 0) c4 (iv_lit (l := 1) (h := 1) (by decide)) (iv_lit (l := 0) (h := 0) (by decide)) (by decide)) (by decide)).elim
          · skip
            refine ⟨fun c5 => ?_, fun c5 => ?_⟩
            · skip
              refine ⟨fun c6 => ?_, fun c6 => ?_⟩
              · skip
                exact (iv_emp (iv_ne (l := 1) (h := 0) c6 (iv_lit (l := 0) (h := 0) (by decide)) (iv_lit (l := 0) (h := 0) (by decide)) (by decide)) (by decide)).elim
              · skip
                refine ⟨iv_in (iv_add (l := 0) (h := 80) (iv_mul (l := 0) (h := 72) hx2 (iv_lit (l := 9) (h := 9) (by decide)) (by decide)) (iv_lta (l := 0) (h := 8) (r_nle c1) hx4 k_lf_huts (by decide)) (by decide)) (by decide), ?_⟩
                intro w7 ew7
                have hw7 := iv_eq ew7 (iv_max (l := 0) (h := 1000) hx3 (k_a_heard _) (by decide))
                exact s_wp_X7_lastVillage_9_52 k_a_heard (iv_ltb (l := 1) (h := 9) (r_nle c1) hx4 k_lf_huts (by decide)) k_lf_villages k_lf_dams hx2 hw7 (iv_lta (l := 0) (h := 8) (r_nle c1) hx4 k_lf_huts (by decide)) x4.toInt (Int.le_refl _) (fun u0 u1 hq g0 g1 => ih u0 u1 (ms_up hm hq) g0 g1) hpost
            · skip
              refine ⟨fun c8 => ?_, fun c8 => ?_⟩
              · skip
                exact s_wp_X7_lastVillage_9_52 k_a_heard (iv_ltb (l := 1) (h := 9) (r_nle c1) hx4 k_lf_huts (by decide)) k_lf_villages k_lf_dams hx2 hx3 (iv_lta (l := 0) (h := 8) (r_nle c1) hx4 k_lf_huts (by decide)) x4.toInt (Int.le_refl _) (fun u0 u1 hq g0 g1 => ih u0 u1 (ms_up hm hq) g0 g1) hpost
              · skip
                exact (iv_emp (iv_eqa (l := 1) (h := 0) c8 (iv_lit (l := 1) (h := 1) (by decide)) (iv_lit (l := 0) (h := 0) (by decide)) (by decide)) (by decide)).elim
  exact loop _ _ _ (ms_init_up _ _) hx3 hx4
set_option maxRecDepth 20000 in
theorem s_wp_X7_lastVillage_9_0 {a_heard : Nat → Int32} {lf_huts : Int32} {lf_villages : Int32} {lf_dams : Int32} {x2 : Int32} {post : Int32 → Prop} (k_a_heard : ∀ j, iv 0 1000 (a_heard j)) (k_lf_huts : iv 0 9 lf_huts) (k_lf_villages : iv 0 511 lf_villages) (k_lf_dams : iv 0 511 lf_dams) (hx2 : iv 0 8 x2) (hpost : ∀ (r : Int32), iv 0 1000 r → post r) : q_wp_X7_lastVillage_9_0 a_heard lf_huts lf_villages lf_dams x2 post := by
  exact s_wp_X7_lastVillage_9_5 k_a_heard k_lf_huts k_lf_villages k_lf_dams hx2 (iv_w (iv_lit (l := 0) (h := 0) (by decide)) (by decide)) (iv_w (iv_lit (l := 0) (h := 0) (by decide)) (by decide)) hpost
-- wp_X7_allBy_9
set_option maxRecDepth 20000 in
theorem s_wp_X7_allBy_9_41 {P5 : Int32 → Int32 → Prop} {a_heard : Nat → Int32} {lf_huts : Int32} {lf_villages : Int32} {lf_dams : Int32} {x2 : Int32} {x3 : Int32} {x4 : Int32} {post : Int32 → Prop} (k_a_heard : ∀ j, iv 0 1000 (a_heard j)) (k_lf_huts : iv 1 9 lf_huts) (k_lf_villages : iv 0 511 lf_villages) (k_lf_dams : iv 0 511 lf_dams) (hx2 : iv 0 99 x2) (hx3 : iv 0 511 x3) (hx4 : iv 0 8 x4) (m5 : Int) (hm5 : m5 ≤ x4.toInt) (hP5 : ∀ (x3 : Int32) (x4 : Int32), m5 < x4.toInt → iv 0 511 x3 → iv 0 9 x4 → P5 x3 x4) (hpost : ∀ (r : Int32), iv 0 511 r → post r) : q_wp_X7_allBy_9_41 P5 a_heard lf_huts lf_villages lf_dams x2 x3 x4 post := by
  intro w1 ew1
  have hw1 := iv_eq ew1 (iv_add (l := 1) (h := 9) hx4 (iv_lit (l := 1) (h := 1) (by decide)) (by decide))
  exact hP5 _ _ (ml_up hm5 (inc_lt ew1 hx4 (by decide))) hx3 (iv_w hw1 (by decide))
set_option maxRecDepth 20000 in
theorem s_wp_X7_allBy_9_5 {a_heard : Nat → Int32} {lf_huts : Int32} {lf_villages : Int32} {lf_dams : Int32} {x2 : Int32} {x3 : Int32} {x4 : Int32} {post : Int32 → Prop} (k_a_heard : ∀ j, iv 0 1000 (a_heard j)) (k_lf_huts : iv 0 9 lf_huts) (k_lf_villages : iv 0 511 lf_villages) (k_lf_dams : iv 0 511 lf_dams) (hx2 : iv 0 99 x2) (hx3 : iv 0 511 x3) (hx4 : iv 0 9 x4) (hpost : ∀ (r : Int32), iv 0 511 r → post r) : q_wp_X7_allBy_9_5 a_heard lf_huts lf_villages lf_dams x2 x3 x4 post := by
  intro P hP
  have loop : ∀ (n : Nat) (x3 : Int32) (x4 : Int32), (9 - x4.toInt < (n : Int)) → (iv 0 511 x3) → (iv 0 9 x4) → P x3 x4 := by
    intro n
    induction n with
    | zero => intro x3 x4 hm hx3 hx4; exact (ms0_up hm hx4).elim
    | succ n ih =>
      intro x3 x4 hm hx3 hx4
      apply hP
      refine ⟨fun c1 => ?_, fun c1 => ?_⟩
      · skip
        exact hpost _ hx3
      · skip
        refine ⟨fun c2 => ?_, fun c2 => ?_⟩
        · skip
          refine ⟨fun c3 => ?_, fun c3 => ?_⟩
          · skip
            exact (iv_emp (iv_ne (l := 1) (h := 0) c3 (iv_lit (l := 0) (h := 0) (by decide)) (iv_lit (l := 0) (h := 0) (by decide)) (by decide)) (by decide)).elim
          · skip
            refine s_wp_X7_lastVillage_9_0 k_a_heard (iv_w (iv_ltb (l := 1) (h := 9) (r_nle c1) hx4 k_lf_huts (by decide)) (by decide)) k_lf_villages k_lf_dams (iv_lta (l := 0) (h := 8) (r_nle c1) hx4 k_lf_huts (by decide)) (fun r4 hr4 => ?_)
            refine ⟨fun c5 => ?_, fun c5 => ?_⟩
            · skip
              exact s_wp_X7_allBy_9_41 k_a_heard (iv_ltb (l := 1) (h := 9) (r_nle c1) hx4 k_lf_huts (by decide)) k_lf_villages k_lf_dams hx2 hx3 (iv_lta (l := 0) (h := 8) (r_nle c1) hx4 k_lf_huts (by decide)) x4.toInt (Int.le_refl _) (fun u0 u1 hq g0 g1 => ih u0 u1 (ms_up hm hq) g0 g1) hpost
            · skip
              intro w6 ew6
              have hw6 := iv_eq ew6 (iv_or 9 (l := 0) (h := 511) hx3 (iv_shl1 (l := 1) (h := 256) (iv_lit (l := 1) (h := 1) (by decide)) (iv_lta (l := 0) (h := 8) (r_nle c1) hx4 k_lf_huts (by decide)) (by decide)) (by decide))
              exact s_wp_X7_allBy_9_41 k_a_heard (iv_ltb (l := 1) (h := 9) (r_nle c1) hx4 k_lf_huts (by decide)) k_lf_villages k_lf_dams hx2 hw6 (iv_lta (l := 0) (h := 8) (r_nle c1) hx4 k_lf_huts (by decide)) x4.toInt (Int.le_refl _) (fun u0 u1 hq g0 g1 => ih u0 u1 (ms_up hm hq) g0 g1) hpost
        · skip
          refine ⟨fun c7 => ?_, fun c7 => ?_⟩
          · skip
            exact s_wp_X7_allBy_9_41 k_a_heard (iv_ltb (l := 1) (h := 9) (r_nle c1) hx4 k_lf_huts (by decide)) k_lf_villages k_lf_dams hx2 hx3 (iv_lta (l := 0) (h := 8) (r_nle c1) hx4 k_lf_huts (by decide)) x4.toInt (Int.le_refl _) (fun u0 u1 hq g0 g1 => ih u0 u1 (ms_up hm hq) g0 g1) hpost
          · skip
            exact (iv_emp (iv_eqa (l := 1) (h := 0) c7 (iv_lit (l := 1) (h := 1) (by decide)) (iv_lit (l := 0) (h := 0) (by decide)) (by decide)) (by decide)).elim
  exact loop _ _ _ (ms_init_up _ _) hx3 hx4
set_option maxRecDepth 20000 in
theorem s_wp_X7_allBy_9_0 {a_heard : Nat → Int32} {lf_huts : Int32} {lf_villages : Int32} {lf_dams : Int32} {x2 : Int32} {post : Int32 → Prop} (k_a_heard : ∀ j, iv 0 1000 (a_heard j)) (k_lf_huts : iv 0 9 lf_huts) (k_lf_villages : iv 0 511 lf_villages) (k_lf_dams : iv 0 511 lf_dams) (hx2 : iv 0 99 x2) (hpost : ∀ (r : Int32), iv 0 511 r → post r) : q_wp_X7_allBy_9_0 a_heard lf_huts lf_villages lf_dams x2 post := by
  exact s_wp_X7_allBy_9_5 k_a_heard k_lf_huts k_lf_villages k_lf_dams hx2 (iv_w (iv_lit (l := 0) (h := 0) (by decide)) (by decide)) (iv_w (iv_lit (l := 0) (h := 0) (by decide)) (by decide)) hpost
-- wp_X7_bestHut_9
set_option maxRecDepth 20000 in
theorem s_wp_X7_bestHut_9_49 {P9 : Int32 → Int32 → Int32 → Prop} {a_heard : Nat → Int32} {lf_huts : Int32} {lf_villages : Int32} {lf_dams : Int32} {x2 : Int32} {x3 : Int32} {x4 : Int32} {post : Int32 → Prop} (k_a_heard : ∀ j, iv 0 1000 (a_heard j)) (k_lf_huts : iv 1 9 lf_huts) (k_lf_villages : iv 0 511 lf_villages) (k_lf_dams : iv 0 511 lf_dams) (hx2 : iv (-1) 8 x2) (hx3 : iv 0 1000 x3) (hx4 : iv 0 8 x4) (m9 : Int) (hm9 : m9 ≤ x4.toInt) (hP9 : ∀ (x2 : Int32) (x3 : Int32) (x4 : Int32), m9 < x4.toInt → iv (-1) 8 x2 → iv 0 1000 x3 → iv 0 9 x4 → P9 x2 x3 x4) (hpost : ∀ (r : Int32), iv (-1) 8 r → post r) : q_wp_X7_bestHut_9_49 P9 a_heard lf_huts lf_villages lf_dams x2 x3 x4 post := by
  intro w1 ew1
  have hw1 := iv_eq ew1 (iv_add (l := 1) (h := 9) hx4 (iv_lit (l := 1) (h := 1) (by decide)) (by decide))
  exact hP9 _ _ _ (ml_up hm9 (inc_lt ew1 hx4 (by decide))) hx2 hx3 (iv_w hw1 (by decide))
set_option maxRecDepth 20000 in
theorem s_wp_X7_bestHut_9_9 {a_heard : Nat → Int32} {lf_huts : Int32} {lf_villages : Int32} {lf_dams : Int32} {x2 : Int32} {x3 : Int32} {x4 : Int32} {post : Int32 → Prop} (k_a_heard : ∀ j, iv 0 1000 (a_heard j)) (k_lf_huts : iv 0 9 lf_huts) (k_lf_villages : iv 0 511 lf_villages) (k_lf_dams : iv 0 511 lf_dams) (hx2 : iv (-1) 8 x2) (hx3 : iv 0 1000 x3) (hx4 : iv 0 9 x4) (hpost : ∀ (r : Int32), iv (-1) 8 r → post r) : q_wp_X7_bestHut_9_9 a_heard lf_huts lf_villages lf_dams x2 x3 x4 post := by
  intro P hP
  have loop : ∀ (n : Nat) (x2 : Int32) (x3 : Int32) (x4 : Int32), (9 - x4.toInt < (n : Int)) → (iv (-1) 8 x2) → (iv 0 1000 x3) → (iv 0 9 x4) → P x2 x3 x4 := by
    intro n
    induction n with
    | zero => intro x2 x3 x4 hm hx2 hx3 hx4; exact (ms0_up hm hx4).elim
    | succ n ih =>
      intro x2 x3 x4 hm hx2 hx3 hx4
      apply hP
      refine ⟨fun c1 => ?_, fun c1 => ?_⟩
      · skip
        exact hpost _ hx2
      · skip
        refine ⟨fun c2 => ?_, fun c2 => ?_⟩
        · skip
          refine ⟨fun c3 => ?_, fun c3 => ?_⟩
          · skip
            exact (iv_emp (iv_ne (l := 1) (h := 0) c3 (iv_lit (l := 0) (h := 0) (by decide)) (iv_lit (l := 0) (h := 0) (by decide)) (by decide)) (by decide)).elim
          · skip
            refine s_wp_X7_lastVillage_9_0 k_a_heard (iv_w (iv_ltb (l := 1) (h := 9) (r_nle c1) hx4 k_lf_huts (by decide)) (by decide)) k_lf_villages k_lf_dams (iv_lta (l := 0) (h := 8) (r_nle c1) hx4 k_lf_huts (by decide)) (fun r4 hr4 => ?_)
            refine ⟨fun c5 => ?_, fun c5 => ?_⟩
            · skip
              exact s_wp_X7_bestHut_9_49 k_a_heard (iv_ltb (l := 1) (h := 9) (r_nle c1) hx4 k_lf_huts (by decide)) k_lf_villages k_lf_dams hx2 hx3 (iv_lta (l := 0) (h := 8) (r_nle c1) hx4 k_lf_huts (by decide)) x4.toInt (Int.le_refl _) (fun u0 u1 u2 hq g0 g1 g2 => ih u0 u1 u2 (ms_up hm hq) g0 g1 g2) hpost
            · skip
              refine s_wp_X7_lastVillage_9_0 k_a_heard (iv_w (iv_ltb (l := 1) (h := 9) (r_nle c1) hx4 k_lf_huts (by decide)) (by decide)) k_lf_villages k_lf_dams (iv_lta (l := 0) (h := 8) (r_nle c1) hx4 k_lf_huts (by decide)) (fun r6 hr6 => ?_)
              exact s_wp_X7_bestHut_9_49 k_a_heard (iv_ltb (l := 1) (h := 9) (r_nle c1) hx4 k_lf_huts (by decide)) k_lf_villages k_lf_dams (iv_w (iv_lta (l := 0) (h := 8) (r_nle c1) hx4 k_lf_huts (by decide)) (by decide)) hr6 (iv_lta (l := 0) (h := 8) (r_nle c1) hx4 k_lf_huts (by decide)) x4.toInt (Int.le_refl _) (fun u0 u1 u2 hq g0 g1 g2 => ih u0 u1 u2 (ms_up hm hq) g0 g1 g2) hpost
        · skip
          refine ⟨fun c7 => ?_, fun c7 => ?_⟩
          · skip
            exact s_wp_X7_bestHut_9_49 k_a_heard (iv_ltb (l := 1) (h := 9) (r_nle c1) hx4 k_lf_huts (by decide)) k_lf_villages k_lf_dams hx2 hx3 (iv_lta (l := 0) (h := 8) (r_nle c1) hx4 k_lf_huts (by decide)) x4.toInt (Int.le_refl _) (fun u0 u1 u2 hq g0 g1 g2 => ih u0 u1 u2 (ms_up hm hq) g0 g1 g2) hpost
          · skip
            exact (iv_emp (iv_eqa (l := 1) (h := 0) c7 (iv_lit (l := 1) (h := 1) (by decide)) (iv_lit (l := 0) (h := 0) (by decide)) (by decide)) (by decide)).elim
  exact loop _ _ _ _ (ms_init_up _ _) hx2 hx3 hx4
set_option maxRecDepth 20000 in
theorem s_wp_X7_bestHut_9_0 {a_heard : Nat → Int32} {lf_huts : Int32} {lf_villages : Int32} {lf_dams : Int32} {post : Int32 → Prop} (k_a_heard : ∀ j, iv 0 1000 (a_heard j)) (k_lf_huts : iv 0 9 lf_huts) (k_lf_villages : iv 0 511 lf_villages) (k_lf_dams : iv 0 511 lf_dams) (hpost : ∀ (r : Int32), iv (-1) 8 r → post r) : q_wp_X7_bestHut_9_0 a_heard lf_huts lf_villages lf_dams post := by
  exact s_wp_X7_bestHut_9_9 k_a_heard k_lf_huts k_lf_villages k_lf_dams (iv_w (iv_lit (l := (-1)) (h := (-1)) (by decide)) (by decide)) (iv_w (iv_lit (l := 1000) (h := 1000) (by decide)) (by decide)) (iv_w (iv_lit (l := 0) (h := 0) (by decide)) (by decide)) hpost
-- wp_X7_coverBy_1
set_option maxRecDepth 20000 in
theorem s_wp_X7_coverBy_1_54 {P3 : Int32 → (Nat → Int32) → Prop} {P20 : Int32 → (Nat → Int32) → Prop} {a_heard : Nat → Int32} {a_cover : Nat → Int32} {x2 : Int32} {x3 : Int32} {x4 : Int32} {x5 : Int32} {post : (Nat → Int32) → Prop} (k_a_heard : ∀ j, iv 0 1000 (a_heard j)) (k_a_cover : ∀ j, iv 0 511 (a_cover j)) (hx2 : iv 1 9 x2) (hx3 : iv 0 99 x3) (hx4 : iv 0 8 x4) (hx5 : iv 0 8 x5) (m3 : Int) (hm3 : m3 ≤ x4.toInt) (hP3 : ∀ (x4 : Int32) (a_cover : Nat → Int32), m3 < x4.toInt → iv 0 9 x4 → (∀ j, iv 0 511 (a_cover j)) → P3 x4 a_cover) (m20 : Int) (hm20 : m20 ≤ x5.toInt) (hP20 : ∀ (x5 : Int32) (a_cover : Nat → Int32), m20 < x5.toInt → iv 0 9 x5 → (∀ j, iv 0 511 (a_cover j)) → P20 x5 a_cover) (hpost : ∀ (a_cover : Nat → Int32), (∀ j, iv 0 511 (a_cover j)) → post a_cover) : q_wp_X7_coverBy_1_54 P3 P20 a_heard a_cover x2 x3 x4 x5 post := by
  intro w1 ew1
  have hw1 := iv_eq ew1 (iv_add (l := 1) (h := 9) hx5 (iv_lit (l := 1) (h := 1) (by decide)) (by decide))
  exact hP20 _ _ (ml_up hm20 (inc_lt ew1 hx5 (by decide))) (iv_w hw1 (by decide)) k_a_cover
set_option maxRecDepth 20000 in
theorem s_wp_X7_coverBy_1_20 {P3 : Int32 → (Nat → Int32) → Prop} {a_heard : Nat → Int32} {a_cover : Nat → Int32} {x2 : Int32} {x3 : Int32} {x4 : Int32} {x5 : Int32} {post : (Nat → Int32) → Prop} (k_a_heard : ∀ j, iv 0 1000 (a_heard j)) (k_a_cover : ∀ j, iv 0 511 (a_cover j)) (hx2 : iv 1 9 x2) (hx3 : iv 0 99 x3) (hx4 : iv 0 8 x4) (hx5 : iv 0 9 x5) (m3 : Int) (hm3 : m3 ≤ x4.toInt) (hP3 : ∀ (x4 : Int32) (a_cover : Nat → Int32), m3 < x4.toInt → iv 0 9 x4 → (∀ j, iv 0 511 (a_cover j)) → P3 x4 a_cover) (hpost : ∀ (a_cover : Nat → Int32), (∀ j, iv 0 511 (a_cover j)) → post a_cover) : q_wp_X7_coverBy_1_20 P3 a_heard a_cover x2 x3 x4 x5 post := by
  intro P hP
  have loop : ∀ (n : Nat) (x5 : Int32) (a_cover : Nat → Int32), (9 - x5.toInt < (n : Int)) → (iv 0 9 x5) → (∀ j, iv 0 511 (a_cover j)) → P x5 a_cover := by
    intro n
    induction n with
    | zero => intro x5 a_cover hm hx5 k_a_cover; exact (ms0_up hm hx5).elim
    | succ n ih =>
      intro x5 a_cover hm hx5 k_a_cover
      apply hP
      refine ⟨fun c1 => ?_, fun c1 => ?_⟩
      · skip
        intro w2 ew2
        have hw2 := iv_eq ew2 (iv_add (l := 1) (h := 9) hx4 (iv_lit (l := 1) (h := 1) (by decide)) (by decide))
        exact hP3 _ _ (ml_up hm3 (inc_lt ew2 hx4 (by decide))) (iv_w hw2 (by decide)) k_a_cover
      · skip
        refine ⟨iv_in (iv_add (l := 0) (h := 80) (iv_mul (l := 0) (h := 72) hx4 (iv_lit (l := 9) (h := 9) (by decide)) (by decide)) (iv_lta (l := 0) (h := 8) (r_nle c1) hx5 hx2 (by decide)) (by decide)) (by decide), ?_⟩
        refine ⟨fun c3 => ?_, fun c3 => ?_⟩
        · skip
          exact s_wp_X7_coverBy_1_54 k_a_heard k_a_cover hx2 hx3 hx4 (iv_lta (l := 0) (h := 8) (r_nle c1) hx5 hx2 (by decide)) m3 hm3 hP3 x5.toInt (Int.le_refl _) (fun u0 u1 hq g0 g1 => ih u0 u1 (ms_up hm hq) g0 g1) hpost
        · skip
          refine ⟨iv_in hx4 (by decide), ?_⟩
          intro w4 ew4
          have hw4 := iv_eq ew4 (iv_or 9 (l := 0) (h := 511) (k_a_cover _) (iv_shl1 (l := 1) (h := 256) (iv_lit (l := 1) (h := 1) (by decide)) (iv_lta (l := 0) (h := 8) (r_nle c1) hx5 hx2 (by decide)) (by decide)) (by decide))
          refine ⟨iv_in hx4 (by decide), ?_⟩
          intro a5 ea5
          have k_a5 := iv_upd ea5 k_a_cover hw4
          exact s_wp_X7_coverBy_1_54 k_a_heard k_a5 hx2 hx3 hx4 (iv_lta (l := 0) (h := 8) (r_nle c1) hx5 hx2 (by decide)) m3 hm3 hP3 x5.toInt (Int.le_refl _) (fun u0 u1 hq g0 g1 => ih u0 u1 (ms_up hm hq) g0 g1) hpost
  exact loop _ _ _ (ms_init_up _ _) hx5 k_a_cover
set_option maxRecDepth 20000 in
theorem s_wp_X7_coverBy_1_3 {a_heard : Nat → Int32} {a_cover : Nat → Int32} {x2 : Int32} {x3 : Int32} {x4 : Int32} {post : (Nat → Int32) → Prop} (k_a_heard : ∀ j, iv 0 1000 (a_heard j)) (k_a_cover : ∀ j, iv 0 511 (a_cover j)) (hx2 : iv 0 9 x2) (hx3 : iv 0 99 x3) (hx4 : iv 0 9 x4) (hpost : ∀ (a_cover : Nat → Int32), (∀ j, iv 0 511 (a_cover j)) → post a_cover) : q_wp_X7_coverBy_1_3 a_heard a_cover x2 x3 x4 post := by
  intro P hP
  have loop : ∀ (n : Nat) (x4 : Int32) (a_cover : Nat → Int32), (9 - x4.toInt < (n : Int)) → (iv 0 9 x4) → (∀ j, iv 0 511 (a_cover j)) → P x4 a_cover := by
    intro n
    induction n with
    | zero => intro x4 a_cover hm hx4 k_a_cover; exact (ms0_up hm hx4).elim
    | succ n ih =>
      intro x4 a_cover hm hx4 k_a_cover
      apply hP
      refine ⟨fun c1 => ?_, fun c1 => ?_⟩
      · skip
        exact hpost _ k_a_cover
      · skip
        refine ⟨iv_in (iv_lta (l := 0) (h := 8) (r_nle c1) hx4 hx2 (by decide)) (by decide), ?_⟩
        intro a2 ea2
        have k_a2 := iv_upd ea2 k_a_cover (iv_w (iv_lit (l := 0) (h := 0) (by decide)) (by decide))
        exact s_wp_X7_coverBy_1_20 k_a_heard k_a2 (iv_ltb (l := 1) (h := 9) (r_nle c1) hx4 hx2 (by decide)) hx3 (iv_lta (l := 0) (h := 8) (r_nle c1) hx4 hx2 (by decide)) (iv_w (iv_lit (l := 0) (h := 0) (by decide)) (by decide)) x4.toInt (Int.le_refl _) (fun u0 u1 hq g0 g1 => ih u0 u1 (ms_up hm hq) g0 g1) hpost
  exact loop _ _ _ (ms_init_up _ _) hx4 k_a_cover
set_option maxRecDepth 20000 in
theorem s_wp_X7_coverBy_1_0 {a_heard : Nat → Int32} {a_cover : Nat → Int32} {x2 : Int32} {x3 : Int32} {post : (Nat → Int32) → Prop} (k_a_heard : ∀ j, iv 0 1000 (a_heard j)) (k_a_cover : ∀ j, iv 0 511 (a_cover j)) (hx2 : iv 0 9 x2) (hx3 : iv 0 99 x3) (hpost : ∀ (a_cover : Nat → Int32), (∀ j, iv 0 511 (a_cover j)) → post a_cover) : q_wp_X7_coverBy_1_0 a_heard a_cover x2 x3 post := by
  exact s_wp_X7_coverBy_1_3 k_a_heard k_a_cover hx2 hx3 (iv_w (iv_lit (l := 0) (h := 0) (by decide)) (by decide)) hpost
-- wp_X7_covered
set_option maxRecDepth 20000 in
theorem s_wp_X7_covered_30 {P5 : Int32 → Int32 → Prop} {a_cover : Nat → Int32} {x1 : Int32} {x2 : Int32} {x3 : Int32} {x4 : Int32} {post : Int32 → Prop} (k_a_cover : ∀ j, iv 0 511 (a_cover j)) (hx1 : iv 0 511 x1) (hx2 : iv 1 9 x2) (hx3 : iv 0 511 x3) (hx4 : iv 0 8 x4) (m5 : Int) (hm5 : m5 ≤ x4.toInt) (hP5 : ∀ (x3 : Int32) (x4 : Int32), m5 < x4.toInt → iv 0 511 x3 → iv 0 9 x4 → P5 x3 x4) (hpost : ∀ (r : Int32), iv 0 511 r → post r) : q_wp_X7_covered_30 P5 a_cover x1 x2 x3 x4 post := by
  intro w1 ew1
  have hw1 := iv_eq ew1 (iv_add (l := 1) (h := 9) hx4 (iv_lit (l := 1) (h := 1) (by decide)) (by decide))
  exact hP5 _ _ (ml_up hm5 (inc_lt ew1 hx4 (by decide))) hx3 (iv_w hw1 (by decide))
set_option maxRecDepth 20000 in
theorem s_wp_X7_covered_5 {a_cover : Nat → Int32} {x1 : Int32} {x2 : Int32} {x3 : Int32} {x4 : Int32} {post : Int32 → Prop} (k_a_cover : ∀ j, iv 0 511 (a_cover j)) (hx1 : iv 0 511 x1) (hx2 : iv 0 9 x2) (hx3 : iv 0 511 x3) (hx4 : iv 0 9 x4) (hpost : ∀ (r : Int32), iv 0 511 r → post r) : q_wp_X7_covered_5 a_cover x1 x2 x3 x4 post := by
  intro P hP
  have loop : ∀ (n : Nat) (x3 : Int32) (x4 : Int32), (9 - x4.toInt < (n : Int)) → (iv 0 511 x3) → (iv 0 9 x4) → P x3 x4 := by
    intro n
    induction n with
    | zero => intro x3 x4 hm hx3 hx4; exact (ms0_up hm hx4).elim
    | succ n ih =>
      intro x3 x4 hm hx3 hx4
      apply hP
      refine ⟨fun c1 => ?_, fun c1 => ?_⟩
      · skip
        exact hpost _ hx3
      · skip
        refine ⟨fun c2 => ?_, fun c2 => ?_⟩
        · skip
          refine ⟨fun c3 => ?_, fun c3 => ?_⟩
          · skip
            exact s_wp_X7_covered_30 k_a_cover hx1 (iv_ltb (l := 1) (h := 9) (r_nle c1) hx4 hx2 (by decide)) hx3 (iv_lta (l := 0) (h := 8) (r_nle c1) hx4 hx2 (by decide)) x4.toInt (Int.le_refl _) (fun u0 u1 hq g0 g1 => ih u0 u1 (ms_up hm hq) g0 g1) hpost
          · skip
            exact (iv_emp (iv_ne (l := 1) (h := 0) c3 (iv_lit (l := 0) (h := 0) (by decide)) (iv_lit (l := 0) (h := 0) (by decide)) (by decide)) (by decide)).elim
        · skip
          refine ⟨fun c4 => ?_, fun c4 => ?_⟩
          · skip
            exact (iv_emp (iv_eqa (l := 1) (h := 0) c4 (iv_lit (l := 1) (h := 1) (by decide)) (iv_lit (l := 0) (h := 0) (by decide)) (by decide)) (by decide)).elim
          · skip
            refine ⟨iv_in (iv_lta (l := 0) (h := 8) (r_nle c1) hx4 hx2 (by decide)) (by decide), ?_⟩
            intro w5 ew5
            have hw5 := iv_eq ew5 (iv_or 9 (l := 0) (h := 511) hx3 (k_a_cover _) (by decide))
            exact s_wp_X7_covered_30 k_a_cover hx1 (iv_ltb (l := 1) (h := 9) (r_nle c1) hx4 hx2 (by decide)) hw5 (iv_lta (l := 0) (h := 8) (r_nle c1) hx4 hx2 (by decide)) x4.toInt (Int.le_refl _) (fun u0 u1 hq g0 g1 => ih u0 u1 (ms_up hm hq) g0 g1) hpost
  exact loop _ _ _ (ms_init_up _ _) hx3 hx4
set_option maxRecDepth 20000 in
theorem s_wp_X7_covered_0 {a_cover : Nat → Int32} {x1 : Int32} {x2 : Int32} {post : Int32 → Prop} (k_a_cover : ∀ j, iv 0 511 (a_cover j)) (hx1 : iv 0 511 x1) (hx2 : iv 0 9 x2) (hpost : ∀ (r : Int32), iv 0 511 r → post r) : q_wp_X7_covered_0 a_cover x1 x2 post := by
  exact s_wp_X7_covered_5 k_a_cover hx1 hx2 (iv_w (iv_lit (l := 0) (h := 0) (by decide)) (by decide)) (iv_w (iv_lit (l := 0) (h := 0) (by decide)) (by decide)) hpost
