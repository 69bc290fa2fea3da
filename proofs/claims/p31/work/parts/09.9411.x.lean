-- wx_X10_join
set_option maxRecDepth 20000 in
theorem s_wx_X10_join_0 {ta_counts : Nat → Int32} {tl0f_huts : Int32} {tl0f_dams : Int32} {tl0f_echoes : Int32} {tl0a_heights : Nat → Int32} {tl0a_minutes : Nat → Int32} {tl0a_echoFrom : Nat → Int32} {tl0a_echoTo : Nat → Int32} {tl1f_huts : Int32} {tl1f_dams : Int32} {tl1f_echoes : Int32} {tl1a_heights : Nat → Int32} {tl1a_minutes : Nat → Int32} {tl1a_echoFrom : Nat → Int32} {tl1a_echoTo : Nat → Int32} {pa_heard : Nat → Int32} {x1 : Int32} {x2 : Int32} {x3 : Int32} {x4 : Int32} {post : Int32 → (Nat → Int32) → Prop} (k_ta_counts : ∀ j, iv 0 2 (ta_counts j)) (k_tl0f_huts : iv 0 9 tl0f_huts) (k_tl0f_dams : iv 0 511 tl0f_dams) (k_tl0f_echoes : iv 0 4 tl0f_echoes) (k_tl0a_heights : ∀ j, iv 0 99 (tl0a_heights j)) (k_tl0a_minutes : ∀ j, iv 0 9 (tl0a_minutes j)) (k_tl0a_echoFrom : ∀ j, iv 0 8 (tl0a_echoFrom j)) (k_tl0a_echoTo : ∀ j, iv 0 8 (tl0a_echoTo j)) (k_tl1f_huts : iv 0 9 tl1f_huts) (k_tl1f_dams : iv 0 511 tl1f_dams) (k_tl1f_echoes : iv 0 4 tl1f_echoes) (k_tl1a_heights : ∀ j, iv 0 99 (tl1a_heights j)) (k_tl1a_minutes : ∀ j, iv 0 9 (tl1a_minutes j)) (k_tl1a_echoFrom : ∀ j, iv 0 8 (tl1a_echoFrom j)) (k_tl1a_echoTo : ∀ j, iv 0 8 (tl1a_echoTo j)) (k_pa_heard : ∀ j, iv 0 1000 (pa_heard j)) (hpost : ∀ (r : Int32) (pa_heard : Nat → Int32), iv (-1) 1000 r → (∀ j, iv 0 1000 (pa_heard j)) → post r pa_heard) : q_wx_X10_join_0 ta_counts tl0f_huts tl0f_dams tl0f_echoes tl0a_heights tl0a_minutes tl0a_echoFrom tl0a_echoTo tl1f_huts tl1f_dams tl1f_echoes tl1a_heights tl1a_minutes tl1a_echoFrom tl1a_echoTo pa_heard x1 x2 x3 x4 post := by
  refine ⟨fun c1 => ?_, fun c1 => ?_⟩
  · skip
    refine ⟨fun _ => ?_, fun h => absurd h (by decide), fun h0 h1 => absurd rfl h0⟩
    exact hpost _ _ (iv_w (iv_lit (l := (-1)) (h := (-1)) (by decide)) (by decide)) k_pa_heard
  · skip
    refine ⟨fun c2 => ?_, fun c2 => ?_⟩
    · skip
      refine ⟨fun _ => ?_, fun h => absurd h (by decide), fun h0 h1 => absurd rfl h0⟩
      exact hpost _ _ (iv_w (iv_lit (l := (-1)) (h := (-1)) (by decide)) (by decide)) k_pa_heard
    · skip
      refine ⟨iv_in (iv_lta (l := 0) (h := 1) (r_nle c2) (iv_leb (l := 0) (h := 2147483647) (r_nlt c1) (iv_lit (l := 0) (h := 0) (by decide)) (iv_top x1) (by decide)) (k_ta_counts _) (by decide)) (by decide), fun hc => ?_, fun hc => ?_⟩
      · skip
        refine ⟨fun h => absurd h (by decide), fun h => absurd h (by decide), fun h0 h1 => ?_⟩
        refine ⟨fun c3 => ?_, fun c3 => ?_⟩
        · skip
          refine ⟨fun c4 => ?_, fun c4 => ?_⟩
          · skip
            refine ⟨fun c5 => ?_, fun c5 => ?_⟩
            · skip
              exact hpost _ _ (iv_w (iv_lit (l := (-1)) (h := (-1)) (by decide)) (by decide)) k_pa_heard
            · skip
              exact (iv_emp (iv_ne (l := 1) (h := 0) c5 (iv_lit (l := 0) (h := 0) (by decide)) (iv_lit (l := 0) (h := 0) (by decide)) (by decide)) (by decide)).elim
          · skip
            exact (iv_emp (iv_ne (l := 1) (h := 0) c4 (iv_lit (l := 0) (h := 0) (by decide)) (iv_lit (l := 0) (h := 0) (by decide)) (by decide)) (by decide)).elim
        · skip
          refine ⟨fun c6 => ?_, fun c6 => ?_⟩
          · skip
            refine ⟨fun c7 => ?_, fun c7 => ?_⟩
            · skip
              refine ⟨fun c8 => ?_, fun c8 => ?_⟩
              · skip
                exact hpost _ _ (iv_w (iv_lit (l := (-1)) (h := (-1)) (by decide)) (by decide)) k_pa_heard
              · skip
                exact (iv_emp (iv_ne (l := 1) (h := 0) c8 (iv_lit (l := 0) (h := 0) (by decide)) (iv_lit (l := 0) (h := 0) (by decide)) (by decide)) (by decide)).elim
            · skip
              exact (iv_emp (iv_ne (l := 1) (h := 0) c7 (iv_lit (l := 0) (h := 0) (by decide)) (iv_lit (l := 0) (h := 0) (by decide)) (by decide)) (by decide)).elim
          · skip
            refine ⟨fun c9 => ?_, fun c9 => ?_⟩
            · skip
              exact (iv_emp (iv_eqa (l := 1) (h := 0) c9 (iv_lit (l := 1) (h := 1) (by decide)) (iv_lit (l := 0) (h := 0) (by decide)) (by decide)) (by decide)).elim
            · skip
              refine ⟨fun c10 => ?_, fun c10 => ?_⟩
              · skip
                refine ⟨fun c11 => ?_, fun c11 => ?_⟩
                · skip
                  exact (iv_emp (iv_ne (l := 1) (h := 0) c11 (iv_lit (l := 0) (h := 0) (by decide)) (iv_lit (l := 0) (h := 0) (by decide)) (by decide)) (by decide)).elim
                · skip
                  refine ⟨fun c12 => ?_, fun c12 => ?_⟩
                  · skip
                    exact (iv_emp (iv_eqa (l := 1) (h := 0) c12 (iv_lit (l := 1) (h := 1) (by decide)) (iv_lit (l := 0) (h := 0) (by decide)) (by decide)) (by decide)).elim
                  · skip
                    refine ⟨fun c13 => ?_, fun c13 => ?_⟩
                    · skip
                      refine ⟨fun c14 => ?_, fun c14 => ?_⟩
                      · skip
                        refine ⟨fun c15 => ?_, fun c15 => ?_⟩
                        · skip
                          exact (iv_emp (iv_ne (l := 1) (h := 0) c15 (iv_lit (l := 0) (h := 0) (by decide)) (iv_lit (l := 0) (h := 0) (by decide)) (by decide)) (by decide)).elim
                        · skip
                          exact hpost _ _ (iv_w (iv_lit (l := (-1)) (h := (-1)) (by decide)) (by decide)) k_pa_heard
                      · skip
                        exact (iv_emp (iv_ne (l := 1) (h := 0) c14 (iv_lit (l := 0) (h := 0) (by decide)) (iv_lit (l := 0) (h := 0) (by decide)) (by decide)) (by decide)).elim
                    · skip
                      refine ⟨fun c16 => ?_, fun c16 => ?_⟩
                      · skip
                        refine ⟨fun c17 => ?_, fun c17 => ?_⟩
                        · skip
                          refine ⟨fun c18 => ?_, fun c18 => ?_⟩
                          · skip
                            exact (iv_emp (iv_ne (l := 1) (h := 0) c18 (iv_lit (l := 0) (h := 0) (by decide)) (iv_lit (l := 0) (h := 0) (by decide)) (by decide)) (by decide)).elim
                          · skip
                            exact hpost _ _ (iv_w (iv_lit (l := (-1)) (h := (-1)) (by decide)) (by decide)) k_pa_heard
                        · skip
                          exact (iv_emp (iv_ne (l := 1) (h := 0) c17 (iv_lit (l := 0) (h := 0) (by decide)) (iv_lit (l := 0) (h := 0) (by decide)) (by decide)) (by decide)).elim
                      · skip
                        refine ⟨fun c19 => ?_, fun c19 => ?_⟩
                        · skip
                          exact (iv_emp (iv_eqa (l := 1) (h := 0) c19 (iv_lit (l := 1) (h := 1) (by decide)) (iv_lit (l := 0) (h := 0) (by decide)) (by decide)) (by decide)).elim
                        · skip
                          refine ⟨fun c20 => ?_, fun c20 => ?_⟩
                          · skip
                            refine ⟨fun c21 => ?_, fun c21 => ?_⟩
                            · skip
                              exact (iv_emp (iv_ne (l := 1) (h := 0) c21 (iv_lit (l := 0) (h := 0) (by decide)) (iv_lit (l := 0) (h := 0) (by decide)) (by decide)) (by decide)).elim
                            · skip
                              refine ⟨fun c22 => ?_, fun c22 => ?_⟩
                              · skip
                                refine s_wp_X7_hear_9_0 k_pa_heard (iv_w (iv_ltb (l := 1) (h := 9) (r_nle c6) (iv_leb (l := 0) (h := 2147483647) (r_nlt c3) (iv_lit (l := 0) (h := 0) (by decide)) (iv_top x2) (by decide)) k_tl0f_huts (by decide)) (by decide)) k_tl0f_dams k_tl0f_echoes k_tl0a_heights k_tl0a_minutes k_tl0a_echoFrom k_tl0a_echoTo (fun o23 k_o23 => ?_)
                                refine s_wp_X7_together_9_1_0 k_o23 (iv_ltb (l := 1) (h := 9) (r_nle c6) (iv_leb (l := 0) (h := 2147483647) (r_nlt c3) (iv_lit (l := 0) (h := 0) (by decide)) (iv_top x2) (by decide)) k_tl0f_huts (by decide)) (iv_lta (l := 0) (h := 8) (r_nle c6) (iv_leb (l := 0) (h := 2147483647) (r_nlt c3) (iv_lit (l := 0) (h := 0) (by decide)) (iv_top x2) (by decide)) k_tl0f_huts (by decide)) (iv_lta (l := 0) (h := 8) (r_nle c16) (iv_leb (l := 0) (h := 2147483647) (r_nlt c13) (iv_lit (l := 0) (h := 0) (by decide)) (iv_top x3) (by decide)) (iv_ltb (l := 1) (h := 9) (r_nle c6) (iv_leb (l := 0) (h := 2147483647) (r_nlt c3) (iv_lit (l := 0) (h := 0) (by decide)) (iv_top x2) (by decide)) k_tl0f_huts (by decide)) (by decide)) (fun r24 hr24 => ?_)
                                exact hpost _ _ hr24 k_o23
                              · skip
                                exact (iv_emp (iv_eqa (l := 1) (h := 0) c22 (iv_lit (l := 1) (h := 1) (by decide)) (iv_lit (l := 0) (h := 0) (by decide)) (by decide)) (by decide)).elim
                          · skip
                            refine ⟨fun c25 => ?_, fun c25 => ?_⟩
                            · skip
                              refine ⟨fun c26 => ?_, fun c26 => ?_⟩
                              · skip
                                exact (iv_emp (iv_ne (l := 1) (h := 0) c26 (iv_lit (l := 0) (h := 0) (by decide)) (iv_lit (l := 0) (h := 0) (by decide)) (by decide)) (by decide)).elim
                              · skip
                                exact hpost _ _ (iv_w (iv_lit (l := (-1)) (h := (-1)) (by decide)) (by decide)) k_pa_heard
                            · skip
                              exact (iv_emp (iv_eqa (l := 1) (h := 0) c25 (iv_lit (l := 1) (h := 1) (by decide)) (iv_lit (l := 0) (h := 0) (by decide)) (by decide)) (by decide)).elim
              · skip
                refine ⟨fun c27 => ?_, fun c27 => ?_⟩
                · skip
                  refine ⟨fun c28 => ?_, fun c28 => ?_⟩
                  · skip
                    exact hpost _ _ (iv_w (iv_lit (l := (-1)) (h := (-1)) (by decide)) (by decide)) k_pa_heard
                  · skip
                    exact (iv_emp (iv_ne (l := 1) (h := 0) c28 (iv_lit (l := 0) (h := 0) (by decide)) (iv_lit (l := 0) (h := 0) (by decide)) (by decide)) (by decide)).elim
                · skip
                  exact (iv_emp (iv_eqa (l := 1) (h := 0) c27 (iv_lit (l := 1) (h := 1) (by decide)) (iv_lit (l := 0) (h := 0) (by decide)) (by decide)) (by decide)).elim
      · skip
        refine ⟨fun h => absurd h (by decide), fun _ => ?_, fun h0 h1 => absurd rfl h1⟩
        refine ⟨fun c29 => ?_, fun c29 => ?_⟩
        · skip
          refine ⟨fun c30 => ?_, fun c30 => ?_⟩
          · skip
            refine ⟨fun c31 => ?_, fun c31 => ?_⟩
            · skip
              exact hpost _ _ (iv_w (iv_lit (l := (-1)) (h := (-1)) (by decide)) (by decide)) k_pa_heard
            · skip
              exact (iv_emp (iv_ne (l := 1) (h := 0) c31 (iv_lit (l := 0) (h := 0) (by decide)) (iv_lit (l := 0) (h := 0) (by decide)) (by decide)) (by decide)).elim
          · skip
            exact (iv_emp (iv_ne (l := 1) (h := 0) c30 (iv_lit (l := 0) (h := 0) (by decide)) (iv_lit (l := 0) (h := 0) (by decide)) (by decide)) (by decide)).elim
        · skip
          refine ⟨fun c32 => ?_, fun c32 => ?_⟩
          · skip
            refine ⟨fun c33 => ?_, fun c33 => ?_⟩
            · skip
              refine ⟨fun c34 => ?_, fun c34 => ?_⟩
              · skip
                exact hpost _ _ (iv_w (iv_lit (l := (-1)) (h := (-1)) (by decide)) (by decide)) k_pa_heard
              · skip
                exact (iv_emp (iv_ne (l := 1) (h := 0) c34 (iv_lit (l := 0) (h := 0) (by decide)) (iv_lit (l := 0) (h := 0) (by decide)) (by decide)) (by decide)).elim
            · skip
              exact (iv_emp (iv_ne (l := 1) (h := 0) c33 (iv_lit (l := 0) (h := 0) (by decide)) (iv_lit (l := 0) (h := 0) (by decide)) (by decide)) (by decide)).elim
          · skip
            refine ⟨fun c35 => ?_, fun c35 => ?_⟩
            · skip
              exact (iv_emp (iv_eqa (l := 1) (h := 0) c35 (iv_lit (l := 1) (h := 1) (by decide)) (iv_lit (l := 0) (h := 0) (by decide)) (by decide)) (by decide)).elim
            · skip
              refine ⟨fun c36 => ?_, fun c36 => ?_⟩
              · skip
                refine ⟨fun c37 => ?_, fun c37 => ?_⟩
                · skip
                  exact (iv_emp (iv_ne (l := 1) (h := 0) c37 (iv_lit (l := 0) (h := 0) (by decide)) (iv_lit (l := 0) (h := 0) (by decide)) (by decide)) (by decide)).elim
                · skip
                  refine ⟨fun c38 => ?_, fun c38 => ?_⟩
                  · skip
                    exact (iv_emp (iv_eqa (l := 1) (h := 0) c38 (iv_lit (l := 1) (h := 1) (by decide)) (iv_lit (l := 0) (h := 0) (by decide)) (by decide)) (by decide)).elim
                  · skip
                    refine ⟨fun c39 => ?_, fun c39 => ?_⟩
                    · skip
                      refine ⟨fun c40 => ?_, fun c40 => ?_⟩
                      · skip
                        refine ⟨fun c41 => ?_, fun c41 => ?_⟩
                        · skip
                          exact (iv_emp (iv_ne (l := 1) (h := 0) c41 (iv_lit (l := 0) (h := 0) (by decide)) (iv_lit (l := 0) (h := 0) (by decide)) (by decide)) (by decide)).elim
                        · skip
                          exact hpost _ _ (iv_w (iv_lit (l := (-1)) (h := (-1)) (by decide)) (by decide)) k_pa_heard
                      · skip
                        exact (iv_emp (iv_ne (l := 1) (h := 0) c40 (iv_lit (l := 0) (h := 0) (by decide)) (iv_lit (l := 0) (h := 0) (by decide)) (by decide)) (by decide)).elim
                    · skip
                      refine ⟨fun c42 => ?_, fun c42 => ?_⟩
                      · skip
                        refine ⟨fun c43 => ?_, fun c43 => ?_⟩
                        · skip
                          refine ⟨fun c44 => ?_, fun c44 => ?_⟩
                          · skip
                            exact (iv_emp (iv_ne (l := 1) (h := 0) c44 (iv_lit (l := 0) (h := 0) (by decide)) (iv_lit (l := 0) (h := 0) (by decide)) (by decide)) (by decide)).elim
                          · skip
                            exact hpost _ _ (iv_w (iv_lit (l := (-1)) (h := (-1)) (by decide)) (by decide)) k_pa_heard
                        · skip
                          exact (iv_emp (iv_ne (l := 1) (h := 0) c43 (iv_lit (l := 0) (h := 0) (by decide)) (iv_lit (l := 0) (h := 0) (by decide)) (by decide)) (by decide)).elim
                      · skip
                        refine ⟨fun c45 => ?_, fun c45 => ?_⟩
                        · skip
                          exact (iv_emp (iv_eqa (l := 1) (h := 0) c45 (iv_lit (l := 1) (h := 1) (by decide)) (iv_lit (l := 0) (h := 0) (by decide)) (by decide)) (by decide)).elim
                        · skip
                          refine ⟨fun c46 => ?_, fun c46 => ?_⟩
                          · skip
                            refine ⟨fun c47 => ?_, fun c47 => ?_⟩
                            · skip
                              exact (iv_emp (iv_ne (l := 1) (h := 0) c47 (iv_lit (l := 0) (h := 0) (by decide)) (iv_lit (l := 0) (h := 0) (by decide)) (by decide)) (by decide)).elim
                            · skip
                              refine ⟨fun c48 => ?_, fun c48 => ?_⟩
                              · skip
                                refine s_wp_X7_hear_9_0 k_pa_heard (iv_w (iv_ltb (l := 1) (h := 9) (r_nle c32) (iv_leb (l := 0) (h := 2147483647) (r_nlt c29) (iv_lit (l := 0) (h := 0) (by decide)) (iv_top x2) (by decide)) k_tl1f_huts (by decide)) (by decide)) k_tl1f_dams k_tl1f_echoes k_tl1a_heights k_tl1a_minutes k_tl1a_echoFrom k_tl1a_echoTo (fun o49 k_o49 => ?_)
                                refine s_wp_X7_together_9_1_0 k_o49 (iv_ltb (l := 1) (h := 9) (r_nle c32) (iv_leb (l := 0) (h := 2147483647) (r_nlt c29) (iv_lit (l := 0) (h := 0) (by decide)) (iv_top x2) (by decide)) k_tl1f_huts (by decide)) (iv_lta (l := 0) (h := 8) (r_nle c32) (iv_leb (l := 0) (h := 2147483647) (r_nlt c29) (iv_lit (l := 0) (h := 0) (by decide)) (iv_top x2) (by decide)) k_tl1f_huts (by decide)) (iv_lta (l := 0) (h := 8) (r_nle c42) (iv_leb (l := 0) (h := 2147483647) (r_nlt c39) (iv_lit (l := 0) (h := 0) (by decide)) (iv_top x3) (by decide)) (iv_ltb (l := 1) (h := 9) (r_nle c32) (iv_leb (l := 0) (h := 2147483647) (r_nlt c29) (iv_lit (l := 0) (h := 0) (by decide)) (iv_top x2) (by decide)) k_tl1f_huts (by decide)) (by decide)) (fun r50 hr50 => ?_)
                                exact hpost _ _ hr50 k_o49
                              · skip
                                exact (iv_emp (iv_eqa (l := 1) (h := 0) c48 (iv_lit (l := 1) (h := 1) (by decide)) (iv_lit (l := 0) (h := 0) (by decide)) (by decide)) (by decide)).elim
                          · skip
                            refine ⟨fun c51 => ?_, fun c51 => ?_⟩
                            · skip
                              refine ⟨fun c52 => ?_, fun c52 => ?_⟩
                              · skip
                                exact (iv_emp (iv_ne (l := 1) (h := 0) c52 (iv_lit (l := 0) (h := 0) (by decide)) (iv_lit (l := 0) (h := 0) (by decide)) (by decide)) (by decide)).elim
                              · skip
                                exact hpost _ _ (iv_w (iv_lit (l := (-1)) (h := (-1)) (by decide)) (by decide)) k_pa_heard
                            · skip
                              exact (iv_emp (iv_eqa (l := 1) (h := 0) c51 (iv_lit (l := 1) (h := 1) (by decide)) (iv_lit (l := 0) (h := 0) (by decide)) (by decide)) (by decide)).elim
              · skip
                refine ⟨fun c53 => ?_, fun c53 => ?_⟩
                · skip
                  refine ⟨fun c54 => ?_, fun c54 => ?_⟩
                  · skip
                    exact hpost _ _ (iv_w (iv_lit (l := (-1)) (h := (-1)) (by decide)) (by decide)) k_pa_heard
                  · skip
                    exact (iv_emp (iv_ne (l := 1) (h := 0) c54 (iv_lit (l := 0) (h := 0) (by decide)) (iv_lit (l := 0) (h := 0) (by decide)) (by decide)) (by decide)).elim
                · skip
                  exact (iv_emp (iv_eqa (l := 1) (h := 0) c53 (iv_lit (l := 1) (h := 1) (by decide)) (iv_lit (l := 0) (h := 0) (by decide)) (by decide)) (by decide)).elim
-- wx_X10_slopes
set_option maxRecDepth 20000 in
theorem s_wx_X10_slopes_0 {ta_counts : Nat → Int32} {tl0f_huts : Int32} {tl0f_dams : Int32} {tl0f_echoes : Int32} {tl0a_heights : Nat → Int32} {tl0a_minutes : Nat → Int32} {tl0a_echoFrom : Nat → Int32} {tl0a_echoTo : Nat → Int32} {tl1f_huts : Int32} {tl1f_dams : Int32} {tl1f_echoes : Int32} {tl1a_heights : Nat → Int32} {tl1a_minutes : Nat → Int32} {tl1a_echoFrom : Nat → Int32} {tl1a_echoTo : Nat → Int32} {pa_heard : Nat → Int32} {pa_total : Nat → Int32} {pa_longest : Nat → Int32} {pa_now : Nat → Int32} {pa_then : Nat → Int32} {x1 : Int32} {x2 : Int32} {post : Int32 → (Nat → Int32) → (Nat → Int32) → (Nat → Int32) → (Nat → Int32) → (Nat → Int32) → Prop} (k_ta_counts : ∀ j, iv 0 2 (ta_counts j)) (k_tl0f_huts : iv 0 9 tl0f_huts) (k_tl0f_dams : iv 0 511 tl0f_dams) (k_tl0f_echoes : iv 0 4 tl0f_echoes) (k_tl0a_heights : ∀ j, iv 0 99 (tl0a_heights j)) (k_tl0a_minutes : ∀ j, iv 0 9 (tl0a_minutes j)) (k_tl0a_echoFrom : ∀ j, iv 0 8 (tl0a_echoFrom j)) (k_tl0a_echoTo : ∀ j, iv 0 8 (tl0a_echoTo j)) (k_tl1f_huts : iv 0 9 tl1f_huts) (k_tl1f_dams : iv 0 511 tl1f_dams) (k_tl1f_echoes : iv 0 4 tl1f_echoes) (k_tl1a_heights : ∀ j, iv 0 99 (tl1a_heights j)) (k_tl1a_minutes : ∀ j, iv 0 9 (tl1a_minutes j)) (k_tl1a_echoFrom : ∀ j, iv 0 8 (tl1a_echoFrom j)) (k_tl1a_echoTo : ∀ j, iv 0 8 (tl1a_echoTo j)) (k_pa_heard : ∀ j, iv 0 1000 (pa_heard j)) (k_pa_longest : ∀ j, iv 0 8 (pa_longest j)) (hpost : ∀ (r : Int32) (pa_heard : Nat → Int32) (pa_total : Nat → Int32) (pa_longest : Nat → Int32) (pa_now : Nat → Int32) (pa_then : Nat → Int32), (∀ j, iv 0 1000 (pa_heard j)) → (∀ j, iv 0 8 (pa_longest j)) → post r pa_heard pa_total pa_longest pa_now pa_then) : q_wx_X10_slopes_0 ta_counts tl0f_huts tl0f_dams tl0f_echoes tl0a_heights tl0a_minutes tl0a_echoFrom tl0a_echoTo tl1f_huts tl1f_dams tl1f_echoes tl1a_heights tl1a_minutes tl1a_echoFrom tl1a_echoTo pa_heard pa_total pa_longest pa_now pa_then x1 x2 post := by
  refine ⟨fun c1 => ?_, fun c1 => ?_⟩
  · skip
    refine ⟨fun _ => ?_, fun h => absurd h (by decide), fun h0 h1 => absurd rfl h0⟩
    exact hpost _ _ _ _ _ _ k_pa_heard k_pa_longest
  · skip
    refine ⟨fun c2 => ?_, fun c2 => ?_⟩
    · skip
      refine ⟨fun _ => ?_, fun h => absurd h (by decide), fun h0 h1 => absurd rfl h0⟩
      exact hpost _ _ _ _ _ _ k_pa_heard k_pa_longest
    · skip
      refine ⟨iv_in (iv_lta (l := 0) (h := 1) (r_nle c2) (iv_leb (l := 0) (h := 2147483647) (r_nlt c1) (iv_lit (l := 0) (h := 0) (by decide)) (iv_top x1) (by decide)) (k_ta_counts _) (by decide)) (by decide), fun hc => ?_, fun hc => ?_⟩
      · skip
        refine ⟨fun h => absurd h (by decide), fun h => absurd h (by decide), fun h0 h1 => ?_⟩
        refine s_wp_X7_hear_9_0 k_pa_heard k_tl0f_huts k_tl0f_dams k_tl0f_echoes k_tl0a_heights k_tl0a_minutes k_tl0a_echoFrom k_tl0a_echoTo (fun o3 k_o3 => ?_)
        refine ⟨fun c4 => ?_, fun c4 => ?_, fun c4 => ?_, fun c4 => ?_, fun c4 => ?_⟩
        · skip
          exact hpost _ _ _ _ _ _ k_o3 k_pa_longest
        · skip
          refine s_wp_X7_tops_9_0 k_o3 k_tl0f_huts (fun r5 hr5 => ?_)
          exact hpost _ _ _ _ _ _ k_o3 k_pa_longest
        · skip
          refine s_wp_X7_ends_9_0 k_o3 k_tl0f_huts k_tl0f_dams (fun r6 hr6 => ?_)
          exact hpost _ _ _ _ _ _ k_o3 k_pa_longest
        · skip
          refine s_wp_X7_couples_9_0 k_o3 k_tl0f_huts (fun r7 => ?_)
          exact hpost _ _ _ _ _ _ k_o3 k_pa_longest
        · skip
          refine s_wp_X7_depth_9_0 k_pa_longest k_tl0f_huts k_tl0f_dams k_tl0a_heights k_tl0a_minutes (fun r8 o9 o10 o11 o12 hr8 k_o10 => ?_)
          exact hpost _ _ _ _ _ _ k_o3 k_o10
      · skip
        refine ⟨fun h => absurd h (by decide), fun _ => ?_, fun h0 h1 => absurd rfl h1⟩
        refine s_wp_X7_hear_9_0 k_pa_heard k_tl1f_huts k_tl1f_dams k_tl1f_echoes k_tl1a_heights k_tl1a_minutes k_tl1a_echoFrom k_tl1a_echoTo (fun o13 k_o13 => ?_)
        refine ⟨fun c14 => ?_, fun c14 => ?_, fun c14 => ?_, fun c14 => ?_, fun c14 => ?_⟩
        · skip
          exact hpost _ _ _ _ _ _ k_o13 k_pa_longest
        · skip
          refine s_wp_X7_tops_9_0 k_o13 k_tl1f_huts (fun r15 hr15 => ?_)
          exact hpost _ _ _ _ _ _ k_o13 k_pa_longest
        · skip
          refine s_wp_X7_ends_9_0 k_o13 k_tl1f_huts k_tl1f_dams (fun r16 hr16 => ?_)
          exact hpost _ _ _ _ _ _ k_o13 k_pa_longest
        · skip
          refine s_wp_X7_couples_9_0 k_o13 k_tl1f_huts (fun r17 => ?_)
          exact hpost _ _ _ _ _ _ k_o13 k_pa_longest
        · skip
          refine s_wp_X7_depth_9_0 k_pa_longest k_tl1f_huts k_tl1f_dams k_tl1a_heights k_tl1a_minutes (fun r18 o19 o20 o21 o22 hr18 k_o20 => ?_)
          exact hpost _ _ _ _ _ _ k_o13 k_o20
-- wx_X10_flood
set_option maxRecDepth 20000 in
theorem s_wx_X10_flood_70 {ta_counts : Nat → Int32} {tl0f_huts : Int32} {tl0f_dams : Int32} {tl0f_echoes : Int32} {tl0a_heights : Nat → Int32} {tl0a_minutes : Nat → Int32} {tl0a_echoFrom : Nat → Int32} {tl0a_echoTo : Nat → Int32} {tl1f_huts : Int32} {tl1f_dams : Int32} {tl1f_echoes : Int32} {tl1a_heights : Nat → Int32} {tl1a_minutes : Nat → Int32} {tl1a_echoFrom : Nat → Int32} {tl1a_echoTo : Nat → Int32} {pa_next : Nat → Int32} {x6 : Int32} {post : Int32 → (Nat → Int32) → Prop} (k_ta_counts : ∀ j, iv 0 2 (ta_counts j)) (k_tl0f_huts : iv 0 9 tl0f_huts) (k_tl0f_dams : iv 0 511 tl0f_dams) (k_tl0f_echoes : iv 0 4 tl0f_echoes) (k_tl0a_heights : ∀ j, iv 0 99 (tl0a_heights j)) (k_tl0a_minutes : ∀ j, iv 0 9 (tl0a_minutes j)) (k_tl0a_echoFrom : ∀ j, iv 0 8 (tl0a_echoFrom j)) (k_tl0a_echoTo : ∀ j, iv 0 8 (tl0a_echoTo j)) (k_tl1f_huts : iv 0 9 tl1f_huts) (k_tl1f_dams : iv 0 511 tl1f_dams) (k_tl1f_echoes : iv 0 4 tl1f_echoes) (k_tl1a_heights : ∀ j, iv 0 99 (tl1a_heights j)) (k_tl1a_minutes : ∀ j, iv 0 9 (tl1a_minutes j)) (k_tl1a_echoFrom : ∀ j, iv 0 8 (tl1a_echoFrom j)) (k_tl1a_echoTo : ∀ j, iv 0 8 (tl1a_echoTo j)) (k_pa_next : ∀ j, iv 0 511 (pa_next j)) (hx6 : iv (-1) 511 x6) (hpost : ∀ (r : Int32) (pa_next : Nat → Int32), iv (-1) 511 r → (∀ j, iv 0 511 (pa_next j)) → post r pa_next) : q_wx_X10_flood_70 ta_counts tl0f_huts tl0f_dams tl0f_echoes tl0a_heights tl0a_minutes tl0a_echoFrom tl0a_echoTo tl1f_huts tl1f_dams tl1f_echoes tl1a_heights tl1a_minutes tl1a_echoFrom tl1a_echoTo pa_next x6 post := by
  exact hpost _ _ hx6 k_pa_next
set_option maxRecDepth 20000 in
theorem s_wx_X10_flood_0 {ta_counts : Nat → Int32} {tl0f_huts : Int32} {tl0f_dams : Int32} {tl0f_echoes : Int32} {tl0a_heights : Nat → Int32} {tl0a_minutes : Nat → Int32} {tl0a_echoFrom : Nat → Int32} {tl0a_echoTo : Nat → Int32} {tl1f_huts : Int32} {tl1f_dams : Int32} {tl1f_echoes : Int32} {tl1a_heights : Nat → Int32} {tl1a_minutes : Nat → Int32} {tl1a_echoFrom : Nat → Int32} {tl1a_echoTo : Nat → Int32} {pa_next : Nat → Int32} {x1 : Int32} {x2 : Int32} {x3 : Int32} {x4 : Int32} {post : Int32 → (Nat → Int32) → Prop} (k_ta_counts : ∀ j, iv 0 2 (ta_counts j)) (k_tl0f_huts : iv 0 9 tl0f_huts) (k_tl0f_dams : iv 0 511 tl0f_dams) (k_tl0f_echoes : iv 0 4 tl0f_echoes) (k_tl0a_heights : ∀ j, iv 0 99 (tl0a_heights j)) (k_tl0a_minutes : ∀ j, iv 0 9 (tl0a_minutes j)) (k_tl0a_echoFrom : ∀ j, iv 0 8 (tl0a_echoFrom j)) (k_tl0a_echoTo : ∀ j, iv 0 8 (tl0a_echoTo j)) (k_tl1f_huts : iv 0 9 tl1f_huts) (k_tl1f_dams : iv 0 511 tl1f_dams) (k_tl1f_echoes : iv 0 4 tl1f_echoes) (k_tl1a_heights : ∀ j, iv 0 99 (tl1a_heights j)) (k_tl1a_minutes : ∀ j, iv 0 9 (tl1a_minutes j)) (k_tl1a_echoFrom : ∀ j, iv 0 8 (tl1a_echoFrom j)) (k_tl1a_echoTo : ∀ j, iv 0 8 (tl1a_echoTo j)) (k_pa_next : ∀ j, iv 0 511 (pa_next j)) (hpost : ∀ (r : Int32) (pa_next : Nat → Int32), iv (-1) 511 r → (∀ j, iv 0 511 (pa_next j)) → post r pa_next) : q_wx_X10_flood_0 ta_counts tl0f_huts tl0f_dams tl0f_echoes tl0a_heights tl0a_minutes tl0a_echoFrom tl0a_echoTo tl1f_huts tl1f_dams tl1f_echoes tl1a_heights tl1a_minutes tl1a_echoFrom tl1a_echoTo pa_next x1 x2 x3 x4 post := by
  refine ⟨fun c1 => ?_, fun c1 => ?_⟩
  · skip
    refine ⟨fun _ => ?_, fun h => absurd h (by decide), fun h0 h1 => absurd rfl h0⟩
    exact hpost _ _ (iv_w (iv_lit (l := (-1)) (h := (-1)) (by decide)) (by decide)) k_pa_next
  · skip
    refine ⟨fun c2 => ?_, fun c2 => ?_⟩
    · skip
      refine ⟨fun _ => ?_, fun h => absurd h (by decide), fun h0 h1 => absurd rfl h0⟩
      exact hpost _ _ (iv_w (iv_lit (l := (-1)) (h := (-1)) (by decide)) (by decide)) k_pa_next
    · skip
      refine ⟨iv_in (iv_lta (l := 0) (h := 1) (r_nle c2) (iv_leb (l := 0) (h := 2147483647) (r_nlt c1) (iv_lit (l := 0) (h := 0) (by decide)) (iv_top x1) (by decide)) (k_ta_counts _) (by decide)) (by decide), fun hc => ?_, fun hc => ?_⟩
      · skip
        refine ⟨fun h => absurd h (by decide), fun h => absurd h (by decide), fun h0 h1 => ?_⟩
        refine ⟨fun c3 => ?_, fun c3 => ?_⟩
        · skip
          refine ⟨fun c4 => ?_, fun c4 => ?_⟩
          · skip
            refine ⟨fun c5 => ?_, fun c5 => ?_⟩
            · skip
              exact hpost _ _ (iv_w (iv_lit (l := (-1)) (h := (-1)) (by decide)) (by decide)) k_pa_next
            · skip
              exact (iv_emp (iv_ne (l := 1) (h := 0) c5 (iv_lit (l := 0) (h := 0) (by decide)) (iv_lit (l := 0) (h := 0) (by decide)) (by decide)) (by decide)).elim
          · skip
            exact (iv_emp (iv_ne (l := 1) (h := 0) c4 (iv_lit (l := 0) (h := 0) (by decide)) (iv_lit (l := 0) (h := 0) (by decide)) (by decide)) (by decide)).elim
        · skip
          refine ⟨fun c6 => ?_, fun c6 => ?_⟩
          · skip
            refine ⟨fun c7 => ?_, fun c7 => ?_⟩
            · skip
              refine ⟨fun c8 => ?_, fun c8 => ?_⟩
              · skip
                exact hpost _ _ (iv_w (iv_lit (l := (-1)) (h := (-1)) (by decide)) (by decide)) k_pa_next
              · skip
                exact (iv_emp (iv_ne (l := 1) (h := 0) c8 (iv_lit (l := 0) (h := 0) (by decide)) (iv_lit (l := 0) (h := 0) (by decide)) (by decide)) (by decide)).elim
            · skip
              exact (iv_emp (iv_ne (l := 1) (h := 0) c7 (iv_lit (l := 0) (h := 0) (by decide)) (iv_lit (l := 0) (h := 0) (by decide)) (by decide)) (by decide)).elim
          · skip
            refine ⟨fun c9 => ?_, fun c9 => ?_⟩
            · skip
              exact (iv_emp (iv_eqa (l := 1) (h := 0) c9 (iv_lit (l := 1) (h := 1) (by decide)) (iv_lit (l := 0) (h := 0) (by decide)) (by decide)) (by decide)).elim
            · skip
              refine ⟨fun c10 => ?_, fun c10 => ?_⟩
              · skip
                refine ⟨fun c11 => ?_, fun c11 => ?_⟩
                · skip
                  exact (iv_emp (iv_ne (l := 1) (h := 0) c11 (iv_lit (l := 0) (h := 0) (by decide)) (iv_lit (l := 0) (h := 0) (by decide)) (by decide)) (by decide)).elim
                · skip
                  refine ⟨fun c12 => ?_, fun c12 => ?_⟩
                  · skip
                    exact (iv_emp (iv_eqa (l := 1) (h := 0) c12 (iv_lit (l := 1) (h := 1) (by decide)) (iv_lit (l := 0) (h := 0) (by decide)) (by decide)) (by decide)).elim
                  · skip
                    refine ⟨fun c13 => ?_, fun c13 => ?_⟩
                    · skip
                      refine ⟨fun c14 => ?_, fun c14 => ?_⟩
                      · skip
                        refine ⟨fun c15 => ?_, fun c15 => ?_⟩
                        · skip
                          exact hpost _ _ (iv_w (iv_lit (l := (-1)) (h := (-1)) (by decide)) (by decide)) k_pa_next
                        · skip
                          exact (iv_emp (iv_ne (l := 1) (h := 0) c15 (iv_lit (l := 0) (h := 0) (by decide)) (iv_lit (l := 0) (h := 0) (by decide)) (by decide)) (by decide)).elim
                      · skip
                        exact (iv_emp (iv_ne (l := 1) (h := 0) c14 (iv_lit (l := 0) (h := 0) (by decide)) (iv_lit (l := 0) (h := 0) (by decide)) (by decide)) (by decide)).elim
                    · skip
                      refine ⟨fun c16 => ?_, fun c16 => ?_⟩
                      · skip
                        refine ⟨fun c17 => ?_, fun c17 => ?_⟩
                        · skip
                          refine ⟨fun c18 => ?_, fun c18 => ?_⟩
                          · skip
                            exact hpost _ _ (iv_w (iv_lit (l := (-1)) (h := (-1)) (by decide)) (by decide)) k_pa_next
                          · skip
                            exact (iv_emp (iv_ne (l := 1) (h := 0) c18 (iv_lit (l := 0) (h := 0) (by decide)) (iv_lit (l := 0) (h := 0) (by decide)) (by decide)) (by decide)).elim
                        · skip
                          exact (iv_emp (iv_ne (l := 1) (h := 0) c17 (iv_lit (l := 0) (h := 0) (by decide)) (iv_lit (l := 0) (h := 0) (by decide)) (by decide)) (by decide)).elim
                      · skip
                        refine ⟨fun c19 => ?_, fun c19 => ?_⟩
                        · skip
                          exact (iv_emp (iv_eqa (l := 1) (h := 0) c19 (iv_lit (l := 1) (h := 1) (by decide)) (iv_lit (l := 0) (h := 0) (by decide)) (by decide)) (by decide)).elim
                        · skip
                          refine ⟨fun c20 => ?_, fun c20 => ?_⟩
                          · skip
                            refine ⟨fun c21 => ?_, fun c21 => ?_⟩
                            · skip
                              exact (iv_emp (iv_ne (l := 1) (h := 0) c21 (iv_lit (l := 0) (h := 0) (by decide)) (iv_lit (l := 0) (h := 0) (by decide)) (by decide)) (by decide)).elim
                            · skip
                              refine ⟨fun c22 => ?_, fun c22 => ?_⟩
                              · skip
                                exact (iv_emp (iv_eqa (l := 1) (h := 0) c22 (iv_lit (l := 1) (h := 1) (by decide)) (iv_lit (l := 0) (h := 0) (by decide)) (by decide)) (by decide)).elim
                              · skip
                                refine ⟨fun c23 => ?_, fun c23 => ?_⟩
                                · skip
                                  refine s_wp_X7_link_9_0 k_pa_next (iv_ltb (l := 1) (h := 9) (r_nle c6) (iv_leb (l := 0) (h := 2147483647) (r_nlt c3) (iv_lit (l := 0) (h := 0) (by decide)) (iv_top x2) (by decide)) k_tl0f_huts (by decide)) k_tl0f_dams k_tl0f_echoes k_tl0a_heights k_tl0a_minutes k_tl0a_echoFrom k_tl0a_echoTo (fun o24 k_o24 => ?_)
                                  refine s_wp_X7_fewestDams_9_0 k_o24 (iv_ltb (l := 1) (h := 9) (r_nle c6) (iv_leb (l := 0) (h := 2147483647) (r_nlt c3) (iv_lit (l := 0) (h := 0) (by decide)) (iv_top x2) (by decide)) k_tl0f_huts (by decide)) k_tl0f_dams (iv_lta (l := 0) (h := 8) (r_nle c6) (iv_leb (l := 0) (h := 2147483647) (r_nlt c3) (iv_lit (l := 0) (h := 0) (by decide)) (iv_top x2) (by decide)) k_tl0f_huts (by decide)) (iv_lta (l := 0) (h := 8) (r_nle c16) (iv_leb (l := 0) (h := 2147483647) (r_nlt c13) (iv_lit (l := 0) (h := 0) (by decide)) (iv_top x3) (by decide)) (iv_ltb (l := 1) (h := 9) (r_nle c6) (iv_leb (l := 0) (h := 2147483647) (r_nlt c3) (iv_lit (l := 0) (h := 0) (by decide)) (iv_top x2) (by decide)) k_tl0f_huts (by decide)) (by decide)) (fun r25 hr25 => ?_)
                                  refine ⟨fun c26 => ?_, fun c26 => ?_⟩
                                  · skip
                                    exact s_wx_X10_flood_70 k_ta_counts (iv_w (iv_ltb (l := 1) (h := 9) (r_nle c6) (iv_leb (l := 0) (h := 2147483647) (r_nlt c3) (iv_lit (l := 0) (h := 0) (by decide)) (iv_top x2) (by decide)) k_tl0f_huts (by decide)) (by decide)) k_tl0f_dams k_tl0f_echoes k_tl0a_heights k_tl0a_minutes k_tl0a_echoFrom k_tl0a_echoTo k_tl1f_huts k_tl1f_dams k_tl1f_echoes k_tl1a_heights k_tl1a_minutes k_tl1a_echoFrom k_tl1a_echoTo k_o24 (iv_w (iv_eqa (l := (-1)) (h := (-1)) c26 hr25 (iv_lit (l := (-1)) (h := (-1)) (by decide)) (by decide)) (by decide)) hpost
                                  · skip
                                    refine ⟨fun c27 => ?_, fun c27 => ?_⟩
                                    · skip
                                      refine s_z_J6_bitCount_0f7a4_0 (iv_w (iv_ne (l := 0) (h := 511) c26 hr25 (iv_lit (l := (-1)) (h := (-1)) (by decide)) (by decide)) (by decide)) (fun r28 hr28 => ?_)
                                      exact hpost _ _ (iv_w hr28 (by decide)) k_o24
                                    · skip
                                      exact s_wx_X10_flood_70 k_ta_counts (iv_w (iv_ltb (l := 1) (h := 9) (r_nle c6) (iv_leb (l := 0) (h := 2147483647) (r_nlt c3) (iv_lit (l := 0) (h := 0) (by decide)) (iv_top x2) (by decide)) k_tl0f_huts (by decide)) (by decide)) k_tl0f_dams k_tl0f_echoes k_tl0a_heights k_tl0a_minutes k_tl0a_echoFrom k_tl0a_echoTo k_tl1f_huts k_tl1f_dams k_tl1f_echoes k_tl1a_heights k_tl1a_minutes k_tl1a_echoFrom k_tl1a_echoTo k_o24 (iv_w (iv_ne (l := 0) (h := 511) c26 hr25 (iv_lit (l := (-1)) (h := (-1)) (by decide)) (by decide)) (by decide)) hpost
                                · skip
                                  exact hpost _ _ (iv_w (iv_lit (l := (-1)) (h := (-1)) (by decide)) (by decide)) k_pa_next
                          · skip
                            refine ⟨fun c29 => ?_, fun c29 => ?_⟩
                            · skip
                              refine ⟨fun c30 => ?_, fun c30 => ?_⟩
                              · skip
                                exact hpost _ _ (iv_w (iv_lit (l := (-1)) (h := (-1)) (by decide)) (by decide)) k_pa_next
                              · skip
                                exact (iv_emp (iv_ne (l := 1) (h := 0) c30 (iv_lit (l := 0) (h := 0) (by decide)) (iv_lit (l := 0) (h := 0) (by decide)) (by decide)) (by decide)).elim
                            · skip
                              exact (iv_emp (iv_eqa (l := 1) (h := 0) c29 (iv_lit (l := 1) (h := 1) (by decide)) (iv_lit (l := 0) (h := 0) (by decide)) (by decide)) (by decide)).elim
              · skip
                refine ⟨fun c31 => ?_, fun c31 => ?_⟩
                · skip
                  refine ⟨fun c32 => ?_, fun c32 => ?_⟩
                  · skip
                    exact hpost _ _ (iv_w (iv_lit (l := (-1)) (h := (-1)) (by decide)) (by decide)) k_pa_next
                  · skip
                    exact (iv_emp (iv_ne (l := 1) (h := 0) c32 (iv_lit (l := 0) (h := 0) (by decide)) (iv_lit (l := 0) (h := 0) (by decide)) (by decide)) (by decide)).elim
                · skip
                  exact (iv_emp (iv_eqa (l := 1) (h := 0) c31 (iv_lit (l := 1) (h := 1) (by decide)) (iv_lit (l := 0) (h := 0) (by decide)) (by decide)) (by decide)).elim
      · skip
        refine ⟨fun h => absurd h (by decide), fun _ => ?_, fun h0 h1 => absurd rfl h1⟩
        refine ⟨fun c33 => ?_, fun c33 => ?_⟩
        · skip
          refine ⟨fun c34 => ?_, fun c34 => ?_⟩
          · skip
            refine ⟨fun c35 => ?_, fun c35 => ?_⟩
            · skip
              exact hpost _ _ (iv_w (iv_lit (l := (-1)) (h := (-1)) (by decide)) (by decide)) k_pa_next
            · skip
              exact (iv_emp (iv_ne (l := 1) (h := 0) c35 (iv_lit (l := 0) (h := 0) (by decide)) (iv_lit (l := 0) (h := 0) (by decide)) (by decide)) (by decide)).elim
          · skip
            exact (iv_emp (iv_ne (l := 1) (h := 0) c34 (iv_lit (l := 0) (h := 0) (by decide)) (iv_lit (l := 0) (h := 0) (by decide)) (by decide)) (by decide)).elim
        · skip
          refine ⟨fun c36 => ?_, fun c36 => ?_⟩
          · skip
            refine ⟨fun c37 => ?_, fun c37 => ?_⟩
            · skip
              refine ⟨fun c38 => ?_, fun c38 => ?_⟩
              · skip
                exact hpost _ _ (iv_w (iv_lit (l := (-1)) (h := (-1)) (by decide)) (by decide)) k_pa_next
              · skip
                exact (iv_emp (iv_ne (l := 1) (h := 0) c38 (iv_lit (l := 0) (h := 0) (by decide)) (iv_lit (l := 0) (h := 0) (by decide)) (by decide)) (by decide)).elim
            · skip
              exact (iv_emp (iv_ne (l := 1) (h := 0) c37 (iv_lit (l := 0) (h := 0) (by decide)) (iv_lit (l := 0) (h := 0) (by decide)) (by decide)) (by decide)).elim
          · skip
            refine ⟨fun c39 => ?_, fun c39 => ?_⟩
            · skip
              exact (iv_emp (iv_eqa (l := 1) (h := 0) c39 (iv_lit (l := 1) (h := 1) (by decide)) (iv_lit (l := 0) (h := 0) (by decide)) (by decide)) (by decide)).elim
            · skip
              refine ⟨fun c40 => ?_, fun c40 => ?_⟩
              · skip
                refine ⟨fun c41 => ?_, fun c41 => ?_⟩
                · skip
                  exact (iv_emp (iv_ne (l := 1) (h := 0) c41 (iv_lit (l := 0) (h := 0) (by decide)) (iv_lit (l := 0) (h := 0) (by decide)) (by decide)) (by decide)).elim
                · skip
                  refine ⟨fun c42 => ?_, fun c42 => ?_⟩
                  · skip
                    exact (iv_emp (iv_eqa (l := 1) (h := 0) c42 (iv_lit (l := 1) (h := 1) (by decide)) (iv_lit (l := 0) (h := 0) (by decide)) (by decide)) (by decide)).elim
                  · skip
                    refine ⟨fun c43 => ?_, fun c43 => ?_⟩
                    · skip
                      refine ⟨fun c44 => ?_, fun c44 => ?_⟩
                      · skip
                        refine ⟨fun c45 => ?_, fun c45 => ?_⟩
                        · skip
                          exact hpost _ _ (iv_w (iv_lit (l := (-1)) (h := (-1)) (by decide)) (by decide)) k_pa_next
                        · skip
                          exact (iv_emp (iv_ne (l := 1) (h := 0) c45 (iv_lit (l := 0) (h := 0) (by decide)) (iv_lit (l := 0) (h := 0) (by decide)) (by decide)) (by decide)).elim
                      · skip
                        exact (iv_emp (iv_ne (l := 1) (h := 0) c44 (iv_lit (l := 0) (h := 0) (by decide)) (iv_lit (l := 0) (h := 0) (by decide)) (by decide)) (by decide)).elim
                    · skip
                      refine ⟨fun c46 => ?_, fun c46 => ?_⟩
                      · skip
                        refine ⟨fun c47 => ?_, fun c47 => ?_⟩
                        · skip
                          refine ⟨fun c48 => ?_, fun c48 => ?_⟩
                          · skip
                            exact hpost _ _ (iv_w (iv_lit (l := (-1)) (h := (-1)) (by decide)) (by decide)) k_pa_next
                          · skip
                            exact (iv_emp (iv_ne (l := 1) (h := 0) c48 (iv_lit (l := 0) (h := 0) (by decide)) (iv_lit (l := 0) (h := 0) (by decide)) (by decide)) (by decide)).elim
                        · skip
                          exact (iv_emp (iv_ne (l := 1) (h := 0) c47 (iv_lit (l := 0) (h := 0) (by decide)) (iv_lit (l := 0) (h := 0) (by decide)) (by decide)) (by decide)).elim
                      · skip
                        refine ⟨fun c49 => ?_, fun c49 => ?_⟩
                        · skip
                          exact (iv_emp (iv_eqa (l := 1) (h := 0) c49 (iv_lit (l := 1) (h := 1) (by decide)) (iv_lit (l := 0) (h := 0) (by decide)) (by decide)) (by decide)).elim
                        · skip
                          refine ⟨fun c50 => ?_, fun c50 => ?_⟩
                          · skip
                            refine ⟨fun c51 => ?_, fun c51 => ?_⟩
                            · skip
                              exact (iv_emp (iv_ne (l := 1) (h := 0) c51 (iv_lit (l := 0) (h := 0) (by decide)) (iv_lit (l := 0) (h := 0) (by decide)) (by decide)) (by decide)).elim
                            · skip
                              refine ⟨fun c52 => ?_, fun c52 => ?_⟩
                              · skip
                                exact (iv_emp (iv_eqa (l := 1) (h := 0) c52 (iv_lit (l := 1) (h := 1) (by decide)) (iv_lit (l := 0) (h := 0) (by decide)) (by decide)) (by decide)).elim
                              · skip
                                refine ⟨fun c53 => ?_, fun c53 => ?_⟩
                                · skip
                                  refine s_wp_X7_link_9_0 k_pa_next (iv_ltb (l := 1) (h := 9) (r_nle c36) (iv_leb (l := 0) (h := 2147483647) (r_nlt c33) (iv_lit (l := 0) (h := 0) (by decide)) (iv_top x2) (by decide)) k_tl1f_huts (by decide)) k_tl1f_dams k_tl1f_echoes k_tl1a_heights k_tl1a_minutes k_tl1a_echoFrom k_tl1a_echoTo (fun o54 k_o54 => ?_)
                                  refine s_wp_X7_fewestDams_9_0 k_o54 (iv_ltb (l := 1) (h := 9) (r_nle c36) (iv_leb (l := 0) (h := 2147483647) (r_nlt c33) (iv_lit (l := 0) (h := 0) (by decide)) (iv_top x2) (by decide)) k_tl1f_huts (by decide)) k_tl1f_dams (iv_lta (l := 0) (h := 8) (r_nle c36) (iv_leb (l := 0) (h := 2147483647) (r_nlt c33) (iv_lit (l := 0) (h := 0) (by decide)) (iv_top x2) (by decide)) k_tl1f_huts (by decide)) (iv_lta (l := 0) (h := 8) (r_nle c46) (iv_leb (l := 0) (h := 2147483647) (r_nlt c43) (iv_lit (l := 0) (h := 0) (by decide)) (iv_top x3) (by decide)) (iv_ltb (l := 1) (h := 9) (r_nle c36) (iv_leb (l := 0) (h := 2147483647) (r_nlt c33) (iv_lit (l := 0) (h := 0) (by decide)) (iv_top x2) (by decide)) k_tl1f_huts (by decide)) (by decide)) (fun r55 hr55 => ?_)
                                  refine ⟨fun c56 => ?_, fun c56 => ?_⟩
                                  · skip
                                    exact s_wx_X10_flood_70 k_ta_counts k_tl0f_huts k_tl0f_dams k_tl0f_echoes k_tl0a_heights k_tl0a_minutes k_tl0a_echoFrom k_tl0a_echoTo (iv_w (iv_ltb (l := 1) (h := 9) (r_nle c36) (iv_leb (l := 0) (h := 2147483647) (r_nlt c33) (iv_lit (l := 0) (h := 0) (by decide)) (iv_top x2) (by decide)) k_tl1f_huts (by decide)) (by decide)) k_tl1f_dams k_tl1f_echoes k_tl1a_heights k_tl1a_minutes k_tl1a_echoFrom k_tl1a_echoTo k_o54 (iv_w (iv_eqa (l := (-1)) (h := (-1)) c56 hr55 (iv_lit (l := (-1)) (h := (-1)) (by decide)) (by decide)) (by decide)) hpost
                                  · skip
                                    refine ⟨fun c57 => ?_, fun c57 => ?_⟩
                                    · skip
                                      refine s_z_J6_bitCount_0f7a4_0 (iv_w (iv_ne (l := 0) (h := 511) c56 hr55 (iv_lit (l := (-1)) (h := (-1)) (by decide)) (by decide)) (by decide)) (fun r58 hr58 => ?_)
                                      exact hpost _ _ (iv_w hr58 (by decide)) k_o54
                                    · skip
                                      exact s_wx_X10_flood_70 k_ta_counts k_tl0f_huts k_tl0f_dams k_tl0f_echoes k_tl0a_heights k_tl0a_minutes k_tl0a_echoFrom k_tl0a_echoTo (iv_w (iv_ltb (l := 1) (h := 9) (r_nle c36) (iv_leb (l := 0) (h := 2147483647) (r_nlt c33) (iv_lit (l := 0) (h := 0) (by decide)) (iv_top x2) (by decide)) k_tl1f_huts (by decide)) (by decide)) k_tl1f_dams k_tl1f_echoes k_tl1a_heights k_tl1a_minutes k_tl1a_echoFrom k_tl1a_echoTo k_o54 (iv_w (iv_ne (l := 0) (h := 511) c56 hr55 (iv_lit (l := (-1)) (h := (-1)) (by decide)) (by decide)) (by decide)) hpost
                                · skip
                                  exact hpost _ _ (iv_w (iv_lit (l := (-1)) (h := (-1)) (by decide)) (by decide)) k_pa_next
                          · skip
                            refine ⟨fun c59 => ?_, fun c59 => ?_⟩
                            · skip
                              refine ⟨fun c60 => ?_, fun c60 => ?_⟩
                              · skip
                                exact hpost _ _ (iv_w (iv_lit (l := (-1)) (h := (-1)) (by decide)) (by decide)) k_pa_next
                              · skip
                                exact (iv_emp (iv_ne (l := 1) (h := 0) c60 (iv_lit (l := 0) (h := 0) (by decide)) (iv_lit (l := 0) (h := 0) (by decide)) (by decide)) (by decide)).elim
                            · skip
                              exact (iv_emp (iv_eqa (l := 1) (h := 0) c59 (iv_lit (l := 1) (h := 1) (by decide)) (iv_lit (l := 0) (h := 0) (by decide)) (by decide)) (by decide)).elim
              · skip
                refine ⟨fun c61 => ?_, fun c61 => ?_⟩
                · skip
                  refine ⟨fun c62 => ?_, fun c62 => ?_⟩
                  · skip
                    exact hpost _ _ (iv_w (iv_lit (l := (-1)) (h := (-1)) (by decide)) (by decide)) k_pa_next
                  · skip
                    exact (iv_emp (iv_ne (l := 1) (h := 0) c62 (iv_lit (l := 0) (h := 0) (by decide)) (iv_lit (l := 0) (h := 0) (by decide)) (by decide)) (by decide)).elim
                · skip
                  exact (iv_emp (iv_eqa (l := 1) (h := 0) c61 (iv_lit (l := 1) (h := 1) (by decide)) (iv_lit (l := 0) (h := 0) (by decide)) (by decide)) (by decide)).elim
-- wx_X10_teach
set_option maxRecDepth 20000 in
theorem s_wx_X10_teach_0 {ta_counts : Nat → Int32} {tl0f_huts : Int32} {tl0f_singers : Int32} {tl0f_dams : Int32} {tl0f_echoes : Int32} {tl0f_deep : Int32} {tl0a_heights : Nat → Int32} {tl0a_ladders : Nat → Int32} {tl0a_minutes : Nat → Int32} {tl0a_echoFrom : Nat → Int32} {tl0a_echoTo : Nat → Int32} {tl0a_homes : Nat → Int32} {tl0a_talls : Nat → Int32} {tl0a_known : Nat → Int32} {tl1f_huts : Int32} {tl1f_singers : Int32} {tl1f_dams : Int32} {tl1f_echoes : Int32} {tl1f_deep : Int32} {tl1a_heights : Nat → Int32} {tl1a_ladders : Nat → Int32} {tl1a_minutes : Nat → Int32} {tl1a_echoFrom : Nat → Int32} {tl1a_echoTo : Nat → Int32} {tl1a_homes : Nat → Int32} {tl1a_talls : Nat → Int32} {tl1a_known : Nat → Int32} {tv0f_deeds : Int32} {tv0a_kinds : Nat → Int32} {tv0a_firsts : Nat → Int32} {tv0a_seconds : Nat → Int32} {tv1f_deeds : Int32} {tv1a_kinds : Nat → Int32} {tv1a_firsts : Nat → Int32} {tv1a_seconds : Nat → Int32} {nf_minute : Int32} {nf_avalanches : Int32} {nf_begun : Int32} {nf_climbed : Int32} {na_huts : Nat → Int32} {na_known : Nat → Int32} {na_levels : Nat → Int32} {na_snow : Nat → Int32} {x1 : Int32} {x2 : Int32} {x3 : Int32} {x4 : Int32} {post : Int32 → (Int32) → (Int32) → (Int32) → (Int32) → (Nat → Int32) → (Nat → Int32) → (Nat → Int32) → (Nat → Int32) → Prop} (k_ta_counts : ∀ j, iv 0 2 (ta_counts j)) (k_tl0f_huts : iv 0 9 tl0f_huts) (k_tl0f_singers : iv 0 6 tl0f_singers) (k_tl0f_dams : iv 0 511 tl0f_dams) (k_tl0f_echoes : iv 0 4 tl0f_echoes) (k_tl0f_deep : iv 1 9 tl0f_deep) (k_tl0a_heights : ∀ j, iv 0 99 (tl0a_heights j)) (k_tl0a_ladders : ∀ j, iv 0 9 (tl0a_ladders j)) (k_tl0a_minutes : ∀ j, iv 0 9 (tl0a_minutes j)) (k_tl0a_echoFrom : ∀ j, iv 0 8 (tl0a_echoFrom j)) (k_tl0a_echoTo : ∀ j, iv 0 8 (tl0a_echoTo j)) (k_tl0a_homes : ∀ j, iv 0 8 (tl0a_homes j)) (k_tl0a_talls : ∀ j, iv 0 9 (tl0a_talls j)) (k_tl0a_known : ∀ j, iv 0 31 (tl0a_known j)) (k_tl1f_huts : iv 0 9 tl1f_huts) (k_tl1f_singers : iv 0 6 tl1f_singers) (k_tl1f_dams : iv 0 511 tl1f_dams) (k_tl1f_echoes : iv 0 4 tl1f_echoes) (k_tl1f_deep : iv 1 9 tl1f_deep) (k_tl1a_heights : ∀ j, iv 0 99 (tl1a_heights j)) (k_tl1a_ladders : ∀ j, iv 0 9 (tl1a_ladders j)) (k_tl1a_minutes : ∀ j, iv 0 9 (tl1a_minutes j)) (k_tl1a_echoFrom : ∀ j, iv 0 8 (tl1a_echoFrom j)) (k_tl1a_echoTo : ∀ j, iv 0 8 (tl1a_echoTo j)) (k_tl1a_homes : ∀ j, iv 0 8 (tl1a_homes j)) (k_tl1a_talls : ∀ j, iv 0 9 (tl1a_talls j)) (k_tl1a_known : ∀ j, iv 0 31 (tl1a_known j)) (k_tv0f_deeds : iv 0 40 tv0f_deeds) (k_tv0a_kinds : ∀ j, iv 0 5 (tv0a_kinds j)) (k_tv0a_firsts : ∀ j, iv 0 5 (tv0a_firsts j)) (k_tv0a_seconds : ∀ j, iv (-1) 8 (tv0a_seconds j)) (k_tv1f_deeds : iv 0 40 tv1f_deeds) (k_tv1a_kinds : ∀ j, iv 0 5 (tv1a_kinds j)) (k_tv1a_firsts : ∀ j, iv 0 5 (tv1a_firsts j)) (k_tv1a_seconds : ∀ j, iv (-1) 8 (tv1a_seconds j)) (k_nf_begun : iv 0 31 nf_begun) (k_nf_climbed : iv 0 63 nf_climbed) (k_na_huts : ∀ j, iv 0 8 (na_huts j)) (k_na_known : ∀ j, iv 0 31 (na_known j)) (k_na_levels : ∀ j, iv (-9) 122 (na_levels j)) (hpost : ∀ (r : Int32) (nf_minute : Int32) (nf_avalanches : Int32) (nf_begun : Int32) (nf_climbed : Int32) (na_huts : Nat → Int32) (na_known : Nat → Int32) (na_levels : Nat → Int32) (na_snow : Nat → Int32), iv (-1) 63 r → (iv 0 31 nf_begun) → (iv 0 63 nf_climbed) → (∀ j, iv 0 8 (na_huts j)) → (∀ j, iv 0 31 (na_known j)) → (∀ j, iv (-9) 122 (na_levels j)) → post r nf_minute nf_avalanches nf_begun nf_climbed na_huts na_known na_levels na_snow) : q_wx_X10_teach_0 ta_counts tl0f_huts tl0f_singers tl0f_dams tl0f_echoes tl0f_deep tl0a_heights tl0a_ladders tl0a_minutes tl0a_echoFrom tl0a_echoTo tl0a_homes tl0a_talls tl0a_known tl1f_huts tl1f_singers tl1f_dams tl1f_echoes tl1f_deep tl1a_heights tl1a_ladders tl1a_minutes tl1a_echoFrom tl1a_echoTo tl1a_homes tl1a_talls tl1a_known tv0f_deeds tv0a_kinds tv0a_firsts tv0a_seconds tv1f_deeds tv1a_kinds tv1a_firsts tv1a_seconds nf_minute nf_avalanches nf_begun nf_climbed na_huts na_known na_levels na_snow x1 x2 x3 x4 post := by
  refine ⟨fun c1 => ?_, fun c1 => ?_⟩
  · skip
    exact hpost _ _ _ _ _ _ _ _ _ (iv_w (iv_lit (l := (-1)) (h := (-1)) (by decide)) (by decide)) k_nf_begun k_nf_climbed k_na_huts k_na_known k_na_levels
  · skip
    refine ⟨fun c2 => ?_, fun c2 => ?_⟩
    · skip
      exact hpost _ _ _ _ _ _ _ _ _ (iv_w (iv_lit (l := (-1)) (h := (-1)) (by decide)) (by decide)) k_nf_begun k_nf_climbed k_na_huts k_na_known k_na_levels
    · skip
      refine ⟨fun c3 => ?_, fun c3 => ?_⟩
      · skip
        refine ⟨fun _ => ?_, fun h => absurd h (by decide), fun h0 h1 => absurd rfl h0⟩
        refine ⟨fun c4 => ?_, fun c4 => ?_⟩
        · skip
          refine ⟨fun _ => ?_, fun h => absurd h (by decide), fun h0 h1 => absurd rfl h0⟩
          refine ⟨fun c5 => ?_, fun c5 => ?_⟩
          · skip
            exact (iv_emp (iv_ne (l := 1) (h := 0) c5 (iv_lit (l := 0) (h := 0) (by decide)) (iv_lit (l := 0) (h := 0) (by decide)) (by decide)) (by decide)).elim
          · skip
            exact hpost _ _ _ _ _ _ _ _ _ (iv_w (iv_lit (l := (-1)) (h := (-1)) (by decide)) (by decide)) k_nf_begun k_nf_climbed k_na_huts k_na_known k_na_levels
        · skip
          refine ⟨fun c6 => ?_, fun c6 => ?_⟩
          · skip
            refine ⟨fun _ => ?_, fun h => absurd h (by decide), fun h0 h1 => absurd rfl h0⟩
            refine ⟨fun c7 => ?_, fun c7 => ?_⟩
            · skip
              exact (iv_emp (iv_ne (l := 1) (h := 0) c7 (iv_lit (l := 0) (h := 0) (by decide)) (iv_lit (l := 0) (h := 0) (by decide)) (by decide)) (by decide)).elim
            · skip
              exact hpost _ _ _ _ _ _ _ _ _ (iv_w (iv_lit (l := (-1)) (h := (-1)) (by decide)) (by decide)) k_nf_begun k_nf_climbed k_na_huts k_na_known k_na_levels
          · skip
            refine ⟨iv_in (iv_lta (l := 0) (h := 1) (r_nle c6) (iv_leb (l := 0) (h := 2147483647) (r_nlt c4) (iv_lit (l := 0) (h := 0) (by decide)) (iv_top x2) (by decide)) (k_ta_counts _) (by decide)) (by decide), fun hc => ?_, fun hc => ?_⟩
            · skip
              refine ⟨fun h => absurd h (by decide), fun h => absurd h (by decide), fun h0 h1 => ?_⟩
              refine ⟨fun c8 => ?_, fun c8 => ?_⟩
              · skip
                exact (iv_emp (iv_ne (l := 1) (h := 0) c8 (iv_lit (l := 0) (h := 0) (by decide)) (iv_lit (l := 0) (h := 0) (by decide)) (by decide)) (by decide)).elim
              · skip
                exact hpost _ _ _ _ _ _ _ _ _ (iv_w (iv_lit (l := (-1)) (h := (-1)) (by decide)) (by decide)) k_nf_begun k_nf_climbed k_na_huts k_na_known k_na_levels
            · skip
              refine ⟨fun h => absurd h (by decide), fun _ => ?_, fun h0 h1 => absurd rfl h1⟩
              refine ⟨fun c9 => ?_, fun c9 => ?_⟩
              · skip
                exact (iv_emp (iv_ne (l := 1) (h := 0) c9 (iv_lit (l := 0) (h := 0) (by decide)) (iv_lit (l := 0) (h := 0) (by decide)) (by decide)) (by decide)).elim
              · skip
                exact hpost _ _ _ _ _ _ _ _ _ (iv_w (iv_lit (l := (-1)) (h := (-1)) (by decide)) (by decide)) k_nf_begun k_nf_climbed k_na_huts k_na_known k_na_levels
      · skip
        refine ⟨fun c10 => ?_, fun c10 => ?_⟩
        · skip
          refine ⟨fun _ => ?_, fun h => absurd h (by decide), fun h0 h1 => absurd rfl h0⟩
          refine ⟨fun c11 => ?_, fun c11 => ?_⟩
          · skip
            refine ⟨fun _ => ?_, fun h => absurd h (by decide), fun h0 h1 => absurd rfl h0⟩
            refine ⟨fun c12 => ?_, fun c12 => ?_⟩
            · skip
              exact (iv_emp (iv_ne (l := 1) (h := 0) c12 (iv_lit (l := 0) (h := 0) (by decide)) (iv_lit (l := 0) (h := 0) (by decide)) (by decide)) (by decide)).elim
            · skip
              exact hpost _ _ _ _ _ _ _ _ _ (iv_w (iv_lit (l := (-1)) (h := (-1)) (by decide)) (by decide)) k_nf_begun k_nf_climbed k_na_huts k_na_known k_na_levels
          · skip
            refine ⟨fun c13 => ?_, fun c13 => ?_⟩
            · skip
              refine ⟨fun _ => ?_, fun h => absurd h (by decide), fun h0 h1 => absurd rfl h0⟩
              refine ⟨fun c14 => ?_, fun c14 => ?_⟩
              · skip
                exact (iv_emp (iv_ne (l := 1) (h := 0) c14 (iv_lit (l := 0) (h := 0) (by decide)) (iv_lit (l := 0) (h := 0) (by decide)) (by decide)) (by decide)).elim
              · skip
                exact hpost _ _ _ _ _ _ _ _ _ (iv_w (iv_lit (l := (-1)) (h := (-1)) (by decide)) (by decide)) k_nf_begun k_nf_climbed k_na_huts k_na_known k_na_levels
            · skip
              refine ⟨iv_in (iv_lta (l := 0) (h := 1) (r_nle c13) (iv_leb (l := 0) (h := 2147483647) (r_nlt c11) (iv_lit (l := 0) (h := 0) (by decide)) (iv_top x2) (by decide)) (k_ta_counts _) (by decide)) (by decide), fun hc => ?_, fun hc => ?_⟩
              · skip
                refine ⟨fun h => absurd h (by decide), fun h => absurd h (by decide), fun h0 h1 => ?_⟩
                refine ⟨fun c15 => ?_, fun c15 => ?_⟩
                · skip
                  exact (iv_emp (iv_ne (l := 1) (h := 0) c15 (iv_lit (l := 0) (h := 0) (by decide)) (iv_lit (l := 0) (h := 0) (by decide)) (by decide)) (by decide)).elim
                · skip
                  exact hpost _ _ _ _ _ _ _ _ _ (iv_w (iv_lit (l := (-1)) (h := (-1)) (by decide)) (by decide)) k_nf_begun k_nf_climbed k_na_huts k_na_known k_na_levels
              · skip
                refine ⟨fun h => absurd h (by decide), fun _ => ?_, fun h0 h1 => absurd rfl h1⟩
                refine ⟨fun c16 => ?_, fun c16 => ?_⟩
                · skip
                  exact (iv_emp (iv_ne (l := 1) (h := 0) c16 (iv_lit (l := 0) (h := 0) (by decide)) (iv_lit (l := 0) (h := 0) (by decide)) (by decide)) (by decide)).elim
                · skip
                  exact hpost _ _ _ _ _ _ _ _ _ (iv_w (iv_lit (l := (-1)) (h := (-1)) (by decide)) (by decide)) k_nf_begun k_nf_climbed k_na_huts k_na_known k_na_levels
        · skip
          refine ⟨iv_in (iv_lta (l := 0) (h := 1) (r_nle c10) (iv_leb (l := 0) (h := 2147483647) (r_nlt c3) (iv_lit (l := 0) (h := 0) (by decide)) (iv_top x1) (by decide)) (k_ta_counts _) (by decide)) (by decide), fun hc => ?_, fun hc => ?_⟩
          · skip
            refine ⟨fun h => absurd h (by decide), fun h => absurd h (by decide), fun h0 h1 => ?_⟩
            refine ⟨fun c17 => ?_, fun c17 => ?_⟩
            · skip
              refine ⟨fun _ => ?_, fun h => absurd h (by decide), fun h0 h1 => absurd rfl h0⟩
              refine ⟨fun c18 => ?_, fun c18 => ?_⟩
              · skip
                exact (iv_emp (iv_ne (l := 1) (h := 0) c18 (iv_lit (l := 0) (h := 0) (by decide)) (iv_lit (l := 0) (h := 0) (by decide)) (by decide)) (by decide)).elim
              · skip
                exact hpost _ _ _ _ _ _ _ _ _ (iv_w (iv_lit (l := (-1)) (h := (-1)) (by decide)) (by decide)) k_nf_begun k_nf_climbed k_na_huts k_na_known k_na_levels
            · skip
              refine ⟨fun c19 => ?_, fun c19 => ?_⟩
              · skip
                refine ⟨fun _ => ?_, fun h => absurd h (by decide), fun h0 h1 => absurd rfl h0⟩
                refine ⟨fun c20 => ?_, fun c20 => ?_⟩
                · skip
                  exact (iv_emp (iv_ne (l := 1) (h := 0) c20 (iv_lit (l := 0) (h := 0) (by decide)) (iv_lit (l := 0) (h := 0) (by decide)) (by decide)) (by decide)).elim
                · skip
                  exact hpost _ _ _ _ _ _ _ _ _ (iv_w (iv_lit (l := (-1)) (h := (-1)) (by decide)) (by decide)) k_nf_begun k_nf_climbed k_na_huts k_na_known k_na_levels
              · skip
                refine ⟨iv_in (iv_lta (l := 0) (h := 1) (r_nle c19) (iv_leb (l := 0) (h := 2147483647) (r_nlt c17) (iv_lit (l := 0) (h := 0) (by decide)) (iv_top x2) (by decide)) (k_ta_counts _) (by decide)) (by decide), fun hc => ?_, fun hc => ?_⟩
                · skip
                  refine ⟨fun h => absurd h (by decide), fun h => absurd h (by decide), fun h0 h1 => ?_⟩
                  refine ⟨fun c21 => ?_, fun c21 => ?_⟩
                  · skip
                    refine ⟨fun c22 => ?_, fun c22 => ?_⟩
                    · skip
                      exact (iv_emp (iv_ne (l := 1) (h := 0) c22 (iv_lit (l := 0) (h := 0) (by decide)) (iv_lit (l := 0) (h := 0) (by decide)) (by decide)) (by decide)).elim
                    · skip
                      exact hpost _ _ _ _ _ _ _ _ _ (iv_w (iv_lit (l := (-1)) (h := (-1)) (by decide)) (by decide)) k_nf_begun k_nf_climbed k_na_huts k_na_known k_na_levels
                  · skip
                    refine ⟨fun c23 => ?_, fun c23 => ?_⟩
                    · skip
                      refine s_wn_X3_play_6_15_0 k_nf_begun k_nf_climbed k_na_huts k_na_known k_na_levels k_tl0f_huts k_tl0f_singers k_tl0f_dams k_tl0f_echoes k_tl0f_deep k_tl0a_heights k_tl0a_ladders k_tl0a_minutes k_tl0a_echoFrom k_tl0a_echoTo k_tl0a_homes k_tl0a_talls k_tl0a_known k_tv0f_deeds k_tv0a_kinds k_tv0a_firsts k_tv0a_seconds (iv_lea (l := 0) (h := 40) (r_le c23) (iv_leb (l := 0) (h := 2147483647) (r_nlt c21) (iv_lit (l := 0) (h := 0) (by decide)) (iv_top x3) (by decide)) k_tv0f_deeds (by decide)) (fun r24 o25 o26 o27 o28 o29 o30 o31 o32 hr24 k_o27 k_o28 k_o29 k_o30 k_o31 => ?_)
                      refine ⟨fun c33 => ?_, fun c33 => ?_⟩
                      · skip
                        refine ⟨fun c34 => ?_, fun c34 => ?_⟩
                        · skip
                          exact (iv_emp (iv_ne (l := 1) (h := 0) c34 (iv_lit (l := 0) (h := 0) (by decide)) (iv_lit (l := 0) (h := 0) (by decide)) (by decide)) (by decide)).elim
                        · skip
                          exact hpost _ _ _ _ _ _ _ _ _ (iv_w (iv_lit (l := (-1)) (h := (-1)) (by decide)) (by decide)) k_o27 k_o28 k_o29 k_o30 k_o31
                      · skip
                        refine ⟨fun c35 => ?_, fun c35 => ?_⟩
                        · skip
                          refine ⟨iv_in (iv_lta (l := 0) (h := 1) (r_nle c10) (iv_leb (l := 0) (h := 2147483647) (r_nlt c3) (iv_lit (l := 0) (h := 0) (by decide)) (iv_top x1) (by decide)) (k_ta_counts _) (by decide)) (by decide), fun hc => ?_, fun hc => ?_⟩
                          · skip
                            refine s_wn_X3_fewestTimes_6_0 k_o27 k_o28 k_o29 k_o30 k_o31 k_tl0f_singers k_tl0f_dams k_tl0f_echoes k_tl0a_heights k_tl0a_ladders k_tl0a_echoFrom k_tl0a_echoTo k_tl0a_talls (iv_lta (l := 0) (h := 4) (r_nle c2) (iv_leb (l := 0) (h := 2147483647) (r_nlt c1) (iv_lit (l := 0) (h := 0) (by decide)) (iv_top x4) (by decide)) (iv_lit (l := 5) (h := 5) (by decide)) (by decide)) (fun r36 hr36 => ?_)
                            exact hpost _ _ _ _ _ _ _ _ _ hr36 k_o27 k_o28 k_o29 k_o30 k_o31
                          · skip
                            refine s_wn_X3_fewestTimes_6_0 k_o27 k_o28 k_o29 k_o30 k_o31 k_tl1f_singers k_tl1f_dams k_tl1f_echoes k_tl1a_heights k_tl1a_ladders k_tl1a_echoFrom k_tl1a_echoTo k_tl1a_talls (iv_lta (l := 0) (h := 4) (r_nle c2) (iv_leb (l := 0) (h := 2147483647) (r_nlt c1) (iv_lit (l := 0) (h := 0) (by decide)) (iv_top x4) (by decide)) (iv_lit (l := 5) (h := 5) (by decide)) (by decide)) (fun r37 hr37 => ?_)
                            exact hpost _ _ _ _ _ _ _ _ _ hr37 k_o27 k_o28 k_o29 k_o30 k_o31
                        · skip
                          exact (iv_emp (iv_eqa (l := 1) (h := 0) c35 (iv_lit (l := 1) (h := 1) (by decide)) (iv_lit (l := 0) (h := 0) (by decide)) (by decide)) (by decide)).elim
                    · skip
                      refine ⟨fun c38 => ?_, fun c38 => ?_⟩
                      · skip
                        exact (iv_emp (iv_ne (l := 1) (h := 0) c38 (iv_lit (l := 0) (h := 0) (by decide)) (iv_lit (l := 0) (h := 0) (by decide)) (by decide)) (by decide)).elim
                      · skip
                        exact hpost _ _ _ _ _ _ _ _ _ (iv_w (iv_lit (l := (-1)) (h := (-1)) (by decide)) (by decide)) k_nf_begun k_nf_climbed k_na_huts k_na_known k_na_levels
                · skip
                  refine ⟨fun h => absurd h (by decide), fun _ => ?_, fun h0 h1 => absurd rfl h1⟩
                  refine ⟨fun c39 => ?_, fun c39 => ?_⟩
                  · skip
                    refine ⟨fun c40 => ?_, fun c40 => ?_⟩
                    · skip
                      exact (iv_emp (iv_ne (l := 1) (h := 0) c40 (iv_lit (l := 0) (h := 0) (by decide)) (iv_lit (l := 0) (h := 0) (by decide)) (by decide)) (by decide)).elim
                    · skip
                      exact hpost _ _ _ _ _ _ _ _ _ (iv_w (iv_lit (l := (-1)) (h := (-1)) (by decide)) (by decide)) k_nf_begun k_nf_climbed k_na_huts k_na_known k_na_levels
                  · skip
                    refine ⟨fun c41 => ?_, fun c41 => ?_⟩
                    · skip
                      refine s_wn_X3_play_6_15_0 k_nf_begun k_nf_climbed k_na_huts k_na_known k_na_levels k_tl0f_huts k_tl0f_singers k_tl0f_dams k_tl0f_echoes k_tl0f_deep k_tl0a_heights k_tl0a_ladders k_tl0a_minutes k_tl0a_echoFrom k_tl0a_echoTo k_tl0a_homes k_tl0a_talls k_tl0a_known k_tv1f_deeds k_tv1a_kinds k_tv1a_firsts k_tv1a_seconds (iv_lea (l := 0) (h := 40) (r_le c41) (iv_leb (l := 0) (h := 2147483647) (r_nlt c39) (iv_lit (l := 0) (h := 0) (by decide)) (iv_top x3) (by decide)) k_tv1f_deeds (by decide)) (fun r42 o43 o44 o45 o46 o47 o48 o49 o50 hr42 k_o45 k_o46 k_o47 k_o48 k_o49 => ?_)
                      refine ⟨fun c51 => ?_, fun c51 => ?_⟩
                      · skip
                        refine ⟨fun c52 => ?_, fun c52 => ?_⟩
                        · skip
                          exact (iv_emp (iv_ne (l := 1) (h := 0) c52 (iv_lit (l := 0) (h := 0) (by decide)) (iv_lit (l := 0) (h := 0) (by decide)) (by decide)) (by decide)).elim
                        · skip
                          exact hpost _ _ _ _ _ _ _ _ _ (iv_w (iv_lit (l := (-1)) (h := (-1)) (by decide)) (by decide)) k_o45 k_o46 k_o47 k_o48 k_o49
                      · skip
                        refine ⟨fun c53 => ?_, fun c53 => ?_⟩
                        · skip
                          refine ⟨iv_in (iv_lta (l := 0) (h := 1) (r_nle c10) (iv_leb (l := 0) (h := 2147483647) (r_nlt c3) (iv_lit (l := 0) (h := 0) (by decide)) (iv_top x1) (by decide)) (k_ta_counts _) (by decide)) (by decide), fun hc => ?_, fun hc => ?_⟩
                          · skip
                            refine s_wn_X3_fewestTimes_6_0 k_o45 k_o46 k_o47 k_o48 k_o49 k_tl0f_singers k_tl0f_dams k_tl0f_echoes k_tl0a_heights k_tl0a_ladders k_tl0a_echoFrom k_tl0a_echoTo k_tl0a_talls (iv_lta (l := 0) (h := 4) (r_nle c2) (iv_leb (l := 0) (h := 2147483647) (r_nlt c1) (iv_lit (l := 0) (h := 0) (by decide)) (iv_top x4) (by decide)) (iv_lit (l := 5) (h := 5) (by decide)) (by decide)) (fun r54 hr54 => ?_)
                            exact hpost _ _ _ _ _ _ _ _ _ hr54 k_o45 k_o46 k_o47 k_o48 k_o49
                          · skip
                            refine s_wn_X3_fewestTimes_6_0 k_o45 k_o46 k_o47 k_o48 k_o49 k_tl1f_singers k_tl1f_dams k_tl1f_echoes k_tl1a_heights k_tl1a_ladders k_tl1a_echoFrom k_tl1a_echoTo k_tl1a_talls (iv_lta (l := 0) (h := 4) (r_nle c2) (iv_leb (l := 0) (h := 2147483647) (r_nlt c1) (iv_lit (l := 0) (h := 0) (by decide)) (iv_top x4) (by decide)) (iv_lit (l := 5) (h := 5) (by decide)) (by decide)) (fun r55 hr55 => ?_)
                            exact hpost _ _ _ _ _ _ _ _ _ hr55 k_o45 k_o46 k_o47 k_o48 k_o49
                        · skip
                          exact (iv_emp (iv_eqa (l := 1) (h := 0) c53 (iv_lit (l := 1) (h := 1) (by decide)) (iv_lit (l := 0) (h := 0) (by decide)) (by decide)) (by decide)).elim
                    · skip
                      refine ⟨fun c56 => ?_, fun c56 => ?_⟩
                      · skip
                        exact (iv_emp (iv_ne (l := 1) (h := 0) c56 (iv_lit (l := 0) (h := 0) (by decide)) (iv_lit (l := 0) (h := 0) (by decide)) (by decide)) (by decide)).elim
                      · skip
                        exact hpost _ _ _ _ _ _ _ _ _ (iv_w (iv_lit (l := (-1)) (h := (-1)) (by decide)) (by decide)) k_nf_begun k_nf_climbed k_na_huts k_na_known k_na_levels
          · skip
            refine ⟨fun h => absurd h (by decide), fun _ => ?_, fun h0 h1 => absurd rfl h1⟩
            refine ⟨fun c57 => ?_, fun c57 => ?_⟩
            · skip
              refine ⟨fun _ => ?_, fun h => absurd h (by decide), fun h0 h1 => absurd rfl h0⟩
              refine ⟨fun c58 => ?_, fun c58 => ?_⟩
              · skip
                exact (iv_emp (iv_ne (l := 1) (h := 0) c58 (iv_lit (l := 0) (h := 0) (by decide)) (iv_lit (l := 0) (h := 0) (by decide)) (by decide)) (by decide)).elim
              · skip
                exact hpost _ _ _ _ _ _ _ _ _ (iv_w (iv_lit (l := (-1)) (h := (-1)) (by decide)) (by decide)) k_nf_begun k_nf_climbed k_na_huts k_na_known k_na_levels
            · skip
              refine ⟨fun c59 => ?_, fun c59 => ?_⟩
              · skip
                refine ⟨fun _ => ?_, fun h => absurd h (by decide), fun h0 h1 => absurd rfl h0⟩
                refine ⟨fun c60 => ?_, fun c60 => ?_⟩
                · skip
                  exact (iv_emp (iv_ne (l := 1) (h := 0) c60 (iv_lit (l := 0) (h := 0) (by decide)) (iv_lit (l := 0) (h := 0) (by decide)) (by decide)) (by decide)).elim
                · skip
                  exact hpost _ _ _ _ _ _ _ _ _ (iv_w (iv_lit (l := (-1)) (h := (-1)) (by decide)) (by decide)) k_nf_begun k_nf_climbed k_na_huts k_na_known k_na_levels
              · skip
                refine ⟨iv_in (iv_lta (l := 0) (h := 1) (r_nle c59) (iv_leb (l := 0) (h := 2147483647) (r_nlt c57) (iv_lit (l := 0) (h := 0) (by decide)) (iv_top x2) (by decide)) (k_ta_counts _) (by decide)) (by decide), fun hc => ?_, fun hc => ?_⟩
                · skip
                  refine ⟨fun h => absurd h (by decide), fun h => absurd h (by decide), fun h0 h1 => ?_⟩
                  refine ⟨fun c61 => ?_, fun c61 => ?_⟩
                  · skip
                    refine ⟨fun c62 => ?_, fun c62 => ?_⟩
                    · skip
                      exact (iv_emp (iv_ne (l := 1) (h := 0) c62 (iv_lit (l := 0) (h := 0) (by decide)) (iv_lit (l := 0) (h := 0) (by decide)) (by decide)) (by decide)).elim
                    · skip
                      exact hpost _ _ _ _ _ _ _ _ _ (iv_w (iv_lit (l := (-1)) (h := (-1)) (by decide)) (by decide)) k_nf_begun k_nf_climbed k_na_huts k_na_known k_na_levels
                  · skip
                    refine ⟨fun c63 => ?_, fun c63 => ?_⟩
                    · skip
                      refine s_wn_X3_play_6_15_0 k_nf_begun k_nf_climbed k_na_huts k_na_known k_na_levels k_tl1f_huts k_tl1f_singers k_tl1f_dams k_tl1f_echoes k_tl1f_deep k_tl1a_heights k_tl1a_ladders k_tl1a_minutes k_tl1a_echoFrom k_tl1a_echoTo k_tl1a_homes k_tl1a_talls k_tl1a_known k_tv0f_deeds k_tv0a_kinds k_tv0a_firsts k_tv0a_seconds (iv_lea (l := 0) (h := 40) (r_le c63) (iv_leb (l := 0) (h := 2147483647) (r_nlt c61) (iv_lit (l := 0) (h := 0) (by decide)) (iv_top x3) (by decide)) k_tv0f_deeds (by decide)) (fun r64 o65 o66 o67 o68 o69 o70 o71 o72 hr64 k_o67 k_o68 k_o69 k_o70 k_o71 => ?_)
                      refine ⟨fun c73 => ?_, fun c73 => ?_⟩
                      · skip
                        refine ⟨fun c74 => ?_, fun c74 => ?_⟩
                        · skip
                          exact (iv_emp (iv_ne (l := 1) (h := 0) c74 (iv_lit (l := 0) (h := 0) (by decide)) (iv_lit (l := 0) (h := 0) (by decide)) (by decide)) (by decide)).elim
                        · skip
                          exact hpost _ _ _ _ _ _ _ _ _ (iv_w (iv_lit (l := (-1)) (h := (-1)) (by decide)) (by decide)) k_o67 k_o68 k_o69 k_o70 k_o71
                      · skip
                        refine ⟨fun c75 => ?_, fun c75 => ?_⟩
                        · skip
                          refine ⟨iv_in (iv_lta (l := 0) (h := 1) (r_nle c10) (iv_leb (l := 0) (h := 2147483647) (r_nlt c3) (iv_lit (l := 0) (h := 0) (by decide)) (iv_top x1) (by decide)) (k_ta_counts _) (by decide)) (by decide), fun hc => ?_, fun hc => ?_⟩
                          · skip
                            refine s_wn_X3_fewestTimes_6_0 k_o67 k_o68 k_o69 k_o70 k_o71 k_tl0f_singers k_tl0f_dams k_tl0f_echoes k_tl0a_heights k_tl0a_ladders k_tl0a_echoFrom k_tl0a_echoTo k_tl0a_talls (iv_lta (l := 0) (h := 4) (r_nle c2) (iv_leb (l := 0) (h := 2147483647) (r_nlt c1) (iv_lit (l := 0) (h := 0) (by decide)) (iv_top x4) (by decide)) (iv_lit (l := 5) (h := 5) (by decide)) (by decide)) (fun r76 hr76 => ?_)
                            exact hpost _ _ _ _ _ _ _ _ _ hr76 k_o67 k_o68 k_o69 k_o70 k_o71
                          · skip
                            refine s_wn_X3_fewestTimes_6_0 k_o67 k_o68 k_o69 k_o70 k_o71 k_tl1f_singers k_tl1f_dams k_tl1f_echoes k_tl1a_heights k_tl1a_ladders k_tl1a_echoFrom k_tl1a_echoTo k_tl1a_talls (iv_lta (l := 0) (h := 4) (r_nle c2) (iv_leb (l := 0) (h := 2147483647) (r_nlt c1) (iv_lit (l := 0) (h := 0) (by decide)) (iv_top x4) (by decide)) (iv_lit (l := 5) (h := 5) (by decide)) (by decide)) (fun r77 hr77 => ?_)
                            exact hpost _ _ _ _ _ _ _ _ _ hr77 k_o67 k_o68 k_o69 k_o70 k_o71
                        · skip
                          exact (iv_emp (iv_eqa (l := 1) (h := 0) c75 (iv_lit (l := 1) (h := 1) (by decide)) (iv_lit (l := 0) (h := 0) (by decide)) (by decide)) (by decide)).elim
                    · skip
                      refine ⟨fun c78 => ?_, fun c78 => ?_⟩
                      · skip
                        exact (iv_emp (iv_ne (l := 1) (h := 0) c78 (iv_lit (l := 0) (h := 0) (by decide)) (iv_lit (l := 0) (h := 0) (by decide)) (by decide)) (by decide)).elim
                      · skip
                        exact hpost _ _ _ _ _ _ _ _ _ (iv_w (iv_lit (l := (-1)) (h := (-1)) (by decide)) (by decide)) k_nf_begun k_nf_climbed k_na_huts k_na_known k_na_levels
                · skip
                  refine ⟨fun h => absurd h (by decide), fun _ => ?_, fun h0 h1 => absurd rfl h1⟩
                  refine ⟨fun c79 => ?_, fun c79 => ?_⟩
                  · skip
                    refine ⟨fun c80 => ?_, fun c80 => ?_⟩
                    · skip
                      exact (iv_emp (iv_ne (l := 1) (h := 0) c80 (iv_lit (l := 0) (h := 0) (by decide)) (iv_lit (l := 0) (h := 0) (by decide)) (by decide)) (by decide)).elim
                    · skip
                      exact hpost _ _ _ _ _ _ _ _ _ (iv_w (iv_lit (l := (-1)) (h := (-1)) (by decide)) (by decide)) k_nf_begun k_nf_climbed k_na_huts k_na_known k_na_levels
                  · skip
                    refine ⟨fun c81 => ?_, fun c81 => ?_⟩
                    · skip
                      refine s_wn_X3_play_6_15_0 k_nf_begun k_nf_climbed k_na_huts k_na_known k_na_levels k_tl1f_huts k_tl1f_singers k_tl1f_dams k_tl1f_echoes k_tl1f_deep k_tl1a_heights k_tl1a_ladders k_tl1a_minutes k_tl1a_echoFrom k_tl1a_echoTo k_tl1a_homes k_tl1a_talls k_tl1a_known k_tv1f_deeds k_tv1a_kinds k_tv1a_firsts k_tv1a_seconds (iv_lea (l := 0) (h := 40) (r_le c81) (iv_leb (l := 0) (h := 2147483647) (r_nlt c79) (iv_lit (l := 0) (h := 0) (by decide)) (iv_top x3) (by decide)) k_tv1f_deeds (by decide)) (fun r82 o83 o84 o85 o86 o87 o88 o89 o90 hr82 k_o85 k_o86 k_o87 k_o88 k_o89 => ?_)
                      refine ⟨fun c91 => ?_, fun c91 => ?_⟩
                      · skip
                        refine ⟨fun c92 => ?_, fun c92 => ?_⟩
                        · skip
                          exact (iv_emp (iv_ne (l := 1) (h := 0) c92 (iv_lit (l := 0) (h := 0) (by decide)) (iv_lit (l := 0) (h := 0) (by decide)) (by decide)) (by decide)).elim
                        · skip
                          exact hpost _ _ _ _ _ _ _ _ _ (iv_w (iv_lit (l := (-1)) (h := (-1)) (by decide)) (by decide)) k_o85 k_o86 k_o87 k_o88 k_o89
                      · skip
                        refine ⟨fun c93 => ?_, fun c93 => ?_⟩
                        · skip
                          refine ⟨iv_in (iv_lta (l := 0) (h := 1) (r_nle c10) (iv_leb (l := 0) (h := 2147483647) (r_nlt c3) (iv_lit (l := 0) (h := 0) (by decide)) (iv_top x1) (by decide)) (k_ta_counts _) (by decide)) (by decide), fun hc => ?_, fun hc => ?_⟩
                          · skip
                            refine s_wn_X3_fewestTimes_6_0 k_o85 k_o86 k_o87 k_o88 k_o89 k_tl0f_singers k_tl0f_dams k_tl0f_echoes k_tl0a_heights k_tl0a_ladders k_tl0a_echoFrom k_tl0a_echoTo k_tl0a_talls (iv_lta (l := 0) (h := 4) (r_nle c2) (iv_leb (l := 0) (h := 2147483647) (r_nlt c1) (iv_lit (l := 0) (h := 0) (by decide)) (iv_top x4) (by decide)) (iv_lit (l := 5) (h := 5) (by decide)) (by decide)) (fun r94 hr94 => ?_)
                            exact hpost _ _ _ _ _ _ _ _ _ hr94 k_o85 k_o86 k_o87 k_o88 k_o89
                          · skip
                            refine s_wn_X3_fewestTimes_6_0 k_o85 k_o86 k_o87 k_o88 k_o89 k_tl1f_singers k_tl1f_dams k_tl1f_echoes k_tl1a_heights k_tl1a_ladders k_tl1a_echoFrom k_tl1a_echoTo k_tl1a_talls (iv_lta (l := 0) (h := 4) (r_nle c2) (iv_leb (l := 0) (h := 2147483647) (r_nlt c1) (iv_lit (l := 0) (h := 0) (by decide)) (iv_top x4) (by decide)) (iv_lit (l := 5) (h := 5) (by decide)) (by decide)) (fun r95 hr95 => ?_)
                            exact hpost _ _ _ _ _ _ _ _ _ hr95 k_o85 k_o86 k_o87 k_o88 k_o89
                        · skip
                          exact (iv_emp (iv_eqa (l := 1) (h := 0) c93 (iv_lit (l := 1) (h := 1) (by decide)) (iv_lit (l := 0) (h := 0) (by decide)) (by decide)) (by decide)).elim
                    · skip
                      refine ⟨fun c96 => ?_, fun c96 => ?_⟩
                      · skip
                        exact (iv_emp (iv_ne (l := 1) (h := 0) c96 (iv_lit (l := 0) (h := 0) (by decide)) (iv_lit (l := 0) (h := 0) (by decide)) (by decide)) (by decide)).elim
                      · skip
                        exact hpost _ _ _ _ _ _ _ _ _ (iv_w (iv_lit (l := (-1)) (h := (-1)) (by decide)) (by decide)) k_nf_begun k_nf_climbed k_na_huts k_na_known k_na_levels
-- wx_X10_count
set_option maxRecDepth 20000 in
theorem s_wx_X10_count_9 {ta_counts : Nat → Int32} {post : Int32 → Prop} (k_ta_counts : ∀ j, iv 0 2 (ta_counts j)) (hpost : ∀ (r : Int32), iv (-2) 2 r → post r) : q_wx_X10_count_9 ta_counts post := by
  exact hpost _ (iv_w (iv_lit (l := (-2)) (h := (-2)) (by decide)) (by decide))
set_option maxRecDepth 20000 in
theorem s_wx_X10_count_0 {ta_counts : Nat → Int32} {x1 : Int32} {post : Int32 → Prop} (k_ta_counts : ∀ j, iv 0 2 (ta_counts j)) (hpost : ∀ (r : Int32), iv (-2) 2 r → post r) : q_wx_X10_count_0 ta_counts x1 post := by
  refine ⟨fun c1 => ?_, fun c1 => ?_⟩
  · skip
    exact s_wx_X10_count_9 k_ta_counts hpost
  · skip
    refine ⟨fun c2 => ?_, fun c2 => ?_⟩
    · skip
      refine ⟨iv_in (iv_lta (l := 0) (h := 3) (r_lt c2) (iv_leb (l := 0) (h := 2147483647) (r_nlt c1) (iv_lit (l := 0) (h := 0) (by decide)) (iv_top x1) (by decide)) (iv_lit (l := 4) (h := 4) (by decide)) (by decide)) (by decide), ?_⟩
      exact hpost _ (iv_w (k_ta_counts _) (by decide))
    · skip
      exact s_wx_X10_count_9 k_ta_counts hpost
-- wtt_X9_copyFrom_47
set_option maxRecDepth 20000 in
theorem s_wtt_X9_copyFrom_47_57 {a_tape : Nat → Int32} {f_length : Int32} {f_fault : Int32} {f_place : Int32} {a_counts : Nat → Int32} {l0f_huts : Int32} {l0f_singers : Int32} {l0f_villages : Int32} {l0f_dams : Int32} {l0f_echoes : Int32} {l0f_deep : Int32} {l0f_slide : Int32} {l0a_heights : Nat → Int32} {l0a_ladders : Nat → Int32} {l0a_minutes : Nat → Int32} {l0a_echoFrom : Nat → Int32} {l0a_echoTo : Nat → Int32} {l0a_homes : Nat → Int32} {l0a_talls : Nat → Int32} {l0a_known : Nat → Int32} {l1f_huts : Int32} {l1f_singers : Int32} {l1f_villages : Int32} {l1f_dams : Int32} {l1f_echoes : Int32} {l1f_deep : Int32} {l1f_slide : Int32} {l1a_heights : Nat → Int32} {l1a_ladders : Nat → Int32} {l1a_minutes : Nat → Int32} {l1a_echoFrom : Nat → Int32} {l1a_echoTo : Nat → Int32} {l1a_homes : Nat → Int32} {l1a_talls : Nat → Int32} {l1a_known : Nat → Int32} {v0f_deeds : Int32} {v0a_kinds : Nat → Int32} {v0a_firsts : Nat → Int32} {v0a_seconds : Nat → Int32} {v1f_deeds : Int32} {v1a_kinds : Nat → Int32} {v1a_firsts : Nat → Int32} {v1a_seconds : Nat → Int32} {s0f_facts : Int32} {s0a_heard : Nat → Int32} {s0a_huts : Nat → Int32} {s0a_minutes : Nat → Int32} {s1f_facts : Int32} {s1a_heard : Nat → Int32} {s1a_huts : Nat → Int32} {s1a_minutes : Nat → Int32} {c0f_voices : Int32} {c0f_step : Int32} {c0a_parts : Nat → Int32} {c0a_heights : Nat → Int32} {c1f_voices : Int32} {c1f_step : Int32} {c1a_parts : Nat → Int32} {c1a_heights : Nat → Int32} {oa_tape : Nat → Int32} {of_length : Int32} {of_fault : Int32} {of_place : Int32} {oa_counts : Nat → Int32} {ol0f_huts : Int32} {ol0f_singers : Int32} {ol0f_villages : Int32} {ol0f_dams : Int32} {ol0f_echoes : Int32} {ol0f_deep : Int32} {ol0f_slide : Int32} {ol0a_heights : Nat → Int32} {ol0a_ladders : Nat → Int32} {ol0a_minutes : Nat → Int32} {ol0a_echoFrom : Nat → Int32} {ol0a_echoTo : Nat → Int32} {ol0a_homes : Nat → Int32} {ol0a_talls : Nat → Int32} {ol0a_known : Nat → Int32} {ol1f_huts : Int32} {ol1f_singers : Int32} {ol1f_villages : Int32} {ol1f_dams : Int32} {ol1f_echoes : Int32} {ol1f_deep : Int32} {ol1f_slide : Int32} {ol1a_heights : Nat → Int32} {ol1a_ladders : Nat → Int32} {ol1a_minutes : Nat → Int32} {ol1a_echoFrom : Nat → Int32} {ol1a_echoTo : Nat → Int32} {ol1a_homes : Nat → Int32} {ol1a_talls : Nat → Int32} {ol1a_known : Nat → Int32} {ov0f_deeds : Int32} {ov0a_kinds : Nat → Int32} {ov0a_firsts : Nat → Int32} {ov0a_seconds : Nat → Int32} {ov1f_deeds : Int32} {ov1a_kinds : Nat → Int32} {ov1a_firsts : Nat → Int32} {ov1a_seconds : Nat → Int32} {os0f_facts : Int32} {os0a_heard : Nat → Int32} {os0a_huts : Nat → Int32} {os0a_minutes : Nat → Int32} {os1f_facts : Int32} {os1a_heard : Nat → Int32} {os1a_huts : Nat → Int32} {os1a_minutes : Nat → Int32} {oc0f_voices : Int32} {oc0f_step : Int32} {oc0a_parts : Nat → Int32} {oc0a_heights : Nat → Int32} {oc1f_voices : Int32} {oc1f_step : Int32} {oc1a_parts : Nat → Int32} {oc1a_heights : Nat → Int32} {x2 : Int32} {post : (Nat → Int32) → (Int32) → (Int32) → (Int32) → (Nat → Int32) → (Int32) → (Int32) → (Int32) → (Int32) → (Int32) → (Int32) → (Int32) → (Nat → Int32) → (Nat → Int32) → (Nat → Int32) → (Nat → Int32) → (Nat → Int32) → (Nat → Int32) → (Nat → Int32) → (Nat → Int32) → (Int32) → (Int32) → (Int32) → (Int32) → (Int32) → (Int32) → (Int32) → (Nat → Int32) → (Nat → Int32) → (Nat → Int32) → (Nat → Int32) → (Nat → Int32) → (Nat → Int32) → (Nat → Int32) → (Nat → Int32) → (Int32) → (Nat → Int32) → (Nat → Int32) → (Nat → Int32) → (Int32) → (Nat → Int32) → (Nat → Int32) → (Nat → Int32) → (Int32) → (Nat → Int32) → (Nat → Int32) → (Nat → Int32) → (Int32) → (Nat → Int32) → (Nat → Int32) → (Nat → Int32) → (Int32) → (Int32) → (Nat → Int32) → (Nat → Int32) → (Int32) → (Int32) → (Nat → Int32) → (Nat → Int32) → Prop} (k_a_tape : ∀ j, iv (-128) 127 (a_tape j)) (k_f_length : iv 0 600 f_length) (k_f_fault : iv 0 4 f_fault) (k_f_place : iv (-1) 600 f_place) (k_a_counts : ∀ j, iv 0 2 (a_counts j)) (k_l0f_huts : iv 0 9 l0f_huts) (k_l0f_singers : iv 0 6 l0f_singers) (k_l0f_villages : iv 0 511 l0f_villages) (k_l0f_dams : iv 0 511 l0f_dams) (k_l0f_echoes : iv 0 4 l0f_echoes) (k_l0f_deep : iv 1 9 l0f_deep) (k_l0f_slide : iv 0 10 l0f_slide) (k_l0a_heights : ∀ j, iv 0 99 (l0a_heights j)) (k_l0a_ladders : ∀ j, iv 0 9 (l0a_ladders j)) (k_l0a_minutes : ∀ j, iv 0 9 (l0a_minutes j)) (k_l0a_echoFrom : ∀ j, iv 0 8 (l0a_echoFrom j)) (k_l0a_echoTo : ∀ j, iv 0 8 (l0a_echoTo j)) (k_l0a_homes : ∀ j, iv 0 8 (l0a_homes j)) (k_l0a_talls : ∀ j, iv 0 9 (l0a_talls j)) (k_l0a_known : ∀ j, iv 0 31 (l0a_known j)) (k_l1f_huts : iv 0 9 l1f_huts) (k_l1f_singers : iv 0 6 l1f_singers) (k_l1f_villages : iv 0 511 l1f_villages) (k_l1f_dams : iv 0 511 l1f_dams) (k_l1f_echoes : iv 0 4 l1f_echoes) (k_l1f_deep : iv 1 9 l1f_deep) (k_l1f_slide : iv 0 10 l1f_slide) (k_l1a_heights : ∀ j, iv 0 99 (l1a_heights j)) (k_l1a_ladders : ∀ j, iv 0 9 (l1a_ladders j)) (k_l1a_minutes : ∀ j, iv 0 9 (l1a_minutes j)) (k_l1a_echoFrom : ∀ j, iv 0 8 (l1a_echoFrom j)) (k_l1a_echoTo : ∀ j, iv 0 8 (l1a_echoTo j)) (k_l1a_homes : ∀ j, iv 0 8 (l1a_homes j)) (k_l1a_talls : ∀ j, iv 0 9 (l1a_talls j)) (k_l1a_known : ∀ j, iv 0 31 (l1a_known j)) (k_v0f_deeds : iv 0 40 v0f_deeds) (k_v0a_kinds : ∀ j, iv 0 5 (v0a_kinds j)) (k_v0a_firsts : ∀ j, iv 0 5 (v0a_firsts j)) (k_v0a_seconds : ∀ j, iv (-1) 8 (v0a_seconds j)) (k_v1f_deeds : iv 0 40 v1f_deeds) (k_v1a_kinds : ∀ j, iv 0 5 (v1a_kinds j)) (k_v1a_firsts : ∀ j, iv 0 5 (v1a_firsts j)) (k_v1a_seconds : ∀ j, iv (-1) 8 (v1a_seconds j)) (k_s0f_facts : iv 0 10 s0f_facts) (k_s0a_heard : ∀ j, iv 0 1 (s0a_heard j)) (k_s0a_huts : ∀ j, iv 0 8 (s0a_huts j)) (k_s0a_minutes : ∀ j, iv 0 60 (s0a_minutes j)) (k_s1f_facts : iv 0 10 s1f_facts) (k_s1a_heard : ∀ j, iv 0 1 (s1a_heard j)) (k_s1a_huts : ∀ j, iv 0 8 (s1a_huts j)) (k_s1a_minutes : ∀ j, iv 0 60 (s1a_minutes j)) (k_c0f_voices : iv 0 9 c0f_voices) (k_c0f_step : iv 0 9 c0f_step) (k_c0a_parts : ∀ j, iv 0 3 (c0a_parts j)) (k_c0a_heights : ∀ j, iv 0 9 (c0a_heights j)) (k_c1f_voices : iv 0 9 c1f_voices) (k_c1f_step : iv 0 9 c1f_step) (k_c1a_parts : ∀ j, iv 0 3 (c1a_parts j)) (k_c1a_heights : ∀ j, iv 0 9 (c1a_heights j)) (k_oa_tape : ∀ j, iv (-128) 127 (oa_tape j)) (k_of_length : iv 0 600 of_length) (k_of_fault : iv 0 4 of_fault) (k_of_place : iv (-1) 600 of_place) (k_oa_counts : ∀ j, iv 0 2 (oa_counts j)) (k_ol0f_huts : iv 0 9 ol0f_huts) (k_ol0f_singers : iv 0 6 ol0f_singers) (k_ol0f_villages : iv 0 511 ol0f_villages) (k_ol0f_dams : iv 0 511 ol0f_dams) (k_ol0f_echoes : iv 0 4 ol0f_echoes) (k_ol0f_deep : iv 1 9 ol0f_deep) (k_ol0f_slide : iv 0 10 ol0f_slide) (k_ol0a_heights : ∀ j, iv 0 99 (ol0a_heights j)) (k_ol0a_ladders : ∀ j, iv 0 9 (ol0a_ladders j)) (k_ol0a_minutes : ∀ j, iv 0 9 (ol0a_minutes j)) (k_ol0a_echoFrom : ∀ j, iv 0 8 (ol0a_echoFrom j)) (k_ol0a_echoTo : ∀ j, iv 0 8 (ol0a_echoTo j)) (k_ol0a_homes : ∀ j, iv 0 8 (ol0a_homes j)) (k_ol0a_talls : ∀ j, iv 0 9 (ol0a_talls j)) (k_ol0a_known : ∀ j, iv 0 31 (ol0a_known j)) (k_ol1f_huts : iv 0 9 ol1f_huts) (k_ol1f_singers : iv 0 6 ol1f_singers) (k_ol1f_villages : iv 0 511 ol1f_villages) (k_ol1f_dams : iv 0 511 ol1f_dams) (k_ol1f_echoes : iv 0 4 ol1f_echoes) (k_ol1f_deep : iv 1 9 ol1f_deep) (k_ol1f_slide : iv 0 10 ol1f_slide) (k_ol1a_heights : ∀ j, iv 0 99 (ol1a_heights j)) (k_ol1a_ladders : ∀ j, iv 0 9 (ol1a_ladders j)) (k_ol1a_minutes : ∀ j, iv 0 9 (ol1a_minutes j)) (k_ol1a_echoFrom : ∀ j, iv 0 8 (ol1a_echoFrom j)) (k_ol1a_echoTo : ∀ j, iv 0 8 (ol1a_echoTo j)) (k_ol1a_homes : ∀ j, iv 0 8 (ol1a_homes j)) (k_ol1a_talls : ∀ j, iv 0 9 (ol1a_talls j)) (k_ol1a_known : ∀ j, iv 0 31 (ol1a_known j)) (k_ov0f_deeds : iv 0 40 ov0f_deeds) (k_ov0a_kinds : ∀ j, iv 0 5 (ov0a_kinds j)) (k_ov0a_firsts : ∀ j, iv 0 5 (ov0a_firsts j)) (k_ov0a_seconds : ∀ j, iv (-1) 8 (ov0a_seconds j)) (k_ov1f_deeds : iv 0 40 ov1f_deeds) (k_ov1a_kinds : ∀ j, iv 0 5 (ov1a_kinds j)) (k_ov1a_firsts : ∀ j, iv 0 5 (ov1a_firsts j)) (k_ov1a_seconds : ∀ j, iv (-1) 8 (ov1a_seconds j)) (k_os0f_facts : iv 0 10 os0f_facts) (k_os0a_heard : ∀ j, iv 0 1 (os0a_heard j)) (k_os0a_huts : ∀ j, iv 0 8 (os0a_huts j)) (k_os0a_minutes : ∀ j, iv 0 60 (os0a_minutes j)) (k_os1f_facts : iv 0 10 os1f_facts) (k_os1a_heard : ∀ j, iv 0 1 (os1a_heard j)) (k_os1a_huts : ∀ j, iv 0 8 (os1a_huts j)) (k_os1a_minutes : ∀ j, iv 0 60 (os1a_minutes j)) (k_oc0f_voices : iv 0 9 oc0f_voices) (k_oc0f_step : iv 0 9 oc0f_step) (k_oc0a_parts : ∀ j, iv 0 3 (oc0a_parts j)) (k_oc0a_heights : ∀ j, iv 0 9 (oc0a_heights j)) (k_oc1f_voices : iv 0 9 oc1f_voices) (k_oc1f_step : iv 0 9 oc1f_step) (k_oc1a_parts : ∀ j, iv 0 3 (oc1a_parts j)) (k_oc1a_heights : ∀ j, iv 0 9 (oc1a_heights j)) (hx2 : iv 0 2 x2) (hpost : ∀ (a_tape : Nat → Int32) (f_length : Int32) (f_fault : Int32) (f_place : Int32) (a_counts : Nat → Int32) (l0f_huts : Int32) (l0f_singers : Int32) (l0f_villages : Int32) (l0f_dams : Int32) (l0f_echoes : Int32) (l0f_deep : Int32) (l0f_slide : Int32) (l0a_heights : Nat → Int32) (l0a_ladders : Nat → Int32) (l0a_minutes : Nat → Int32) (l0a_echoFrom : Nat → Int32) (l0a_echoTo : Nat → Int32) (l0a_homes : Nat → Int32) (l0a_talls : Nat → Int32) (l0a_known : Nat → Int32) (l1f_huts : Int32) (l1f_singers : Int32) (l1f_villages : Int32) (l1f_dams : Int32) (l1f_echoes : Int32) (l1f_deep : Int32) (l1f_slide : Int32) (l1a_heights : Nat → Int32) (l1a_ladders : Nat → Int32) (l1a_minutes : Nat → Int32) (l1a_echoFrom : Nat → Int32) (l1a_echoTo : Nat → Int32) (l1a_homes : Nat → Int32) (l1a_talls : Nat → Int32) (l1a_known : Nat → Int32) (v0f_deeds : Int32) (v0a_kinds : Nat → Int32) (v0a_firsts : Nat → Int32) (v0a_seconds : Nat → Int32) (v1f_deeds : Int32) (v1a_kinds : Nat → Int32) (v1a_firsts : Nat → Int32) (v1a_seconds : Nat → Int32) (s0f_facts : Int32) (s0a_heard : Nat → Int32) (s0a_huts : Nat → Int32) (s0a_minutes : Nat → Int32) (s1f_facts : Int32) (s1a_heard : Nat → Int32) (s1a_huts : Nat → Int32) (s1a_minutes : Nat → Int32) (c0f_voices : Int32) (c0f_step : Int32) (c0a_parts : Nat → Int32) (c0a_heights : Nat → Int32) (c1f_voices : Int32) (c1f_step : Int32) (c1a_parts : Nat → Int32) (c1a_heights : Nat → Int32), (∀ j, iv (-128) 127 (a_tape j)) → (iv 0 600 f_length) → (iv 0 4 f_fault) → (iv (-1) 600 f_place) → (∀ j, iv 0 2 (a_counts j)) → (iv 0 9 l0f_huts) → (iv 0 6 l0f_singers) → (iv 0 511 l0f_villages) → (iv 0 511 l0f_dams) → (iv 0 4 l0f_echoes) → (iv 1 9 l0f_deep) → (iv 0 10 l0f_slide) → (∀ j, iv 0 99 (l0a_heights j)) → (∀ j, iv 0 9 (l0a_ladders j)) → (∀ j, iv 0 9 (l0a_minutes j)) → (∀ j, iv 0 8 (l0a_echoFrom j)) → (∀ j, iv 0 8 (l0a_echoTo j)) → (∀ j, iv 0 8 (l0a_homes j)) → (∀ j, iv 0 9 (l0a_talls j)) → (∀ j, iv 0 31 (l0a_known j)) → (iv 0 9 l1f_huts) → (iv 0 6 l1f_singers) → (iv 0 511 l1f_villages) → (iv 0 511 l1f_dams) → (iv 0 4 l1f_echoes) → (iv 1 9 l1f_deep) → (iv 0 10 l1f_slide) → (∀ j, iv 0 99 (l1a_heights j)) → (∀ j, iv 0 9 (l1a_ladders j)) → (∀ j, iv 0 9 (l1a_minutes j)) → (∀ j, iv 0 8 (l1a_echoFrom j)) → (∀ j, iv 0 8 (l1a_echoTo j)) → (∀ j, iv 0 8 (l1a_homes j)) → (∀ j, iv 0 9 (l1a_talls j)) → (∀ j, iv 0 31 (l1a_known j)) → (iv 0 40 v0f_deeds) → (∀ j, iv 0 5 (v0a_kinds j)) → (∀ j, iv 0 5 (v0a_firsts j)) → (∀ j, iv (-1) 8 (v0a_seconds j)) → (iv 0 40 v1f_deeds) → (∀ j, iv 0 5 (v1a_kinds j)) → (∀ j, iv 0 5 (v1a_firsts j)) → (∀ j, iv (-1) 8 (v1a_seconds j)) → (iv 0 10 s0f_facts) → (∀ j, iv 0 1 (s0a_heard j)) → (∀ j, iv 0 8 (s0a_huts j)) → (∀ j, iv 0 60 (s0a_minutes j)) → (iv 0 10 s1f_facts) → (∀ j, iv 0 1 (s1a_heard j)) → (∀ j, iv 0 8 (s1a_huts j)) → (∀ j, iv 0 60 (s1a_minutes j)) → (iv 0 9 c0f_voices) → (iv 0 9 c0f_step) → (∀ j, iv 0 3 (c0a_parts j)) → (∀ j, iv 0 9 (c0a_heights j)) → (iv 0 9 c1f_voices) → (iv 0 9 c1f_step) → (∀ j, iv 0 3 (c1a_parts j)) → (∀ j, iv 0 9 (c1a_heights j)) → post a_tape f_length f_fault f_place a_counts l0f_huts l0f_singers l0f_villages l0f_dams l0f_echoes l0f_deep l0f_slide l0a_heights l0a_ladders l0a_minutes l0a_echoFrom l0a_echoTo l0a_homes l0a_talls l0a_known l1f_huts l1f_singers l1f_villages l1f_dams l1f_echoes l1f_deep l1f_slide l1a_heights l1a_ladders l1a_minutes l1a_echoFrom l1a_echoTo l1a_homes l1a_talls l1a_known v0f_deeds v0a_kinds v0a_firsts v0a_seconds v1f_deeds v1a_kinds v1a_firsts v1a_seconds s0f_facts s0a_heard s0a_huts s0a_minutes s1f_facts s1a_heard s1a_huts s1a_minutes c0f_voices c0f_step c0a_parts c0a_heights c1f_voices c1f_step c1a_parts c1a_heights) : q_wtt_X9_copyFrom_47_57 a_tape f_length f_fault f_place a_counts l0f_huts l0f_singers l0f_villages l0f_dams l0f_echoes l0f_deep l0f_slide l0a_heights l0a_ladders l0a_minutes l0a_echoFrom l0a_echoTo l0a_homes l0a_talls l0a_known l1f_huts l1f_singers l1f_villages l1f_dams l1f_echoes l1f_deep l1f_slide l1a_heights l1a_ladders l1a_minutes l1a_echoFrom l1a_echoTo l1a_homes l1a_talls l1a_known v0f_deeds v0a_kinds v0a_firsts v0a_seconds v1f_deeds v1a_kinds v1a_firsts v1a_seconds s0f_facts s0a_heard s0a_huts s0a_minutes s1f_facts s1a_heard s1a_huts s1a_minutes c0f_voices c0f_step c0a_parts c0a_heights c1f_voices c1f_step c1a_parts c1a_heights oa_tape of_length of_fault of_place oa_counts ol0f_huts ol0f_singers ol0f_villages ol0f_dams ol0f_echoes ol0f_deep ol0f_slide ol0a_heights ol0a_ladders ol0a_minutes ol0a_echoFrom ol0a_echoTo ol0a_homes ol0a_talls ol0a_known ol1f_huts ol1f_singers ol1f_villages ol1f_dams ol1f_echoes ol1f_deep ol1f_slide ol1a_heights ol1a_ladders ol1a_minutes ol1a_echoFrom ol1a_echoTo ol1a_homes ol1a_talls ol1a_known ov0f_deeds ov0a_kinds ov0a_firsts ov0a_seconds ov1f_deeds ov1a_kinds ov1a_firsts ov1a_seconds os0f_facts os0a_heard os0a_huts os0a_minutes os1f_facts os1a_heard os1a_huts os1a_minutes oc0f_voices oc0f_step oc0a_parts oc0a_heights oc1f_voices oc1f_step oc1a_parts oc1a_heights x2 post := by
  intro P hP
  have loop : ∀ (n : Nat) (x2 : Int32) (l0f_huts : Int32) (l0f_singers : Int32) (l0f_villages : Int32) (l0f_dams : Int32) (l0f_echoes : Int32) (l0f_deep : Int32) (l0f_slide : Int32) (l0a_heights : Nat → Int32) (l0a_ladders : Nat → Int32) (l0a_minutes : Nat → Int32) (l0a_echoFrom : Nat → Int32) (l0a_echoTo : Nat → Int32) (l0a_homes : Nat → Int32) (l0a_talls : Nat → Int32) (l0a_known : Nat → Int32) (l1f_huts : Int32) (l1f_singers : Int32) (l1f_villages : Int32) (l1f_dams : Int32) (l1f_echoes : Int32) (l1f_deep : Int32) (l1f_slide : Int32) (l1a_heights : Nat → Int32) (l1a_ladders : Nat → Int32) (l1a_minutes : Nat → Int32) (l1a_echoFrom : Nat → Int32) (l1a_echoTo : Nat → Int32) (l1a_homes : Nat → Int32) (l1a_talls : Nat → Int32) (l1a_known : Nat → Int32) (v0f_deeds : Int32) (v0a_kinds : Nat → Int32) (v0a_firsts : Nat → Int32) (v0a_seconds : Nat → Int32) (v1f_deeds : Int32) (v1a_kinds : Nat → Int32) (v1a_firsts : Nat → Int32) (v1a_seconds : Nat → Int32) (s0f_facts : Int32) (s0a_heard : Nat → Int32) (s0a_huts : Nat → Int32) (s0a_minutes : Nat → Int32) (s1f_facts : Int32) (s1a_heard : Nat → Int32) (s1a_huts : Nat → Int32) (s1a_minutes : Nat → Int32) (c0f_voices : Int32) (c0f_step : Int32) (c0a_parts : Nat → Int32) (c0a_heights : Nat → Int32) (c1f_voices : Int32) (c1f_step : Int32) (c1a_parts : Nat → Int32) (c1a_heights : Nat → Int32), (2 - x2.toInt < (n : Int)) → (iv 0 2 x2) → (iv 0 9 l0f_huts) → (iv 0 6 l0f_singers) → (iv 0 511 l0f_villages) → (iv 0 511 l0f_dams) → (iv 0 4 l0f_echoes) → (iv 1 9 l0f_deep) → (iv 0 10 l0f_slide) → (∀ j, iv 0 99 (l0a_heights j)) → (∀ j, iv 0 9 (l0a_ladders j)) → (∀ j, iv 0 9 (l0a_minutes j)) → (∀ j, iv 0 8 (l0a_echoFrom j)) → (∀ j, iv 0 8 (l0a_echoTo j)) → (∀ j, iv 0 8 (l0a_homes j)) → (∀ j, iv 0 9 (l0a_talls j)) → (∀ j, iv 0 31 (l0a_known j)) → (iv 0 9 l1f_huts) → (iv 0 6 l1f_singers) → (iv 0 511 l1f_villages) → (iv 0 511 l1f_dams) → (iv 0 4 l1f_echoes) → (iv 1 9 l1f_deep) → (iv 0 10 l1f_slide) → (∀ j, iv 0 99 (l1a_heights j)) → (∀ j, iv 0 9 (l1a_ladders j)) → (∀ j, iv 0 9 (l1a_minutes j)) → (∀ j, iv 0 8 (l1a_echoFrom j)) → (∀ j, iv 0 8 (l1a_echoTo j)) → (∀ j, iv 0 8 (l1a_homes j)) → (∀ j, iv 0 9 (l1a_talls j)) → (∀ j, iv 0 31 (l1a_known j)) → (iv 0 40 v0f_deeds) → (∀ j, iv 0 5 (v0a_kinds j)) → (∀ j, iv 0 5 (v0a_firsts j)) → (∀ j, iv (-1) 8 (v0a_seconds j)) → (iv 0 40 v1f_deeds) → (∀ j, iv 0 5 (v1a_kinds j)) → (∀ j, iv 0 5 (v1a_firsts j)) → (∀ j, iv (-1) 8 (v1a_seconds j)) → (iv 0 10 s0f_facts) → (∀ j, iv 0 1 (s0a_heard j)) → (∀ j, iv 0 8 (s0a_huts j)) → (∀ j, iv 0 60 (s0a_minutes j)) → (iv 0 10 s1f_facts) → (∀ j, iv 0 1 (s1a_heard j)) → (∀ j, iv 0 8 (s1a_huts j)) → (∀ j, iv 0 60 (s1a_minutes j)) → (iv 0 9 c0f_voices) → (iv 0 9 c0f_step) → (∀ j, iv 0 3 (c0a_parts j)) → (∀ j, iv 0 9 (c0a_heights j)) → (iv 0 9 c1f_voices) → (iv 0 9 c1f_step) → (∀ j, iv 0 3 (c1a_parts j)) → (∀ j, iv 0 9 (c1a_heights j)) → P x2 l0f_huts l0f_singers l0f_villages l0f_dams l0f_echoes l0f_deep l0f_slide l0a_heights l0a_ladders l0a_minutes l0a_echoFrom l0a_echoTo l0a_homes l0a_talls l0a_known l1f_huts l1f_singers l1f_villages l1f_dams l1f_echoes l1f_deep l1f_slide l1a_heights l1a_ladders l1a_minutes l1a_echoFrom l1a_echoTo l1a_homes l1a_talls l1a_known v0f_deeds v0a_kinds v0a_firsts v0a_seconds v1f_deeds v1a_kinds v1a_firsts v1a_seconds s0f_facts s0a_heard s0a_huts s0a_minutes s1f_facts s1a_heard s1a_huts s1a_minutes c0f_voices c0f_step c0a_parts c0a_heights c1f_voices c1f_step c1a_parts c1a_heights := by
    intro n
    induction n with
    | zero => intro x2 l0f_huts l0f_singers l0f_villages l0f_dams l0f_echoes l0f_deep l0f_slide l0a_heights l0a_ladders l0a_minutes l0a_echoFrom l0a_echoTo l0a_homes l0a_talls l0a_known l1f_huts l1f_singers l1f_villages l1f_dams l1f_echoes l1f_deep l1f_slide l1a_heights l1a_ladders l1a_minutes l1a_echoFrom l1a_echoTo l1a_homes l1a_talls l1a_known v0f_deeds v0a_kinds v0a_firsts v0a_seconds v1f_deeds v1a_kinds v1a_firsts v1a_seconds s0f_facts s0a_heard s0a_huts s0a_minutes s1f_facts s1a_heard s1a_huts s1a_minutes c0f_voices c0f_step c0a_parts c0a_heights c1f_voices c1f_step c1a_parts c1a_heights hm hx2 k_l0f_huts k_l0f_singers k_l0f_villages k_l0f_dams k_l0f_echoes k_l0f_deep k_l0f_slide k_l0a_heights k_l0a_ladders k_l0a_minutes k_l0a_echoFrom k_l0a_echoTo k_l0a_homes k_l0a_talls k_l0a_known k_l1f_huts k_l1f_singers k_l1f_villages k_l1f_dams k_l1f_echoes k_l1f_deep k_l1f_slide k_l1a_heights k_l1a_ladders k_l1a_minutes k_l1a_echoFrom k_l1a_echoTo k_l1a_homes k_l1a_talls k_l1a_known k_v0f_deeds k_v0a_kinds k_v0a_firsts k_v0a_seconds k_v1f_deeds k_v1a_kinds k_v1a_firsts k_v1a_seconds k_s0f_facts k_s0a_heard k_s0a_huts k_s0a_minutes k_s1f_facts k_s1a_heard k_s1a_huts k_s1a_minutes k_c0f_voices k_c0f_step k_c0a_parts k_c0a_heights k_c1f_voices k_c1f_step k_c1a_parts k_c1a_heights; exact (ms0_up hm hx2).elim
    | succ n ih =>
      intro x2 l0f_huts l0f_singers l0f_villages l0f_dams l0f_echoes l0f_deep l0f_slide l0a_heights l0a_ladders l0a_minutes l0a_echoFrom l0a_echoTo l0a_homes l0a_talls l0a_known l1f_huts l1f_singers l1f_villages l1f_dams l1f_echoes l1f_deep l1f_slide l1a_heights l1a_ladders l1a_minutes l1a_echoFrom l1a_echoTo l1a_homes l1a_talls l1a_known v0f_deeds v0a_kinds v0a_firsts v0a_seconds v1f_deeds v1a_kinds v1a_firsts v1a_seconds s0f_facts s0a_heard s0a_huts s0a_minutes s1f_facts s1a_heard s1a_huts s1a_minutes c0f_voices c0f_step c0a_parts c0a_heights c1f_voices c1f_step c1a_parts c1a_heights hm hx2 k_l0f_huts k_l0f_singers k_l0f_villages k_l0f_dams k_l0f_echoes k_l0f_deep k_l0f_slide k_l0a_heights k_l0a_ladders k_l0a_minutes k_l0a_echoFrom k_l0a_echoTo k_l0a_homes k_l0a_talls k_l0a_known k_l1f_huts k_l1f_singers k_l1f_villages k_l1f_dams k_l1f_echoes k_l1f_deep k_l1f_slide k_l1a_heights k_l1a_ladders k_l1a_minutes k_l1a_echoFrom k_l1a_echoTo k_l1a_homes k_l1a_talls k_l1a_known k_v0f_deeds k_v0a_kinds k_v0a_firsts k_v0a_seconds k_v1f_deeds k_v1a_kinds k_v1a_firsts k_v1a_seconds k_s0f_facts k_s0a_heard k_s0a_huts k_s0a_minutes k_s1f_facts k_s1a_heard k_s1a_huts k_s1a_minutes k_c0f_voices k_c0f_step k_c0a_parts k_c0a_heights k_c1f_voices k_c1f_step k_c1a_parts k_c1a_heights
      apply hP
      refine ⟨fun c1 => ?_, fun c1 => ?_⟩
      · skip
        exact hpost _ _ _ _ _ _ _ _ _ _ _ _ _ _ _ _ _ _ _ _ _ _ _ _ _ _ _ _ _ _ _ _ _ _ _ _ _ _ _ _ _ _ _ _ _ _ _ _ _ _ _ _ _ _ _ _ _ _ _ k_a_tape k_f_length k_f_fault k_f_place k_a_counts k_l0f_huts k_l0f_singers k_l0f_villages k_l0f_dams k_l0f_echoes k_l0f_deep k_l0f_slide k_l0a_heights k_l0a_ladders k_l0a_minutes k_l0a_echoFrom k_l0a_echoTo k_l0a_homes k_l0a_talls k_l0a_known k_l1f_huts k_l1f_singers k_l1f_villages k_l1f_dams k_l1f_echoes k_l1f_deep k_l1f_slide k_l1a_heights k_l1a_ladders k_l1a_minutes k_l1a_echoFrom k_l1a_echoTo k_l1a_homes k_l1a_talls k_l1a_known k_v0f_deeds k_v0a_kinds k_v0a_firsts k_v0a_seconds k_v1f_deeds k_v1a_kinds k_v1a_firsts k_v1a_seconds k_s0f_facts k_s0a_heard k_s0a_huts k_s0a_minutes k_s1f_facts k_s1a_heard k_s1a_huts k_s1a_minutes k_c0f_voices k_c0f_step k_c0a_parts k_c0a_heights k_c1f_voices k_c1f_step k_c1a_parts k_c1a_heights
      · skip
        refine ⟨iv_in (iv_lta (l := 0) (h := 1) (r_nle c1) hx2 (iv_lit (l := 2) (h := 2) (by decide)) (by decide)) (by decide), fun hc => ?_, fun hc => ?_⟩
        · skip
          refine s_wll_X2_copyFrom_9_0 k_l0f_huts k_l0f_singers k_l0f_villages k_l0f_dams k_l0f_echoes k_l0f_deep k_l0f_slide k_l0a_heights k_l0a_ladders k_l0a_minutes k_l0a_echoFrom k_l0a_echoTo k_l0a_homes k_l0a_talls k_l0a_known k_ol0f_huts k_ol0f_singers k_ol0f_villages k_ol0f_dams k_ol0f_echoes k_ol0f_deep k_ol0f_slide k_ol0a_heights k_ol0a_ladders k_ol0a_minutes k_ol0a_echoFrom k_ol0a_echoTo k_ol0a_homes k_ol0a_talls k_ol0a_known (fun o2 o3 o4 o5 o6 o7 o8 o9 o10 o11 o12 o13 o14 o15 o16 k_o2 k_o3 k_o4 k_o5 k_o6 k_o7 k_o8 k_o9 k_o10 k_o11 k_o12 k_o13 k_o14 k_o15 k_o16 => ?_)
          refine s_wvv_X1_copyFrom_4_0 k_v0f_deeds k_v0a_kinds k_v0a_firsts k_v0a_seconds k_ov0f_deeds k_ov0a_kinds k_ov0a_firsts k_ov0a_seconds (fun o17 o18 o19 o20 k_o17 k_o18 k_o19 k_o20 => ?_)
          refine s_wss_X6_copyFrom_4_0 k_s0f_facts k_s0a_heard k_s0a_huts k_s0a_minutes k_os0f_facts k_os0a_heard k_os0a_huts k_os0a_minutes (fun o21 o22 o23 o24 k_o21 k_o22 k_o23 k_o24 => ?_)
          refine ⟨iv_nn k_oc0f_voices (by decide), ?_⟩
          refine ⟨iv_len (iv_lit (l := 0) (h := 0) (by decide)) k_oc0f_voices (by decide), ?_⟩
          refine ⟨iv_len (iv_lit (l := 0) (h := 0) (by decide)) k_oc0f_voices (by decide), ?_⟩
          intro a25 ea25
          have k_a25 := iv_cpy ea25 k_oc0a_parts k_c0a_parts
          refine ⟨iv_nn k_oc0f_voices (by decide), ?_⟩
          refine ⟨iv_len (iv_lit (l := 0) (h := 0) (by decide)) k_oc0f_voices (by decide), ?_⟩
          refine ⟨iv_len (iv_lit (l := 0) (h := 0) (by decide)) k_oc0f_voices (by decide), ?_⟩
          intro a26 ea26
          have k_a26 := iv_cpy ea26 k_oc0a_heights k_c0a_heights
          intro w27 ew27
          have hw27 := iv_eq ew27 (iv_add (l := 1) (h := 1) (iv_lit (l := 0) (h := 0) (by decide)) (iv_lit (l := 1) (h := 1) (by decide)) (by decide))
          exact ih _ _ _ _ _ _ _ _ _ _ _ _ _ _ _ _ _ _ _ _ _ _ _ _ _ _ _ _ _ _ _ _ _ _ _ _ _ _ _ _ _ _ _ _ _ _ _ _ _ _ _ _ _ _ _ (ms_up hm (inc_ltc hc ew27 (by decide))) (iv_w hw27 (by decide)) k_o2 k_o3 k_o4 k_o5 k_o6 k_o7 k_o8 k_o9 k_o10 k_o11 k_o12 k_o13 k_o14 k_o15 k_o16 k_l1f_huts k_l1f_singers k_l1f_villages k_l1f_dams k_l1f_echoes k_l1f_deep k_l1f_slide k_l1a_heights k_l1a_ladders k_l1a_minutes k_l1a_echoFrom k_l1a_echoTo k_l1a_homes k_l1a_talls k_l1a_known k_o17 k_o18 k_o19 k_o20 k_v1f_deeds k_v1a_kinds k_v1a_firsts k_v1a_seconds k_o21 k_o22 k_o23 k_o24 k_s1f_facts k_s1a_heard k_s1a_huts k_s1a_minutes k_oc0f_voices k_oc0f_step k_a25 k_a26 k_c1f_voices k_c1f_step k_c1a_parts k_c1a_heights
        · skip
          refine s_wll_X2_copyFrom_9_0 k_l1f_huts k_l1f_singers k_l1f_villages k_l1f_dams k_l1f_echoes k_l1f_deep k_l1f_slide k_l1a_heights k_l1a_ladders k_l1a_minutes k_l1a_echoFrom k_l1a_echoTo k_l1a_homes k_l1a_talls k_l1a_known k_ol1f_huts k_ol1f_singers k_ol1f_villages k_ol1f_dams k_ol1f_echoes k_ol1f_deep k_ol1f_slide k_ol1a_heights k_ol1a_ladders k_ol1a_minutes k_ol1a_echoFrom k_ol1a_echoTo k_ol1a_homes k_ol1a_talls k_ol1a_known (fun o28 o29 o30 o31 o32 o33 o34 o35 o36 o37 o38 o39 o40 o41 o42 k_o28 k_o29 k_o30 k_o31 k_o32 k_o33 k_o34 k_o35 k_o36 k_o37 k_o38 k_o39 k_o40 k_o41 k_o42 => ?_)
          refine s_wvv_X1_copyFrom_4_0 k_v1f_deeds k_v1a_kinds k_v1a_firsts k_v1a_seconds k_ov1f_deeds k_ov1a_kinds k_ov1a_firsts k_ov1a_seconds (fun o43 o44 o45 o46 k_o43 k_o44 k_o45 k_o46 => ?_)
          refine s_wss_X6_copyFrom_4_0 k_s1f_facts k_s1a_heard k_s1a_huts k_s1a_minutes k_os1f_facts k_os1a_heard k_os1a_huts k_os1a_minutes (fun o47 o48 o49 o50 k_o47 k_o48 k_o49 k_o50 => ?_)
          refine ⟨iv_nn k_oc1f_voices (by decide), ?_⟩
          refine ⟨iv_len (iv_lit (l := 0) (h := 0) (by decide)) k_oc1f_voices (by decide), ?_⟩
          refine ⟨iv_len (iv_lit (l := 0) (h := 0) (by decide)) k_oc1f_voices (by decide), ?_⟩
          intro a51 ea51
          have k_a51 := iv_cpy ea51 k_oc1a_parts k_c1a_parts
          refine ⟨iv_nn k_oc1f_voices (by decide), ?_⟩
          refine ⟨iv_len (iv_lit (l := 0) (h := 0) (by decide)) k_oc1f_voices (by decide), ?_⟩
          refine ⟨iv_len (iv_lit (l := 0) (h := 0) (by decide)) k_oc1f_voices (by decide), ?_⟩
          intro a52 ea52
          have k_a52 := iv_cpy ea52 k_oc1a_heights k_c1a_heights
          intro w53 ew53
          have hw53 := iv_eq ew53 (iv_add (l := 2) (h := 2) (iv_lit (l := 1) (h := 1) (by decide)) (iv_lit (l := 1) (h := 1) (by decide)) (by decide))
          exact ih _ _ _ _ _ _ _ _ _ _ _ _ _ _ _ _ _ _ _ _ _ _ _ _ _ _ _ _ _ _ _ _ _ _ _ _ _ _ _ _ _ _ _ _ _ _ _ _ _ _ _ _ _ _ _ (ms_up hm (inc_ltc (iv_is1 (iv_lta (l := 0) (h := 1) (r_nle c1) hx2 (iv_lit (l := 2) (h := 2) (by decide)) (by decide)) hc) ew53 (by decide))) (iv_w hw53 (by decide)) k_l0f_huts k_l0f_singers k_l0f_villages k_l0f_dams k_l0f_echoes k_l0f_deep k_l0f_slide k_l0a_heights k_l0a_ladders k_l0a_minutes k_l0a_echoFrom k_l0a_echoTo k_l0a_homes k_l0a_talls k_l0a_known k_o28 k_o29 k_o30 k_o31 k_o32 k_o33 k_o34 k_o35 k_o36 k_o37 k_o38 k_o39 k_o40 k_o41 k_o42 k_v0f_deeds k_v0a_kinds k_v0a_firsts k_v0a_seconds k_o43 k_o44 k_o45 k_o46 k_s0f_facts k_s0a_heard k_s0a_huts k_s0a_minutes k_o47 k_o48 k_o49 k_o50 k_c0f_voices k_c0f_step k_c0a_parts k_c0a_heights k_oc1f_voices k_oc1f_step k_a51 k_a52
  exact loop _ _ _ _ _ _ _ _ _ _ _ _ _ _ _ _ _ _ _ _ _ _ _ _ _ _ _ _ _ _ _ _ _ _ _ _ _ _ _ _ _ _ _ _ _ _ _ _ _ _ _ _ _ _ _ _ (ms_init_up _ _) hx2 k_l0f_huts k_l0f_singers k_l0f_villages k_l0f_dams k_l0f_echoes k_l0f_deep k_l0f_slide k_l0a_heights k_l0a_ladders k_l0a_minutes k_l0a_echoFrom k_l0a_echoTo k_l0a_homes k_l0a_talls k_l0a_known k_l1f_huts k_l1f_singers k_l1f_villages k_l1f_dams k_l1f_echoes k_l1f_deep k_l1f_slide k_l1a_heights k_l1a_ladders k_l1a_minutes k_l1a_echoFrom k_l1a_echoTo k_l1a_homes k_l1a_talls k_l1a_known k_v0f_deeds k_v0a_kinds k_v0a_firsts k_v0a_seconds k_v1f_deeds k_v1a_kinds k_v1a_firsts k_v1a_seconds k_s0f_facts k_s0a_heard k_s0a_huts k_s0a_minutes k_s1f_facts k_s1a_heard k_s1a_huts k_s1a_minutes k_c0f_voices k_c0f_step k_c0a_parts k_c0a_heights k_c1f_voices k_c1f_step k_c1a_parts k_c1a_heights
set_option maxRecDepth 20000 in
theorem s_wtt_X9_copyFrom_47_0 {a_tape : Nat → Int32} {f_length : Int32} {f_fault : Int32} {f_place : Int32} {a_counts : Nat → Int32} {l0f_huts : Int32} {l0f_singers : Int32} {l0f_villages : Int32} {l0f_dams : Int32} {l0f_echoes : Int32} {l0f_deep : Int32} {l0f_slide : Int32} {l0a_heights : Nat → Int32} {l0a_ladders : Nat → Int32} {l0a_minutes : Nat → Int32} {l0a_echoFrom : Nat → Int32} {l0a_echoTo : Nat → Int32} {l0a_homes : Nat → Int32} {l0a_talls : Nat → Int32} {l0a_known : Nat → Int32} {l1f_huts : Int32} {l1f_singers : Int32} {l1f_villages : Int32} {l1f_dams : Int32} {l1f_echoes : Int32} {l1f_deep : Int32} {l1f_slide : Int32} {l1a_heights : Nat → Int32} {l1a_ladders : Nat → Int32} {l1a_minutes : Nat → Int32} {l1a_echoFrom : Nat → Int32} {l1a_echoTo : Nat → Int32} {l1a_homes : Nat → Int32} {l1a_talls : Nat → Int32} {l1a_known : Nat → Int32} {v0f_deeds : Int32} {v0a_kinds : Nat → Int32} {v0a_firsts : Nat → Int32} {v0a_seconds : Nat → Int32} {v1f_deeds : Int32} {v1a_kinds : Nat → Int32} {v1a_firsts : Nat → Int32} {v1a_seconds : Nat → Int32} {s0f_facts : Int32} {s0a_heard : Nat → Int32} {s0a_huts : Nat → Int32} {s0a_minutes : Nat → Int32} {s1f_facts : Int32} {s1a_heard : Nat → Int32} {s1a_huts : Nat → Int32} {s1a_minutes : Nat → Int32} {c0f_voices : Int32} {c0f_step : Int32} {c0a_parts : Nat → Int32} {c0a_heights : Nat → Int32} {c1f_voices : Int32} {c1f_step : Int32} {c1a_parts : Nat → Int32} {c1a_heights : Nat → Int32} {oa_tape : Nat → Int32} {of_length : Int32} {of_fault : Int32} {of_place : Int32} {oa_counts : Nat → Int32} {ol0f_huts : Int32} {ol0f_singers : Int32} {ol0f_villages : Int32} {ol0f_dams : Int32} {ol0f_echoes : Int32} {ol0f_deep : Int32} {ol0f_slide : Int32} {ol0a_heights : Nat → Int32} {ol0a_ladders : Nat → Int32} {ol0a_minutes : Nat → Int32} {ol0a_echoFrom : Nat → Int32} {ol0a_echoTo : Nat → Int32} {ol0a_homes : Nat → Int32} {ol0a_talls : Nat → Int32} {ol0a_known : Nat → Int32} {ol1f_huts : Int32} {ol1f_singers : Int32} {ol1f_villages : Int32} {ol1f_dams : Int32} {ol1f_echoes : Int32} {ol1f_deep : Int32} {ol1f_slide : Int32} {ol1a_heights : Nat → Int32} {ol1a_ladders : Nat → Int32} {ol1a_minutes : Nat → Int32} {ol1a_echoFrom : Nat → Int32} {ol1a_echoTo : Nat → Int32} {ol1a_homes : Nat → Int32} {ol1a_talls : Nat → Int32} {ol1a_known : Nat → Int32} {ov0f_deeds : Int32} {ov0a_kinds : Nat → Int32} {ov0a_firsts : Nat → Int32} {ov0a_seconds : Nat → Int32} {ov1f_deeds : Int32} {ov1a_kinds : Nat → Int32} {ov1a_firsts : Nat → Int32} {ov1a_seconds : Nat → Int32} {os0f_facts : Int32} {os0a_heard : Nat → Int32} {os0a_huts : Nat → Int32} {os0a_minutes : Nat → Int32} {os1f_facts : Int32} {os1a_heard : Nat → Int32} {os1a_huts : Nat → Int32} {os1a_minutes : Nat → Int32} {oc0f_voices : Int32} {oc0f_step : Int32} {oc0a_parts : Nat → Int32} {oc0a_heights : Nat → Int32} {oc1f_voices : Int32} {oc1f_step : Int32} {oc1a_parts : Nat → Int32} {oc1a_heights : Nat → Int32} {post : (Nat → Int32) → (Int32) → (Int32) → (Int32) → (Nat → Int32) → (Int32) → (Int32) → (Int32) → (Int32) → (Int32) → (Int32) → (Int32) → (Nat → Int32) → (Nat → Int32) → (Nat → Int32) → (Nat → Int32) → (Nat → Int32) → (Nat → Int32) → (Nat → Int32) → (Nat → Int32) → (Int32) → (Int32) → (Int32) → (Int32) → (Int32) → (Int32) → (Int32) → (Nat → Int32) → (Nat → Int32) → (Nat → Int32) → (Nat → Int32) → (Nat → Int32) → (Nat → Int32) → (Nat → Int32) → (Nat → Int32) → (Int32) → (Nat → Int32) → (Nat → Int32) → (Nat → Int32) → (Int32) → (Nat → Int32) → (Nat → Int32) → (Nat → Int32) → (Int32) → (Nat → Int32) → (Nat → Int32) → (Nat → Int32) → (Int32) → (Nat → Int32) → (Nat → Int32) → (Nat → Int32) → (Int32) → (Int32) → (Nat → Int32) → (Nat → Int32) → (Int32) → (Int32) → (Nat → Int32) → (Nat → Int32) → Prop} (k_a_tape : ∀ j, iv (-128) 127 (a_tape j)) (k_f_length : iv 0 600 f_length) (k_f_fault : iv 0 4 f_fault) (k_f_place : iv (-1) 600 f_place) (k_a_counts : ∀ j, iv 0 2 (a_counts j)) (k_l0f_huts : iv 0 9 l0f_huts) (k_l0f_singers : iv 0 6 l0f_singers) (k_l0f_villages : iv 0 511 l0f_villages) (k_l0f_dams : iv 0 511 l0f_dams) (k_l0f_echoes : iv 0 4 l0f_echoes) (k_l0f_deep : iv 1 9 l0f_deep) (k_l0f_slide : iv 0 10 l0f_slide) (k_l0a_heights : ∀ j, iv 0 99 (l0a_heights j)) (k_l0a_ladders : ∀ j, iv 0 9 (l0a_ladders j)) (k_l0a_minutes : ∀ j, iv 0 9 (l0a_minutes j)) (k_l0a_echoFrom : ∀ j, iv 0 8 (l0a_echoFrom j)) (k_l0a_echoTo : ∀ j, iv 0 8 (l0a_echoTo j)) (k_l0a_homes : ∀ j, iv 0 8 (l0a_homes j)) (k_l0a_talls : ∀ j, iv 0 9 (l0a_talls j)) (k_l0a_known : ∀ j, iv 0 31 (l0a_known j)) (k_l1f_huts : iv 0 9 l1f_huts) (k_l1f_singers : iv 0 6 l1f_singers) (k_l1f_villages : iv 0 511 l1f_villages) (k_l1f_dams : iv 0 511 l1f_dams) (k_l1f_echoes : iv 0 4 l1f_echoes) (k_l1f_deep : iv 1 9 l1f_deep) (k_l1f_slide : iv 0 10 l1f_slide) (k_l1a_heights : ∀ j, iv 0 99 (l1a_heights j)) (k_l1a_ladders : ∀ j, iv 0 9 (l1a_ladders j)) (k_l1a_minutes : ∀ j, iv 0 9 (l1a_minutes j)) (k_l1a_echoFrom : ∀ j, iv 0 8 (l1a_echoFrom j)) (k_l1a_echoTo : ∀ j, iv 0 8 (l1a_echoTo j)) (k_l1a_homes : ∀ j, iv 0 8 (l1a_homes j)) (k_l1a_talls : ∀ j, iv 0 9 (l1a_talls j)) (k_l1a_known : ∀ j, iv 0 31 (l1a_known j)) (k_v0f_deeds : iv 0 40 v0f_deeds) (k_v0a_kinds : ∀ j, iv 0 5 (v0a_kinds j)) (k_v0a_firsts : ∀ j, iv 0 5 (v0a_firsts j)) (k_v0a_seconds : ∀ j, iv (-1) 8 (v0a_seconds j)) (k_v1f_deeds : iv 0 40 v1f_deeds) (k_v1a_kinds : ∀ j, iv 0 5 (v1a_kinds j)) (k_v1a_firsts : ∀ j, iv 0 5 (v1a_firsts j)) (k_v1a_seconds : ∀ j, iv (-1) 8 (v1a_seconds j)) (k_s0f_facts : iv 0 10 s0f_facts) (k_s0a_heard : ∀ j, iv 0 1 (s0a_heard j)) (k_s0a_huts : ∀ j, iv 0 8 (s0a_huts j)) (k_s0a_minutes : ∀ j, iv 0 60 (s0a_minutes j)) (k_s1f_facts : iv 0 10 s1f_facts) (k_s1a_heard : ∀ j, iv 0 1 (s1a_heard j)) (k_s1a_huts : ∀ j, iv 0 8 (s1a_huts j)) (k_s1a_minutes : ∀ j, iv 0 60 (s1a_minutes j)) (k_c0f_voices : iv 0 9 c0f_voices) (k_c0f_step : iv 0 9 c0f_step) (k_c0a_parts : ∀ j, iv 0 3 (c0a_parts j)) (k_c0a_heights : ∀ j, iv 0 9 (c0a_heights j)) (k_c1f_voices : iv 0 9 c1f_voices) (k_c1f_step : iv 0 9 c1f_step) (k_c1a_parts : ∀ j, iv 0 3 (c1a_parts j)) (k_c1a_heights : ∀ j, iv 0 9 (c1a_heights j)) (k_oa_tape : ∀ j, iv (-128) 127 (oa_tape j)) (k_of_length : iv 0 600 of_length) (k_of_fault : iv 0 4 of_fault) (k_of_place : iv (-1) 600 of_place) (k_oa_counts : ∀ j, iv 0 2 (oa_counts j)) (k_ol0f_huts : iv 0 9 ol0f_huts) (k_ol0f_singers : iv 0 6 ol0f_singers) (k_ol0f_villages : iv 0 511 ol0f_villages) (k_ol0f_dams : iv 0 511 ol0f_dams) (k_ol0f_echoes : iv 0 4 ol0f_echoes) (k_ol0f_deep : iv 1 9 ol0f_deep) (k_ol0f_slide : iv 0 10 ol0f_slide) (k_ol0a_heights : ∀ j, iv 0 99 (ol0a_heights j)) (k_ol0a_ladders : ∀ j, iv 0 9 (ol0a_ladders j)) (k_ol0a_minutes : ∀ j, iv 0 9 (ol0a_minutes j)) (k_ol0a_echoFrom : ∀ j, iv 0 8 (ol0a_echoFrom j)) (k_ol0a_echoTo : ∀ j, iv 0 8 (ol0a_echoTo j)) (k_ol0a_homes : ∀ j, iv 0 8 (ol0a_homes j)) (k_ol0a_talls : ∀ j, iv 0 9 (ol0a_talls j)) (k_ol0a_known : ∀ j, iv 0 31 (ol0a_known j)) (k_ol1f_huts : iv 0 9 ol1f_huts) (k_ol1f_singers : iv 0 6 ol1f_singers) (k_ol1f_villages : iv 0 511 ol1f_villages) (k_ol1f_dams : iv 0 511 ol1f_dams) (k_ol1f_echoes : iv 0 4 ol1f_echoes) (k_ol1f_deep : iv 1 9 ol1f_deep) (k_ol1f_slide : iv 0 10 ol1f_slide) (k_ol1a_heights : ∀ j, iv 0 99 (ol1a_heights j)) (k_ol1a_ladders : ∀ j, iv 0 9 (ol1a_ladders j)) (k_ol1a_minutes : ∀ j, iv 0 9 (ol1a_minutes j)) (k_ol1a_echoFrom : ∀ j, iv 0 8 (ol1a_echoFrom j)) (k_ol1a_echoTo : ∀ j, iv 0 8 (ol1a_echoTo j)) (k_ol1a_homes : ∀ j, iv 0 8 (ol1a_homes j)) (k_ol1a_talls : ∀ j, iv 0 9 (ol1a_talls j)) (k_ol1a_known : ∀ j, iv 0 31 (ol1a_known j)) (k_ov0f_deeds : iv 0 40 ov0f_deeds) (k_ov0a_kinds : ∀ j, iv 0 5 (ov0a_kinds j)) (k_ov0a_firsts : ∀ j, iv 0 5 (ov0a_firsts j)) (k_ov0a_seconds : ∀ j, iv (-1) 8 (ov0a_seconds j)) (k_ov1f_deeds : iv 0 40 ov1f_deeds) (k_ov1a_kinds : ∀ j, iv 0 5 (ov1a_kinds j)) (k_ov1a_firsts : ∀ j, iv 0 5 (ov1a_firsts j)) (k_ov1a_seconds : ∀ j, iv (-1) 8 (ov1a_seconds j)) (k_os0f_facts : iv 0 10 os0f_facts) (k_os0a_heard : ∀ j, iv 0 1 (os0a_heard j)) (k_os0a_huts : ∀ j, iv 0 8 (os0a_huts j)) (k_os0a_minutes : ∀ j, iv 0 60 (os0a_minutes j)) (k_os1f_facts : iv 0 10 os1f_facts) (k_os1a_heard : ∀ j, iv 0 1 (os1a_heard j)) (k_os1a_huts : ∀ j, iv 0 8 (os1a_huts j)) (k_os1a_minutes : ∀ j, iv 0 60 (os1a_minutes j)) (k_oc0f_voices : iv 0 9 oc0f_voices) (k_oc0f_step : iv 0 9 oc0f_step) (k_oc0a_parts : ∀ j, iv 0 3 (oc0a_parts j)) (k_oc0a_heights : ∀ j, iv 0 9 (oc0a_heights j)) (k_oc1f_voices : iv 0 9 oc1f_voices) (k_oc1f_step : iv 0 9 oc1f_step) (k_oc1a_parts : ∀ j, iv 0 3 (oc1a_parts j)) (k_oc1a_heights : ∀ j, iv 0 9 (oc1a_heights j)) (hpost : ∀ (a_tape : Nat → Int32) (f_length : Int32) (f_fault : Int32) (f_place : Int32) (a_counts : Nat → Int32) (l0f_huts : Int32) (l0f_singers : Int32) (l0f_villages : Int32) (l0f_dams : Int32) (l0f_echoes : Int32) (l0f_deep : Int32) (l0f_slide : Int32) (l0a_heights : Nat → Int32) (l0a_ladders : Nat → Int32) (l0a_minutes : Nat → Int32) (l0a_echoFrom : Nat → Int32) (l0a_echoTo : Nat → Int32) (l0a_homes : Nat → Int32) (l0a_talls : Nat → Int32) (l0a_known : Nat → Int32) (l1f_huts : Int32) (l1f_singers : Int32) (l1f_villages : Int32) (l1f_dams : Int32) (l1f_echoes : Int32) (l1f_deep : Int32) (l1f_slide : Int32) (l1a_heights : Nat → Int32) (l1a_ladders : Nat → Int32) (l1a_minutes : Nat → Int32) (l1a_echoFrom : Nat → Int32) (l1a_echoTo : Nat → Int32) (l1a_homes : Nat → Int32) (l1a_talls : Nat → Int32) (l1a_known : Nat → Int32) (v0f_deeds : Int32) (v0a_kinds : Nat → Int32) (v0a_firsts : Nat → Int32) (v0a_seconds : Nat → Int32) (v1f_deeds : Int32) (v1a_kinds : Nat → Int32) (v1a_firsts : Nat → Int32) (v1a_seconds : Nat → Int32) (s0f_facts : Int32) (s0a_heard : Nat → Int32) (s0a_huts : Nat → Int32) (s0a_minutes : Nat → Int32) (s1f_facts : Int32) (s1a_heard : Nat → Int32) (s1a_huts : Nat → Int32) (s1a_minutes : Nat → Int32) (c0f_voices : Int32) (c0f_step : Int32) (c0a_parts : Nat → Int32) (c0a_heights : Nat → Int32) (c1f_voices : Int32) (c1f_step : Int32) (c1a_parts : Nat → Int32) (c1a_heights : Nat → Int32), (∀ j, iv (-128) 127 (a_tape j)) → (iv 0 600 f_length) → (iv 0 4 f_fault) → (iv (-1) 600 f_place) → (∀ j, iv 0 2 (a_counts j)) → (iv 0 9 l0f_huts) → (iv 0 6 l0f_singers) → (iv 0 511 l0f_villages) → (iv 0 511 l0f_dams) → (iv 0 4 l0f_echoes) → (iv 1 9 l0f_deep) → (iv 0 10 l0f_slide) → (∀ j, iv 0 99 (l0a_heights j)) → (∀ j, iv 0 9 (l0a_ladders j)) → (∀ j, iv 0 9 (l0a_minutes j)) → (∀ j, iv 0 8 (l0a_echoFrom j)) → (∀ j, iv 0 8 (l0a_echoTo j)) → (∀ j, iv 0 8 (l0a_homes j)) → (∀ j, iv 0 9 (l0a_talls j)) → (∀ j, iv 0 31 (l0a_known j)) → (iv 0 9 l1f_huts) → (iv 0 6 l1f_singers) → (iv 0 511 l1f_villages) → (iv 0 511 l1f_dams) → (iv 0 4 l1f_echoes) → (iv 1 9 l1f_deep) → (iv 0 10 l1f_slide) → (∀ j, iv 0 99 (l1a_heights j)) → (∀ j, iv 0 9 (l1a_ladders j)) → (∀ j, iv 0 9 (l1a_minutes j)) → (∀ j, iv 0 8 (l1a_echoFrom j)) → (∀ j, iv 0 8 (l1a_echoTo j)) → (∀ j, iv 0 8 (l1a_homes j)) → (∀ j, iv 0 9 (l1a_talls j)) → (∀ j, iv 0 31 (l1a_known j)) → (iv 0 40 v0f_deeds) → (∀ j, iv 0 5 (v0a_kinds j)) → (∀ j, iv 0 5 (v0a_firsts j)) → (∀ j, iv (-1) 8 (v0a_seconds j)) → (iv 0 40 v1f_deeds) → (∀ j, iv 0 5 (v1a_kinds j)) → (∀ j, iv 0 5 (v1a_firsts j)) → (∀ j, iv (-1) 8 (v1a_seconds j)) → (iv 0 10 s0f_facts) → (∀ j, iv 0 1 (s0a_heard j)) → (∀ j, iv 0 8 (s0a_huts j)) → (∀ j, iv 0 60 (s0a_minutes j)) → (iv 0 10 s1f_facts) → (∀ j, iv 0 1 (s1a_heard j)) → (∀ j, iv 0 8 (s1a_huts j)) → (∀ j, iv 0 60 (s1a_minutes j)) → (iv 0 9 c0f_voices) → (iv 0 9 c0f_step) → (∀ j, iv 0 3 (c0a_parts j)) → (∀ j, iv 0 9 (c0a_heights j)) → (iv 0 9 c1f_voices) → (iv 0 9 c1f_step) → (∀ j, iv 0 3 (c1a_parts j)) → (∀ j, iv 0 9 (c1a_heights j)) → post a_tape f_length f_fault f_place a_counts l0f_huts l0f_singers l0f_villages l0f_dams l0f_echoes l0f_deep l0f_slide l0a_heights l0a_ladders l0a_minutes l0a_echoFrom l0a_echoTo l0a_homes l0a_talls l0a_known l1f_huts l1f_singers l1f_villages l1f_dams l1f_echoes l1f_deep l1f_slide l1a_heights l1a_ladders l1a_minutes l1a_echoFrom l1a_echoTo l1a_homes l1a_talls l1a_known v0f_deeds v0a_kinds v0a_firsts v0a_seconds v1f_deeds v1a_kinds v1a_firsts v1a_seconds s0f_facts s0a_heard s0a_huts s0a_minutes s1f_facts s1a_heard s1a_huts s1a_minutes c0f_voices c0f_step c0a_parts c0a_heights c1f_voices c1f_step c1a_parts c1a_heights) : q_wtt_X9_copyFrom_47_0 a_tape f_length f_fault f_place a_counts l0f_huts l0f_singers l0f_villages l0f_dams l0f_echoes l0f_deep l0f_slide l0a_heights l0a_ladders l0a_minutes l0a_echoFrom l0a_echoTo l0a_homes l0a_talls l0a_known l1f_huts l1f_singers l1f_villages l1f_dams l1f_echoes l1f_deep l1f_slide l1a_heights l1a_ladders l1a_minutes l1a_echoFrom l1a_echoTo l1a_homes l1a_talls l1a_known v0f_deeds v0a_kinds v0a_firsts v0a_seconds v1f_deeds v1a_kinds v1a_firsts v1a_seconds s0f_facts s0a_heard s0a_huts s0a_minutes s1f_facts s1a_heard s1a_huts s1a_minutes c0f_voices c0f_step c0a_parts c0a_heights c1f_voices c1f_step c1a_parts c1a_heights oa_tape of_length of_fault of_place oa_counts ol0f_huts ol0f_singers ol0f_villages ol0f_dams ol0f_echoes ol0f_deep ol0f_slide ol0a_heights ol0a_ladders ol0a_minutes ol0a_echoFrom ol0a_echoTo ol0a_homes ol0a_talls ol0a_known ol1f_huts ol1f_singers ol1f_villages ol1f_dams ol1f_echoes ol1f_deep ol1f_slide ol1a_heights ol1a_ladders ol1a_minutes ol1a_echoFrom ol1a_echoTo ol1a_homes ol1a_talls ol1a_known ov0f_deeds ov0a_kinds ov0a_firsts ov0a_seconds ov1f_deeds ov1a_kinds ov1a_firsts ov1a_seconds os0f_facts os0a_heard os0a_huts os0a_minutes os1f_facts os1a_heard os1a_huts os1a_minutes oc0f_voices oc0f_step oc0a_parts oc0a_heights oc1f_voices oc1f_step oc1a_parts oc1a_heights post := by
  refine ⟨iv_nn k_of_length (by decide), ?_⟩
  refine ⟨iv_len (iv_lit (l := 0) (h := 0) (by decide)) k_of_length (by decide), ?_⟩
  refine ⟨iv_len (iv_lit (l := 0) (h := 0) (by decide)) k_of_length (by decide), ?_⟩
  refine ⟨fun i _ => iv_fitB (k_oa_tape _), ?_⟩
  intro a1 ea1
  have k_a1 := iv_cpy ea1 k_oa_tape k_a_tape
  intro a2 ea2
  have k_a2 := iv_cpy ea2 k_oa_counts k_a_counts
  exact s_wtt_X9_copyFrom_47_57 k_a1 k_of_length k_of_fault k_of_place k_a2 k_l0f_huts k_l0f_singers k_l0f_villages k_l0f_dams k_l0f_echoes k_l0f_deep k_l0f_slide k_l0a_heights k_l0a_ladders k_l0a_minutes k_l0a_echoFrom k_l0a_echoTo k_l0a_homes k_l0a_talls k_l0a_known k_l1f_huts k_l1f_singers k_l1f_villages k_l1f_dams k_l1f_echoes k_l1f_deep k_l1f_slide k_l1a_heights k_l1a_ladders k_l1a_minutes k_l1a_echoFrom k_l1a_echoTo k_l1a_homes k_l1a_talls k_l1a_known k_v0f_deeds k_v0a_kinds k_v0a_firsts k_v0a_seconds k_v1f_deeds k_v1a_kinds k_v1a_firsts k_v1a_seconds k_s0f_facts k_s0a_heard k_s0a_huts k_s0a_minutes k_s1f_facts k_s1a_heard k_s1a_huts k_s1a_minutes k_c0f_voices k_c0f_step k_c0a_parts k_c0a_heights k_c1f_voices k_c1f_step k_c1a_parts k_c1a_heights k_oa_tape k_of_length k_of_fault k_of_place k_oa_counts k_ol0f_huts k_ol0f_singers k_ol0f_villages k_ol0f_dams k_ol0f_echoes k_ol0f_deep k_ol0f_slide k_ol0a_heights k_ol0a_ladders k_ol0a_minutes k_ol0a_echoFrom k_ol0a_echoTo k_ol0a_homes k_ol0a_talls k_ol0a_known k_ol1f_huts k_ol1f_singers k_ol1f_villages k_ol1f_dams k_ol1f_echoes k_ol1f_deep k_ol1f_slide k_ol1a_heights k_ol1a_ladders k_ol1a_minutes k_ol1a_echoFrom k_ol1a_echoTo k_ol1a_homes k_ol1a_talls k_ol1a_known k_ov0f_deeds k_ov0a_kinds k_ov0a_firsts k_ov0a_seconds k_ov1f_deeds k_ov1a_kinds k_ov1a_firsts k_ov1a_seconds k_os0f_facts k_os0a_heard k_os0a_huts k_os0a_minutes k_os1f_facts k_os1a_heard k_os1a_huts k_os1a_minutes k_oc0f_voices k_oc0f_step k_oc0a_parts k_oc0a_heights k_oc1f_voices k_oc1f_step k_oc1a_parts k_oc1a_heights (iv_w (iv_lit (l := 0) (h := 0) (by decide)) (by decide)) hpost
-- wxt_X10_choir
set_option maxRecDepth 20000 in
theorem s_wxt_X10_choir_0 {ta_counts : Nat → Int32} {tc0f_voices : Int32} {tc0f_step : Int32} {tc0a_parts : Nat → Int32} {tc0a_heights : Nat → Int32} {tc1f_voices : Int32} {tc1f_step : Int32} {tc1a_parts : Nat → Int32} {tc1a_heights : Nat → Int32} {ka_gaps : Nat → Int32} {ka_behind : Nat → Int32} {z_tab : Nat → Int32} {x1 : Int32} {x2 : Int32} {post : Int32 → (Nat → Int32) → (Nat → Int32) → (Nat → Int32) → Prop} (k_ta_counts : ∀ j, iv 0 2 (ta_counts j)) (k_tc0f_voices : iv 0 9 tc0f_voices) (k_tc0f_step : iv 0 9 tc0f_step) (k_tc0a_parts : ∀ j, iv 0 3 (tc0a_parts j)) (k_tc0a_heights : ∀ j, iv 0 9 (tc0a_heights j)) (k_tc1f_voices : iv 0 9 tc1f_voices) (k_tc1f_step : iv 0 9 tc1f_step) (k_tc1a_parts : ∀ j, iv 0 3 (tc1a_parts j)) (k_tc1a_heights : ∀ j, iv 0 9 (tc1a_heights j)) (k_ka_behind : ∀ j, iv 0 511 (ka_behind j)) (hpost : ∀ (r : Int32) (ka_gaps : Nat → Int32) (ka_behind : Nat → Int32) (z_tab : Nat → Int32), (∀ j, iv 0 511 (ka_behind j)) → post r ka_gaps ka_behind z_tab) : q_wxt_X10_choir_0 ta_counts tc0f_voices tc0f_step tc0a_parts tc0a_heights tc1f_voices tc1f_step tc1a_parts tc1a_heights ka_gaps ka_behind z_tab x1 x2 post := by
  refine ⟨fun c1 => ?_, fun c1 => ?_⟩
  · skip
    refine ⟨fun _ => ?_, fun h => absurd h (by decide), fun h0 h1 => absurd rfl h0⟩
    exact hpost _ _ _ _ k_ka_behind
  · skip
    refine ⟨fun c2 => ?_, fun c2 => ?_⟩
    · skip
      refine ⟨fun _ => ?_, fun h => absurd h (by decide), fun h0 h1 => absurd rfl h0⟩
      exact hpost _ _ _ _ k_ka_behind
    · skip
      refine ⟨iv_in (iv_lta (l := 0) (h := 1) (r_nle c2) (iv_leb (l := 0) (h := 2147483647) (r_nlt c1) (iv_lit (l := 0) (h := 0) (by decide)) (iv_top x1) (by decide)) (k_ta_counts _) (by decide)) (by decide), fun hc => ?_, fun hc => ?_⟩
      · skip
        refine ⟨fun h => absurd h (by decide), fun h => absurd h (by decide), fun h0 h1 => ?_⟩
        refine ⟨fun c3 => ?_, fun c3 => ?_⟩
        · skip
          refine s_wc_X0_look_0 k_tc0f_voices k_tc0f_step k_tc0a_parts k_tc0a_heights (fun r4 hr4 => ?_)
          exact hpost _ _ _ _ k_ka_behind
        · skip
          refine s_wk_X5_leastStep_3_0 k_ka_behind k_tc0f_voices k_tc0f_step k_tc0a_parts k_tc0a_heights (fun r5 o6 o7 o8 hr5 k_o7 => ?_)
          exact hpost _ _ _ _ k_o7
      · skip
        refine ⟨fun h => absurd h (by decide), fun _ => ?_, fun h0 h1 => absurd rfl h1⟩
        refine ⟨fun c9 => ?_, fun c9 => ?_⟩
        · skip
          refine s_wc_X0_look_0 k_tc1f_voices k_tc1f_step k_tc1a_parts k_tc1a_heights (fun r10 hr10 => ?_)
          exact hpost _ _ _ _ k_ka_behind
        · skip
          refine s_wk_X5_leastStep_3_0 k_ka_behind k_tc1f_voices k_tc1f_step k_tc1a_parts k_tc1a_heights (fun r11 o12 o13 o14 hr11 k_o13 => ?_)
          exact hpost _ _ _ _ k_o13
-- wxt_X10_orders
set_option maxRecDepth 20000 in
theorem s_wxt_X10_orders_22k0 {ta_counts : Nat → Int32} {tc0f_voices : Int32} {tc0f_step : Int32} {tc0a_parts : Nat → Int32} {tc0a_heights : Nat → Int32} {tc1f_voices : Int32} {tc1f_step : Int32} {tc1a_parts : Nat → Int32} {tc1a_heights : Nat → Int32} {ka_gaps : Nat → Int32} {ka_behind : Nat → Int32} {z_tab : Nat → Int32} {post : Int64 → (Nat → Int32) → (Nat → Int32) → (Nat → Int32) → Prop} (k_ta_counts : ∀ j, iv 0 2 (ta_counts j)) (k_tc0f_voices : iv 0 9 tc0f_voices) (k_tc0f_step : iv 0 9 tc0f_step) (k_tc0a_parts : ∀ j, iv 0 3 (tc0a_parts j)) (k_tc0a_heights : ∀ j, iv 0 9 (tc0a_heights j)) (k_tc1f_voices : iv 0 9 tc1f_voices) (k_tc1f_step : iv 0 9 tc1f_step) (k_tc1a_parts : ∀ j, iv 0 3 (tc1a_parts j)) (k_tc1a_heights : ∀ j, iv 0 9 (tc1a_heights j)) (k_ka_behind : ∀ j, iv 0 511 (ka_behind j)) (hpost : ∀ (r : Int64) (ka_gaps : Nat → Int32) (ka_behind : Nat → Int32) (z_tab : Nat → Int32), (∀ j, iv 0 511 (ka_behind j)) → post r ka_gaps ka_behind z_tab) : q_wxt_X10_orders_22k0 ta_counts tc0f_voices tc0f_step tc0a_parts tc0a_heights tc1f_voices tc1f_step tc1a_parts tc1a_heights ka_gaps ka_behind z_tab post := by
  refine s_wk_X5_total_3_0 k_tc0f_voices (fun r1 => ?_)
  exact hpost _ _ _ _ k_ka_behind
set_option maxRecDepth 20000 in
theorem s_wxt_X10_orders_22k1 {ta_counts : Nat → Int32} {tc0f_voices : Int32} {tc0f_step : Int32} {tc0a_parts : Nat → Int32} {tc0a_heights : Nat → Int32} {tc1f_voices : Int32} {tc1f_step : Int32} {tc1a_parts : Nat → Int32} {tc1a_heights : Nat → Int32} {ka_gaps : Nat → Int32} {ka_behind : Nat → Int32} {z_tab : Nat → Int32} {post : Int64 → (Nat → Int32) → (Nat → Int32) → (Nat → Int32) → Prop} (k_ta_counts : ∀ j, iv 0 2 (ta_counts j)) (k_tc0f_voices : iv 0 9 tc0f_voices) (k_tc0f_step : iv 0 9 tc0f_step) (k_tc0a_parts : ∀ j, iv 0 3 (tc0a_parts j)) (k_tc0a_heights : ∀ j, iv 0 9 (tc0a_heights j)) (k_tc1f_voices : iv 0 9 tc1f_voices) (k_tc1f_step : iv 0 9 tc1f_step) (k_tc1a_parts : ∀ j, iv 0 3 (tc1a_parts j)) (k_tc1a_heights : ∀ j, iv 0 9 (tc1a_heights j)) (k_ka_behind : ∀ j, iv 0 511 (ka_behind j)) (hpost : ∀ (r : Int64) (ka_gaps : Nat → Int32) (ka_behind : Nat → Int32) (z_tab : Nat → Int32), (∀ j, iv 0 511 (ka_behind j)) → post r ka_gaps ka_behind z_tab) : q_wxt_X10_orders_22k1 ta_counts tc0f_voices tc0f_step tc0a_parts tc0a_heights tc1f_voices tc1f_step tc1a_parts tc1a_heights ka_gaps ka_behind z_tab post := by
  refine s_wk_X5_total_3_0 k_tc1f_voices (fun r1 => ?_)
  exact hpost _ _ _ _ k_ka_behind
set_option maxRecDepth 20000 in
theorem s_wxt_X10_orders_0 {ta_counts : Nat → Int32} {tc0f_voices : Int32} {tc0f_step : Int32} {tc0a_parts : Nat → Int32} {tc0a_heights : Nat → Int32} {tc1f_voices : Int32} {tc1f_step : Int32} {tc1a_parts : Nat → Int32} {tc1a_heights : Nat → Int32} {ka_gaps : Nat → Int32} {ka_behind : Nat → Int32} {z_tab : Nat → Int32} {x1 : Int32} {post : Int64 → (Nat → Int32) → (Nat → Int32) → (Nat → Int32) → Prop} (k_ta_counts : ∀ j, iv 0 2 (ta_counts j)) (k_tc0f_voices : iv 0 9 tc0f_voices) (k_tc0f_step : iv 0 9 tc0f_step) (k_tc0a_parts : ∀ j, iv 0 3 (tc0a_parts j)) (k_tc0a_heights : ∀ j, iv 0 9 (tc0a_heights j)) (k_tc1f_voices : iv 0 9 tc1f_voices) (k_tc1f_step : iv 0 9 tc1f_step) (k_tc1a_parts : ∀ j, iv 0 3 (tc1a_parts j)) (k_tc1a_heights : ∀ j, iv 0 9 (tc1a_heights j)) (k_ka_behind : ∀ j, iv 0 511 (ka_behind j)) (hpost : ∀ (r : Int64) (ka_gaps : Nat → Int32) (ka_behind : Nat → Int32) (z_tab : Nat → Int32), (∀ j, iv 0 511 (ka_behind j)) → post r ka_gaps ka_behind z_tab) : q_wxt_X10_orders_0 ta_counts tc0f_voices tc0f_step tc0a_parts tc0a_heights tc1f_voices tc1f_step tc1a_parts tc1a_heights ka_gaps ka_behind z_tab x1 post := by
  refine ⟨fun c1 => ?_, fun c1 => ?_⟩
  · skip
    refine ⟨fun _ => ?_, fun h => absurd h (by decide), fun h0 h1 => absurd rfl h0⟩
    exact hpost _ _ _ _ k_ka_behind
  · skip
    refine ⟨fun c2 => ?_, fun c2 => ?_⟩
    · skip
      refine ⟨fun _ => ?_, fun h => absurd h (by decide), fun h0 h1 => absurd rfl h0⟩
      exact hpost _ _ _ _ k_ka_behind
    · skip
      refine ⟨iv_in (iv_lta (l := 0) (h := 1) (r_nle c2) (iv_leb (l := 0) (h := 2147483647) (r_nlt c1) (iv_lit (l := 0) (h := 0) (by decide)) (iv_top x1) (by decide)) (k_ta_counts _) (by decide)) (by decide), fun hc => ?_, fun hc => ?_⟩
      · skip
        refine ⟨fun h => absurd h (by decide), fun h => absurd h (by decide), fun h0 h1 => ?_⟩
        refine s_wk_X5_fill_3_0 k_ka_behind k_tc0f_voices k_tc0f_step k_tc0a_parts k_tc0a_heights (fun o3 o4 o5 k_o4 => ?_)
        exact s_wxt_X10_orders_22k0 k_ta_counts k_tc0f_voices k_tc0f_step k_tc0a_parts k_tc0a_heights k_tc1f_voices k_tc1f_step k_tc1a_parts k_tc1a_heights k_o4 hpost
      · skip
        refine ⟨fun h => absurd h (by decide), fun _ => ?_, fun h0 h1 => absurd rfl h1⟩
        refine s_wk_X5_fill_3_0 k_ka_behind k_tc1f_voices k_tc1f_step k_tc1a_parts k_tc1a_heights (fun o6 o7 o8 k_o7 => ?_)
        exact s_wxt_X10_orders_22k1 k_ta_counts k_tc0f_voices k_tc0f_step k_tc0a_parts k_tc0a_heights k_tc1f_voices k_tc1f_step k_tc1a_parts k_tc1a_heights k_o7 hpost
-- wxt_X10_order
set_option maxRecDepth 20000 in
theorem s_wxt_X10_order_32k0 {ta_counts : Nat → Int32} {tc0f_voices : Int32} {tc0f_step : Int32} {tc0a_parts : Nat → Int32} {tc0a_heights : Nat → Int32} {tc1f_voices : Int32} {tc1f_step : Int32} {tc1a_parts : Nat → Int32} {tc1a_heights : Nat → Int32} {ka_gaps : Nat → Int32} {ka_behind : Nat → Int32} {z_tab : Nat → Int32} {x2 : Int32} {post : Int32 → (Nat → Int32) → (Nat → Int32) → (Nat → Int32) → Prop} (k_ta_counts : ∀ j, iv 0 2 (ta_counts j)) (k_tc0f_voices : iv 1 9 tc0f_voices) (k_tc0f_step : iv 0 9 tc0f_step) (k_tc0a_parts : ∀ j, iv 0 3 (tc0a_parts j)) (k_tc0a_heights : ∀ j, iv 0 9 (tc0a_heights j)) (k_tc1f_voices : iv 0 9 tc1f_voices) (k_tc1f_step : iv 0 9 tc1f_step) (k_tc1a_parts : ∀ j, iv 0 3 (tc1a_parts j)) (k_tc1a_heights : ∀ j, iv 0 9 (tc1a_heights j)) (k_ka_behind : ∀ j, iv 0 511 (ka_behind j)) (hx2 : iv 0 8 x2) (hpost : ∀ (r : Int32) (ka_gaps : Nat → Int32) (ka_behind : Nat → Int32) (z_tab : Nat → Int32), iv (-1) 8 r → (∀ j, iv 0 511 (ka_behind j)) → post r ka_gaps ka_behind z_tab) : q_wxt_X10_order_32k0 ta_counts tc0f_voices tc0f_step tc0a_parts tc0a_heights tc1f_voices tc1f_step tc1a_parts tc1a_heights ka_gaps ka_behind z_tab x2 post := by
  refine s_wk_X5_total_3_0 (iv_w k_tc0f_voices (by decide)) (fun r1 => ?_)
  refine ⟨fun c2 => ?_, fun c2 => ?_⟩
  · skip
    refine s_wk_X5_voiceAt_3_0 k_ka_behind k_tc0f_voices hx2 (fun r3 hr3 => ?_)
    exact hpost _ _ _ _ hr3 k_ka_behind
  · skip
    exact hpost _ _ _ _ (iv_w (iv_lit (l := (-1)) (h := (-1)) (by decide)) (by decide)) k_ka_behind
set_option maxRecDepth 20000 in
theorem s_wxt_X10_order_32k1 {ta_counts : Nat → Int32} {tc0f_voices : Int32} {tc0f_step : Int32} {tc0a_parts : Nat → Int32} {tc0a_heights : Nat → Int32} {tc1f_voices : Int32} {tc1f_step : Int32} {tc1a_parts : Nat → Int32} {tc1a_heights : Nat → Int32} {ka_gaps : Nat → Int32} {ka_behind : Nat → Int32} {z_tab : Nat → Int32} {x2 : Int32} {post : Int32 → (Nat → Int32) → (Nat → Int32) → (Nat → Int32) → Prop} (k_ta_counts : ∀ j, iv 0 2 (ta_counts j)) (k_tc0f_voices : iv 0 9 tc0f_voices) (k_tc0f_step : iv 0 9 tc0f_step) (k_tc0a_parts : ∀ j, iv 0 3 (tc0a_parts j)) (k_tc0a_heights : ∀ j, iv 0 9 (tc0a_heights j)) (k_tc1f_voices : iv 1 9 tc1f_voices) (k_tc1f_step : iv 0 9 tc1f_step) (k_tc1a_parts : ∀ j, iv 0 3 (tc1a_parts j)) (k_tc1a_heights : ∀ j, iv 0 9 (tc1a_heights j)) (k_ka_behind : ∀ j, iv 0 511 (ka_behind j)) (hx2 : iv 0 8 x2) (hpost : ∀ (r : Int32) (ka_gaps : Nat → Int32) (ka_behind : Nat → Int32) (z_tab : Nat → Int32), iv (-1) 8 r → (∀ j, iv 0 511 (ka_behind j)) → post r ka_gaps ka_behind z_tab) : q_wxt_X10_order_32k1 ta_counts tc0f_voices tc0f_step tc0a_parts tc0a_heights tc1f_voices tc1f_step tc1a_parts tc1a_heights ka_gaps ka_behind z_tab x2 post := by
  refine s_wk_X5_total_3_0 (iv_w k_tc1f_voices (by decide)) (fun r1 => ?_)
  refine ⟨fun c2 => ?_, fun c2 => ?_⟩
  · skip
    refine s_wk_X5_voiceAt_3_0 k_ka_behind k_tc1f_voices hx2 (fun r3 hr3 => ?_)
    exact hpost _ _ _ _ hr3 k_ka_behind
  · skip
    exact hpost _ _ _ _ (iv_w (iv_lit (l := (-1)) (h := (-1)) (by decide)) (by decide)) k_ka_behind
set_option maxRecDepth 20000 in
theorem s_wxt_X10_order_0 {ta_counts : Nat → Int32} {tc0f_voices : Int32} {tc0f_step : Int32} {tc0a_parts : Nat → Int32} {tc0a_heights : Nat → Int32} {tc1f_voices : Int32} {tc1f_step : Int32} {tc1a_parts : Nat → Int32} {tc1a_heights : Nat → Int32} {ka_gaps : Nat → Int32} {ka_behind : Nat → Int32} {z_tab : Nat → Int32} {x1 : Int32} {x2 : Int32} {post : Int32 → (Nat → Int32) → (Nat → Int32) → (Nat → Int32) → Prop} (k_ta_counts : ∀ j, iv 0 2 (ta_counts j)) (k_tc0f_voices : iv 0 9 tc0f_voices) (k_tc0f_step : iv 0 9 tc0f_step) (k_tc0a_parts : ∀ j, iv 0 3 (tc0a_parts j)) (k_tc0a_heights : ∀ j, iv 0 9 (tc0a_heights j)) (k_tc1f_voices : iv 0 9 tc1f_voices) (k_tc1f_step : iv 0 9 tc1f_step) (k_tc1a_parts : ∀ j, iv 0 3 (tc1a_parts j)) (k_tc1a_heights : ∀ j, iv 0 9 (tc1a_heights j)) (k_ka_behind : ∀ j, iv 0 511 (ka_behind j)) (hpost : ∀ (r : Int32) (ka_gaps : Nat → Int32) (ka_behind : Nat → Int32) (z_tab : Nat → Int32), iv (-1) 8 r → (∀ j, iv 0 511 (ka_behind j)) → post r ka_gaps ka_behind z_tab) : q_wxt_X10_order_0 ta_counts tc0f_voices tc0f_step tc0a_parts tc0a_heights tc1f_voices tc1f_step tc1a_parts tc1a_heights ka_gaps ka_behind z_tab x1 x2 post := by
  refine ⟨fun c1 => ?_, fun c1 => ?_⟩
  · skip
    refine ⟨fun _ => ?_, fun h => absurd h (by decide), fun h0 h1 => absurd rfl h0⟩
    exact hpost _ _ _ _ (iv_w (iv_lit (l := (-1)) (h := (-1)) (by decide)) (by decide)) k_ka_behind
  · skip
    refine ⟨fun c2 => ?_, fun c2 => ?_⟩
    · skip
      refine ⟨fun _ => ?_, fun h => absurd h (by decide), fun h0 h1 => absurd rfl h0⟩
      exact hpost _ _ _ _ (iv_w (iv_lit (l := (-1)) (h := (-1)) (by decide)) (by decide)) k_ka_behind
    · skip
      refine ⟨iv_in (iv_lta (l := 0) (h := 1) (r_nle c2) (iv_leb (l := 0) (h := 2147483647) (r_nlt c1) (iv_lit (l := 0) (h := 0) (by decide)) (iv_top x1) (by decide)) (k_ta_counts _) (by decide)) (by decide), fun hc => ?_, fun hc => ?_⟩
      · skip
        refine ⟨fun h => absurd h (by decide), fun h => absurd h (by decide), fun h0 h1 => ?_⟩
        refine ⟨fun c3 => ?_, fun c3 => ?_⟩
        · skip
          exact hpost _ _ _ _ (iv_w (iv_lit (l := (-1)) (h := (-1)) (by decide)) (by decide)) k_ka_behind
        · skip
          refine ⟨fun c4 => ?_, fun c4 => ?_⟩
          · skip
            refine s_wk_X5_fill_3_0 k_ka_behind (iv_w (iv_ltb (l := 1) (h := 9) (r_lt c4) (iv_leb (l := 0) (h := 2147483647) (r_nlt c3) (iv_lit (l := 0) (h := 0) (by decide)) (iv_top x2) (by decide)) k_tc0f_voices (by decide)) (by decide)) k_tc0f_step k_tc0a_parts k_tc0a_heights (fun o5 o6 o7 k_o6 => ?_)
            exact s_wxt_X10_order_32k0 k_ta_counts (iv_ltb (l := 1) (h := 9) (r_lt c4) (iv_leb (l := 0) (h := 2147483647) (r_nlt c3) (iv_lit (l := 0) (h := 0) (by decide)) (iv_top x2) (by decide)) k_tc0f_voices (by decide)) k_tc0f_step k_tc0a_parts k_tc0a_heights k_tc1f_voices k_tc1f_step k_tc1a_parts k_tc1a_heights k_o6 (iv_lta (l := 0) (h := 8) (r_lt c4) (iv_leb (l := 0) (h := 2147483647) (r_nlt c3) (iv_lit (l := 0) (h := 0) (by decide)) (iv_top x2) (by decide)) k_tc0f_voices (by decide)) hpost
          · skip
            exact hpost _ _ _ _ (iv_w (iv_lit (l := (-1)) (h := (-1)) (by decide)) (by decide)) k_ka_behind
      · skip
        refine ⟨fun h => absurd h (by decide), fun _ => ?_, fun h0 h1 => absurd rfl h1⟩
        refine ⟨fun c8 => ?_, fun c8 => ?_⟩
        · skip
          exact hpost _ _ _ _ (iv_w (iv_lit (l := (-1)) (h := (-1)) (by decide)) (by decide)) k_ka_behind
        · skip
          refine ⟨fun c9 => ?_, fun c9 => ?_⟩
          · skip
            refine s_wk_X5_fill_3_0 k_ka_behind (iv_w (iv_ltb (l := 1) (h := 9) (r_lt c9) (iv_leb (l := 0) (h := 2147483647) (r_nlt c8) (iv_lit (l := 0) (h := 0) (by decide)) (iv_top x2) (by decide)) k_tc1f_voices (by decide)) (by decide)) k_tc1f_step k_tc1a_parts k_tc1a_heights (fun o10 o11 o12 k_o11 => ?_)
            exact s_wxt_X10_order_32k1 k_ta_counts k_tc0f_voices k_tc0f_step k_tc0a_parts k_tc0a_heights (iv_ltb (l := 1) (h := 9) (r_lt c9) (iv_leb (l := 0) (h := 2147483647) (r_nlt c8) (iv_lit (l := 0) (h := 0) (by decide)) (iv_top x2) (by decide)) k_tc1f_voices (by decide)) k_tc1f_step k_tc1a_parts k_tc1a_heights k_o11 (iv_lta (l := 0) (h := 8) (r_lt c9) (iv_leb (l := 0) (h := 2147483647) (r_nlt c8) (iv_lit (l := 0) (h := 0) (by decide)) (iv_top x2) (by decide)) k_tc1f_voices (by decide)) hpost
          · skip
            exact hpost _ _ _ _ (iv_w (iv_lit (l := (-1)) (h := (-1)) (by decide)) (by decide)) k_ka_behind
