section
-- wx_X10_routes
set_option maxRecDepth 20000 in
theorem s_wx_X10_routes_0 {ta_counts : Nat → Int32} {tl0f_huts : Int32} {tl0f_dams : Int32} {tl0a_heights : Nat → Int32} {tl0a_minutes : Nat → Int32} {tl1f_huts : Int32} {tl1f_dams : Int32} {tl1a_heights : Nat → Int32} {tl1a_minutes : Nat → Int32} {pa_total : Nat → Int32} {pa_longest : Nat → Int32} {pa_now : Nat → Int32} {pa_then : Nat → Int32} {x1 : Int32} {x2 : Int32} {x3 : Int32} {x4 : Int32} {post : Int32 → (Nat → Int32) → (Nat → Int32) → (Nat → Int32) → (Nat → Int32) → Prop} (k_ta_counts : ∀ j, iv 0 2 (ta_counts j)) (k_tl0f_huts : iv 0 9 tl0f_huts) (k_tl0f_dams : iv 0 511 tl0f_dams) (k_tl0a_heights : ∀ j, iv 0 99 (tl0a_heights j)) (k_tl0a_minutes : ∀ j, iv 0 9 (tl0a_minutes j)) (k_tl1f_huts : iv 0 9 tl1f_huts) (k_tl1f_dams : iv 0 511 tl1f_dams) (k_tl1a_heights : ∀ j, iv 0 99 (tl1a_heights j)) (k_tl1a_minutes : ∀ j, iv 0 9 (tl1a_minutes j)) (k_pa_longest : ∀ j, iv 0 8 (pa_longest j)) (hpost : ∀ (r : Int32) (pa_total : Nat → Int32) (pa_longest : Nat → Int32) (pa_now : Nat → Int32) (pa_then : Nat → Int32), (∀ j, iv 0 8 (pa_longest j)) → post r pa_total pa_longest pa_now pa_then) : q_wx_X10_routes_0 ta_counts tl0f_huts tl0f_dams tl0a_heights tl0a_minutes tl1f_huts tl1f_dams tl1a_heights tl1a_minutes pa_total pa_longest pa_now pa_then x1 x2 x3 x4 post := by
  refine ⟨fun c1 => ?_, fun c1 => ?_⟩
  · skip
    refine ⟨fun _ => ?_, fun h => absurd h (by decide), fun h0 h1 => absurd rfl h0⟩
    exact hpost _ _ _ _ _ k_pa_longest
  · skip
    refine ⟨fun c2 => ?_, fun c2 => ?_⟩
    · skip
      refine ⟨fun _ => ?_, fun h => absurd h (by decide), fun h0 h1 => absurd rfl h0⟩
      exact hpost _ _ _ _ _ k_pa_longest
    · skip
      refine ⟨iv_in (iv_lta (l := 0) (h := 1) (r_nle c2) (iv_leb (l := 0) (h := 2147483647) (r_nlt c1) (iv_lit (l := 0) (h := 0) (by decide)) (iv_top x1) (by decide)) (k_ta_counts _) (by decide)) (by decide), fun hc => ?_, fun hc => ?_⟩
      · skip
        refine ⟨fun h => absurd h (by decide), fun h => absurd h (by decide), fun h0 h1 => ?_⟩
        refine ⟨fun c3 => ?_, fun c3 => ?_⟩
        · skip
          refine ⟨fun c4 => ?_, fun c4 => ?_⟩
          · skip
            exact hpost _ _ _ _ _ k_pa_longest
          · skip
            exact (iv_emp (iv_ne (l := 1) (h := 0) c4 (iv_lit (l := 0) (h := 0) (by decide)) (iv_lit (l := 0) (h := 0) (by decide)) (by decide)) (by decide)).elim
        · skip
          refine ⟨fun c5 => ?_, fun c5 => ?_⟩
          · skip
            refine ⟨fun c6 => ?_, fun c6 => ?_⟩
            · skip
              exact hpost _ _ _ _ _ k_pa_longest
            · skip
              exact (iv_emp (iv_ne (l := 1) (h := 0) c6 (iv_lit (l := 0) (h := 0) (by decide)) (iv_lit (l := 0) (h := 0) (by decide)) (by decide)) (by decide)).elim
          · skip
            refine ⟨fun c7 => ?_, fun c7 => ?_⟩
            · skip
              exact (iv_emp (iv_eqa (l := 1) (h := 0) c7 (iv_lit (l := 1) (h := 1) (by decide)) (iv_lit (l := 0) (h := 0) (by decide)) (by decide)) (by decide)).elim
            · skip
              refine ⟨fun c8 => ?_, fun c8 => ?_⟩
              · skip
                refine ⟨fun c9 => ?_, fun c9 => ?_⟩
                · skip
                  exact hpost _ _ _ _ _ k_pa_longest
                · skip
                  exact (iv_emp (iv_ne (l := 1) (h := 0) c9 (iv_lit (l := 0) (h := 0) (by decide)) (iv_lit (l := 0) (h := 0) (by decide)) (by decide)) (by decide)).elim
              · skip
                refine ⟨fun c10 => ?_, fun c10 => ?_⟩
                · skip
                  refine ⟨fun c11 => ?_, fun c11 => ?_⟩
                  · skip
                    exact hpost _ _ _ _ _ k_pa_longest
                  · skip
                    exact (iv_emp (iv_ne (l := 1) (h := 0) c11 (iv_lit (l := 0) (h := 0) (by decide)) (iv_lit (l := 0) (h := 0) (by decide)) (by decide)) (by decide)).elim
                · skip
                  refine ⟨fun c12 => ?_, fun c12 => ?_⟩
                  · skip
                    exact (iv_emp (iv_eqa (l := 1) (h := 0) c12 (iv_lit (l := 1) (h := 1) (by decide)) (iv_lit (l := 0) (h := 0) (by decide)) (by decide)) (by decide)).elim
                  · skip
                    refine ⟨fun c13 => ?_, fun c13 => ?_⟩
                    · skip
                      exact hpost _ _ _ _ _ k_pa_longest
                    · skip
                      refine ⟨fun c14 => ?_, fun c14 => ?_⟩
                      · skip
                        exact hpost _ _ _ _ _ k_pa_longest
                      · skip
                        refine ⟨fun c15 => ?_, fun c15 => ?_⟩
                        · skip
                          refine s_wp_X7_trace_9_0 k_pa_longest (iv_ltb (l := 1) (h := 9) (r_nle c5) (iv_leb (l := 0) (h := 2147483647) (r_nlt c3) (iv_lit (l := 0) (h := 0) (by decide)) (iv_top x2) (by decide)) k_tl0f_huts (by decide)) k_tl0f_dams k_tl0a_heights k_tl0a_minutes (iv_lta (l := 0) (h := 8) (r_nle c5) (iv_leb (l := 0) (h := 2147483647) (r_nlt c3) (iv_lit (l := 0) (h := 0) (by decide)) (iv_top x2) (by decide)) k_tl0f_huts (by decide)) (fun o16 o17 o18 o19 k_o17 => ?_)
                          refine ⟨fun c20 => ?_, fun c20 => ?_⟩
                          · skip
                            refine ⟨iv_in (iv_lta (l := 0) (h := 8) (r_nle c10) (iv_leb (l := 0) (h := 2147483647) (r_nlt c8) (iv_lit (l := 0) (h := 0) (by decide)) (iv_top x3) (by decide)) (iv_ltb (l := 1) (h := 9) (r_nle c5) (iv_leb (l := 0) (h := 2147483647) (r_nlt c3) (iv_lit (l := 0) (h := 0) (by decide)) (iv_top x2) (by decide)) k_tl0f_huts (by decide)) (by decide)) (by decide), ?_⟩
                            refine ⟨fun c21 => ?_, fun c21 => ?_⟩
                            · skip
                              refine ⟨fun c22 => ?_, fun c22 => ?_⟩
                              · skip
                                refine s_wp_X7_steepest_9_0 (iv_ltb (l := 1) (h := 9) (r_nle c5) (iv_leb (l := 0) (h := 2147483647) (r_nlt c3) (iv_lit (l := 0) (h := 0) (by decide)) (iv_top x2) (by decide)) k_tl0f_huts (by decide)) k_tl0f_dams k_tl0a_heights k_tl0a_minutes (iv_lta (l := 0) (h := 8) (r_nle c5) (iv_leb (l := 0) (h := 2147483647) (r_nlt c3) (iv_lit (l := 0) (h := 0) (by decide)) (iv_top x2) (by decide)) k_tl0f_huts (by decide)) (iv_lta (l := 0) (h := 8) (r_nle c10) (iv_leb (l := 0) (h := 2147483647) (r_nlt c8) (iv_lit (l := 0) (h := 0) (by decide)) (iv_top x3) (by decide)) (iv_ltb (l := 1) (h := 9) (r_nle c5) (iv_leb (l := 0) (h := 2147483647) (r_nlt c3) (iv_lit (l := 0) (h := 0) (by decide)) (iv_top x2) (by decide)) k_tl0f_huts (by decide)) (by decide)) (fun r23 o24 => ?_)
                                exact hpost _ _ _ _ _ k_o17
                              · skip
                                refine ⟨iv_in (iv_lta (l := 0) (h := 8) (r_nle c10) (iv_leb (l := 0) (h := 2147483647) (r_nlt c8) (iv_lit (l := 0) (h := 0) (by decide)) (iv_top x3) (by decide)) (iv_ltb (l := 1) (h := 9) (r_nle c5) (iv_leb (l := 0) (h := 2147483647) (r_nlt c3) (iv_lit (l := 0) (h := 0) (by decide)) (iv_top x2) (by decide)) k_tl0f_huts (by decide)) (by decide)) (by decide), ?_⟩
                                exact hpost _ _ _ _ _ k_o17
                            · skip
                              exact hpost _ _ _ _ _ k_o17
                          · skip
                            refine ⟨iv_in (iv_lta (l := 0) (h := 8) (r_nle c10) (iv_leb (l := 0) (h := 2147483647) (r_nlt c8) (iv_lit (l := 0) (h := 0) (by decide)) (iv_top x3) (by decide)) (iv_ltb (l := 1) (h := 9) (r_nle c5) (iv_leb (l := 0) (h := 2147483647) (r_nlt c3) (iv_lit (l := 0) (h := 0) (by decide)) (iv_top x2) (by decide)) k_tl0f_huts (by decide)) (by decide)) (by decide), ?_⟩
                            exact hpost _ _ _ _ _ k_o17
                        · skip
                          exact hpost _ _ _ _ _ k_pa_longest
      · skip
        refine ⟨fun h => absurd h (by decide), fun _ => ?_, fun h0 h1 => absurd rfl h1⟩
        refine ⟨fun c25 => ?_, fun c25 => ?_⟩
        · skip
          refine ⟨fun c26 => ?_, fun c26 => ?_⟩
          · skip
            exact hpost _ _ _ _ _ k_pa_longest
          · skip
            exact (iv_emp (iv_ne (l := 1) (h := 0) c26 (iv_lit (l := 0) (h := 0) (by decide)) (iv_lit (l := 0) (h := 0) (by decide)) (by decide)) (by decide)).elim
        · skip
          refine ⟨fun c27 => ?_, fun c27 => ?_⟩
          · skip
            refine ⟨fun c28 => ?_, fun c28 => ?_⟩
            · skip
              exact hpost _ _ _ _ _ k_pa_longest
            · skip
              exact (iv_emp (iv_ne (l := 1) (h := 0) c28 (iv_lit (l := 0) (h := 0) (by decide)) (iv_lit (l := 0) (h := 0) (by decide)) (by decide)) (by decide)).elim
          · skip
            refine ⟨fun c29 => ?_, fun c29 => ?_⟩
            · skip
              exact (iv_emp (iv_eqa (l := 1) (h := 0) c29 (iv_lit (l := 1) (h := 1) (by decide)) (iv_lit (l := 0) (h := 0) (by decide)) (by decide)) (by decide)).elim
            · skip
              refine ⟨fun c30 => ?_, fun c30 => ?_⟩
              · skip
                refine ⟨fun c31 => ?_, fun c31 => ?_⟩
                · skip
                  exact hpost _ _ _ _ _ k_pa_longest
                · skip
                  exact (iv_emp (iv_ne (l := 1) (h := 0) c31 (iv_lit (l := 0) (h := 0) (by decide)) (iv_lit (l := 0) (h := 0) (by decide)) (by decide)) (by decide)).elim
              · skip
                refine ⟨fun c32 => ?_, fun c32 => ?_⟩
                · skip
                  refine ⟨fun c33 => ?_, fun c33 => ?_⟩
                  · skip
                    exact hpost _ _ _ _ _ k_pa_longest
                  · skip
                    exact (iv_emp (iv_ne (l := 1) (h := 0) c33 (iv_lit (l := 0) (h := 0) (by decide)) (iv_lit (l := 0) (h := 0) (by decide)) (by decide)) (by decide)).elim
                · skip
                  refine ⟨fun c34 => ?_, fun c34 => ?_⟩
                  · skip
                    exact (iv_emp (iv_eqa (l := 1) (h := 0) c34 (iv_lit (l := 1) (h := 1) (by decide)) (iv_lit (l := 0) (h := 0) (by decide)) (by decide)) (by decide)).elim
                  · skip
                    refine ⟨fun c35 => ?_, fun c35 => ?_⟩
                    · skip
                      exact hpost _ _ _ _ _ k_pa_longest
                    · skip
                      refine ⟨fun c36 => ?_, fun c36 => ?_⟩
                      · skip
                        exact hpost _ _ _ _ _ k_pa_longest
                      · skip
                        refine ⟨fun c37 => ?_, fun c37 => ?_⟩
                        · skip
                          refine s_wp_X7_trace_9_0 k_pa_longest (iv_ltb (l := 1) (h := 9) (r_nle c27) (iv_leb (l := 0) (h := 2147483647) (r_nlt c25) (iv_lit (l := 0) (h := 0) (by decide)) (iv_top x2) (by decide)) k_tl1f_huts (by decide)) k_tl1f_dams k_tl1a_heights k_tl1a_minutes (iv_lta (l := 0) (h := 8) (r_nle c27) (iv_leb (l := 0) (h := 2147483647) (r_nlt c25) (iv_lit (l := 0) (h := 0) (by decide)) (iv_top x2) (by decide)) k_tl1f_huts (by decide)) (fun o38 o39 o40 o41 k_o39 => ?_)
                          refine ⟨fun c42 => ?_, fun c42 => ?_⟩
                          · skip
                            refine ⟨iv_in (iv_lta (l := 0) (h := 8) (r_nle c32) (iv_leb (l := 0) (h := 2147483647) (r_nlt c30) (iv_lit (l := 0) (h := 0) (by decide)) (iv_top x3) (by decide)) (iv_ltb (l := 1) (h := 9) (r_nle c27) (iv_leb (l := 0) (h := 2147483647) (r_nlt c25) (iv_lit (l := 0) (h := 0) (by decide)) (iv_top x2) (by decide)) k_tl1f_huts (by decide)) (by decide)) (by decide), ?_⟩
                            refine ⟨fun c43 => ?_, fun c43 => ?_⟩
                            · skip
                              refine ⟨fun c44 => ?_, fun c44 => ?_⟩
                              · skip
                                refine s_wp_X7_steepest_9_0 (iv_ltb (l := 1) (h := 9) (r_nle c27) (iv_leb (l := 0) (h := 2147483647) (r_nlt c25) (iv_lit (l := 0) (h := 0) (by decide)) (iv_top x2) (by decide)) k_tl1f_huts (by decide)) k_tl1f_dams k_tl1a_heights k_tl1a_minutes (iv_lta (l := 0) (h := 8) (r_nle c27) (iv_leb (l := 0) (h := 2147483647) (r_nlt c25) (iv_lit (l := 0) (h := 0) (by decide)) (iv_top x2) (by decide)) k_tl1f_huts (by decide)) (iv_lta (l := 0) (h := 8) (r_nle c32) (iv_leb (l := 0) (h := 2147483647) (r_nlt c30) (iv_lit (l := 0) (h := 0) (by decide)) (iv_top x3) (by decide)) (iv_ltb (l := 1) (h := 9) (r_nle c27) (iv_leb (l := 0) (h := 2147483647) (r_nlt c25) (iv_lit (l := 0) (h := 0) (by decide)) (iv_top x2) (by decide)) k_tl1f_huts (by decide)) (by decide)) (fun r45 o46 => ?_)
                                exact hpost _ _ _ _ _ k_o39
                              · skip
                                refine ⟨iv_in (iv_lta (l := 0) (h := 8) (r_nle c32) (iv_leb (l := 0) (h := 2147483647) (r_nlt c30) (iv_lit (l := 0) (h := 0) (by decide)) (iv_top x3) (by decide)) (iv_ltb (l := 1) (h := 9) (r_nle c27) (iv_leb (l := 0) (h := 2147483647) (r_nlt c25) (iv_lit (l := 0) (h := 0) (by decide)) (iv_top x2) (by decide)) k_tl1f_huts (by decide)) (by decide)) (by decide), ?_⟩
                                exact hpost _ _ _ _ _ k_o39
                            · skip
                              exact hpost _ _ _ _ _ k_o39
                          · skip
                            refine ⟨iv_in (iv_lta (l := 0) (h := 8) (r_nle c32) (iv_leb (l := 0) (h := 2147483647) (r_nlt c30) (iv_lit (l := 0) (h := 0) (by decide)) (iv_top x3) (by decide)) (iv_ltb (l := 1) (h := 9) (r_nle c27) (iv_leb (l := 0) (h := 2147483647) (r_nlt c25) (iv_lit (l := 0) (h := 0) (by decide)) (iv_top x2) (by decide)) k_tl1f_huts (by decide)) (by decide)) (by decide), ?_⟩
                            exact hpost _ _ _ _ _ k_o39
                        · skip
                          exact hpost _ _ _ _ _ k_pa_longest
-- wx_X10_mutes
set_option maxRecDepth 20000 in
theorem s_wx_X10_mutes_46k1 {ta_counts : Nat → Int32} {tl0f_huts : Int32} {tl0f_dams : Int32} {tl0f_echoes : Int32} {tl0a_heights : Nat → Int32} {tl0a_minutes : Nat → Int32} {tl0a_echoFrom : Nat → Int32} {tl0a_echoTo : Nat → Int32} {tl1f_huts : Int32} {tl1f_dams : Int32} {tl1f_echoes : Int32} {tl1a_heights : Nat → Int32} {tl1a_minutes : Nat → Int32} {tl1a_echoFrom : Nat → Int32} {tl1a_echoTo : Nat → Int32} {pa_next : Nat → Int32} {x2 : Int32} {x3 : Int32} {post : Int32 → (Nat → Int32) → Prop} (k_ta_counts : ∀ j, iv 0 2 (ta_counts j)) (k_tl0f_huts : iv 0 9 tl0f_huts) (k_tl0f_dams : iv 0 511 tl0f_dams) (k_tl0f_echoes : iv 0 4 tl0f_echoes) (k_tl0a_heights : ∀ j, iv 0 99 (tl0a_heights j)) (k_tl0a_minutes : ∀ j, iv 0 9 (tl0a_minutes j)) (k_tl0a_echoFrom : ∀ j, iv 0 8 (tl0a_echoFrom j)) (k_tl0a_echoTo : ∀ j, iv 0 8 (tl0a_echoTo j)) (k_tl1f_huts : iv 1 9 tl1f_huts) (k_tl1f_dams : iv 0 511 tl1f_dams) (k_tl1f_echoes : iv 0 4 tl1f_echoes) (k_tl1a_heights : ∀ j, iv 0 99 (tl1a_heights j)) (k_tl1a_minutes : ∀ j, iv 0 9 (tl1a_minutes j)) (k_tl1a_echoFrom : ∀ j, iv 0 8 (tl1a_echoFrom j)) (k_tl1a_echoTo : ∀ j, iv 0 8 (tl1a_echoTo j)) (k_pa_next : ∀ j, iv 0 511 (pa_next j)) (hx2 : iv 0 8 x2) (hx3 : iv (-1) 8 x3) (hpost : ∀ (r : Int32) (pa_next : Nat → Int32), iv (-2) 63 r → (∀ j, iv 0 511 (pa_next j)) → post r pa_next) : q_wx_X10_mutes_46k1 ta_counts tl0f_huts tl0f_dams tl0f_echoes tl0a_heights tl0a_minutes tl0a_echoFrom tl0a_echoTo tl1f_huts tl1f_dams tl1f_echoes tl1a_heights tl1a_minutes tl1a_echoFrom tl1a_echoTo pa_next x2 x3 post := by
  refine s_wp_X7_link_9_0 k_pa_next k_tl1f_huts k_tl1f_dams k_tl1f_echoes k_tl1a_heights k_tl1a_minutes k_tl1a_echoFrom k_tl1a_echoTo (fun o1 k_o1 => ?_)
  refine ⟨fun c2 => ?_, fun c2 => ?_⟩
  · skip
    refine s_wp_X7_reach_5_0 k_o1 hx2 (iv_w (iv_lit (l := 0) (h := 0) (by decide)) (by decide)) (fun r3 hr3 => ?_)
    refine s_wp_X7_reach_5_0 k_o1 hx2 (iv_w (iv_shl1 (l := 1) (h := 256) (iv_lit (l := 1) (h := 1) (by decide)) (iv_ne (l := 0) (h := 8) c2 hx3 (iv_lit (l := (-1)) (h := (-1)) (by decide)) (by decide)) (by decide)) (by decide)) (fun r4 hr4 => ?_)
    refine s_z_J6_bitCount_0f7a4_0 (iv_w (iv_andl (l := 0) (h := 511) (iv_andl (l := 0) (h := 511) hr3 (by decide)) (by decide)) (by decide)) (fun r5 hr5 => ?_)
    exact hpost _ _ (iv_w hr5 (by decide)) k_o1
  · skip
    refine s_wp_X7_worst_9_0 k_o1 k_tl1f_huts k_tl1f_dams hx2 (fun r6 hr6 => ?_)
    exact hpost _ _ (iv_w hr6 (by decide)) k_o1
set_option maxRecDepth 20000 in
theorem s_wx_X10_mutes_46k0 {ta_counts : Nat → Int32} {tl0f_huts : Int32} {tl0f_dams : Int32} {tl0f_echoes : Int32} {tl0a_heights : Nat → Int32} {tl0a_minutes : Nat → Int32} {tl0a_echoFrom : Nat → Int32} {tl0a_echoTo : Nat → Int32} {tl1f_huts : Int32} {tl1f_dams : Int32} {tl1f_echoes : Int32} {tl1a_heights : Nat → Int32} {tl1a_minutes : Nat → Int32} {tl1a_echoFrom : Nat → Int32} {tl1a_echoTo : Nat → Int32} {pa_next : Nat → Int32} {x2 : Int32} {x3 : Int32} {post : Int32 → (Nat → Int32) → Prop} (k_ta_counts : ∀ j, iv 0 2 (ta_counts j)) (k_tl0f_huts : iv 1 9 tl0f_huts) (k_tl0f_dams : iv 0 511 tl0f_dams) (k_tl0f_echoes : iv 0 4 tl0f_echoes) (k_tl0a_heights : ∀ j, iv 0 99 (tl0a_heights j)) (k_tl0a_minutes : ∀ j, iv 0 9 (tl0a_minutes j)) (k_tl0a_echoFrom : ∀ j, iv 0 8 (tl0a_echoFrom j)) (k_tl0a_echoTo : ∀ j, iv 0 8 (tl0a_echoTo j)) (k_tl1f_huts : iv 0 9 tl1f_huts) (k_tl1f_dams : iv 0 511 tl1f_dams) (k_tl1f_echoes : iv 0 4 tl1f_echoes) (k_tl1a_heights : ∀ j, iv 0 99 (tl1a_heights j)) (k_tl1a_minutes : ∀ j, iv 0 9 (tl1a_minutes j)) (k_tl1a_echoFrom : ∀ j, iv 0 8 (tl1a_echoFrom j)) (k_tl1a_echoTo : ∀ j, iv 0 8 (tl1a_echoTo j)) (k_pa_next : ∀ j, iv 0 511 (pa_next j)) (hx2 : iv 0 8 x2) (hx3 : iv (-1) 8 x3) (hpost : ∀ (r : Int32) (pa_next : Nat → Int32), iv (-2) 63 r → (∀ j, iv 0 511 (pa_next j)) → post r pa_next) : q_wx_X10_mutes_46k0 ta_counts tl0f_huts tl0f_dams tl0f_echoes tl0a_heights tl0a_minutes tl0a_echoFrom tl0a_echoTo tl1f_huts tl1f_dams tl1f_echoes tl1a_heights tl1a_minutes tl1a_echoFrom tl1a_echoTo pa_next x2 x3 post := by
  refine s_wp_X7_link_9_0 k_pa_next k_tl0f_huts k_tl0f_dams k_tl0f_echoes k_tl0a_heights k_tl0a_minutes k_tl0a_echoFrom k_tl0a_echoTo (fun o1 k_o1 => ?_)
  refine ⟨fun c2 => ?_, fun c2 => ?_⟩
  · skip
    refine s_wp_X7_reach_5_0 k_o1 hx2 (iv_w (iv_lit (l := 0) (h := 0) (by decide)) (by decide)) (fun r3 hr3 => ?_)
    refine s_wp_X7_reach_5_0 k_o1 hx2 (iv_w (iv_shl1 (l := 1) (h := 256) (iv_lit (l := 1) (h := 1) (by decide)) (iv_ne (l := 0) (h := 8) c2 hx3 (iv_lit (l := (-1)) (h := (-1)) (by decide)) (by decide)) (by decide)) (by decide)) (fun r4 hr4 => ?_)
    refine s_z_J6_bitCount_0f7a4_0 (iv_w (iv_andl (l := 0) (h := 511) (iv_andl (l := 0) (h := 511) hr3 (by decide)) (by decide)) (by decide)) (fun r5 hr5 => ?_)
    exact hpost _ _ (iv_w hr5 (by decide)) k_o1
  · skip
    refine s_wp_X7_worst_9_0 k_o1 k_tl0f_huts k_tl0f_dams hx2 (fun r6 hr6 => ?_)
    exact hpost _ _ (iv_w hr6 (by decide)) k_o1
set_option maxRecDepth 20000 in
theorem s_wx_X10_mutes_0 {ta_counts : Nat → Int32} {tl0f_huts : Int32} {tl0f_dams : Int32} {tl0f_echoes : Int32} {tl0a_heights : Nat → Int32} {tl0a_minutes : Nat → Int32} {tl0a_echoFrom : Nat → Int32} {tl0a_echoTo : Nat → Int32} {tl1f_huts : Int32} {tl1f_dams : Int32} {tl1f_echoes : Int32} {tl1a_heights : Nat → Int32} {tl1a_minutes : Nat → Int32} {tl1a_echoFrom : Nat → Int32} {tl1a_echoTo : Nat → Int32} {pa_next : Nat → Int32} {x1 : Int32} {x2 : Int32} {x3 : Int32} {post : Int32 → (Nat → Int32) → Prop} (k_ta_counts : ∀ j, iv 0 2 (ta_counts j)) (k_tl0f_huts : iv 0 9 tl0f_huts) (k_tl0f_dams : iv 0 511 tl0f_dams) (k_tl0f_echoes : iv 0 4 tl0f_echoes) (k_tl0a_heights : ∀ j, iv 0 99 (tl0a_heights j)) (k_tl0a_minutes : ∀ j, iv 0 9 (tl0a_minutes j)) (k_tl0a_echoFrom : ∀ j, iv 0 8 (tl0a_echoFrom j)) (k_tl0a_echoTo : ∀ j, iv 0 8 (tl0a_echoTo j)) (k_tl1f_huts : iv 0 9 tl1f_huts) (k_tl1f_dams : iv 0 511 tl1f_dams) (k_tl1f_echoes : iv 0 4 tl1f_echoes) (k_tl1a_heights : ∀ j, iv 0 99 (tl1a_heights j)) (k_tl1a_minutes : ∀ j, iv 0 9 (tl1a_minutes j)) (k_tl1a_echoFrom : ∀ j, iv 0 8 (tl1a_echoFrom j)) (k_tl1a_echoTo : ∀ j, iv 0 8 (tl1a_echoTo j)) (k_pa_next : ∀ j, iv 0 511 (pa_next j)) (hpost : ∀ (r : Int32) (pa_next : Nat → Int32), iv (-2) 63 r → (∀ j, iv 0 511 (pa_next j)) → post r pa_next) : q_wx_X10_mutes_0 ta_counts tl0f_huts tl0f_dams tl0f_echoes tl0a_heights tl0a_minutes tl0a_echoFrom tl0a_echoTo tl1f_huts tl1f_dams tl1f_echoes tl1a_heights tl1a_minutes tl1a_echoFrom tl1a_echoTo pa_next x1 x2 x3 post := by
  refine ⟨fun c1 => ?_, fun c1 => ?_⟩
  · skip
    refine ⟨fun _ => ?_, fun h => absurd h (by decide), fun h0 h1 => absurd rfl h0⟩
    exact hpost _ _ (iv_w (iv_lit (l := (-2)) (h := (-2)) (by decide)) (by decide)) k_pa_next
  · skip
    refine ⟨fun c2 => ?_, fun c2 => ?_⟩
    · skip
      refine ⟨fun _ => ?_, fun h => absurd h (by decide), fun h0 h1 => absurd rfl h0⟩
      exact hpost _ _ (iv_w (iv_lit (l := (-2)) (h := (-2)) (by decide)) (by decide)) k_pa_next
    · skip
      refine ⟨iv_in (iv_lta (l := 0) (h := 1) (r_nle c2) (iv_leb (l := 0) (h := 2147483647) (r_nlt c1) (iv_lit (l := 0) (h := 0) (by decide)) (iv_top x1) (by decide)) (k_ta_counts _) (by decide)) (by decide), fun hc => ?_, fun hc => ?_⟩
      · skip
        refine ⟨fun h => absurd h (by decide), fun h => absurd h (by decide), fun h0 h1 => ?_⟩
        refine ⟨fun c3 => ?_, fun c3 => ?_⟩
        · skip
          refine ⟨fun c4 => ?_, fun c4 => ?_⟩
          · skip
            refine ⟨fun c5 => ?_, fun c5 => ?_⟩
            · skip
              exact (iv_emp (iv_ne (l := 1) (h := 0) c5 (iv_lit (l := 0) (h := 0) (by decide)) (iv_lit (l := 0) (h := 0) (by decide)) (by decide)) (by decide)).elim
            · skip
              exact hpost _ _ (iv_w (iv_lit (l := (-2)) (h := (-2)) (by decide)) (by decide)) k_pa_next
          · skip
            exact (iv_emp (iv_ne (l := 1) (h := 0) c4 (iv_lit (l := 0) (h := 0) (by decide)) (iv_lit (l := 0) (h := 0) (by decide)) (by decide)) (by decide)).elim
        · skip
          refine ⟨fun c6 => ?_, fun c6 => ?_⟩
          · skip
            refine ⟨fun c7 => ?_, fun c7 => ?_⟩
            · skip
              refine ⟨fun c8 => ?_, fun c8 => ?_⟩
              · skip
                exact (iv_emp (iv_ne (l := 1) (h := 0) c8 (iv_lit (l := 0) (h := 0) (by decide)) (iv_lit (l := 0) (h := 0) (by decide)) (by decide)) (by decide)).elim
              · skip
                exact hpost _ _ (iv_w (iv_lit (l := (-2)) (h := (-2)) (by decide)) (by decide)) k_pa_next
            · skip
              exact (iv_emp (iv_ne (l := 1) (h := 0) c7 (iv_lit (l := 0) (h := 0) (by decide)) (iv_lit (l := 0) (h := 0) (by decide)) (by decide)) (by decide)).elim
          · skip
            refine ⟨fun c9 => ?_, fun c9 => ?_⟩
            · skip
              exact (iv_emp (iv_eqa (l := 1) (h := 0) c9 (iv_lit (l := 1) (h := 1) (by decide)) (iv_lit (l := 0) (h := 0) (by decide)) (by decide)) (by decide)).elim
            · skip
              refine ⟨fun c10 => ?_, fun c10 => ?_⟩
              · skip
                refine ⟨fun c11 => ?_, fun c11 => ?_⟩
                · skip
                  exact (iv_emp (iv_ne (l := 1) (h := 0) c11 (iv_lit (l := 0) (h := 0) (by decide)) (iv_lit (l := 0) (h := 0) (by decide)) (by decide)) (by decide)).elim
                · skip
                  refine ⟨fun c12 => ?_, fun c12 => ?_⟩
                  · skip
                    refine ⟨fun c13 => ?_, fun c13 => ?_⟩
                    · skip
                      exact s_wx_X10_mutes_46k0 k_ta_counts (iv_ltb (l := 1) (h := 9) (r_nle c6) (iv_leb (l := 0) (h := 2147483647) (r_nlt c3) (iv_lit (l := 0) (h := 0) (by decide)) (iv_top x2) (by decide)) k_tl0f_huts (by decide)) k_tl0f_dams k_tl0f_echoes k_tl0a_heights k_tl0a_minutes k_tl0a_echoFrom k_tl0a_echoTo k_tl1f_huts k_tl1f_dams k_tl1f_echoes k_tl1a_heights k_tl1a_minutes k_tl1a_echoFrom k_tl1a_echoTo k_pa_next (iv_lta (l := 0) (h := 8) (r_nle c6) (iv_leb (l := 0) (h := 2147483647) (r_nlt c3) (iv_lit (l := 0) (h := 0) (by decide)) (iv_top x2) (by decide)) k_tl0f_huts (by decide)) (iv_w (iv_eqa (l := (-1)) (h := (-1)) c13 (iv_top x3) (iv_lit (l := (-1)) (h := (-1)) (by decide)) (by decide)) (by decide)) hpost
                    · skip
                      refine ⟨fun c14 => ?_, fun c14 => ?_⟩
                      · skip
                        refine ⟨fun c15 => ?_, fun c15 => ?_⟩
                        · skip
                          refine ⟨fun c16 => ?_, fun c16 => ?_⟩
                          · skip
                            exact hpost _ _ (iv_w (iv_lit (l := (-2)) (h := (-2)) (by decide)) (by decide)) k_pa_next
                          · skip
                            exact (iv_emp (iv_ne (l := 1) (h := 0) c16 (iv_lit (l := 0) (h := 0) (by decide)) (iv_lit (l := 0) (h := 0) (by decide)) (by decide)) (by decide)).elim
                        · skip
                          exact (iv_emp (iv_ne (l := 1) (h := 0) c15 (iv_lit (l := 0) (h := 0) (by decide)) (iv_lit (l := 0) (h := 0) (by decide)) (by decide)) (by decide)).elim
                      · skip
                        refine ⟨fun c17 => ?_, fun c17 => ?_⟩
                        · skip
                          refine ⟨fun c18 => ?_, fun c18 => ?_⟩
                          · skip
                            refine ⟨fun c19 => ?_, fun c19 => ?_⟩
                            · skip
                              exact hpost _ _ (iv_w (iv_lit (l := (-2)) (h := (-2)) (by decide)) (by decide)) k_pa_next
                            · skip
                              exact (iv_emp (iv_ne (l := 1) (h := 0) c19 (iv_lit (l := 0) (h := 0) (by decide)) (iv_lit (l := 0) (h := 0) (by decide)) (by decide)) (by decide)).elim
                          · skip
                            exact (iv_emp (iv_ne (l := 1) (h := 0) c18 (iv_lit (l := 0) (h := 0) (by decide)) (iv_lit (l := 0) (h := 0) (by decide)) (by decide)) (by decide)).elim
                        · skip
                          refine ⟨fun c20 => ?_, fun c20 => ?_⟩
                          · skip
                            exact (iv_emp (iv_eqa (l := 1) (h := 0) c20 (iv_lit (l := 1) (h := 1) (by decide)) (iv_lit (l := 0) (h := 0) (by decide)) (by decide)) (by decide)).elim
                          · skip
                            refine ⟨fun c21 => ?_, fun c21 => ?_⟩
                            · skip
                              refine ⟨fun c22 => ?_, fun c22 => ?_⟩
                              · skip
                                exact (iv_emp (iv_ne (l := 1) (h := 0) c22 (iv_lit (l := 0) (h := 0) (by decide)) (iv_lit (l := 0) (h := 0) (by decide)) (by decide)) (by decide)).elim
                              · skip
                                refine ⟨fun c23 => ?_, fun c23 => ?_⟩
                                · skip
                                  exact (iv_emp (iv_eqa (l := 1) (h := 0) c23 (iv_lit (l := 1) (h := 1) (by decide)) (iv_lit (l := 0) (h := 0) (by decide)) (by decide)) (by decide)).elim
                                · skip
                                  refine ⟨fun c24 => ?_, fun c24 => ?_⟩
                                  · skip
                                    exact s_wx_X10_mutes_46k0 k_ta_counts (iv_ltb (l := 1) (h := 9) (r_nle c6) (iv_leb (l := 0) (h := 2147483647) (r_nlt c3) (iv_lit (l := 0) (h := 0) (by decide)) (iv_top x2) (by decide)) k_tl0f_huts (by decide)) k_tl0f_dams k_tl0f_echoes k_tl0a_heights k_tl0a_minutes k_tl0a_echoFrom k_tl0a_echoTo k_tl1f_huts k_tl1f_dams k_tl1f_echoes k_tl1a_heights k_tl1a_minutes k_tl1a_echoFrom k_tl1a_echoTo k_pa_next (iv_lta (l := 0) (h := 8) (r_nle c6) (iv_leb (l := 0) (h := 2147483647) (r_nlt c3) (iv_lit (l := 0) (h := 0) (by decide)) (iv_top x2) (by decide)) k_tl0f_huts (by decide)) (iv_w (iv_lta (l := 0) (h := 8) (r_nle c17) (iv_leb (l := 0) (h := 2147483647) (r_nlt c14) (iv_lit (l := 0) (h := 0) (by decide)) (iv_top x3) (by decide)) (iv_ltb (l := 1) (h := 9) (r_nle c6) (iv_leb (l := 0) (h := 2147483647) (r_nlt c3) (iv_lit (l := 0) (h := 0) (by decide)) (iv_top x2) (by decide)) k_tl0f_huts (by decide)) (by decide)) (by decide)) hpost
                                  · skip
                                    exact hpost _ _ (iv_w (iv_lit (l := (-2)) (h := (-2)) (by decide)) (by decide)) k_pa_next
                            · skip
                              refine ⟨fun c25 => ?_, fun c25 => ?_⟩
                              · skip
                                refine ⟨fun c26 => ?_, fun c26 => ?_⟩
                                · skip
                                  exact hpost _ _ (iv_w (iv_lit (l := (-2)) (h := (-2)) (by decide)) (by decide)) k_pa_next
                                · skip
                                  exact (iv_emp (iv_ne (l := 1) (h := 0) c26 (iv_lit (l := 0) (h := 0) (by decide)) (iv_lit (l := 0) (h := 0) (by decide)) (by decide)) (by decide)).elim
                              · skip
                                exact (iv_emp (iv_eqa (l := 1) (h := 0) c25 (iv_lit (l := 1) (h := 1) (by decide)) (iv_lit (l := 0) (h := 0) (by decide)) (by decide)) (by decide)).elim
                  · skip
                    exact (iv_emp (iv_eqa (l := 1) (h := 0) c12 (iv_lit (l := 1) (h := 1) (by decide)) (iv_lit (l := 0) (h := 0) (by decide)) (by decide)) (by decide)).elim
              · skip
                refine ⟨fun c27 => ?_, fun c27 => ?_⟩
                · skip
                  refine ⟨fun c28 => ?_, fun c28 => ?_⟩
                  · skip
                    exact (iv_emp (iv_ne (l := 1) (h := 0) c28 (iv_lit (l := 0) (h := 0) (by decide)) (iv_lit (l := 0) (h := 0) (by decide)) (by decide)) (by decide)).elim
                  · skip
                    exact hpost _ _ (iv_w (iv_lit (l := (-2)) (h := (-2)) (by decide)) (by decide)) k_pa_next
                · skip
                  exact (iv_emp (iv_eqa (l := 1) (h := 0) c27 (iv_lit (l := 1) (h := 1) (by decide)) (iv_lit (l := 0) (h := 0) (by decide)) (by decide)) (by decide)).elim
      · skip
        refine ⟨fun h => absurd h (by decide), fun _ => ?_, fun h0 h1 => absurd rfl h1⟩
        refine ⟨fun c29 => ?_, fun c29 => ?_⟩
        · skip
          refine ⟨fun c30 => ?_, fun c30 => ?_⟩
          · skip
            refine ⟨fun c31 => ?_, fun c31 => ?_⟩
            · skip
              exact (iv_emp (iv_ne (l := 1) (h := 0) c31 (iv_lit (l := 0) (h := 0) (by decide)) (iv_lit (l := 0) (h := 0) (by decide)) (by decide)) (by decide)).elim
            · skip
              exact hpost _ _ (iv_w (iv_lit (l := (-2)) (h := (-2)) (by decide)) (by decide)) k_pa_next
          · skip
            exact (iv_emp (iv_ne (l := 1) (h := 0) c30 (iv_lit (l := 0) (h := 0) (by decide)) (iv_lit (l := 0) (h := 0) (by decide)) (by decide)) (by decide)).elim
        · skip
          refine ⟨fun c32 => ?_, fun c32 => ?_⟩
          · skip
            refine ⟨fun c33 => ?_, fun c33 => ?_⟩
            · skip
              refine ⟨fun c34 => ?_, fun c34 => ?_⟩
              · skip
                exact (iv_emp (iv_ne (l := 1) (h := 0) c34 (iv_lit (l := 0) (h := 0) (by decide)) (iv_lit (l := 0) (h := 0) (by decide)) (by decide)) (by decide)).elim
              · skip
                exact hpost _ _ (iv_w (iv_lit (l := (-2)) (h := (-2)) (by decide)) (by decide)) k_pa_next
            · skip
              exact (iv_emp (iv_ne (l := 1) (h := 0) c33 (iv_lit (l := 0) (h := 0) (by decide)) (iv_lit (l := 0) (h := 0) (by decide)) (by decide)) (by decide)).elim
          · skip
            refine ⟨fun c35 => ?_, fun c35 => ?_⟩
            · skip
              exact (iv_emp (iv_eqa (l := 1) (h := 0) c35 (iv_lit (l := 1) (h := 1) (by decide)) (iv_lit (l := 0) (h := 0) (by decide)) (by decide)) (by decide)).elim
            · skip
              refine ⟨fun c36 => ?_, fun c36 => ?_⟩
              · skip
                refine ⟨fun c37 => ?_, fun c37 => ?_⟩
                · skip
                  exact (iv_emp (iv_ne (l := 1) (h := 0) c37 (iv_lit (l := 0) (h := 0) (by decide)) (iv_lit (l := 0) (h := 0) (by decide)) (by decide)) (by decide)).elim
                · skip
                  refine ⟨fun c38 => ?_, fun c38 => ?_⟩
                  · skip
                    refine ⟨fun c39 => ?_, fun c39 => ?_⟩
                    · skip
                      exact s_wx_X10_mutes_46k1 k_ta_counts k_tl0f_huts k_tl0f_dams k_tl0f_echoes k_tl0a_heights k_tl0a_minutes k_tl0a_echoFrom k_tl0a_echoTo (iv_ltb (l := 1) (h := 9) (r_nle c32) (iv_leb (l := 0) (h := 2147483647) (r_nlt c29) (iv_lit (l := 0) (h := 0) (by decide)) (iv_top x2) (by decide)) k_tl1f_huts (by decide)) k_tl1f_dams k_tl1f_echoes k_tl1a_heights k_tl1a_minutes k_tl1a_echoFrom k_tl1a_echoTo k_pa_next (iv_lta (l := 0) (h := 8) (r_nle c32) (iv_leb (l := 0) (h := 2147483647) (r_nlt c29) (iv_lit (l := 0) (h := 0) (by decide)) (iv_top x2) (by decide)) k_tl1f_huts (by decide)) (iv_w (iv_eqa (l := (-1)) (h := (-1)) c39 (iv_top x3) (iv_lit (l := (-1)) (h := (-1)) (by decide)) (by decide)) (by decide)) hpost
                    · skip
                      refine ⟨fun c40 => ?_, fun c40 => ?_⟩
                      · skip
                        refine ⟨fun c41 => ?_, fun c41 => ?_⟩
                        · skip
                          refine ⟨fun c42 => ?_, fun c42 => ?_⟩
                          · skip
                            exact hpost _ _ (iv_w (iv_lit (l := (-2)) (h := (-2)) (by decide)) (by decide)) k_pa_next
                          · skip
                            exact (iv_emp (iv_ne (l := 1) (h := 0) c42 (iv_lit (l := 0) (h := 0) (by decide)) (iv_lit (l := 0) (h := 0) (by decide)) (by decide)) (by decide)).elim
                        · skip
                          exact (iv_emp (iv_ne (l := 1) (h := 0) c41 (iv_lit (l := 0) (h := 0) (by decide)) (iv_lit (l := 0) (h := 0) (by decide)) (by decide)) (by decide)).elim
                      · skip
                        refine ⟨fun c43 => ?_, fun c43 => ?_⟩
                        · skip
                          refine ⟨fun c44 => ?_, fun c44 => ?_⟩
                          · skip
                            refine ⟨fun c45 => ?_, fun c45 => ?_⟩
                            · skip
                              exact hpost _ _ (iv_w (iv_lit (l := (-2)) (h := (-2)) (by decide)) (by decide)) k_pa_next
                            · skip
                              exact (iv_emp (iv_ne (l := 1) (h := 0) c45 (iv_lit (l := 0) (h := 0) (by decide)) (iv_lit (l := 0) (h := 0) (by decide)) (by decide)) (by decide)).elim
                          · skip
                            exact (iv_emp (iv_ne (l := 1) (h := 0) c44 (iv_lit (l := 0) (h := 0) (by decide)) (iv_lit (l := 0) (h := 0) (by decide)) (by decide)) (by decide)).elim
                        · skip
                          refine ⟨fun c46 => ?_, fun c46 => ?_⟩
                          · skip
                            exact (iv_emp (iv_eqa (l := 1) (h := 0) c46 (iv_lit (l := 1) (h := 1) (by decide)) (iv_lit (l := 0) (h := 0) (by decide)) (by decide)) (by decide)).elim
                          · skip
                            refine ⟨fun c47 => ?_, fun c47 => ?_⟩
                            · skip
                              refine ⟨fun c48 => ?_, fun c48 => ?_⟩
                              · skip
                                exact (iv_emp (iv_ne (l := 1) (h := 0) c48 (iv_lit (l := 0) (h := 0) (by decide)) (iv_lit (l := 0) (h := 0) (by decide)) (by decide)) (by decide)).elim
                              · skip
                                refine ⟨fun c49 => ?_, fun c49 => ?_⟩
                                · skip
                                  exact (iv_emp (iv_eqa (l := 1) (h := 0) c49 (iv_lit (l := 1) (h := 1) (by decide)) (iv_lit (l := 0) (h := 0) (by decide)) (by decide)) (by decide)).elim
                                · skip
                                  refine ⟨fun c50 => ?_, fun c50 => ?_⟩
                                  · skip
                                    exact s_wx_X10_mutes_46k1 k_ta_counts k_tl0f_huts k_tl0f_dams k_tl0f_echoes k_tl0a_heights k_tl0a_minutes k_tl0a_echoFrom k_tl0a_echoTo (iv_ltb (l := 1) (h := 9) (r_nle c32) (iv_leb (l := 0) (h := 2147483647) (r_nlt c29) (iv_lit (l := 0) (h := 0) (by decide)) (iv_top x2) (by decide)) k_tl1f_huts (by decide)) k_tl1f_dams k_tl1f_echoes k_tl1a_heights k_tl1a_minutes k_tl1a_echoFrom k_tl1a_echoTo k_pa_next (iv_lta (l := 0) (h := 8) (r_nle c32) (iv_leb (l := 0) (h := 2147483647) (r_nlt c29) (iv_lit (l := 0) (h := 0) (by decide)) (iv_top x2) (by decide)) k_tl1f_huts (by decide)) (iv_w (iv_lta (l := 0) (h := 8) (r_nle c43) (iv_leb (l := 0) (h := 2147483647) (r_nlt c40) (iv_lit (l := 0) (h := 0) (by decide)) (iv_top x3) (by decide)) (iv_ltb (l := 1) (h := 9) (r_nle c32) (iv_leb (l := 0) (h := 2147483647) (r_nlt c29) (iv_lit (l := 0) (h := 0) (by decide)) (iv_top x2) (by decide)) k_tl1f_huts (by decide)) (by decide)) (by decide)) hpost
                                  · skip
                                    exact hpost _ _ (iv_w (iv_lit (l := (-2)) (h := (-2)) (by decide)) (by decide)) k_pa_next
                            · skip
                              refine ⟨fun c51 => ?_, fun c51 => ?_⟩
                              · skip
                                refine ⟨fun c52 => ?_, fun c52 => ?_⟩
                                · skip
                                  exact hpost _ _ (iv_w (iv_lit (l := (-2)) (h := (-2)) (by decide)) (by decide)) k_pa_next
                                · skip
                                  exact (iv_emp (iv_ne (l := 1) (h := 0) c52 (iv_lit (l := 0) (h := 0) (by decide)) (iv_lit (l := 0) (h := 0) (by decide)) (by decide)) (by decide)).elim
                              · skip
                                exact (iv_emp (iv_eqa (l := 1) (h := 0) c51 (iv_lit (l := 1) (h := 1) (by decide)) (iv_lit (l := 0) (h := 0) (by decide)) (by decide)) (by decide)).elim
                  · skip
                    exact (iv_emp (iv_eqa (l := 1) (h := 0) c38 (iv_lit (l := 1) (h := 1) (by decide)) (iv_lit (l := 0) (h := 0) (by decide)) (by decide)) (by decide)).elim
              · skip
                refine ⟨fun c53 => ?_, fun c53 => ?_⟩
                · skip
                  refine ⟨fun c54 => ?_, fun c54 => ?_⟩
                  · skip
                    exact (iv_emp (iv_ne (l := 1) (h := 0) c54 (iv_lit (l := 0) (h := 0) (by decide)) (iv_lit (l := 0) (h := 0) (by decide)) (by decide)) (by decide)).elim
                  · skip
                    exact hpost _ _ (iv_w (iv_lit (l := (-2)) (h := (-2)) (by decide)) (by decide)) k_pa_next
                · skip
                  exact (iv_emp (iv_eqa (l := 1) (h := 0) c53 (iv_lit (l := 1) (h := 1) (by decide)) (iv_lit (l := 0) (h := 0) (by decide)) (by decide)) (by decide)).elim
-- wx_X10_masses
set_option maxRecDepth 20000 in
theorem s_wx_X10_masses_0 {ta_counts : Nat → Int32} {tl0f_huts : Int32} {tl0f_villages : Int32} {tl0a_minutes : Nat → Int32} {tl1f_huts : Int32} {tl1f_villages : Int32} {tl1a_minutes : Nat → Int32} {pa_walked : Nat → Int32} {pa_cover : Nat → Int32} {x1 : Int32} {x2 : Int32} {x3 : Int32} {post : Int32 → (Nat → Int32) → (Nat → Int32) → Prop} (k_ta_counts : ∀ j, iv 0 2 (ta_counts j)) (k_tl0f_huts : iv 0 9 tl0f_huts) (k_tl0f_villages : iv 0 511 tl0f_villages) (k_tl0a_minutes : ∀ j, iv 0 9 (tl0a_minutes j)) (k_tl1f_huts : iv 0 9 tl1f_huts) (k_tl1f_villages : iv 0 511 tl1f_villages) (k_tl1a_minutes : ∀ j, iv 0 9 (tl1a_minutes j)) (k_pa_walked : ∀ j, iv 0 1000 (pa_walked j)) (k_pa_cover : ∀ j, iv 0 511 (pa_cover j)) (hpost : ∀ (r : Int32) (pa_walked : Nat → Int32) (pa_cover : Nat → Int32), iv (-1) 2147483647 r → (∀ j, iv 0 1000 (pa_walked j)) → (∀ j, iv 0 511 (pa_cover j)) → post r pa_walked pa_cover) : q_wx_X10_masses_0 ta_counts tl0f_huts tl0f_villages tl0a_minutes tl1f_huts tl1f_villages tl1a_minutes pa_walked pa_cover x1 x2 x3 post := by
  refine ⟨fun c1 => ?_, fun c1 => ?_⟩
  · skip
    refine ⟨fun _ => ?_, fun h => absurd h (by decide), fun h0 h1 => absurd rfl h0⟩
    exact hpost _ _ _ (iv_w (iv_lit (l := (-1)) (h := (-1)) (by decide)) (by decide)) k_pa_walked k_pa_cover
  · skip
    refine ⟨fun c2 => ?_, fun c2 => ?_⟩
    · skip
      refine ⟨fun _ => ?_, fun h => absurd h (by decide), fun h0 h1 => absurd rfl h0⟩
      exact hpost _ _ _ (iv_w (iv_lit (l := (-1)) (h := (-1)) (by decide)) (by decide)) k_pa_walked k_pa_cover
    · skip
      refine ⟨iv_in (iv_lta (l := 0) (h := 1) (r_nle c2) (iv_leb (l := 0) (h := 2147483647) (r_nlt c1) (iv_lit (l := 0) (h := 0) (by decide)) (iv_top x1) (by decide)) (k_ta_counts _) (by decide)) (by decide), fun hc => ?_, fun hc => ?_⟩
      · skip
        refine ⟨fun h => absurd h (by decide), fun h => absurd h (by decide), fun h0 h1 => ?_⟩
        refine ⟨fun c3 => ?_, fun c3 => ?_⟩
        · skip
          exact hpost _ _ _ (iv_w (iv_lit (l := (-1)) (h := (-1)) (by decide)) (by decide)) k_pa_walked k_pa_cover
        · skip
          refine ⟨fun c4 => ?_, fun c4 => ?_⟩
          · skip
            refine s_wp_X7_walk_9_0 k_pa_walked k_tl0f_huts k_tl0a_minutes (fun o5 k_o5 => ?_)
            refine s_wp_X7_coverBy_2_0 k_o5 k_pa_cover k_tl0f_huts (iv_lea (l := 0) (h := 99) (r_le c4) (iv_leb (l := 0) (h := 2147483647) (r_nlt c3) (iv_lit (l := 0) (h := 0) (by decide)) (iv_top x2) (by decide)) (iv_lit (l := 99) (h := 99) (by decide)) (by decide)) (fun o6 k_o6 => ?_)
            refine s_wp_X7_fewestCovering_0 k_o6 k_tl0f_villages k_tl0f_huts (fun r7 hr7 => ?_)
            refine ⟨fun c8 => ?_, fun c8 => ?_⟩
            · skip
              refine s_z_J6_bitCount_0f7a4_0 hr7 (fun r9 hr9 => ?_)
              exact hpost _ _ _ (iv_w hr9 (by decide)) k_o5 k_o6
            · skip
              exact hpost _ _ _ hr7 k_o5 k_o6
          · skip
            exact hpost _ _ _ (iv_w (iv_lit (l := (-1)) (h := (-1)) (by decide)) (by decide)) k_pa_walked k_pa_cover
      · skip
        refine ⟨fun h => absurd h (by decide), fun _ => ?_, fun h0 h1 => absurd rfl h1⟩
        refine ⟨fun c10 => ?_, fun c10 => ?_⟩
        · skip
          exact hpost _ _ _ (iv_w (iv_lit (l := (-1)) (h := (-1)) (by decide)) (by decide)) k_pa_walked k_pa_cover
        · skip
          refine ⟨fun c11 => ?_, fun c11 => ?_⟩
          · skip
            refine s_wp_X7_walk_9_0 k_pa_walked k_tl1f_huts k_tl1a_minutes (fun o12 k_o12 => ?_)
            refine s_wp_X7_coverBy_2_0 k_o12 k_pa_cover k_tl1f_huts (iv_lea (l := 0) (h := 99) (r_le c11) (iv_leb (l := 0) (h := 2147483647) (r_nlt c10) (iv_lit (l := 0) (h := 0) (by decide)) (iv_top x2) (by decide)) (iv_lit (l := 99) (h := 99) (by decide)) (by decide)) (fun o13 k_o13 => ?_)
            refine s_wp_X7_fewestCovering_0 k_o13 k_tl1f_villages k_tl1f_huts (fun r14 hr14 => ?_)
            refine ⟨fun c15 => ?_, fun c15 => ?_⟩
            · skip
              refine s_z_J6_bitCount_0f7a4_0 hr14 (fun r16 hr16 => ?_)
              exact hpost _ _ _ (iv_w hr16 (by decide)) k_o12 k_o13
            · skip
              exact hpost _ _ _ hr14 k_o12 k_o13
          · skip
            exact hpost _ _ _ (iv_w (iv_lit (l := (-1)) (h := (-1)) (by decide)) (by decide)) k_pa_walked k_pa_cover
-- wx_X10_fact
set_option maxRecDepth 20000 in
theorem s_wx_X10_fact_43 {ta_counts : Nat → Int32} {ts0f_facts : Int32} {ts0a_heard : Nat → Int32} {ts0a_huts : Nat → Int32} {ts0a_minutes : Nat → Int32} {ts1f_facts : Int32} {ts1a_heard : Nat → Int32} {ts1a_huts : Nat → Int32} {ts1a_minutes : Nat → Int32} {post : Int32 → Prop} (k_ta_counts : ∀ j, iv 0 2 (ta_counts j)) (k_ts0f_facts : iv 0 10 ts0f_facts) (k_ts0a_heard : ∀ j, iv 0 1 (ts0a_heard j)) (k_ts0a_huts : ∀ j, iv 0 8 (ts0a_huts j)) (k_ts0a_minutes : ∀ j, iv 0 60 (ts0a_minutes j)) (k_ts1f_facts : iv 0 10 ts1f_facts) (k_ts1a_heard : ∀ j, iv 0 1 (ts1a_heard j)) (k_ts1a_huts : ∀ j, iv 0 8 (ts1a_huts j)) (k_ts1a_minutes : ∀ j, iv 0 60 (ts1a_minutes j)) (hpost : ∀ (r : Int32), iv (-2) 60 r → post r) : q_wx_X10_fact_43 ta_counts ts0f_facts ts0a_heard ts0a_huts ts0a_minutes ts1f_facts ts1a_heard ts1a_huts ts1a_minutes post := by
  exact hpost _ (iv_w (iv_lit (l := (-2)) (h := (-2)) (by decide)) (by decide))
set_option maxRecDepth 20000 in
theorem s_wx_X10_fact_30k0 {ta_counts : Nat → Int32} {ts0f_facts : Int32} {ts0a_heard : Nat → Int32} {ts0a_huts : Nat → Int32} {ts0a_minutes : Nat → Int32} {ts1f_facts : Int32} {ts1a_heard : Nat → Int32} {ts1a_huts : Nat → Int32} {ts1a_minutes : Nat → Int32} {x2 : Int32} {x3 : Int32} {post : Int32 → Prop} (k_ta_counts : ∀ j, iv 0 2 (ta_counts j)) (k_ts0f_facts : iv 0 10 ts0f_facts) (k_ts0a_heard : ∀ j, iv 0 1 (ts0a_heard j)) (k_ts0a_huts : ∀ j, iv 0 8 (ts0a_huts j)) (k_ts0a_minutes : ∀ j, iv 0 60 (ts0a_minutes j)) (k_ts1f_facts : iv 0 10 ts1f_facts) (k_ts1a_heard : ∀ j, iv 0 1 (ts1a_heard j)) (k_ts1a_huts : ∀ j, iv 0 8 (ts1a_huts j)) (k_ts1a_minutes : ∀ j, iv 0 60 (ts1a_minutes j)) (hpost : ∀ (r : Int32), iv (-2) 60 r → post r) : q_wx_X10_fact_30k0 ta_counts ts0f_facts ts0a_heard ts0a_huts ts0a_minutes ts1f_facts ts1a_heard ts1a_huts ts1a_minutes x2 x3 post := by
  refine ⟨fun c1 => ?_, fun c1 => ?_⟩
  · skip
    exact s_wx_X10_fact_43 k_ta_counts k_ts0f_facts k_ts0a_heard k_ts0a_huts k_ts0a_minutes k_ts1f_facts k_ts1a_heard k_ts1a_huts k_ts1a_minutes hpost
  · skip
    refine ⟨fun c2 => ?_, fun c2 => ?_⟩
    · skip
      refine ⟨fun c3 => ?_, fun c3 => ?_, fun c3 => ?_, fun c3 => ?_⟩
      · skip
        exact hpost _ (iv_w (iv_lit (l := (-2)) (h := (-2)) (by decide)) (by decide))
      · skip
        refine ⟨iv_in (iv_lta (l := 0) (h := 9) (r_lt c2) (iv_leb (l := 0) (h := 2147483647) (r_nlt c1) (iv_lit (l := 0) (h := 0) (by decide)) (iv_top x2) (by decide)) k_ts0f_facts (by decide)) (by decide), ?_⟩
        exact hpost _ (iv_w (k_ts0a_heard _) (by decide))
      · skip
        refine ⟨iv_in (iv_lta (l := 0) (h := 9) (r_lt c2) (iv_leb (l := 0) (h := 2147483647) (r_nlt c1) (iv_lit (l := 0) (h := 0) (by decide)) (iv_top x2) (by decide)) k_ts0f_facts (by decide)) (by decide), ?_⟩
        exact hpost _ (iv_w (k_ts0a_huts _) (by decide))
      · skip
        refine ⟨iv_in (iv_lta (l := 0) (h := 9) (r_lt c2) (iv_leb (l := 0) (h := 2147483647) (r_nlt c1) (iv_lit (l := 0) (h := 0) (by decide)) (iv_top x2) (by decide)) k_ts0f_facts (by decide)) (by decide), ?_⟩
        exact hpost _ (iv_w (k_ts0a_minutes _) (by decide))
    · skip
      exact s_wx_X10_fact_43 k_ta_counts k_ts0f_facts k_ts0a_heard k_ts0a_huts k_ts0a_minutes k_ts1f_facts k_ts1a_heard k_ts1a_huts k_ts1a_minutes hpost
set_option maxRecDepth 20000 in
theorem s_wx_X10_fact_30k1 {ta_counts : Nat → Int32} {ts0f_facts : Int32} {ts0a_heard : Nat → Int32} {ts0a_huts : Nat → Int32} {ts0a_minutes : Nat → Int32} {ts1f_facts : Int32} {ts1a_heard : Nat → Int32} {ts1a_huts : Nat → Int32} {ts1a_minutes : Nat → Int32} {x2 : Int32} {x3 : Int32} {post : Int32 → Prop} (k_ta_counts : ∀ j, iv 0 2 (ta_counts j)) (k_ts0f_facts : iv 0 10 ts0f_facts) (k_ts0a_heard : ∀ j, iv 0 1 (ts0a_heard j)) (k_ts0a_huts : ∀ j, iv 0 8 (ts0a_huts j)) (k_ts0a_minutes : ∀ j, iv 0 60 (ts0a_minutes j)) (k_ts1f_facts : iv 0 10 ts1f_facts) (k_ts1a_heard : ∀ j, iv 0 1 (ts1a_heard j)) (k_ts1a_huts : ∀ j, iv 0 8 (ts1a_huts j)) (k_ts1a_minutes : ∀ j, iv 0 60 (ts1a_minutes j)) (hpost : ∀ (r : Int32), iv (-2) 60 r → post r) : q_wx_X10_fact_30k1 ta_counts ts0f_facts ts0a_heard ts0a_huts ts0a_minutes ts1f_facts ts1a_heard ts1a_huts ts1a_minutes x2 x3 post := by
  refine ⟨fun c1 => ?_, fun c1 => ?_⟩
  · skip
    exact s_wx_X10_fact_43 k_ta_counts k_ts0f_facts k_ts0a_heard k_ts0a_huts k_ts0a_minutes k_ts1f_facts k_ts1a_heard k_ts1a_huts k_ts1a_minutes hpost
  · skip
    refine ⟨fun c2 => ?_, fun c2 => ?_⟩
    · skip
      refine ⟨fun c3 => ?_, fun c3 => ?_, fun c3 => ?_, fun c3 => ?_⟩
      · skip
        exact hpost _ (iv_w (iv_lit (l := (-2)) (h := (-2)) (by decide)) (by decide))
      · skip
        refine ⟨iv_in (iv_lta (l := 0) (h := 9) (r_lt c2) (iv_leb (l := 0) (h := 2147483647) (r_nlt c1) (iv_lit (l := 0) (h := 0) (by decide)) (iv_top x2) (by decide)) k_ts1f_facts (by decide)) (by decide), ?_⟩
        exact hpost _ (iv_w (k_ts1a_heard _) (by decide))
      · skip
        refine ⟨iv_in (iv_lta (l := 0) (h := 9) (r_lt c2) (iv_leb (l := 0) (h := 2147483647) (r_nlt c1) (iv_lit (l := 0) (h := 0) (by decide)) (iv_top x2) (by decide)) k_ts1f_facts (by decide)) (by decide), ?_⟩
        exact hpost _ (iv_w (k_ts1a_huts _) (by decide))
      · skip
        refine ⟨iv_in (iv_lta (l := 0) (h := 9) (r_lt c2) (iv_leb (l := 0) (h := 2147483647) (r_nlt c1) (iv_lit (l := 0) (h := 0) (by decide)) (iv_top x2) (by decide)) k_ts1f_facts (by decide)) (by decide), ?_⟩
        exact hpost _ (iv_w (k_ts1a_minutes _) (by decide))
    · skip
      exact s_wx_X10_fact_43 k_ta_counts k_ts0f_facts k_ts0a_heard k_ts0a_huts k_ts0a_minutes k_ts1f_facts k_ts1a_heard k_ts1a_huts k_ts1a_minutes hpost
set_option maxRecDepth 20000 in
theorem s_wx_X10_fact_0 {ta_counts : Nat → Int32} {ts0f_facts : Int32} {ts0a_heard : Nat → Int32} {ts0a_huts : Nat → Int32} {ts0a_minutes : Nat → Int32} {ts1f_facts : Int32} {ts1a_heard : Nat → Int32} {ts1a_huts : Nat → Int32} {ts1a_minutes : Nat → Int32} {x1 : Int32} {x2 : Int32} {x3 : Int32} {post : Int32 → Prop} (k_ta_counts : ∀ j, iv 0 2 (ta_counts j)) (k_ts0f_facts : iv 0 10 ts0f_facts) (k_ts0a_heard : ∀ j, iv 0 1 (ts0a_heard j)) (k_ts0a_huts : ∀ j, iv 0 8 (ts0a_huts j)) (k_ts0a_minutes : ∀ j, iv 0 60 (ts0a_minutes j)) (k_ts1f_facts : iv 0 10 ts1f_facts) (k_ts1a_heard : ∀ j, iv 0 1 (ts1a_heard j)) (k_ts1a_huts : ∀ j, iv 0 8 (ts1a_huts j)) (k_ts1a_minutes : ∀ j, iv 0 60 (ts1a_minutes j)) (hpost : ∀ (r : Int32), iv (-2) 60 r → post r) : q_wx_X10_fact_0 ta_counts ts0f_facts ts0a_heard ts0a_huts ts0a_minutes ts1f_facts ts1a_heard ts1a_huts ts1a_minutes x1 x2 x3 post := by
  refine ⟨fun c1 => ?_, fun c1 => ?_⟩
  · skip
    refine ⟨fun _ => ?_, fun h => absurd h (by decide), fun h0 h1 => absurd rfl h0⟩
    exact hpost _ (iv_w (iv_lit (l := (-2)) (h := (-2)) (by decide)) (by decide))
  · skip
    refine ⟨fun c2 => ?_, fun c2 => ?_⟩
    · skip
      refine ⟨fun _ => ?_, fun h => absurd h (by decide), fun h0 h1 => absurd rfl h0⟩
      exact hpost _ (iv_w (iv_lit (l := (-2)) (h := (-2)) (by decide)) (by decide))
    · skip
      refine ⟨iv_in (iv_lta (l := 0) (h := 1) (r_nle c2) (iv_leb (l := 0) (h := 2147483647) (r_nlt c1) (iv_lit (l := 0) (h := 0) (by decide)) (iv_top x1) (by decide)) (k_ta_counts _) (by decide)) (by decide), fun hc => ?_, fun hc => ?_⟩
      · skip
        refine ⟨fun h => absurd h (by decide), fun h => absurd h (by decide), fun h0 h1 => ?_⟩
        refine ⟨fun c3 => ?_, fun c3 => ?_⟩
        · skip
          exact s_wx_X10_fact_30k0 k_ta_counts k_ts0f_facts k_ts0a_heard k_ts0a_huts k_ts0a_minutes k_ts1f_facts k_ts1a_heard k_ts1a_huts k_ts1a_minutes hpost
        · skip
          refine ⟨fun c4 => ?_, fun c4 => ?_⟩
          · skip
            exact s_wx_X10_fact_30k0 k_ta_counts k_ts0f_facts k_ts0a_heard k_ts0a_huts k_ts0a_minutes k_ts1f_facts k_ts1a_heard k_ts1a_huts k_ts1a_minutes hpost
          · skip
            exact hpost _ (iv_w k_ts0f_facts (by decide))
      · skip
        refine ⟨fun h => absurd h (by decide), fun _ => ?_, fun h0 h1 => absurd rfl h1⟩
        refine ⟨fun c5 => ?_, fun c5 => ?_⟩
        · skip
          exact s_wx_X10_fact_30k1 k_ta_counts k_ts0f_facts k_ts0a_heard k_ts0a_huts k_ts0a_minutes k_ts1f_facts k_ts1a_heard k_ts1a_huts k_ts1a_minutes hpost
        · skip
          refine ⟨fun c6 => ?_, fun c6 => ?_⟩
          · skip
            exact s_wx_X10_fact_30k1 k_ta_counts k_ts0f_facts k_ts0a_heard k_ts0a_huts k_ts0a_minutes k_ts1f_facts k_ts1a_heard k_ts1a_huts k_ts1a_minutes hpost
          · skip
            exact hpost _ (iv_w k_ts1f_facts (by decide))
-- wx_X10_fits
set_option maxRecDepth 20000 in
theorem s_wx_X10_fits_0 {ta_counts : Nat → Int32} {tl0f_huts : Int32} {tl0f_dams : Int32} {tl0f_echoes : Int32} {tl0a_heights : Nat → Int32} {tl0a_minutes : Nat → Int32} {tl0a_echoFrom : Nat → Int32} {tl0a_echoTo : Nat → Int32} {tl1f_huts : Int32} {tl1f_dams : Int32} {tl1f_echoes : Int32} {tl1a_heights : Nat → Int32} {tl1a_minutes : Nat → Int32} {tl1a_echoFrom : Nat → Int32} {tl1a_echoTo : Nat → Int32} {ts0f_facts : Int32} {ts0a_heard : Nat → Int32} {ts0a_huts : Nat → Int32} {ts0a_minutes : Nat → Int32} {ts1f_facts : Int32} {ts1a_heard : Nat → Int32} {ts1a_huts : Nat → Int32} {ts1a_minutes : Nat → Int32} {pa_heard : Nat → Int32} {x1 : Int32} {x2 : Int32} {x3 : Int32} {post : Int32 → (Nat → Int32) → Prop} (k_ta_counts : ∀ j, iv 0 2 (ta_counts j)) (k_tl0f_huts : iv 0 9 tl0f_huts) (k_tl0f_dams : iv 0 511 tl0f_dams) (k_tl0f_echoes : iv 0 4 tl0f_echoes) (k_tl0a_heights : ∀ j, iv 0 99 (tl0a_heights j)) (k_tl0a_minutes : ∀ j, iv 0 9 (tl0a_minutes j)) (k_tl0a_echoFrom : ∀ j, iv 0 8 (tl0a_echoFrom j)) (k_tl0a_echoTo : ∀ j, iv 0 8 (tl0a_echoTo j)) (k_tl1f_huts : iv 0 9 tl1f_huts) (k_tl1f_dams : iv 0 511 tl1f_dams) (k_tl1f_echoes : iv 0 4 tl1f_echoes) (k_tl1a_heights : ∀ j, iv 0 99 (tl1a_heights j)) (k_tl1a_minutes : ∀ j, iv 0 9 (tl1a_minutes j)) (k_tl1a_echoFrom : ∀ j, iv 0 8 (tl1a_echoFrom j)) (k_tl1a_echoTo : ∀ j, iv 0 8 (tl1a_echoTo j)) (k_ts0f_facts : iv 0 10 ts0f_facts) (k_ts0a_heard : ∀ j, iv 0 1 (ts0a_heard j)) (k_ts0a_huts : ∀ j, iv 0 8 (ts0a_huts j)) (k_ts0a_minutes : ∀ j, iv 0 60 (ts0a_minutes j)) (k_ts1f_facts : iv 0 10 ts1f_facts) (k_ts1a_heard : ∀ j, iv 0 1 (ts1a_heard j)) (k_ts1a_huts : ∀ j, iv 0 8 (ts1a_huts j)) (k_ts1a_minutes : ∀ j, iv 0 60 (ts1a_minutes j)) (k_pa_heard : ∀ j, iv 0 1000 (pa_heard j)) (hpost : ∀ (r : Int32) (pa_heard : Nat → Int32), iv (-2) 2147483647 r → (∀ j, iv 0 1000 (pa_heard j)) → post r pa_heard) : q_wx_X10_fits_0 ta_counts tl0f_huts tl0f_dams tl0f_echoes tl0a_heights tl0a_minutes tl0a_echoFrom tl0a_echoTo tl1f_huts tl1f_dams tl1f_echoes tl1a_heights tl1a_minutes tl1a_echoFrom tl1a_echoTo ts0f_facts ts0a_heard ts0a_huts ts0a_minutes ts1f_facts ts1a_heard ts1a_huts ts1a_minutes pa_heard x1 x2 x3 post := by
  refine ⟨fun c1 => ?_, fun c1 => ?_⟩
  · skip
    refine ⟨fun _ => ?_, fun h => absurd h (by decide), fun h0 h1 => absurd rfl h0⟩
    refine ⟨fun c2 => ?_, fun c2 => ?_⟩
    · skip
      refine ⟨fun _ => ?_, fun h => absurd h (by decide), fun h0 h1 => absurd rfl h0⟩
      exact hpost _ _ (iv_w (iv_lit (l := (-2)) (h := (-2)) (by decide)) (by decide)) k_pa_heard
    · skip
      refine ⟨fun c3 => ?_, fun c3 => ?_⟩
      · skip
        refine ⟨fun _ => ?_, fun h => absurd h (by decide), fun h0 h1 => absurd rfl h0⟩
        exact hpost _ _ (iv_w (iv_lit (l := (-2)) (h := (-2)) (by decide)) (by decide)) k_pa_heard
      · skip
        refine ⟨iv_in (iv_lta (l := 0) (h := 1) (r_nle c3) (iv_leb (l := 0) (h := 2147483647) (r_nlt c2) (iv_lit (l := 0) (h := 0) (by decide)) (iv_top x2) (by decide)) (k_ta_counts _) (by decide)) (by decide), fun hc => ?_, fun hc => ?_⟩
        · skip
          refine ⟨fun h => absurd h (by decide), fun h => absurd h (by decide), fun h0 h1 => ?_⟩
          exact hpost _ _ (iv_w (iv_lit (l := (-2)) (h := (-2)) (by decide)) (by decide)) k_pa_heard
        · skip
          refine ⟨fun h => absurd h (by decide), fun _ => ?_, fun h0 h1 => absurd rfl h1⟩
          exact hpost _ _ (iv_w (iv_lit (l := (-2)) (h := (-2)) (by decide)) (by decide)) k_pa_heard
  · skip
    refine ⟨fun c4 => ?_, fun c4 => ?_⟩
    · skip
      refine ⟨fun _ => ?_, fun h => absurd h (by decide), fun h0 h1 => absurd rfl h0⟩
      refine ⟨fun c5 => ?_, fun c5 => ?_⟩
      · skip
        refine ⟨fun _ => ?_, fun h => absurd h (by decide), fun h0 h1 => absurd rfl h0⟩
        exact hpost _ _ (iv_w (iv_lit (l := (-2)) (h := (-2)) (by decide)) (by decide)) k_pa_heard
      · skip
        refine ⟨fun c6 => ?_, fun c6 => ?_⟩
        · skip
          refine ⟨fun _ => ?_, fun h => absurd h (by decide), fun h0 h1 => absurd rfl h0⟩
          exact hpost _ _ (iv_w (iv_lit (l := (-2)) (h := (-2)) (by decide)) (by decide)) k_pa_heard
        · skip
          refine ⟨iv_in (iv_lta (l := 0) (h := 1) (r_nle c6) (iv_leb (l := 0) (h := 2147483647) (r_nlt c5) (iv_lit (l := 0) (h := 0) (by decide)) (iv_top x2) (by decide)) (k_ta_counts _) (by decide)) (by decide), fun hc => ?_, fun hc => ?_⟩
          · skip
            refine ⟨fun h => absurd h (by decide), fun h => absurd h (by decide), fun h0 h1 => ?_⟩
            exact hpost _ _ (iv_w (iv_lit (l := (-2)) (h := (-2)) (by decide)) (by decide)) k_pa_heard
          · skip
            refine ⟨fun h => absurd h (by decide), fun _ => ?_, fun h0 h1 => absurd rfl h1⟩
            exact hpost _ _ (iv_w (iv_lit (l := (-2)) (h := (-2)) (by decide)) (by decide)) k_pa_heard
    · skip
      refine ⟨iv_in (iv_lta (l := 0) (h := 1) (r_nle c4) (iv_leb (l := 0) (h := 2147483647) (r_nlt c1) (iv_lit (l := 0) (h := 0) (by decide)) (iv_top x1) (by decide)) (k_ta_counts _) (by decide)) (by decide), fun hc => ?_, fun hc => ?_⟩
      · skip
        refine ⟨fun h => absurd h (by decide), fun h => absurd h (by decide), fun h0 h1 => ?_⟩
        refine ⟨fun c7 => ?_, fun c7 => ?_⟩
        · skip
          refine ⟨fun _ => ?_, fun h => absurd h (by decide), fun h0 h1 => absurd rfl h0⟩
          exact hpost _ _ (iv_w (iv_lit (l := (-2)) (h := (-2)) (by decide)) (by decide)) k_pa_heard
        · skip
          refine ⟨fun c8 => ?_, fun c8 => ?_⟩
          · skip
            refine ⟨fun _ => ?_, fun h => absurd h (by decide), fun h0 h1 => absurd rfl h0⟩
            exact hpost _ _ (iv_w (iv_lit (l := (-2)) (h := (-2)) (by decide)) (by decide)) k_pa_heard
          · skip
            refine ⟨iv_in (iv_lta (l := 0) (h := 1) (r_nle c8) (iv_leb (l := 0) (h := 2147483647) (r_nlt c7) (iv_lit (l := 0) (h := 0) (by decide)) (iv_top x2) (by decide)) (k_ta_counts _) (by decide)) (by decide), fun hc => ?_, fun hc => ?_⟩
            · skip
              refine ⟨fun h => absurd h (by decide), fun h => absurd h (by decide), fun h0 h1 => ?_⟩
              refine s_ws_X6_staysWithin_0 k_ts0f_facts k_ts0a_huts k_tl0f_huts (fun r9 hr9 => ?_)
              refine ⟨fun c10 => ?_, fun c10 => ?_⟩
              · skip
                refine s_wp_X7_hear_9_0 k_pa_heard k_tl0f_huts k_tl0f_dams k_tl0f_echoes k_tl0a_heights k_tl0a_minutes k_tl0a_echoFrom k_tl0a_echoTo (fun o11 k_o11 => ?_)
                refine s_wp_X7_fitting_9_18_0 k_o11 k_tl0f_huts k_tl0f_dams k_ts0f_facts k_ts0a_heard k_ts0a_huts k_ts0a_minutes (fun r12 hr12 => ?_)
                refine ⟨fun c13 => ?_, fun c13 => ?_⟩
                · skip
                  exact hpost _ _ (iv_w hr12 (by decide)) k_o11
                · skip
                  refine s_wp_X7_question_9_0 k_o11 k_tl0f_huts hr12 (fun r14 hr14 => ?_)
                  exact hpost _ _ (iv_w hr14 (by decide)) k_o11
              · skip
                exact hpost _ _ (iv_w (iv_lit (l := (-2)) (h := (-2)) (by decide)) (by decide)) k_pa_heard
            · skip
              refine ⟨fun h => absurd h (by decide), fun _ => ?_, fun h0 h1 => absurd rfl h1⟩
              refine s_ws_X6_staysWithin_0 k_ts1f_facts k_ts1a_huts k_tl0f_huts (fun r15 hr15 => ?_)
              refine ⟨fun c16 => ?_, fun c16 => ?_⟩
              · skip
                refine s_wp_X7_hear_9_0 k_pa_heard k_tl0f_huts k_tl0f_dams k_tl0f_echoes k_tl0a_heights k_tl0a_minutes k_tl0a_echoFrom k_tl0a_echoTo (fun o17 k_o17 => ?_)
                refine s_wp_X7_fitting_9_18_0 k_o17 k_tl0f_huts k_tl0f_dams k_ts1f_facts k_ts1a_heard k_ts1a_huts k_ts1a_minutes (fun r18 hr18 => ?_)
                refine ⟨fun c19 => ?_, fun c19 => ?_⟩
                · skip
                  exact hpost _ _ (iv_w hr18 (by decide)) k_o17
                · skip
                  refine s_wp_X7_question_9_0 k_o17 k_tl0f_huts hr18 (fun r20 hr20 => ?_)
                  exact hpost _ _ (iv_w hr20 (by decide)) k_o17
              · skip
                exact hpost _ _ (iv_w (iv_lit (l := (-2)) (h := (-2)) (by decide)) (by decide)) k_pa_heard
      · skip
        refine ⟨fun h => absurd h (by decide), fun _ => ?_, fun h0 h1 => absurd rfl h1⟩
        refine ⟨fun c21 => ?_, fun c21 => ?_⟩
        · skip
          refine ⟨fun _ => ?_, fun h => absurd h (by decide), fun h0 h1 => absurd rfl h0⟩
          exact hpost _ _ (iv_w (iv_lit (l := (-2)) (h := (-2)) (by decide)) (by decide)) k_pa_heard
        · skip
          refine ⟨fun c22 => ?_, fun c22 => ?_⟩
          · skip
            refine ⟨fun _ => ?_, fun h => absurd h (by decide), fun h0 h1 => absurd rfl h0⟩
            exact hpost _ _ (iv_w (iv_lit (l := (-2)) (h := (-2)) (by decide)) (by decide)) k_pa_heard
          · skip
            refine ⟨iv_in (iv_lta (l := 0) (h := 1) (r_nle c22) (iv_leb (l := 0) (h := 2147483647) (r_nlt c21) (iv_lit (l := 0) (h := 0) (by decide)) (iv_top x2) (by decide)) (k_ta_counts _) (by decide)) (by decide), fun hc => ?_, fun hc => ?_⟩
            · skip
              refine ⟨fun h => absurd h (by decide), fun h => absurd h (by decide), fun h0 h1 => ?_⟩
              refine s_ws_X6_staysWithin_0 k_ts0f_facts k_ts0a_huts k_tl1f_huts (fun r23 hr23 => ?_)
              refine ⟨fun c24 => ?_, fun c24 => ?_⟩
              · skip
                refine s_wp_X7_hear_9_0 k_pa_heard k_tl1f_huts k_tl1f_dams k_tl1f_echoes k_tl1a_heights k_tl1a_minutes k_tl1a_echoFrom k_tl1a_echoTo (fun o25 k_o25 => ?_)
                refine s_wp_X7_fitting_9_18_0 k_o25 k_tl1f_huts k_tl1f_dams k_ts0f_facts k_ts0a_heard k_ts0a_huts k_ts0a_minutes (fun r26 hr26 => ?_)
                refine ⟨fun c27 => ?_, fun c27 => ?_⟩
                · skip
                  exact hpost _ _ (iv_w hr26 (by decide)) k_o25
                · skip
                  refine s_wp_X7_question_9_0 k_o25 k_tl1f_huts hr26 (fun r28 hr28 => ?_)
                  exact hpost _ _ (iv_w hr28 (by decide)) k_o25
              · skip
                exact hpost _ _ (iv_w (iv_lit (l := (-2)) (h := (-2)) (by decide)) (by decide)) k_pa_heard
            · skip
              refine ⟨fun h => absurd h (by decide), fun _ => ?_, fun h0 h1 => absurd rfl h1⟩
              refine s_ws_X6_staysWithin_0 k_ts1f_facts k_ts1a_huts k_tl1f_huts (fun r29 hr29 => ?_)
              refine ⟨fun c30 => ?_, fun c30 => ?_⟩
              · skip
                refine s_wp_X7_hear_9_0 k_pa_heard k_tl1f_huts k_tl1f_dams k_tl1f_echoes k_tl1a_heights k_tl1a_minutes k_tl1a_echoFrom k_tl1a_echoTo (fun o31 k_o31 => ?_)
                refine s_wp_X7_fitting_9_18_0 k_o31 k_tl1f_huts k_tl1f_dams k_ts1f_facts k_ts1a_heard k_ts1a_huts k_ts1a_minutes (fun r32 hr32 => ?_)
                refine ⟨fun c33 => ?_, fun c33 => ?_⟩
                · skip
                  exact hpost _ _ (iv_w hr32 (by decide)) k_o31
                · skip
                  refine s_wp_X7_question_9_0 k_o31 k_tl1f_huts hr32 (fun r34 hr34 => ?_)
                  exact hpost _ _ (iv_w hr34 (by decide)) k_o31
              · skip
                exact hpost _ _ (iv_w (iv_lit (l := (-2)) (h := (-2)) (by decide)) (by decide)) k_pa_heard
-- wx_X10_odds
set_option maxRecDepth 20000 in
theorem s_wx_X10_odds_117 {ta_counts : Nat → Int32} {tl0f_huts : Int32} {tl0f_singers : Int32} {tl0f_dams : Int32} {tl0f_echoes : Int32} {tl0f_deep : Int32} {tl0f_slide : Int32} {tl0a_heights : Nat → Int32} {tl0a_ladders : Nat → Int32} {tl0a_minutes : Nat → Int32} {tl0a_echoFrom : Nat → Int32} {tl0a_echoTo : Nat → Int32} {tl0a_homes : Nat → Int32} {tl0a_talls : Nat → Int32} {tl0a_known : Nat → Int32} {tl1f_huts : Int32} {tl1f_singers : Int32} {tl1f_dams : Int32} {tl1f_echoes : Int32} {tl1f_deep : Int32} {tl1f_slide : Int32} {tl1a_heights : Nat → Int32} {tl1a_ladders : Nat → Int32} {tl1a_minutes : Nat → Int32} {tl1a_echoFrom : Nat → Int32} {tl1a_echoTo : Nat → Int32} {tl1a_homes : Nat → Int32} {tl1a_talls : Nat → Int32} {tl1a_known : Nat → Int32} {tv0f_deeds : Int32} {tv0a_kinds : Nat → Int32} {tv0a_firsts : Nat → Int32} {tv0a_seconds : Nat → Int32} {tv1f_deeds : Int32} {tv1a_kinds : Nat → Int32} {tv1a_firsts : Nat → Int32} {tv1a_seconds : Nat → Int32} {nf_minute : Int32} {nf_avalanches : Int32} {nf_begun : Int32} {nf_climbed : Int32} {na_huts : Nat → Int32} {na_known : Nat → Int32} {na_levels : Nat → Int32} {na_snow : Nat → Int32} {x6 : Int32} {y0 : Int32} {post : Int64 → (Int32) → (Int32) → (Int32) → (Int32) → (Nat → Int32) → (Nat → Int32) → (Nat → Int32) → (Nat → Int32) → Prop} (k_ta_counts : ∀ j, iv 0 2 (ta_counts j)) (k_tl0f_huts : iv 0 9 tl0f_huts) (k_tl0f_singers : iv 0 6 tl0f_singers) (k_tl0f_dams : iv 0 511 tl0f_dams) (k_tl0f_echoes : iv 0 4 tl0f_echoes) (k_tl0f_deep : iv 1 9 tl0f_deep) (k_tl0f_slide : iv 0 10 tl0f_slide) (k_tl0a_heights : ∀ j, iv 0 99 (tl0a_heights j)) (k_tl0a_ladders : ∀ j, iv 0 9 (tl0a_ladders j)) (k_tl0a_minutes : ∀ j, iv 0 9 (tl0a_minutes j)) (k_tl0a_echoFrom : ∀ j, iv 0 8 (tl0a_echoFrom j)) (k_tl0a_echoTo : ∀ j, iv 0 8 (tl0a_echoTo j)) (k_tl0a_homes : ∀ j, iv 0 8 (tl0a_homes j)) (k_tl0a_talls : ∀ j, iv 0 9 (tl0a_talls j)) (k_tl0a_known : ∀ j, iv 0 31 (tl0a_known j)) (k_tl1f_huts : iv 0 9 tl1f_huts) (k_tl1f_singers : iv 0 6 tl1f_singers) (k_tl1f_dams : iv 0 511 tl1f_dams) (k_tl1f_echoes : iv 0 4 tl1f_echoes) (k_tl1f_deep : iv 1 9 tl1f_deep) (k_tl1f_slide : iv 0 10 tl1f_slide) (k_tl1a_heights : ∀ j, iv 0 99 (tl1a_heights j)) (k_tl1a_ladders : ∀ j, iv 0 9 (tl1a_ladders j)) (k_tl1a_minutes : ∀ j, iv 0 9 (tl1a_minutes j)) (k_tl1a_echoFrom : ∀ j, iv 0 8 (tl1a_echoFrom j)) (k_tl1a_echoTo : ∀ j, iv 0 8 (tl1a_echoTo j)) (k_tl1a_homes : ∀ j, iv 0 8 (tl1a_homes j)) (k_tl1a_talls : ∀ j, iv 0 9 (tl1a_talls j)) (k_tl1a_known : ∀ j, iv 0 31 (tl1a_known j)) (k_tv0f_deeds : iv 0 40 tv0f_deeds) (k_tv0a_kinds : ∀ j, iv 0 5 (tv0a_kinds j)) (k_tv0a_firsts : ∀ j, iv 0 5 (tv0a_firsts j)) (k_tv0a_seconds : ∀ j, iv (-1) 8 (tv0a_seconds j)) (k_tv1f_deeds : iv 0 40 tv1f_deeds) (k_tv1a_kinds : ∀ j, iv 0 5 (tv1a_kinds j)) (k_tv1a_firsts : ∀ j, iv 0 5 (tv1a_firsts j)) (k_tv1a_seconds : ∀ j, iv (-1) 8 (tv1a_seconds j)) (k_nf_avalanches : iv (-2147483648) 18 nf_avalanches) (k_nf_begun : iv 0 31 nf_begun) (k_nf_climbed : iv 0 63 nf_climbed) (k_na_huts : ∀ j, iv 0 8 (na_huts j)) (k_na_known : ∀ j, iv 0 31 (na_known j)) (k_na_levels : ∀ j, iv (-9) 122 (na_levels j)) (hx6 : iv 1 10 x6) (hy0 : iv 0 10 y0) (hpost : ∀ (r : Int64) (nf_minute : Int32) (nf_avalanches : Int32) (nf_begun : Int32) (nf_climbed : Int32) (na_huts : Nat → Int32) (na_known : Nat → Int32) (na_levels : Nat → Int32) (na_snow : Nat → Int32), (iv 0 31 nf_begun) → (iv 0 63 nf_climbed) → (∀ j, iv 0 8 (na_huts j)) → (∀ j, iv 0 31 (na_known j)) → (∀ j, iv (-9) 122 (na_levels j)) → post r nf_minute nf_avalanches nf_begun nf_climbed na_huts na_known na_levels na_snow) : q_wx_X10_odds_117 ta_counts tl0f_huts tl0f_singers tl0f_dams tl0f_echoes tl0f_deep tl0f_slide tl0a_heights tl0a_ladders tl0a_minutes tl0a_echoFrom tl0a_echoTo tl0a_homes tl0a_talls tl0a_known tl1f_huts tl1f_singers tl1f_dams tl1f_echoes tl1f_deep tl1f_slide tl1a_heights tl1a_ladders tl1a_minutes tl1a_echoFrom tl1a_echoTo tl1a_homes tl1a_talls tl1a_known tv0f_deeds tv0a_kinds tv0a_firsts tv0a_seconds tv1f_deeds tv1a_kinds tv1a_firsts tv1a_seconds nf_minute nf_avalanches nf_begun nf_climbed na_huts na_known na_levels na_snow x6 y0 post := by
  refine ⟨iv_ne0 hx6 (by decide), ?_⟩
  refine s_z_X10_power_0 (iv_div (l := 0) (h := 10) hy0 hx6 (by decide)) k_nf_avalanches (fun r1 => ?_)
  exact hpost _ _ _ _ _ _ _ _ _ k_nf_begun k_nf_climbed k_na_huts k_na_known k_na_levels
set_option maxRecDepth 20000 in
theorem s_wx_X10_odds_0 {ta_counts : Nat → Int32} {tl0f_huts : Int32} {tl0f_singers : Int32} {tl0f_dams : Int32} {tl0f_echoes : Int32} {tl0f_deep : Int32} {tl0f_slide : Int32} {tl0a_heights : Nat → Int32} {tl0a_ladders : Nat → Int32} {tl0a_minutes : Nat → Int32} {tl0a_echoFrom : Nat → Int32} {tl0a_echoTo : Nat → Int32} {tl0a_homes : Nat → Int32} {tl0a_talls : Nat → Int32} {tl0a_known : Nat → Int32} {tl1f_huts : Int32} {tl1f_singers : Int32} {tl1f_dams : Int32} {tl1f_echoes : Int32} {tl1f_deep : Int32} {tl1f_slide : Int32} {tl1a_heights : Nat → Int32} {tl1a_ladders : Nat → Int32} {tl1a_minutes : Nat → Int32} {tl1a_echoFrom : Nat → Int32} {tl1a_echoTo : Nat → Int32} {tl1a_homes : Nat → Int32} {tl1a_talls : Nat → Int32} {tl1a_known : Nat → Int32} {tv0f_deeds : Int32} {tv0a_kinds : Nat → Int32} {tv0a_firsts : Nat → Int32} {tv0a_seconds : Nat → Int32} {tv1f_deeds : Int32} {tv1a_kinds : Nat → Int32} {tv1a_firsts : Nat → Int32} {tv1a_seconds : Nat → Int32} {nf_minute : Int32} {nf_avalanches : Int32} {nf_begun : Int32} {nf_climbed : Int32} {na_huts : Nat → Int32} {na_known : Nat → Int32} {na_levels : Nat → Int32} {na_snow : Nat → Int32} {x1 : Int32} {x2 : Int32} {x3 : Int32} {post : Int64 → (Int32) → (Int32) → (Int32) → (Int32) → (Nat → Int32) → (Nat → Int32) → (Nat → Int32) → (Nat → Int32) → Prop} (k_ta_counts : ∀ j, iv 0 2 (ta_counts j)) (k_tl0f_huts : iv 0 9 tl0f_huts) (k_tl0f_singers : iv 0 6 tl0f_singers) (k_tl0f_dams : iv 0 511 tl0f_dams) (k_tl0f_echoes : iv 0 4 tl0f_echoes) (k_tl0f_deep : iv 1 9 tl0f_deep) (k_tl0f_slide : iv 0 10 tl0f_slide) (k_tl0a_heights : ∀ j, iv 0 99 (tl0a_heights j)) (k_tl0a_ladders : ∀ j, iv 0 9 (tl0a_ladders j)) (k_tl0a_minutes : ∀ j, iv 0 9 (tl0a_minutes j)) (k_tl0a_echoFrom : ∀ j, iv 0 8 (tl0a_echoFrom j)) (k_tl0a_echoTo : ∀ j, iv 0 8 (tl0a_echoTo j)) (k_tl0a_homes : ∀ j, iv 0 8 (tl0a_homes j)) (k_tl0a_talls : ∀ j, iv 0 9 (tl0a_talls j)) (k_tl0a_known : ∀ j, iv 0 31 (tl0a_known j)) (k_tl1f_huts : iv 0 9 tl1f_huts) (k_tl1f_singers : iv 0 6 tl1f_singers) (k_tl1f_dams : iv 0 511 tl1f_dams) (k_tl1f_echoes : iv 0 4 tl1f_echoes) (k_tl1f_deep : iv 1 9 tl1f_deep) (k_tl1f_slide : iv 0 10 tl1f_slide) (k_tl1a_heights : ∀ j, iv 0 99 (tl1a_heights j)) (k_tl1a_ladders : ∀ j, iv 0 9 (tl1a_ladders j)) (k_tl1a_minutes : ∀ j, iv 0 9 (tl1a_minutes j)) (k_tl1a_echoFrom : ∀ j, iv 0 8 (tl1a_echoFrom j)) (k_tl1a_echoTo : ∀ j, iv 0 8 (tl1a_echoTo j)) (k_tl1a_homes : ∀ j, iv 0 8 (tl1a_homes j)) (k_tl1a_talls : ∀ j, iv 0 9 (tl1a_talls j)) (k_tl1a_known : ∀ j, iv 0 31 (tl1a_known j)) (k_tv0f_deeds : iv 0 40 tv0f_deeds) (k_tv0a_kinds : ∀ j, iv 0 5 (tv0a_kinds j)) (k_tv0a_firsts : ∀ j, iv 0 5 (tv0a_firsts j)) (k_tv0a_seconds : ∀ j, iv (-1) 8 (tv0a_seconds j)) (k_tv1f_deeds : iv 0 40 tv1f_deeds) (k_tv1a_kinds : ∀ j, iv 0 5 (tv1a_kinds j)) (k_tv1a_firsts : ∀ j, iv 0 5 (tv1a_firsts j)) (k_tv1a_seconds : ∀ j, iv (-1) 8 (tv1a_seconds j)) (k_nf_begun : iv 0 31 nf_begun) (k_nf_climbed : iv 0 63 nf_climbed) (k_na_huts : ∀ j, iv 0 8 (na_huts j)) (k_na_known : ∀ j, iv 0 31 (na_known j)) (k_na_levels : ∀ j, iv (-9) 122 (na_levels j)) (hpost : ∀ (r : Int64) (nf_minute : Int32) (nf_avalanches : Int32) (nf_begun : Int32) (nf_climbed : Int32) (na_huts : Nat → Int32) (na_known : Nat → Int32) (na_levels : Nat → Int32) (na_snow : Nat → Int32), (iv 0 31 nf_begun) → (iv 0 63 nf_climbed) → (∀ j, iv 0 8 (na_huts j)) → (∀ j, iv 0 31 (na_known j)) → (∀ j, iv (-9) 122 (na_levels j)) → post r nf_minute nf_avalanches nf_begun nf_climbed na_huts na_known na_levels na_snow) : q_wx_X10_odds_0 ta_counts tl0f_huts tl0f_singers tl0f_dams tl0f_echoes tl0f_deep tl0f_slide tl0a_heights tl0a_ladders tl0a_minutes tl0a_echoFrom tl0a_echoTo tl0a_homes tl0a_talls tl0a_known tl1f_huts tl1f_singers tl1f_dams tl1f_echoes tl1f_deep tl1f_slide tl1a_heights tl1a_ladders tl1a_minutes tl1a_echoFrom tl1a_echoTo tl1a_homes tl1a_talls tl1a_known tv0f_deeds tv0a_kinds tv0a_firsts tv0a_seconds tv1f_deeds tv1a_kinds tv1a_firsts tv1a_seconds nf_minute nf_avalanches nf_begun nf_climbed na_huts na_known na_levels na_snow x1 x2 x3 post := by
  refine ⟨fun c1 => ?_, fun c1 => ?_⟩
  · skip
    refine ⟨fun _ => ?_, fun h => absurd h (by decide), fun h0 h1 => absurd rfl h0⟩
    refine ⟨fun c2 => ?_, fun c2 => ?_⟩
    · skip
      refine ⟨fun _ => ?_, fun h => absurd h (by decide), fun h0 h1 => absurd rfl h0⟩
      exact hpost _ _ _ _ _ _ _ _ _ k_nf_begun k_nf_climbed k_na_huts k_na_known k_na_levels
    · skip
      refine ⟨fun c3 => ?_, fun c3 => ?_⟩
      · skip
        refine ⟨fun _ => ?_, fun h => absurd h (by decide), fun h0 h1 => absurd rfl h0⟩
        exact hpost _ _ _ _ _ _ _ _ _ k_nf_begun k_nf_climbed k_na_huts k_na_known k_na_levels
      · skip
        refine ⟨iv_in (iv_lta (l := 0) (h := 1) (r_nle c3) (iv_leb (l := 0) (h := 2147483647) (r_nlt c2) (iv_lit (l := 0) (h := 0) (by decide)) (iv_top x2) (by decide)) (k_ta_counts _) (by decide)) (by decide), fun hc => ?_, fun hc => ?_⟩
        · skip
          refine ⟨fun h => absurd h (by decide), fun h => absurd h (by decide), fun h0 h1 => ?_⟩
          exact hpost _ _ _ _ _ _ _ _ _ k_nf_begun k_nf_climbed k_na_huts k_na_known k_na_levels
        · skip
          refine ⟨fun h => absurd h (by decide), fun _ => ?_, fun h0 h1 => absurd rfl h1⟩
          exact hpost _ _ _ _ _ _ _ _ _ k_nf_begun k_nf_climbed k_na_huts k_na_known k_na_levels
  · skip
    refine ⟨fun c4 => ?_, fun c4 => ?_⟩
    · skip
      refine ⟨fun _ => ?_, fun h => absurd h (by decide), fun h0 h1 => absurd rfl h0⟩
      refine ⟨fun c5 => ?_, fun c5 => ?_⟩
      · skip
        refine ⟨fun _ => ?_, fun h => absurd h (by decide), fun h0 h1 => absurd rfl h0⟩
        exact hpost _ _ _ _ _ _ _ _ _ k_nf_begun k_nf_climbed k_na_huts k_na_known k_na_levels
      · skip
        refine ⟨fun c6 => ?_, fun c6 => ?_⟩
        · skip
          refine ⟨fun _ => ?_, fun h => absurd h (by decide), fun h0 h1 => absurd rfl h0⟩
          exact hpost _ _ _ _ _ _ _ _ _ k_nf_begun k_nf_climbed k_na_huts k_na_known k_na_levels
        · skip
          refine ⟨iv_in (iv_lta (l := 0) (h := 1) (r_nle c6) (iv_leb (l := 0) (h := 2147483647) (r_nlt c5) (iv_lit (l := 0) (h := 0) (by decide)) (iv_top x2) (by decide)) (k_ta_counts _) (by decide)) (by decide), fun hc => ?_, fun hc => ?_⟩
          · skip
            refine ⟨fun h => absurd h (by decide), fun h => absurd h (by decide), fun h0 h1 => ?_⟩
            exact hpost _ _ _ _ _ _ _ _ _ k_nf_begun k_nf_climbed k_na_huts k_na_known k_na_levels
          · skip
            refine ⟨fun h => absurd h (by decide), fun _ => ?_, fun h0 h1 => absurd rfl h1⟩
            exact hpost _ _ _ _ _ _ _ _ _ k_nf_begun k_nf_climbed k_na_huts k_na_known k_na_levels
    · skip
      refine ⟨iv_in (iv_lta (l := 0) (h := 1) (r_nle c4) (iv_leb (l := 0) (h := 2147483647) (r_nlt c1) (iv_lit (l := 0) (h := 0) (by decide)) (iv_top x1) (by decide)) (k_ta_counts _) (by decide)) (by decide), fun hc => ?_, fun hc => ?_⟩
      · skip
        refine ⟨fun h => absurd h (by decide), fun h => absurd h (by decide), fun h0 h1 => ?_⟩
        refine ⟨fun c7 => ?_, fun c7 => ?_⟩
        · skip
          refine ⟨fun _ => ?_, fun h => absurd h (by decide), fun h0 h1 => absurd rfl h0⟩
          exact hpost _ _ _ _ _ _ _ _ _ k_nf_begun k_nf_climbed k_na_huts k_na_known k_na_levels
        · skip
          refine ⟨fun c8 => ?_, fun c8 => ?_⟩
          · skip
            refine ⟨fun _ => ?_, fun h => absurd h (by decide), fun h0 h1 => absurd rfl h0⟩
            exact hpost _ _ _ _ _ _ _ _ _ k_nf_begun k_nf_climbed k_na_huts k_na_known k_na_levels
          · skip
            refine ⟨iv_in (iv_lta (l := 0) (h := 1) (r_nle c8) (iv_leb (l := 0) (h := 2147483647) (r_nlt c7) (iv_lit (l := 0) (h := 0) (by decide)) (iv_top x2) (by decide)) (k_ta_counts _) (by decide)) (by decide), fun hc => ?_, fun hc => ?_⟩
            · skip
              refine ⟨fun h => absurd h (by decide), fun h => absurd h (by decide), fun h0 h1 => ?_⟩
              refine ⟨fun c9 => ?_, fun c9 => ?_⟩
              · skip
                exact hpost _ _ _ _ _ _ _ _ _ k_nf_begun k_nf_climbed k_na_huts k_na_known k_na_levels
              · skip
                refine ⟨fun c10 => ?_, fun c10 => ?_⟩
                · skip
                  refine s_wn_X3_play_6_15_0 k_nf_begun k_nf_climbed k_na_huts k_na_known k_na_levels k_tl0f_huts k_tl0f_singers k_tl0f_dams k_tl0f_echoes k_tl0f_deep k_tl0a_heights k_tl0a_ladders k_tl0a_minutes k_tl0a_echoFrom k_tl0a_echoTo k_tl0a_homes k_tl0a_talls k_tl0a_known k_tv0f_deeds k_tv0a_kinds k_tv0a_firsts k_tv0a_seconds k_tv0f_deeds (fun r11 o12 o13 o14 o15 o16 o17 o18 o19 hr11 k_o14 k_o15 k_o16 k_o17 k_o18 => ?_)
                  refine ⟨fun c20 => ?_, fun c20 => ?_⟩
                  · skip
                    refine ⟨fun c21 => ?_, fun c21 => ?_⟩
                    · skip
                      refine ⟨fun c22 => ?_, fun c22 => ?_⟩
                      · skip
                        refine ⟨fun c23 => ?_, fun c23 => ?_⟩
                        · skip
                          refine ⟨fun c24 => ?_, fun c24 => ?_⟩
                          · skip
                            refine ⟨fun c25 => ?_, fun c25 => ?_⟩
                            · skip
                              exact s_wx_X10_odds_117 k_ta_counts k_tl0f_huts k_tl0f_singers k_tl0f_dams k_tl0f_echoes k_tl0f_deep k_tl0f_slide k_tl0a_heights k_tl0a_ladders k_tl0a_minutes k_tl0a_echoFrom k_tl0a_echoTo k_tl0a_homes k_tl0a_talls k_tl0a_known k_tl1f_huts k_tl1f_singers k_tl1f_dams k_tl1f_echoes k_tl1f_deep k_tl1f_slide k_tl1a_heights k_tl1a_ladders k_tl1a_minutes k_tl1a_echoFrom k_tl1a_echoTo k_tl1a_homes k_tl1a_talls k_tl1a_known k_tv0f_deeds k_tv0a_kinds k_tv0a_firsts k_tv0a_seconds k_tv1f_deeds k_tv1a_kinds k_tv1a_firsts k_tv1a_seconds (iv_lea (l := (-2147483648)) (h := 18) (r_le c21) (iv_top o13) (iv_lit (l := 18) (h := 18) (by decide)) (by decide)) k_o14 k_o15 k_o16 k_o17 k_o18 (iv_w (iv_lit (l := 1) (h := 1) (by decide)) (by decide)) (iv_w (iv_lit (l := 10) (h := 10) (by decide)) (by decide)) hpost
                            · skip
                              exact s_wx_X10_odds_117 k_ta_counts k_tl0f_huts k_tl0f_singers k_tl0f_dams k_tl0f_echoes k_tl0f_deep k_tl0f_slide k_tl0a_heights k_tl0a_ladders k_tl0a_minutes k_tl0a_echoFrom k_tl0a_echoTo k_tl0a_homes k_tl0a_talls k_tl0a_known k_tl1f_huts k_tl1f_singers k_tl1f_dams k_tl1f_echoes k_tl1f_deep k_tl1f_slide k_tl1a_heights k_tl1a_ladders k_tl1a_minutes k_tl1a_echoFrom k_tl1a_echoTo k_tl1a_homes k_tl1a_talls k_tl1a_known k_tv0f_deeds k_tv0a_kinds k_tv0a_firsts k_tv0a_seconds k_tv1f_deeds k_tv1a_kinds k_tv1a_firsts k_tv1a_seconds (iv_lea (l := (-2147483648)) (h := 18) (r_le c21) (iv_top o13) (iv_lit (l := 18) (h := 18) (by decide)) (by decide)) k_o14 k_o15 k_o16 k_o17 k_o18 (iv_w (iv_lit (l := 1) (h := 1) (by decide)) (by decide)) k_tl0f_slide hpost
                          · skip
                            refine ⟨fun c26 => ?_, fun c26 => ?_⟩
                            · skip
                              exact s_wx_X10_odds_117 k_ta_counts k_tl0f_huts k_tl0f_singers k_tl0f_dams k_tl0f_echoes k_tl0f_deep k_tl0f_slide k_tl0a_heights k_tl0a_ladders k_tl0a_minutes k_tl0a_echoFrom k_tl0a_echoTo k_tl0a_homes k_tl0a_talls k_tl0a_known k_tl1f_huts k_tl1f_singers k_tl1f_dams k_tl1f_echoes k_tl1f_deep k_tl1f_slide k_tl1a_heights k_tl1a_ladders k_tl1a_minutes k_tl1a_echoFrom k_tl1a_echoTo k_tl1a_homes k_tl1a_talls k_tl1a_known k_tv0f_deeds k_tv0a_kinds k_tv0a_firsts k_tv0a_seconds k_tv1f_deeds k_tv1a_kinds k_tv1a_firsts k_tv1a_seconds (iv_lea (l := (-2147483648)) (h := 18) (r_le c21) (iv_top o13) (iv_lit (l := 18) (h := 18) (by decide)) (by decide)) k_o14 k_o15 k_o16 k_o17 k_o18 (iv_w (iv_lit (l := 2) (h := 2) (by decide)) (by decide)) (iv_w (iv_lit (l := 10) (h := 10) (by decide)) (by decide)) hpost
                            · skip
                              exact s_wx_X10_odds_117 k_ta_counts k_tl0f_huts k_tl0f_singers k_tl0f_dams k_tl0f_echoes k_tl0f_deep k_tl0f_slide k_tl0a_heights k_tl0a_ladders k_tl0a_minutes k_tl0a_echoFrom k_tl0a_echoTo k_tl0a_homes k_tl0a_talls k_tl0a_known k_tl1f_huts k_tl1f_singers k_tl1f_dams k_tl1f_echoes k_tl1f_deep k_tl1f_slide k_tl1a_heights k_tl1a_ladders k_tl1a_minutes k_tl1a_echoFrom k_tl1a_echoTo k_tl1a_homes k_tl1a_talls k_tl1a_known k_tv0f_deeds k_tv0a_kinds k_tv0a_firsts k_tv0a_seconds k_tv1f_deeds k_tv1a_kinds k_tv1a_firsts k_tv1a_seconds (iv_lea (l := (-2147483648)) (h := 18) (r_le c21) (iv_top o13) (iv_lit (l := 18) (h := 18) (by decide)) (by decide)) k_o14 k_o15 k_o16 k_o17 k_o18 (iv_w (iv_lit (l := 2) (h := 2) (by decide)) (by decide)) k_tl0f_slide hpost
                        · skip
                          refine ⟨fun c27 => ?_, fun c27 => ?_⟩
                          · skip
                            exact s_wx_X10_odds_117 k_ta_counts k_tl0f_huts k_tl0f_singers k_tl0f_dams k_tl0f_echoes k_tl0f_deep k_tl0f_slide k_tl0a_heights k_tl0a_ladders k_tl0a_minutes k_tl0a_echoFrom k_tl0a_echoTo k_tl0a_homes k_tl0a_talls k_tl0a_known k_tl1f_huts k_tl1f_singers k_tl1f_dams k_tl1f_echoes k_tl1f_deep k_tl1f_slide k_tl1a_heights k_tl1a_ladders k_tl1a_minutes k_tl1a_echoFrom k_tl1a_echoTo k_tl1a_homes k_tl1a_talls k_tl1a_known k_tv0f_deeds k_tv0a_kinds k_tv0a_firsts k_tv0a_seconds k_tv1f_deeds k_tv1a_kinds k_tv1a_firsts k_tv1a_seconds (iv_lea (l := (-2147483648)) (h := 18) (r_le c21) (iv_top o13) (iv_lit (l := 18) (h := 18) (by decide)) (by decide)) k_o14 k_o15 k_o16 k_o17 k_o18 (iv_w (iv_lit (l := 5) (h := 5) (by decide)) (by decide)) (iv_w (iv_lit (l := 10) (h := 10) (by decide)) (by decide)) hpost
                          · skip
                            exact s_wx_X10_odds_117 k_ta_counts k_tl0f_huts k_tl0f_singers k_tl0f_dams k_tl0f_echoes k_tl0f_deep k_tl0f_slide k_tl0a_heights k_tl0a_ladders k_tl0a_minutes k_tl0a_echoFrom k_tl0a_echoTo k_tl0a_homes k_tl0a_talls k_tl0a_known k_tl1f_huts k_tl1f_singers k_tl1f_dams k_tl1f_echoes k_tl1f_deep k_tl1f_slide k_tl1a_heights k_tl1a_ladders k_tl1a_minutes k_tl1a_echoFrom k_tl1a_echoTo k_tl1a_homes k_tl1a_talls k_tl1a_known k_tv0f_deeds k_tv0a_kinds k_tv0a_firsts k_tv0a_seconds k_tv1f_deeds k_tv1a_kinds k_tv1a_firsts k_tv1a_seconds (iv_lea (l := (-2147483648)) (h := 18) (r_le c21) (iv_top o13) (iv_lit (l := 18) (h := 18) (by decide)) (by decide)) k_o14 k_o15 k_o16 k_o17 k_o18 (iv_w (iv_lit (l := 5) (h := 5) (by decide)) (by decide)) k_tl0f_slide hpost
                      · skip
                        refine ⟨fun c28 => ?_, fun c28 => ?_⟩
                        · skip
                          exact s_wx_X10_odds_117 k_ta_counts k_tl0f_huts k_tl0f_singers k_tl0f_dams k_tl0f_echoes k_tl0f_deep k_tl0f_slide k_tl0a_heights k_tl0a_ladders k_tl0a_minutes k_tl0a_echoFrom k_tl0a_echoTo k_tl0a_homes k_tl0a_talls k_tl0a_known k_tl1f_huts k_tl1f_singers k_tl1f_dams k_tl1f_echoes k_tl1f_deep k_tl1f_slide k_tl1a_heights k_tl1a_ladders k_tl1a_minutes k_tl1a_echoFrom k_tl1a_echoTo k_tl1a_homes k_tl1a_talls k_tl1a_known k_tv0f_deeds k_tv0a_kinds k_tv0a_firsts k_tv0a_seconds k_tv1f_deeds k_tv1a_kinds k_tv1a_firsts k_tv1a_seconds (iv_lea (l := (-2147483648)) (h := 18) (r_le c21) (iv_top o13) (iv_lit (l := 18) (h := 18) (by decide)) (by decide)) k_o14 k_o15 k_o16 k_o17 k_o18 (iv_w (iv_lit (l := 10) (h := 10) (by decide)) (by decide)) (iv_w (iv_lit (l := 10) (h := 10) (by decide)) (by decide)) hpost
                        · skip
                          exact s_wx_X10_odds_117 k_ta_counts k_tl0f_huts k_tl0f_singers k_tl0f_dams k_tl0f_echoes k_tl0f_deep k_tl0f_slide k_tl0a_heights k_tl0a_ladders k_tl0a_minutes k_tl0a_echoFrom k_tl0a_echoTo k_tl0a_homes k_tl0a_talls k_tl0a_known k_tl1f_huts k_tl1f_singers k_tl1f_dams k_tl1f_echoes k_tl1f_deep k_tl1f_slide k_tl1a_heights k_tl1a_ladders k_tl1a_minutes k_tl1a_echoFrom k_tl1a_echoTo k_tl1a_homes k_tl1a_talls k_tl1a_known k_tv0f_deeds k_tv0a_kinds k_tv0a_firsts k_tv0a_seconds k_tv1f_deeds k_tv1a_kinds k_tv1a_firsts k_tv1a_seconds (iv_lea (l := (-2147483648)) (h := 18) (r_le c21) (iv_top o13) (iv_lit (l := 18) (h := 18) (by decide)) (by decide)) k_o14 k_o15 k_o16 k_o17 k_o18 (iv_w (iv_lit (l := 10) (h := 10) (by decide)) (by decide)) k_tl0f_slide hpost
                    · skip
                      exact hpost _ _ _ _ _ _ _ _ _ k_o14 k_o15 k_o16 k_o17 k_o18
                  · skip
                    exact hpost _ _ _ _ _ _ _ _ _ k_o14 k_o15 k_o16 k_o17 k_o18
                · skip
                  exact hpost _ _ _ _ _ _ _ _ _ k_nf_begun k_nf_climbed k_na_huts k_na_known k_na_levels
            · skip
              refine ⟨fun h => absurd h (by decide), fun _ => ?_, fun h0 h1 => absurd rfl h1⟩
              refine ⟨fun c29 => ?_, fun c29 => ?_⟩
              · skip
                exact hpost _ _ _ _ _ _ _ _ _ k_nf_begun k_nf_climbed k_na_huts k_na_known k_na_levels
              · skip
                refine ⟨fun c30 => ?_, fun c30 => ?_⟩
                · skip
                  refine s_wn_X3_play_6_15_0 k_nf_begun k_nf_climbed k_na_huts k_na_known k_na_levels k_tl0f_huts k_tl0f_singers k_tl0f_dams k_tl0f_echoes k_tl0f_deep k_tl0a_heights k_tl0a_ladders k_tl0a_minutes k_tl0a_echoFrom k_tl0a_echoTo k_tl0a_homes k_tl0a_talls k_tl0a_known k_tv1f_deeds k_tv1a_kinds k_tv1a_firsts k_tv1a_seconds k_tv1f_deeds (fun r31 o32 o33 o34 o35 o36 o37 o38 o39 hr31 k_o34 k_o35 k_o36 k_o37 k_o38 => ?_)
                  refine ⟨fun c40 => ?_, fun c40 => ?_⟩
                  · skip
                    refine ⟨fun c41 => ?_, fun c41 => ?_⟩
                    · skip
                      refine ⟨fun c42 => ?_, fun c42 => ?_⟩
                      · skip
                        refine ⟨fun c43 => ?_, fun c43 => ?_⟩
                        · skip
                          refine ⟨fun c44 => ?_, fun c44 => ?_⟩
                          · skip
                            refine ⟨fun c45 => ?_, fun c45 => ?_⟩
                            · skip
                              exact s_wx_X10_odds_117 k_ta_counts k_tl0f_huts k_tl0f_singers k_tl0f_dams k_tl0f_echoes k_tl0f_deep k_tl0f_slide k_tl0a_heights k_tl0a_ladders k_tl0a_minutes k_tl0a_echoFrom k_tl0a_echoTo k_tl0a_homes k_tl0a_talls k_tl0a_known k_tl1f_huts k_tl1f_singers k_tl1f_dams k_tl1f_echoes k_tl1f_deep k_tl1f_slide k_tl1a_heights k_tl1a_ladders k_tl1a_minutes k_tl1a_echoFrom k_tl1a_echoTo k_tl1a_homes k_tl1a_talls k_tl1a_known k_tv0f_deeds k_tv0a_kinds k_tv0a_firsts k_tv0a_seconds k_tv1f_deeds k_tv1a_kinds k_tv1a_firsts k_tv1a_seconds (iv_lea (l := (-2147483648)) (h := 18) (r_le c41) (iv_top o33) (iv_lit (l := 18) (h := 18) (by decide)) (by decide)) k_o34 k_o35 k_o36 k_o37 k_o38 (iv_w (iv_lit (l := 1) (h := 1) (by decide)) (by decide)) (iv_w (iv_lit (l := 10) (h := 10) (by decide)) (by decide)) hpost
                            · skip
                              exact s_wx_X10_odds_117 k_ta_counts k_tl0f_huts k_tl0f_singers k_tl0f_dams k_tl0f_echoes k_tl0f_deep k_tl0f_slide k_tl0a_heights k_tl0a_ladders k_tl0a_minutes k_tl0a_echoFrom k_tl0a_echoTo k_tl0a_homes k_tl0a_talls k_tl0a_known k_tl1f_huts k_tl1f_singers k_tl1f_dams k_tl1f_echoes k_tl1f_deep k_tl1f_slide k_tl1a_heights k_tl1a_ladders k_tl1a_minutes k_tl1a_echoFrom k_tl1a_echoTo k_tl1a_homes k_tl1a_talls k_tl1a_known k_tv0f_deeds k_tv0a_kinds k_tv0a_firsts k_tv0a_seconds k_tv1f_deeds k_tv1a_kinds k_tv1a_firsts k_tv1a_seconds (iv_lea (l := (-2147483648)) (h := 18) (r_le c41) (iv_top o33) (iv_lit (l := 18) (h := 18) (by decide)) (by decide)) k_o34 k_o35 k_o36 k_o37 k_o38 (iv_w (iv_lit (l := 1) (h := 1) (by decide)) (by decide)) k_tl0f_slide hpost
                          · skip
                            refine ⟨fun c46 => ?_, fun c46 => ?_⟩
                            · skip
                              exact s_wx_X10_odds_117 k_ta_counts k_tl0f_huts k_tl0f_singers k_tl0f_dams k_tl0f_echoes k_tl0f_deep k_tl0f_slide k_tl0a_heights k_tl0a_ladders k_tl0a_minutes k_tl0a_echoFrom k_tl0a_echoTo k_tl0a_homes k_tl0a_talls k_tl0a_known k_tl1f_huts k_tl1f_singers k_tl1f_dams k_tl1f_echoes k_tl1f_deep k_tl1f_slide k_tl1a_heights k_tl1a_ladders k_tl1a_minutes k_tl1a_echoFrom k_tl1a_echoTo k_tl1a_homes k_tl1a_talls k_tl1a_known k_tv0f_deeds k_tv0a_kinds k_tv0a_firsts k_tv0a_seconds k_tv1f_deeds k_tv1a_kinds k_tv1a_firsts k_tv1a_seconds (iv_lea (l := (-2147483648)) (h := 18) (r_le c41) (iv_top o33) (iv_lit (l := 18) (h := 18) (by decide)) (by decide)) k_o34 k_o35 k_o36 k_o37 k_o38 (iv_w (iv_lit (l := 2) (h := 2) (by decide)) (by decide)) (iv_w (iv_lit (l := 10) (h := 10) (by decide)) (by decide)) hpost
                            · skip
                              exact s_wx_X10_odds_117 k_ta_counts k_tl0f_huts k_tl0f_singers k_tl0f_dams k_tl0f_echoes k_tl0f_deep k_tl0f_slide k_tl0a_heights k_tl0a_ladders k_tl0a_minutes k_tl0a_echoFrom k_tl0a_echoTo k_tl0a_homes k_tl0a_talls k_tl0a_known k_tl1f_huts k_tl1f_singers k_tl1f_dams k_tl1f_echoes k_tl1f_deep k_tl1f_slide k_tl1a_heights k_tl1a_ladders k_tl1a_minutes k_tl1a_echoFrom k_tl1a_echoTo k_tl1a_homes k_tl1a_talls k_tl1a_known k_tv0f_deeds k_tv0a_kinds k_tv0a_firsts k_tv0a_seconds k_tv1f_deeds k_tv1a_kinds k_tv1a_firsts k_tv1a_seconds (iv_lea (l := (-2147483648)) (h := 18) (r_le c41) (iv_top o33) (iv_lit (l := 18) (h := 18) (by decide)) (by decide)) k_o34 k_o35 k_o36 k_o37 k_o38 (iv_w (iv_lit (l := 2) (h := 2) (by decide)) (by decide)) k_tl0f_slide hpost
                        · skip
                          refine ⟨fun c47 => ?_, fun c47 => ?_⟩
                          · skip
                            exact s_wx_X10_odds_117 k_ta_counts k_tl0f_huts k_tl0f_singers k_tl0f_dams k_tl0f_echoes k_tl0f_deep k_tl0f_slide k_tl0a_heights k_tl0a_ladders k_tl0a_minutes k_tl0a_echoFrom k_tl0a_echoTo k_tl0a_homes k_tl0a_talls k_tl0a_known k_tl1f_huts k_tl1f_singers k_tl1f_dams k_tl1f_echoes k_tl1f_deep k_tl1f_slide k_tl1a_heights k_tl1a_ladders k_tl1a_minutes k_tl1a_echoFrom k_tl1a_echoTo k_tl1a_homes k_tl1a_talls k_tl1a_known k_tv0f_deeds k_tv0a_kinds k_tv0a_firsts k_tv0a_seconds k_tv1f_deeds k_tv1a_kinds k_tv1a_firsts k_tv1a_seconds (iv_lea (l := (-2147483648)) (h := 18) (r_le c41) (iv_top o33) (iv_lit (l := 18) (h := 18) (by decide)) (by decide)) k_o34 k_o35 k_o36 k_o37 k_o38 (iv_w (iv_lit (l := 5) (h := 5) (by decide)) (by decide)) (iv_w (iv_lit (l := 10) (h := 10) (by decide)) (by decide)) hpost
                          · skip
                            exact s_wx_X10_odds_117 k_ta_counts k_tl0f_huts k_tl0f_singers k_tl0f_dams k_tl0f_echoes k_tl0f_deep k_tl0f_slide k_tl0a_heights k_tl0a_ladders k_tl0a_minutes k_tl0a_echoFrom k_tl0a_echoTo k_tl0a_homes k_tl0a_talls k_tl0a_known k_tl1f_huts k_tl1f_singers k_tl1f_dams k_tl1f_echoes k_tl1f_deep k_tl1f_slide k_tl1a_heights k_tl1a_ladders k_tl1a_minutes k_tl1a_echoFrom k_tl1a_echoTo k_tl1a_homes k_tl1a_talls k_tl1a_known k_tv0f_deeds k_tv0a_kinds k_tv0a_firsts k_tv0a_seconds k_tv1f_deeds k_tv1a_kinds k_tv1a_firsts k_tv1a_seconds (iv_lea (l := (-2147483648)) (h := 18) (r_le c41) (iv_top o33) (iv_lit (l := 18) (h := 18) (by decide)) (by decide)) k_o34 k_o35 k_o36 k_o37 k_o38 (iv_w (iv_lit (l := 5) (h := 5) (by decide)) (by decide)) k_tl0f_slide hpost
                      · skip
                        refine ⟨fun c48 => ?_, fun c48 => ?_⟩
                        · skip
                          exact s_wx_X10_odds_117 k_ta_counts k_tl0f_huts k_tl0f_singers k_tl0f_dams k_tl0f_echoes k_tl0f_deep k_tl0f_slide k_tl0a_heights k_tl0a_ladders k_tl0a_minutes k_tl0a_echoFrom k_tl0a_echoTo k_tl0a_homes k_tl0a_talls k_tl0a_known k_tl1f_huts k_tl1f_singers k_tl1f_dams k_tl1f_echoes k_tl1f_deep k_tl1f_slide k_tl1a_heights k_tl1a_ladders k_tl1a_minutes k_tl1a_echoFrom k_tl1a_echoTo k_tl1a_homes k_tl1a_talls k_tl1a_known k_tv0f_deeds k_tv0a_kinds k_tv0a_firsts k_tv0a_seconds k_tv1f_deeds k_tv1a_kinds k_tv1a_firsts k_tv1a_seconds (iv_lea (l := (-2147483648)) (h := 18) (r_le c41) (iv_top o33) (iv_lit (l := 18) (h := 18) (by decide)) (by decide)) k_o34 k_o35 k_o36 k_o37 k_o38 (iv_w (iv_lit (l := 10) (h := 10) (by decide)) (by decide)) (iv_w (iv_lit (l := 10) (h := 10) (by decide)) (by decide)) hpost
                        · skip
                          exact s_wx_X10_odds_117 k_ta_counts k_tl0f_huts k_tl0f_singers k_tl0f_dams k_tl0f_echoes k_tl0f_deep k_tl0f_slide k_tl0a_heights k_tl0a_ladders k_tl0a_minutes k_tl0a_echoFrom k_tl0a_echoTo k_tl0a_homes k_tl0a_talls k_tl0a_known k_tl1f_huts k_tl1f_singers k_tl1f_dams k_tl1f_echoes k_tl1f_deep k_tl1f_slide k_tl1a_heights k_tl1a_ladders k_tl1a_minutes k_tl1a_echoFrom k_tl1a_echoTo k_tl1a_homes k_tl1a_talls k_tl1a_known k_tv0f_deeds k_tv0a_kinds k_tv0a_firsts k_tv0a_seconds k_tv1f_deeds k_tv1a_kinds k_tv1a_firsts k_tv1a_seconds (iv_lea (l := (-2147483648)) (h := 18) (r_le c41) (iv_top o33) (iv_lit (l := 18) (h := 18) (by decide)) (by decide)) k_o34 k_o35 k_o36 k_o37 k_o38 (iv_w (iv_lit (l := 10) (h := 10) (by decide)) (by decide)) k_tl0f_slide hpost
                    · skip
                      exact hpost _ _ _ _ _ _ _ _ _ k_o34 k_o35 k_o36 k_o37 k_o38
                  · skip
                    exact hpost _ _ _ _ _ _ _ _ _ k_o34 k_o35 k_o36 k_o37 k_o38
                · skip
                  exact hpost _ _ _ _ _ _ _ _ _ k_nf_begun k_nf_climbed k_na_huts k_na_known k_na_levels
      · skip
        refine ⟨fun h => absurd h (by decide), fun _ => ?_, fun h0 h1 => absurd rfl h1⟩
        refine ⟨fun c49 => ?_, fun c49 => ?_⟩
        · skip
          refine ⟨fun _ => ?_, fun h => absurd h (by decide), fun h0 h1 => absurd rfl h0⟩
          exact hpost _ _ _ _ _ _ _ _ _ k_nf_begun k_nf_climbed k_na_huts k_na_known k_na_levels
        · skip
          refine ⟨fun c50 => ?_, fun c50 => ?_⟩
          · skip
            refine ⟨fun _ => ?_, fun h => absurd h (by decide), fun h0 h1 => absurd rfl h0⟩
            exact hpost _ _ _ _ _ _ _ _ _ k_nf_begun k_nf_climbed k_na_huts k_na_known k_na_levels
          · skip
            refine ⟨iv_in (iv_lta (l := 0) (h := 1) (r_nle c50) (iv_leb (l := 0) (h := 2147483647) (r_nlt c49) (iv_lit (l := 0) (h := 0) (by decide)) (iv_top x2) (by decide)) (k_ta_counts _) (by decide)) (by decide), fun hc => ?_, fun hc => ?_⟩
            · skip
              refine ⟨fun h => absurd h (by decide), fun h => absurd h (by decide), fun h0 h1 => ?_⟩
              refine ⟨fun c51 => ?_, fun c51 => ?_⟩
              · skip
                exact hpost _ _ _ _ _ _ _ _ _ k_nf_begun k_nf_climbed k_na_huts k_na_known k_na_levels
              · skip
                refine ⟨fun c52 => ?_, fun c52 => ?_⟩
                · skip
                  refine s_wn_X3_play_6_15_0 k_nf_begun k_nf_climbed k_na_huts k_na_known k_na_levels k_tl1f_huts k_tl1f_singers k_tl1f_dams k_tl1f_echoes k_tl1f_deep k_tl1a_heights k_tl1a_ladders k_tl1a_minutes k_tl1a_echoFrom k_tl1a_echoTo k_tl1a_homes k_tl1a_talls k_tl1a_known k_tv0f_deeds k_tv0a_kinds k_tv0a_firsts k_tv0a_seconds k_tv0f_deeds (fun r53 o54 o55 o56 o57 o58 o59 o60 o61 hr53 k_o56 k_o57 k_o58 k_o59 k_o60 => ?_)
                  refine ⟨fun c62 => ?_, fun c62 => ?_⟩
                  · skip
                    refine ⟨fun c63 => ?_, fun c63 => ?_⟩
                    · skip
                      refine ⟨fun c64 => ?_, fun c64 => ?_⟩
                      · skip
                        refine ⟨fun c65 => ?_, fun c65 => ?_⟩
                        · skip
                          refine ⟨fun c66 => ?_, fun c66 => ?_⟩
                          · skip
                            refine ⟨fun c67 => ?_, fun c67 => ?_⟩
                            · skip
                              exact s_wx_X10_odds_117 k_ta_counts k_tl0f_huts k_tl0f_singers k_tl0f_dams k_tl0f_echoes k_tl0f_deep k_tl0f_slide k_tl0a_heights k_tl0a_ladders k_tl0a_minutes k_tl0a_echoFrom k_tl0a_echoTo k_tl0a_homes k_tl0a_talls k_tl0a_known k_tl1f_huts k_tl1f_singers k_tl1f_dams k_tl1f_echoes k_tl1f_deep k_tl1f_slide k_tl1a_heights k_tl1a_ladders k_tl1a_minutes k_tl1a_echoFrom k_tl1a_echoTo k_tl1a_homes k_tl1a_talls k_tl1a_known k_tv0f_deeds k_tv0a_kinds k_tv0a_firsts k_tv0a_seconds k_tv1f_deeds k_tv1a_kinds k_tv1a_firsts k_tv1a_seconds (iv_lea (l := (-2147483648)) (h := 18) (r_le c63) (iv_top o55) (iv_lit (l := 18) (h := 18) (by decide)) (by decide)) k_o56 k_o57 k_o58 k_o59 k_o60 (iv_w (iv_lit (l := 1) (h := 1) (by decide)) (by decide)) (iv_w (iv_lit (l := 10) (h := 10) (by decide)) (by decide)) hpost
                            · skip
                              exact s_wx_X10_odds_117 k_ta_counts k_tl0f_huts k_tl0f_singers k_tl0f_dams k_tl0f_echoes k_tl0f_deep k_tl0f_slide k_tl0a_heights k_tl0a_ladders k_tl0a_minutes k_tl0a_echoFrom k_tl0a_echoTo k_tl0a_homes k_tl0a_talls k_tl0a_known k_tl1f_huts k_tl1f_singers k_tl1f_dams k_tl1f_echoes k_tl1f_deep k_tl1f_slide k_tl1a_heights k_tl1a_ladders k_tl1a_minutes k_tl1a_echoFrom k_tl1a_echoTo k_tl1a_homes k_tl1a_talls k_tl1a_known k_tv0f_deeds k_tv0a_kinds k_tv0a_firsts k_tv0a_seconds k_tv1f_deeds k_tv1a_kinds k_tv1a_firsts k_tv1a_seconds (iv_lea (l := (-2147483648)) (h := 18) (r_le c63) (iv_top o55) (iv_lit (l := 18) (h := 18) (by decide)) (by decide)) k_o56 k_o57 k_o58 k_o59 k_o60 (iv_w (iv_lit (l := 1) (h := 1) (by decide)) (by decide)) k_tl1f_slide hpost
                          · skip
                            refine ⟨fun c68 => ?_, fun c68 => ?_⟩
                            · skip
                              exact s_wx_X10_odds_117 k_ta_counts k_tl0f_huts k_tl0f_singers k_tl0f_dams k_tl0f_echoes k_tl0f_deep k_tl0f_slide k_tl0a_heights k_tl0a_ladders k_tl0a_minutes k_tl0a_echoFrom k_tl0a_echoTo k_tl0a_homes k_tl0a_talls k_tl0a_known k_tl1f_huts k_tl1f_singers k_tl1f_dams k_tl1f_echoes k_tl1f_deep k_tl1f_slide k_tl1a_heights k_tl1a_ladders k_tl1a_minutes k_tl1a_echoFrom k_tl1a_echoTo k_tl1a_homes k_tl1a_talls k_tl1a_known k_tv0f_deeds k_tv0a_kinds k_tv0a_firsts k_tv0a_seconds k_tv1f_deeds k_tv1a_kinds k_tv1a_firsts k_tv1a_seconds (iv_lea (l := (-2147483648)) (h := 18) (r_le c63) (iv_top o55) (iv_lit (l := 18) (h := 18) (by decide)) (by decide)) k_o56 k_o57 k_o58 k_o59 k_o60 (iv_w (iv_lit (l := 2) (h := 2) (by decide)) (by decide)) (iv_w (iv_lit (l := 10) (h := 10) (by decide)) (by decide)) hpost
                            · skip
                              exact s_wx_X10_odds_117 k_ta_counts k_tl0f_huts k_tl0f_singers k_tl0f_dams k_tl0f_echoes k_tl0f_deep k_tl0f_slide k_tl0a_heights k_tl0a_ladders k_tl0a_minutes k_tl0a_echoFrom k_tl0a_echoTo k_tl0a_homes k_tl0a_talls k_tl0a_known k_tl1f_huts k_tl1f_singers k_tl1f_dams k_tl1f_echoes k_tl1f_deep k_tl1f_slide k_tl1a_heights k_tl1a_ladders k_tl1a_minutes k_tl1a_echoFrom k_tl1a_echoTo k_tl1a_homes k_tl1a_talls k_tl1a_known k_tv0f_deeds k_tv0a_kinds k_tv0a_firsts k_tv0a_seconds k_tv1f_deeds k_tv1a_kinds k_tv1a_firsts k_tv1a_seconds (iv_lea (l := (-2147483648)) (h := 18) (r_le c63) (iv_top o55) (iv_lit (l := 18) (h := 18) (by decide)) (by decide)) k_o56 k_o57 k_o58 k_o59 k_o60 (iv_w (iv_lit (l := 2) (h := 2) (by decide)) (by decide)) k_tl1f_slide hpost
                        · skip
                          refine ⟨fun c69 => ?_, fun c69 => ?_⟩
                          · skip
                            exact s_wx_X10_odds_117 k_ta_counts k_tl0f_huts k_tl0f_singers k_tl0f_dams k_tl0f_echoes k_tl0f_deep k_tl0f_slide k_tl0a_heights k_tl0a_ladders k_tl0a_minutes k_tl0a_echoFrom k_tl0a_echoTo k_tl0a_homes k_tl0a_talls k_tl0a_known k_tl1f_huts k_tl1f_singers k_tl1f_dams k_tl1f_echoes k_tl1f_deep k_tl1f_slide k_tl1a_heights k_tl1a_ladders k_tl1a_minutes k_tl1a_echoFrom k_tl1a_echoTo k_tl1a_homes k_tl1a_talls k_tl1a_known k_tv0f_deeds k_tv0a_kinds k_tv0a_firsts k_tv0a_seconds k_tv1f_deeds k_tv1a_kinds k_tv1a_firsts k_tv1a_seconds (iv_lea (l := (-2147483648)) (h := 18) (r_le c63) (iv_top o55) (iv_lit (l := 18) (h := 18) (by decide)) (by decide)) k_o56 k_o57 k_o58 k_o59 k_o60 (iv_w (iv_lit (l := 5) (h := 5) (by decide)) (by decide)) (iv_w (iv_lit (l := 10) (h := 10) (by decide)) (by decide)) hpost
                          · skip
                            exact s_wx_X10_odds_117 k_ta_counts k_tl0f_huts k_tl0f_singers k_tl0f_dams k_tl0f_echoes k_tl0f_deep k_tl0f_slide k_tl0a_heights k_tl0a_ladders k_tl0a_minutes k_tl0a_echoFrom k_tl0a_echoTo k_tl0a_homes k_tl0a_talls k_tl0a_known k_tl1f_huts k_tl1f_singers k_tl1f_dams k_tl1f_echoes k_tl1f_deep k_tl1f_slide k_tl1a_heights k_tl1a_ladders k_tl1a_minutes k_tl1a_echoFrom k_tl1a_echoTo k_tl1a_homes k_tl1a_talls k_tl1a_known k_tv0f_deeds k_tv0a_kinds k_tv0a_firsts k_tv0a_seconds k_tv1f_deeds k_tv1a_kinds k_tv1a_firsts k_tv1a_seconds (iv_lea (l := (-2147483648)) (h := 18) (r_le c63) (iv_top o55) (iv_lit (l := 18) (h := 18) (by decide)) (by decide)) k_o56 k_o57 k_o58 k_o59 k_o60 (iv_w (iv_lit (l := 5) (h := 5) (by decide)) (by decide)) k_tl1f_slide hpost
                      · skip
                        refine ⟨fun c70 => ?_, fun c70 => ?_⟩
                        · skip
                          exact s_wx_X10_odds_117 k_ta_counts k_tl0f_huts k_tl0f_singers k_tl0f_dams k_tl0f_echoes k_tl0f_deep k_tl0f_slide k_tl0a_heights k_tl0a_ladders k_tl0a_minutes k_tl0a_echoFrom k_tl0a_echoTo k_tl0a_homes k_tl0a_talls k_tl0a_known k_tl1f_huts k_tl1f_singers k_tl1f_dams k_tl1f_echoes k_tl1f_deep k_tl1f_slide k_tl1a_heights k_tl1a_ladders k_tl1a_minutes k_tl1a_echoFrom k_tl1a_echoTo k_tl1a_homes k_tl1a_talls k_tl1a_known k_tv0f_deeds k_tv0a_kinds k_tv0a_firsts k_tv0a_seconds k_tv1f_deeds k_tv1a_kinds k_tv1a_firsts k_tv1a_seconds (iv_lea (l := (-2147483648)) (h := 18) (r_le c63) (iv_top o55) (iv_lit (l := 18) (h := 18) (by decide)) (by decide)) k_o56 k_o57 k_o58 k_o59 k_o60 (iv_w (iv_lit (l := 10) (h := 10) (by decide)) (by decide)) (iv_w (iv_lit (l := 10) (h := 10) (by decide)) (by decide)) hpost
                        · skip
                          exact s_wx_X10_odds_117 k_ta_counts k_tl0f_huts k_tl0f_singers k_tl0f_dams k_tl0f_echoes k_tl0f_deep k_tl0f_slide k_tl0a_heights k_tl0a_ladders k_tl0a_minutes k_tl0a_echoFrom k_tl0a_echoTo k_tl0a_homes k_tl0a_talls k_tl0a_known k_tl1f_huts k_tl1f_singers k_tl1f_dams k_tl1f_echoes k_tl1f_deep k_tl1f_slide k_tl1a_heights k_tl1a_ladders k_tl1a_minutes k_tl1a_echoFrom k_tl1a_echoTo k_tl1a_homes k_tl1a_talls k_tl1a_known k_tv0f_deeds k_tv0a_kinds k_tv0a_firsts k_tv0a_seconds k_tv1f_deeds k_tv1a_kinds k_tv1a_firsts k_tv1a_seconds (iv_lea (l := (-2147483648)) (h := 18) (r_le c63) (iv_top o55) (iv_lit (l := 18) (h := 18) (by decide)) (by decide)) k_o56 k_o57 k_o58 k_o59 k_o60 (iv_w (iv_lit (l := 10) (h := 10) (by decide)) (by decide)) k_tl1f_slide hpost
                    · skip
                      exact hpost _ _ _ _ _ _ _ _ _ k_o56 k_o57 k_o58 k_o59 k_o60
                  · skip
                    exact hpost _ _ _ _ _ _ _ _ _ k_o56 k_o57 k_o58 k_o59 k_o60
                · skip
                  exact hpost _ _ _ _ _ _ _ _ _ k_nf_begun k_nf_climbed k_na_huts k_na_known k_na_levels
            · skip
              refine ⟨fun h => absurd h (by decide), fun _ => ?_, fun h0 h1 => absurd rfl h1⟩
              refine ⟨fun c71 => ?_, fun c71 => ?_⟩
              · skip
                exact hpost _ _ _ _ _ _ _ _ _ k_nf_begun k_nf_climbed k_na_huts k_na_known k_na_levels
              · skip
                refine ⟨fun c72 => ?_, fun c72 => ?_⟩
                · skip
                  refine s_wn_X3_play_6_15_0 k_nf_begun k_nf_climbed k_na_huts k_na_known k_na_levels k_tl1f_huts k_tl1f_singers k_tl1f_dams k_tl1f_echoes k_tl1f_deep k_tl1a_heights k_tl1a_ladders k_tl1a_minutes k_tl1a_echoFrom k_tl1a_echoTo k_tl1a_homes k_tl1a_talls k_tl1a_known k_tv1f_deeds k_tv1a_kinds k_tv1a_firsts k_tv1a_seconds k_tv1f_deeds (fun r73 o74 o75 o76 o77 o78 o79 o80 o81 hr73 k_o76 k_o77 k_o78 k_o79 k_o80 => ?_)
                  refine ⟨fun c82 => ?_, fun c82 => ?_⟩
                  · skip
                    refine ⟨fun c83 => ?_, fun c83 => ?_⟩
                    · skip
                      refine ⟨fun c84 => ?_, fun c84 => ?_⟩
                      · skip
                        refine ⟨fun c85 => ?_, fun c85 => ?_⟩
                        · skip
                          refine ⟨fun c86 => ?_, fun c86 => ?_⟩
                          · skip
                            refine ⟨fun c87 => ?_, fun c87 => ?_⟩
                            · skip
                              exact s_wx_X10_odds_117 k_ta_counts k_tl0f_huts k_tl0f_singers k_tl0f_dams k_tl0f_echoes k_tl0f_deep k_tl0f_slide k_tl0a_heights k_tl0a_ladders k_tl0a_minutes k_tl0a_echoFrom k_tl0a_echoTo k_tl0a_homes k_tl0a_talls k_tl0a_known k_tl1f_huts k_tl1f_singers k_tl1f_dams k_tl1f_echoes k_tl1f_deep k_tl1f_slide k_tl1a_heights k_tl1a_ladders k_tl1a_minutes k_tl1a_echoFrom k_tl1a_echoTo k_tl1a_homes k_tl1a_talls k_tl1a_known k_tv0f_deeds k_tv0a_kinds k_tv0a_firsts k_tv0a_seconds k_tv1f_deeds k_tv1a_kinds k_tv1a_firsts k_tv1a_seconds (iv_lea (l := (-2147483648)) (h := 18) (r_le c83) (iv_top o75) (iv_lit (l := 18) (h := 18) (by decide)) (by decide)) k_o76 k_o77 k_o78 k_o79 k_o80 (iv_w (iv_lit (l := 1) (h := 1) (by decide)) (by decide)) (iv_w (iv_lit (l := 10) (h := 10) (by decide)) (by decide)) hpost
                            · skip
                              exact s_wx_X10_odds_117 k_ta_counts k_tl0f_huts k_tl0f_singers k_tl0f_dams k_tl0f_echoes k_tl0f_deep k_tl0f_slide k_tl0a_heights k_tl0a_ladders k_tl0a_minutes k_tl0a_echoFrom k_tl0a_echoTo k_tl0a_homes k_tl0a_talls k_tl0a_known k_tl1f_huts k_tl1f_singers k_tl1f_dams k_tl1f_echoes k_tl1f_deep k_tl1f_slide k_tl1a_heights k_tl1a_ladders k_tl1a_minutes k_tl1a_echoFrom k_tl1a_echoTo k_tl1a_homes k_tl1a_talls k_tl1a_known k_tv0f_deeds k_tv0a_kinds k_tv0a_firsts k_tv0a_seconds k_tv1f_deeds k_tv1a_kinds k_tv1a_firsts k_tv1a_seconds (iv_lea (l := (-2147483648)) (h := 18) (r_le c83) (iv_top o75) (iv_lit (l := 18) (h := 18) (by decide)) (by decide)) k_o76 k_o77 k_o78 k_o79 k_o80 (iv_w (iv_lit (l := 1) (h := 1) (by decide)) (by decide)) k_tl1f_slide hpost
                          · skip
                            refine ⟨fun c88 => ?_, fun c88 => ?_⟩
                            · skip
                              exact s_wx_X10_odds_117 k_ta_counts k_tl0f_huts k_tl0f_singers k_tl0f_dams k_tl0f_echoes k_tl0f_deep k_tl0f_slide k_tl0a_heights k_tl0a_ladders k_tl0a_minutes k_tl0a_echoFrom k_tl0a_echoTo k_tl0a_homes k_tl0a_talls k_tl0a_known k_tl1f_huts k_tl1f_singers k_tl1f_dams k_tl1f_echoes k_tl1f_deep k_tl1f_slide k_tl1a_heights k_tl1a_ladders k_tl1a_minutes k_tl1a_echoFrom k_tl1a_echoTo k_tl1a_homes k_tl1a_talls k_tl1a_known k_tv0f_deeds k_tv0a_kinds k_tv0a_firsts k_tv0a_seconds k_tv1f_deeds k_tv1a_kinds k_tv1a_firsts k_tv1a_seconds (iv_lea (l := (-2147483648)) (h := 18) (r_le c83) (iv_top o75) (iv_lit (l := 18) (h := 18) (by decide)) (by decide)) k_o76 k_o77 k_o78 k_o79 k_o80 (iv_w (iv_lit (l := 2) (h := 2) (by decide)) (by decide)) (iv_w (iv_lit (l := 10) (h := 10) (by decide)) (by decide)) hpost
                            · skip
                              exact s_wx_X10_odds_117 k_ta_counts k_tl0f_huts k_tl0f_singers k_tl0f_dams k_tl0f_echoes k_tl0f_deep k_tl0f_slide k_tl0a_heights k_tl0a_ladders k_tl0a_minutes k_tl0a_echoFrom k_tl0a_echoTo k_tl0a_homes k_tl0a_talls k_tl0a_known k_tl1f_huts k_tl1f_singers k_tl1f_dams k_tl1f_echoes k_tl1f_deep k_tl1f_slide k_tl1a_heights k_tl1a_ladders k_tl1a_minutes k_tl1a_echoFrom k_tl1a_echoTo k_tl1a_homes k_tl1a_talls k_tl1a_known k_tv0f_deeds k_tv0a_kinds k_tv0a_firsts k_tv0a_seconds k_tv1f_deeds k_tv1a_kinds k_tv1a_firsts k_tv1a_seconds (iv_lea (l := (-2147483648)) (h := 18) (r_le c83) (iv_top o75) (iv_lit (l := 18) (h := 18) (by decide)) (by decide)) k_o76 k_o77 k_o78 k_o79 k_o80 (iv_w (iv_lit (l := 2) (h := 2) (by decide)) (by decide)) k_tl1f_slide hpost
                        · skip
                          refine ⟨fun c89 => ?_, fun c89 => ?_⟩
                          · skip
                            exact s_wx_X10_odds_117 k_ta_counts k_tl0f_huts k_tl0f_singers k_tl0f_dams k_tl0f_echoes k_tl0f_deep k_tl0f_slide k_tl0a_heights k_tl0a_ladders k_tl0a_minutes k_tl0a_echoFrom k_tl0a_echoTo k_tl0a_homes k_tl0a_talls k_tl0a_known k_tl1f_huts k_tl1f_singers k_tl1f_dams k_tl1f_echoes k_tl1f_deep k_tl1f_slide k_tl1a_heights k_tl1a_ladders k_tl1a_minutes k_tl1a_echoFrom k_tl1a_echoTo k_tl1a_homes k_tl1a_talls k_tl1a_known k_tv0f_deeds k_tv0a_kinds k_tv0a_firsts k_tv0a_seconds k_tv1f_deeds k_tv1a_kinds k_tv1a_firsts k_tv1a_seconds (iv_lea (l := (-2147483648)) (h := 18) (r_le c83) (iv_top o75) (iv_lit (l := 18) (h := 18) (by decide)) (by decide)) k_o76 k_o77 k_o78 k_o79 k_o80 (iv_w (iv_lit (l := 5) (h := 5) (by decide)) (by decide)) (iv_w (iv_lit (l := 10) (h := 10) (by decide)) (by decide)) hpost
                          · skip
                            exact s_wx_X10_odds_117 k_ta_counts k_tl0f_huts k_tl0f_singers k_tl0f_dams k_tl0f_echoes k_tl0f_deep k_tl0f_slide k_tl0a_heights k_tl0a_ladders k_tl0a_minutes k_tl0a_echoFrom k_tl0a_echoTo k_tl0a_homes k_tl0a_talls k_tl0a_known k_tl1f_huts k_tl1f_singers k_tl1f_dams k_tl1f_echoes k_tl1f_deep k_tl1f_slide k_tl1a_heights k_tl1a_ladders k_tl1a_minutes k_tl1a_echoFrom k_tl1a_echoTo k_tl1a_homes k_tl1a_talls k_tl1a_known k_tv0f_deeds k_tv0a_kinds k_tv0a_firsts k_tv0a_seconds k_tv1f_deeds k_tv1a_kinds k_tv1a_firsts k_tv1a_seconds (iv_lea (l := (-2147483648)) (h := 18) (r_le c83) (iv_top o75) (iv_lit (l := 18) (h := 18) (by decide)) (by decide)) k_o76 k_o77 k_o78 k_o79 k_o80 (iv_w (iv_lit (l := 5) (h := 5) (by decide)) (by decide)) k_tl1f_slide hpost
                      · skip
                        refine ⟨fun c90 => ?_, fun c90 => ?_⟩
                        · skip
                          exact s_wx_X10_odds_117 k_ta_counts k_tl0f_huts k_tl0f_singers k_tl0f_dams k_tl0f_echoes k_tl0f_deep k_tl0f_slide k_tl0a_heights k_tl0a_ladders k_tl0a_minutes k_tl0a_echoFrom k_tl0a_echoTo k_tl0a_homes k_tl0a_talls k_tl0a_known k_tl1f_huts k_tl1f_singers k_tl1f_dams k_tl1f_echoes k_tl1f_deep k_tl1f_slide k_tl1a_heights k_tl1a_ladders k_tl1a_minutes k_tl1a_echoFrom k_tl1a_echoTo k_tl1a_homes k_tl1a_talls k_tl1a_known k_tv0f_deeds k_tv0a_kinds k_tv0a_firsts k_tv0a_seconds k_tv1f_deeds k_tv1a_kinds k_tv1a_firsts k_tv1a_seconds (iv_lea (l := (-2147483648)) (h := 18) (r_le c83) (iv_top o75) (iv_lit (l := 18) (h := 18) (by decide)) (by decide)) k_o76 k_o77 k_o78 k_o79 k_o80 (iv_w (iv_lit (l := 10) (h := 10) (by decide)) (by decide)) (iv_w (iv_lit (l := 10) (h := 10) (by decide)) (by decide)) hpost
                        · skip
                          exact s_wx_X10_odds_117 k_ta_counts k_tl0f_huts k_tl0f_singers k_tl0f_dams k_tl0f_echoes k_tl0f_deep k_tl0f_slide k_tl0a_heights k_tl0a_ladders k_tl0a_minutes k_tl0a_echoFrom k_tl0a_echoTo k_tl0a_homes k_tl0a_talls k_tl0a_known k_tl1f_huts k_tl1f_singers k_tl1f_dams k_tl1f_echoes k_tl1f_deep k_tl1f_slide k_tl1a_heights k_tl1a_ladders k_tl1a_minutes k_tl1a_echoFrom k_tl1a_echoTo k_tl1a_homes k_tl1a_talls k_tl1a_known k_tv0f_deeds k_tv0a_kinds k_tv0a_firsts k_tv0a_seconds k_tv1f_deeds k_tv1a_kinds k_tv1a_firsts k_tv1a_seconds (iv_lea (l := (-2147483648)) (h := 18) (r_le c83) (iv_top o75) (iv_lit (l := 18) (h := 18) (by decide)) (by decide)) k_o76 k_o77 k_o78 k_o79 k_o80 (iv_w (iv_lit (l := 10) (h := 10) (by decide)) (by decide)) k_tl1f_slide hpost
                    · skip
                      exact hpost _ _ _ _ _ _ _ _ _ k_o76 k_o77 k_o78 k_o79 k_o80
                  · skip
                    exact hpost _ _ _ _ _ _ _ _ _ k_o76 k_o77 k_o78 k_o79 k_o80
                · skip
                  exact hpost _ _ _ _ _ _ _ _ _ k_nf_begun k_nf_climbed k_na_huts k_na_known k_na_levels
-- wx_X10_drawn
set_option maxRecDepth 20000 in
theorem s_wx_X10_drawn_0 {ta_counts : Nat → Int32} {tl0f_huts : Int32} {tl0f_singers : Int32} {tl0f_dams : Int32} {tl0f_echoes : Int32} {tl0f_deep : Int32} {tl0a_heights : Nat → Int32} {tl0a_ladders : Nat → Int32} {tl0a_minutes : Nat → Int32} {tl0a_echoFrom : Nat → Int32} {tl0a_echoTo : Nat → Int32} {tl0a_homes : Nat → Int32} {tl0a_talls : Nat → Int32} {tl0a_known : Nat → Int32} {tl1f_huts : Int32} {tl1f_singers : Int32} {tl1f_dams : Int32} {tl1f_echoes : Int32} {tl1f_deep : Int32} {tl1a_heights : Nat → Int32} {tl1a_ladders : Nat → Int32} {tl1a_minutes : Nat → Int32} {tl1a_echoFrom : Nat → Int32} {tl1a_echoTo : Nat → Int32} {tl1a_homes : Nat → Int32} {tl1a_talls : Nat → Int32} {tl1a_known : Nat → Int32} {nf_minute : Int32} {nf_avalanches : Int32} {nf_begun : Int32} {nf_climbed : Int32} {nf_seed : Int32} {na_huts : Nat → Int32} {na_known : Nat → Int32} {na_levels : Nat → Int32} {na_snow : Nat → Int32} {na_open : Nat → Int32} {x1 : Int32} {x2 : Int32} {x3 : Int32} {x4 : Int32} {post : Int32 → (Int32) → (Int32) → (Int32) → (Int32) → (Int32) → (Nat → Int32) → (Nat → Int32) → (Nat → Int32) → (Nat → Int32) → (Nat → Int32) → Prop} (k_ta_counts : ∀ j, iv 0 2 (ta_counts j)) (k_tl0f_huts : iv 0 9 tl0f_huts) (k_tl0f_singers : iv 0 6 tl0f_singers) (k_tl0f_dams : iv 0 511 tl0f_dams) (k_tl0f_echoes : iv 0 4 tl0f_echoes) (k_tl0f_deep : iv 1 9 tl0f_deep) (k_tl0a_heights : ∀ j, iv 0 99 (tl0a_heights j)) (k_tl0a_ladders : ∀ j, iv 0 9 (tl0a_ladders j)) (k_tl0a_minutes : ∀ j, iv 0 9 (tl0a_minutes j)) (k_tl0a_echoFrom : ∀ j, iv 0 8 (tl0a_echoFrom j)) (k_tl0a_echoTo : ∀ j, iv 0 8 (tl0a_echoTo j)) (k_tl0a_homes : ∀ j, iv 0 8 (tl0a_homes j)) (k_tl0a_talls : ∀ j, iv 0 9 (tl0a_talls j)) (k_tl0a_known : ∀ j, iv 0 31 (tl0a_known j)) (k_tl1f_huts : iv 0 9 tl1f_huts) (k_tl1f_singers : iv 0 6 tl1f_singers) (k_tl1f_dams : iv 0 511 tl1f_dams) (k_tl1f_echoes : iv 0 4 tl1f_echoes) (k_tl1f_deep : iv 1 9 tl1f_deep) (k_tl1a_heights : ∀ j, iv 0 99 (tl1a_heights j)) (k_tl1a_ladders : ∀ j, iv 0 9 (tl1a_ladders j)) (k_tl1a_minutes : ∀ j, iv 0 9 (tl1a_minutes j)) (k_tl1a_echoFrom : ∀ j, iv 0 8 (tl1a_echoFrom j)) (k_tl1a_echoTo : ∀ j, iv 0 8 (tl1a_echoTo j)) (k_tl1a_homes : ∀ j, iv 0 8 (tl1a_homes j)) (k_tl1a_talls : ∀ j, iv 0 9 (tl1a_talls j)) (k_tl1a_known : ∀ j, iv 0 31 (tl1a_known j)) (k_nf_begun : iv 0 31 nf_begun) (k_nf_climbed : iv 0 63 nf_climbed) (k_na_huts : ∀ j, iv 0 8 (na_huts j)) (k_na_known : ∀ j, iv 0 31 (na_known j)) (k_na_levels : ∀ j, iv (-9) 122 (na_levels j)) (k_na_open : ∀ j, iv 0 511 (na_open j)) (hpost : ∀ (r : Int32) (nf_minute : Int32) (nf_avalanches : Int32) (nf_begun : Int32) (nf_climbed : Int32) (nf_seed : Int32) (na_huts : Nat → Int32) (na_known : Nat → Int32) (na_levels : Nat → Int32) (na_snow : Nat → Int32) (na_open : Nat → Int32), (iv 0 31 nf_begun) → (iv 0 63 nf_climbed) → (∀ j, iv 0 8 (na_huts j)) → (∀ j, iv 0 31 (na_known j)) → (∀ j, iv (-9) 122 (na_levels j)) → (∀ j, iv 0 511 (na_open j)) → post r nf_minute nf_avalanches nf_begun nf_climbed nf_seed na_huts na_known na_levels na_snow na_open) : q_wx_X10_drawn_0 ta_counts tl0f_huts tl0f_singers tl0f_dams tl0f_echoes tl0f_deep tl0a_heights tl0a_ladders tl0a_minutes tl0a_echoFrom tl0a_echoTo tl0a_homes tl0a_talls tl0a_known tl1f_huts tl1f_singers tl1f_dams tl1f_echoes tl1f_deep tl1a_heights tl1a_ladders tl1a_minutes tl1a_echoFrom tl1a_echoTo tl1a_homes tl1a_talls tl1a_known nf_minute nf_avalanches nf_begun nf_climbed nf_seed na_huts na_known na_levels na_snow na_open x1 x2 x3 x4 post := by
  refine ⟨fun c1 => ?_, fun c1 => ?_⟩
  · skip
    refine ⟨fun _ => ?_, fun h => absurd h (by decide), fun h0 h1 => absurd rfl h0⟩
    exact hpost _ _ _ _ _ _ _ _ _ _ _ k_nf_begun k_nf_climbed k_na_huts k_na_known k_na_levels k_na_open
  · skip
    refine ⟨fun c2 => ?_, fun c2 => ?_⟩
    · skip
      refine ⟨fun _ => ?_, fun h => absurd h (by decide), fun h0 h1 => absurd rfl h0⟩
      exact hpost _ _ _ _ _ _ _ _ _ _ _ k_nf_begun k_nf_climbed k_na_huts k_na_known k_na_levels k_na_open
    · skip
      refine ⟨iv_in (iv_lta (l := 0) (h := 1) (r_nle c2) (iv_leb (l := 0) (h := 2147483647) (r_nlt c1) (iv_lit (l := 0) (h := 0) (by decide)) (iv_top x1) (by decide)) (k_ta_counts _) (by decide)) (by decide), fun hc => ?_, fun hc => ?_⟩
      · skip
        refine ⟨fun h => absurd h (by decide), fun h => absurd h (by decide), fun h0 h1 => ?_⟩
        refine ⟨fun c3 => ?_, fun c3 => ?_⟩
        · skip
          exact hpost _ _ _ _ _ _ _ _ _ _ _ k_nf_begun k_nf_climbed k_na_huts k_na_known k_na_levels k_na_open
        · skip
          refine ⟨fun c4 => ?_, fun c4 => ?_⟩
          · skip
            exact hpost _ _ _ _ _ _ _ _ _ _ _ k_nf_begun k_nf_climbed k_na_huts k_na_known k_na_levels k_na_open
          · skip
            refine ⟨fun c5 => ?_, fun c5 => ?_⟩
            · skip
              refine s_wn_X3_draw_6_0 k_nf_begun k_nf_climbed k_na_huts k_na_known k_na_levels k_tl0f_huts (iv_ne (l := 1) (h := 6) c3 k_tl0f_singers (iv_lit (l := 0) (h := 0) (by decide)) (by decide)) k_tl0f_dams k_tl0f_echoes k_tl0f_deep k_tl0a_heights k_tl0a_ladders k_tl0a_minutes k_tl0a_echoFrom k_tl0a_echoTo k_tl0a_homes k_tl0a_talls k_tl0a_known (iv_lea (l := 0) (h := 60) (r_le c5) (iv_leb (l := 0) (h := 2147483647) (r_nlt c4) (iv_lit (l := 0) (h := 0) (by decide)) (iv_top x3) (by decide)) (iv_lit (l := 60) (h := 60) (by decide)) (by decide)) (fun o6 o7 o8 o9 o10 o11 o12 o13 o14 k_o8 k_o9 k_o11 k_o12 k_o13 => ?_)
              refine s_wn_X3_look_6_0 k_o8 (iv_w k_o9 (by decide)) k_o11 k_o12 k_o13 k_na_open k_tl0f_huts (iv_w (iv_ne (l := 1) (h := 6) c3 k_tl0f_singers (iv_lit (l := 0) (h := 0) (by decide)) (by decide)) (by decide)) k_tl0f_dams k_tl0f_deep k_tl0a_heights k_tl0a_ladders k_tl0a_minutes k_tl0a_talls (fun r15 o16 k_o16 => ?_)
              exact hpost _ _ _ _ _ _ _ _ _ _ _ k_o8 (iv_w k_o9 (by decide)) k_o11 k_o12 k_o13 k_o16
            · skip
              exact hpost _ _ _ _ _ _ _ _ _ _ _ k_nf_begun k_nf_climbed k_na_huts k_na_known k_na_levels k_na_open
      · skip
        refine ⟨fun h => absurd h (by decide), fun _ => ?_, fun h0 h1 => absurd rfl h1⟩
        refine ⟨fun c17 => ?_, fun c17 => ?_⟩
        · skip
          exact hpost _ _ _ _ _ _ _ _ _ _ _ k_nf_begun k_nf_climbed k_na_huts k_na_known k_na_levels k_na_open
        · skip
          refine ⟨fun c18 => ?_, fun c18 => ?_⟩
          · skip
            exact hpost _ _ _ _ _ _ _ _ _ _ _ k_nf_begun k_nf_climbed k_na_huts k_na_known k_na_levels k_na_open
          · skip
            refine ⟨fun c19 => ?_, fun c19 => ?_⟩
            · skip
              refine s_wn_X3_draw_6_0 k_nf_begun k_nf_climbed k_na_huts k_na_known k_na_levels k_tl1f_huts (iv_ne (l := 1) (h := 6) c17 k_tl1f_singers (iv_lit (l := 0) (h := 0) (by decide)) (by decide)) k_tl1f_dams k_tl1f_echoes k_tl1f_deep k_tl1a_heights k_tl1a_ladders k_tl1a_minutes k_tl1a_echoFrom k_tl1a_echoTo k_tl1a_homes k_tl1a_talls k_tl1a_known (iv_lea (l := 0) (h := 60) (r_le c19) (iv_leb (l := 0) (h := 2147483647) (r_nlt c18) (iv_lit (l := 0) (h := 0) (by decide)) (iv_top x3) (by decide)) (iv_lit (l := 60) (h := 60) (by decide)) (by decide)) (fun o20 o21 o22 o23 o24 o25 o26 o27 o28 k_o22 k_o23 k_o25 k_o26 k_o27 => ?_)
              refine s_wn_X3_look_6_0 k_o22 (iv_w k_o23 (by decide)) k_o25 k_o26 k_o27 k_na_open k_tl1f_huts (iv_w (iv_ne (l := 1) (h := 6) c17 k_tl1f_singers (iv_lit (l := 0) (h := 0) (by decide)) (by decide)) (by decide)) k_tl1f_dams k_tl1f_deep k_tl1a_heights k_tl1a_ladders k_tl1a_minutes k_tl1a_talls (fun r29 o30 k_o30 => ?_)
              exact hpost _ _ _ _ _ _ _ _ _ _ _ k_o22 (iv_w k_o23 (by decide)) k_o25 k_o26 k_o27 k_o30
            · skip
              exact hpost _ _ _ _ _ _ _ _ _ _ _ k_nf_begun k_nf_climbed k_na_huts k_na_known k_na_levels k_na_open
-- wx_X10_psalm
set_option maxRecDepth 20000 in
theorem s_wx_X10_psalm_0 {ta_counts : Nat → Int32} {tl0f_huts : Int32} {tl0f_dams : Int32} {tl0f_echoes : Int32} {tl0a_heights : Nat → Int32} {tl0a_minutes : Nat → Int32} {tl0a_echoFrom : Nat → Int32} {tl0a_echoTo : Nat → Int32} {tl1f_huts : Int32} {tl1f_dams : Int32} {tl1f_echoes : Int32} {tl1a_heights : Nat → Int32} {tl1a_minutes : Nat → Int32} {tl1a_echoFrom : Nat → Int32} {tl1a_echoTo : Nat → Int32} {pa_heard : Nat → Int32} {x1 : Int32} {x2 : Int32} {x3 : Int32} {x4 : Int32} {post : Int32 → (Nat → Int32) → Prop} (k_ta_counts : ∀ j, iv 0 2 (ta_counts j)) (k_tl0f_huts : iv 0 9 tl0f_huts) (k_tl0f_dams : iv 0 511 tl0f_dams) (k_tl0f_echoes : iv 0 4 tl0f_echoes) (k_tl0a_heights : ∀ j, iv 0 99 (tl0a_heights j)) (k_tl0a_minutes : ∀ j, iv 0 9 (tl0a_minutes j)) (k_tl0a_echoFrom : ∀ j, iv 0 8 (tl0a_echoFrom j)) (k_tl0a_echoTo : ∀ j, iv 0 8 (tl0a_echoTo j)) (k_tl1f_huts : iv 0 9 tl1f_huts) (k_tl1f_dams : iv 0 511 tl1f_dams) (k_tl1f_echoes : iv 0 4 tl1f_echoes) (k_tl1a_heights : ∀ j, iv 0 99 (tl1a_heights j)) (k_tl1a_minutes : ∀ j, iv 0 9 (tl1a_minutes j)) (k_tl1a_echoFrom : ∀ j, iv 0 8 (tl1a_echoFrom j)) (k_tl1a_echoTo : ∀ j, iv 0 8 (tl1a_echoTo j)) (k_pa_heard : ∀ j, iv 0 1000 (pa_heard j)) (hpost : ∀ (r : Int32) (pa_heard : Nat → Int32), iv (-1000) 511 r → (∀ j, iv 0 1000 (pa_heard j)) → post r pa_heard) : q_wx_X10_psalm_0 ta_counts tl0f_huts tl0f_dams tl0f_echoes tl0a_heights tl0a_minutes tl0a_echoFrom tl0a_echoTo tl1f_huts tl1f_dams tl1f_echoes tl1a_heights tl1a_minutes tl1a_echoFrom tl1a_echoTo pa_heard x1 x2 x3 x4 post := by
  refine ⟨fun c1 => ?_, fun c1 => ?_⟩
  · skip
    refine ⟨fun _ => ?_, fun h => absurd h (by decide), fun h0 h1 => absurd rfl h0⟩
    exact hpost _ _ (iv_w (iv_lit (l := (-2)) (h := (-2)) (by decide)) (by decide)) k_pa_heard
  · skip
    refine ⟨fun c2 => ?_, fun c2 => ?_⟩
    · skip
      refine ⟨fun _ => ?_, fun h => absurd h (by decide), fun h0 h1 => absurd rfl h0⟩
      exact hpost _ _ (iv_w (iv_lit (l := (-2)) (h := (-2)) (by decide)) (by decide)) k_pa_heard
    · skip
      refine ⟨iv_in (iv_lta (l := 0) (h := 1) (r_nle c2) (iv_leb (l := 0) (h := 2147483647) (r_nlt c1) (iv_lit (l := 0) (h := 0) (by decide)) (iv_top x1) (by decide)) (k_ta_counts _) (by decide)) (by decide), fun hc => ?_, fun hc => ?_⟩
      · skip
        refine ⟨fun h => absurd h (by decide), fun h => absurd h (by decide), fun h0 h1 => ?_⟩
        refine ⟨fun c3 => ?_, fun c3 => ?_⟩
        · skip
          refine ⟨fun c4 => ?_, fun c4 => ?_⟩
          · skip
            exact hpost _ _ (iv_w (iv_lit (l := (-2)) (h := (-2)) (by decide)) (by decide)) k_pa_heard
          · skip
            exact (iv_emp (iv_ne (l := 1) (h := 0) c4 (iv_lit (l := 0) (h := 0) (by decide)) (iv_lit (l := 0) (h := 0) (by decide)) (by decide)) (by decide)).elim
        · skip
          refine ⟨fun c5 => ?_, fun c5 => ?_⟩
          · skip
            refine ⟨fun c6 => ?_, fun c6 => ?_⟩
            · skip
              exact hpost _ _ (iv_w (iv_lit (l := (-2)) (h := (-2)) (by decide)) (by decide)) k_pa_heard
            · skip
              exact (iv_emp (iv_ne (l := 1) (h := 0) c6 (iv_lit (l := 0) (h := 0) (by decide)) (iv_lit (l := 0) (h := 0) (by decide)) (by decide)) (by decide)).elim
          · skip
            refine ⟨fun c7 => ?_, fun c7 => ?_⟩
            · skip
              exact (iv_emp (iv_eqa (l := 1) (h := 0) c7 (iv_lit (l := 1) (h := 1) (by decide)) (iv_lit (l := 0) (h := 0) (by decide)) (by decide)) (by decide)).elim
            · skip
              refine ⟨fun c8 => ?_, fun c8 => ?_⟩
              · skip
                exact hpost _ _ (iv_w (iv_lit (l := (-2)) (h := (-2)) (by decide)) (by decide)) k_pa_heard
              · skip
                refine ⟨fun c9 => ?_, fun c9 => ?_⟩
                · skip
                  exact hpost _ _ (iv_w (iv_lit (l := (-2)) (h := (-2)) (by decide)) (by decide)) k_pa_heard
                · skip
                  refine ⟨fun c10 => ?_, fun c10 => ?_⟩
                  · skip
                    exact hpost _ _ (iv_w (iv_lit (l := (-2)) (h := (-2)) (by decide)) (by decide)) k_pa_heard
                  · skip
                    refine ⟨fun c11 => ?_, fun c11 => ?_⟩
                    · skip
                      refine s_wp_X7_hear_9_0 k_pa_heard (iv_w (iv_ltb (l := 1) (h := 9) (r_nle c5) (iv_leb (l := 0) (h := 2147483647) (r_nlt c3) (iv_lit (l := 0) (h := 0) (by decide)) (iv_top x2) (by decide)) k_tl0f_huts (by decide)) (by decide)) k_tl0f_dams k_tl0f_echoes k_tl0a_heights k_tl0a_minutes k_tl0a_echoFrom k_tl0a_echoTo (fun o12 k_o12 => ?_)
                      refine s_wp_X7_fromBy_9_0 k_o12 (iv_ltb (l := 1) (h := 9) (r_nle c5) (iv_leb (l := 0) (h := 2147483647) (r_nlt c3) (iv_lit (l := 0) (h := 0) (by decide)) (iv_top x2) (by decide)) k_tl0f_huts (by decide)) (iv_lta (l := 0) (h := 8) (r_nle c5) (iv_leb (l := 0) (h := 2147483647) (r_nlt c3) (iv_lit (l := 0) (h := 0) (by decide)) (iv_top x2) (by decide)) k_tl0f_huts (by decide)) (iv_w (iv_lea (l := 0) (h := 99) (r_nlt c9) (iv_leb (l := 0) (h := 2147483647) (r_nlt c8) (iv_lit (l := 0) (h := 0) (by decide)) (iv_top x3) (by decide)) (iv_lit (l := 99) (h := 99) (by decide)) (by decide)) (by decide)) (fun r13 hr13 => ?_)
                      refine ⟨fun c14 => ?_, fun c14 => ?_⟩
                      · skip
                        refine ⟨fun c15 => ?_, fun c15 => ?_⟩
                        · skip
                          refine ⟨fun c16 => ?_, fun c16 => ?_⟩
                          · skip
                            refine s_wp_X7_soonest_9_0 k_o12 (iv_ltb (l := 1) (h := 9) (r_nle c5) (iv_leb (l := 0) (h := 2147483647) (r_nlt c3) (iv_lit (l := 0) (h := 0) (by decide)) (iv_top x2) (by decide)) k_tl0f_huts (by decide)) (iv_lta (l := 0) (h := 8) (r_nle c5) (iv_leb (l := 0) (h := 2147483647) (r_nlt c3) (iv_lit (l := 0) (h := 0) (by decide)) (iv_top x2) (by decide)) k_tl0f_huts (by decide)) (fun r17 hr17 => ?_)
                            exact hpost _ _ (iv_w (iv_sub (l := (-1000)) (h := 99) (iv_lea (l := 0) (h := 99) (r_nlt c9) (iv_leb (l := 0) (h := 2147483647) (r_nlt c8) (iv_lit (l := 0) (h := 0) (by decide)) (iv_top x3) (by decide)) (iv_lit (l := 99) (h := 99) (by decide)) (by decide)) hr17 (by decide)) (by decide)) k_o12
                          · skip
                            refine s_wl_X2_highest_0 (iv_ltb (l := 1) (h := 9) (r_nle c5) (iv_leb (l := 0) (h := 2147483647) (r_nlt c3) (iv_lit (l := 0) (h := 0) (by decide)) (iv_top x2) (by decide)) k_tl0f_huts (by decide)) k_tl0a_heights (iv_ne (l := 1) (h := 511) c15 hr13 (iv_lit (l := 0) (h := 0) (by decide)) (by decide)) (fun r18 hr18 => ?_)
                            exact hpost _ _ (iv_w hr18 (by decide)) k_o12
                        · skip
                          exact hpost _ _ (iv_w (iv_lit (l := (-1)) (h := (-1)) (by decide)) (by decide)) k_o12
                      · skip
                        exact hpost _ _ (iv_w hr13 (by decide)) k_o12
                    · skip
                      exact hpost _ _ (iv_w (iv_lit (l := (-2)) (h := (-2)) (by decide)) (by decide)) k_pa_heard
      · skip
        refine ⟨fun h => absurd h (by decide), fun _ => ?_, fun h0 h1 => absurd rfl h1⟩
        refine ⟨fun c19 => ?_, fun c19 => ?_⟩
        · skip
          refine ⟨fun c20 => ?_, fun c20 => ?_⟩
          · skip
            exact hpost _ _ (iv_w (iv_lit (l := (-2)) (h := (-2)) (by decide)) (by decide)) k_pa_heard
          · skip
            exact (iv_emp (iv_ne (l := 1) (h := 0) c20 (iv_lit (l := 0) (h := 0) (by decide)) (iv_lit (l := 0) (h := 0) (by decide)) (by decide)) (by decide)).elim
        · skip
          refine ⟨fun c21 => ?_, fun c21 => ?_⟩
          · skip
            refine ⟨fun c22 => ?_, fun c22 => ?_⟩
            · skip
              exact hpost _ _ (iv_w (iv_lit (l := (-2)) (h := (-2)) (by decide)) (by decide)) k_pa_heard
            · skip
              exact (iv_emp (iv_ne (l := 1) (h := 0) c22 (iv_lit (l := 0) (h := 0) (by decide)) (iv_lit (l := 0) (h := 0) (by decide)) (by decide)) (by decide)).elim
          · skip
            refine ⟨fun c23 => ?_, fun c23 => ?_⟩
            · skip
              exact (iv_emp (iv_eqa (l := 1) (h := 0) c23 (iv_lit (l := 1) (h := 1) (by decide)) (iv_lit (l := 0) (h := 0) (by decide)) (by decide)) (by decide)).elim
            · skip
              refine ⟨fun c24 => ?_, fun c24 => ?_⟩
              · skip
                exact hpost _ _ (iv_w (iv_lit (l := (-2)) (h := (-2)) (by decide)) (by decide)) k_pa_heard
              · skip
                refine ⟨fun c25 => ?_, fun c25 => ?_⟩
                · skip
                  exact hpost _ _ (iv_w (iv_lit (l := (-2)) (h := (-2)) (by decide)) (by decide)) k_pa_heard
                · skip
                  refine ⟨fun c26 => ?_, fun c26 => ?_⟩
                  · skip
                    exact hpost _ _ (iv_w (iv_lit (l := (-2)) (h := (-2)) (by decide)) (by decide)) k_pa_heard
                  · skip
                    refine ⟨fun c27 => ?_, fun c27 => ?_⟩
                    · skip
                      refine s_wp_X7_hear_9_0 k_pa_heard (iv_w (iv_ltb (l := 1) (h := 9) (r_nle c21) (iv_leb (l := 0) (h := 2147483647) (r_nlt c19) (iv_lit (l := 0) (h := 0) (by decide)) (iv_top x2) (by decide)) k_tl1f_huts (by decide)) (by decide)) k_tl1f_dams k_tl1f_echoes k_tl1a_heights k_tl1a_minutes k_tl1a_echoFrom k_tl1a_echoTo (fun o28 k_o28 => ?_)
                      refine s_wp_X7_fromBy_9_0 k_o28 (iv_ltb (l := 1) (h := 9) (r_nle c21) (iv_leb (l := 0) (h := 2147483647) (r_nlt c19) (iv_lit (l := 0) (h := 0) (by decide)) (iv_top x2) (by decide)) k_tl1f_huts (by decide)) (iv_lta (l := 0) (h := 8) (r_nle c21) (iv_leb (l := 0) (h := 2147483647) (r_nlt c19) (iv_lit (l := 0) (h := 0) (by decide)) (iv_top x2) (by decide)) k_tl1f_huts (by decide)) (iv_w (iv_lea (l := 0) (h := 99) (r_nlt c25) (iv_leb (l := 0) (h := 2147483647) (r_nlt c24) (iv_lit (l := 0) (h := 0) (by decide)) (iv_top x3) (by decide)) (iv_lit (l := 99) (h := 99) (by decide)) (by decide)) (by decide)) (fun r29 hr29 => ?_)
                      refine ⟨fun c30 => ?_, fun c30 => ?_⟩
                      · skip
                        refine ⟨fun c31 => ?_, fun c31 => ?_⟩
                        · skip
                          refine ⟨fun c32 => ?_, fun c32 => ?_⟩
                          · skip
                            refine s_wp_X7_soonest_9_0 k_o28 (iv_ltb (l := 1) (h := 9) (r_nle c21) (iv_leb (l := 0) (h := 2147483647) (r_nlt c19) (iv_lit (l := 0) (h := 0) (by decide)) (iv_top x2) (by decide)) k_tl1f_huts (by decide)) (iv_lta (l := 0) (h := 8) (r_nle c21) (iv_leb (l := 0) (h := 2147483647) (r_nlt c19) (iv_lit (l := 0) (h := 0) (by decide)) (iv_top x2) (by decide)) k_tl1f_huts (by decide)) (fun r33 hr33 => ?_)
                            exact hpost _ _ (iv_w (iv_sub (l := (-1000)) (h := 99) (iv_lea (l := 0) (h := 99) (r_nlt c25) (iv_leb (l := 0) (h := 2147483647) (r_nlt c24) (iv_lit (l := 0) (h := 0) (by decide)) (iv_top x3) (by decide)) (iv_lit (l := 99) (h := 99) (by decide)) (by decide)) hr33 (by decide)) (by decide)) k_o28
                          · skip
                            refine s_wl_X2_highest_0 (iv_ltb (l := 1) (h := 9) (r_nle c21) (iv_leb (l := 0) (h := 2147483647) (r_nlt c19) (iv_lit (l := 0) (h := 0) (by decide)) (iv_top x2) (by decide)) k_tl1f_huts (by decide)) k_tl1a_heights (iv_ne (l := 1) (h := 511) c31 hr29 (iv_lit (l := 0) (h := 0) (by decide)) (by decide)) (fun r34 hr34 => ?_)
                            exact hpost _ _ (iv_w hr34 (by decide)) k_o28
                        · skip
                          exact hpost _ _ (iv_w (iv_lit (l := (-1)) (h := (-1)) (by decide)) (by decide)) k_o28
                      · skip
                        exact hpost _ _ (iv_w hr29 (by decide)) k_o28
                    · skip
                      exact hpost _ _ (iv_w (iv_lit (l := (-2)) (h := (-2)) (by decide)) (by decide)) k_pa_heard
-- wx_X10_meet
set_option maxRecDepth 20000 in
theorem s_wx_X10_meet_0 {ta_counts : Nat → Int32} {tl0f_huts : Int32} {tl0f_singers : Int32} {tl0a_minutes : Nat → Int32} {tl0a_homes : Nat → Int32} {tl1f_huts : Int32} {tl1f_singers : Int32} {tl1a_minutes : Nat → Int32} {tl1a_homes : Nat → Int32} {pa_walked : Nat → Int32} {x1 : Int32} {x2 : Int32} {x3 : Int32} {x4 : Int32} {post : Int32 → (Nat → Int32) → Prop} (k_ta_counts : ∀ j, iv 0 2 (ta_counts j)) (k_tl0f_huts : iv 0 9 tl0f_huts) (k_tl0f_singers : iv 0 6 tl0f_singers) (k_tl0a_minutes : ∀ j, iv 0 9 (tl0a_minutes j)) (k_tl0a_homes : ∀ j, iv 0 8 (tl0a_homes j)) (k_tl1f_huts : iv 0 9 tl1f_huts) (k_tl1f_singers : iv 0 6 tl1f_singers) (k_tl1a_minutes : ∀ j, iv 0 9 (tl1a_minutes j)) (k_tl1a_homes : ∀ j, iv 0 8 (tl1a_homes j)) (k_pa_walked : ∀ j, iv 0 1000 (pa_walked j)) (hpost : ∀ (r : Int32) (pa_walked : Nat → Int32), iv (-1) 1000 r → (∀ j, iv 0 1000 (pa_walked j)) → post r pa_walked) : q_wx_X10_meet_0 ta_counts tl0f_huts tl0f_singers tl0a_minutes tl0a_homes tl1f_huts tl1f_singers tl1a_minutes tl1a_homes pa_walked x1 x2 x3 x4 post := by
  refine ⟨fun c1 => ?_, fun c1 => ?_⟩
  · skip
    refine ⟨fun _ => ?_, fun h => absurd h (by decide), fun h0 h1 => absurd rfl h0⟩
    exact hpost _ _ (iv_w (iv_lit (l := (-1)) (h := (-1)) (by decide)) (by decide)) k_pa_walked
  · skip
    refine ⟨fun c2 => ?_, fun c2 => ?_⟩
    · skip
      refine ⟨fun _ => ?_, fun h => absurd h (by decide), fun h0 h1 => absurd rfl h0⟩
      exact hpost _ _ (iv_w (iv_lit (l := (-1)) (h := (-1)) (by decide)) (by decide)) k_pa_walked
    · skip
      refine ⟨iv_in (iv_lta (l := 0) (h := 1) (r_nle c2) (iv_leb (l := 0) (h := 2147483647) (r_nlt c1) (iv_lit (l := 0) (h := 0) (by decide)) (iv_top x1) (by decide)) (k_ta_counts _) (by decide)) (by decide), fun hc => ?_, fun hc => ?_⟩
      · skip
        refine ⟨fun h => absurd h (by decide), fun h => absurd h (by decide), fun h0 h1 => ?_⟩
        refine ⟨fun c3 => ?_, fun c3 => ?_⟩
        · skip
          refine ⟨fun c4 => ?_, fun c4 => ?_⟩
          · skip
            exact hpost _ _ (iv_w (iv_lit (l := (-1)) (h := (-1)) (by decide)) (by decide)) k_pa_walked
          · skip
            exact (iv_emp (iv_ne (l := 1) (h := 0) c4 (iv_lit (l := 0) (h := 0) (by decide)) (iv_lit (l := 0) (h := 0) (by decide)) (by decide)) (by decide)).elim
        · skip
          refine ⟨fun c5 => ?_, fun c5 => ?_⟩
          · skip
            refine ⟨fun c6 => ?_, fun c6 => ?_⟩
            · skip
              exact hpost _ _ (iv_w (iv_lit (l := (-1)) (h := (-1)) (by decide)) (by decide)) k_pa_walked
            · skip
              exact (iv_emp (iv_ne (l := 1) (h := 0) c6 (iv_lit (l := 0) (h := 0) (by decide)) (iv_lit (l := 0) (h := 0) (by decide)) (by decide)) (by decide)).elim
          · skip
            refine ⟨fun c7 => ?_, fun c7 => ?_⟩
            · skip
              exact (iv_emp (iv_eqa (l := 1) (h := 0) c7 (iv_lit (l := 1) (h := 1) (by decide)) (iv_lit (l := 0) (h := 0) (by decide)) (by decide)) (by decide)).elim
            · skip
              refine ⟨fun c8 => ?_, fun c8 => ?_⟩
              · skip
                refine ⟨fun c9 => ?_, fun c9 => ?_⟩
                · skip
                  exact hpost _ _ (iv_w (iv_lit (l := (-1)) (h := (-1)) (by decide)) (by decide)) k_pa_walked
                · skip
                  exact (iv_emp (iv_ne (l := 1) (h := 0) c9 (iv_lit (l := 0) (h := 0) (by decide)) (iv_lit (l := 0) (h := 0) (by decide)) (by decide)) (by decide)).elim
              · skip
                refine ⟨fun c10 => ?_, fun c10 => ?_⟩
                · skip
                  refine ⟨fun c11 => ?_, fun c11 => ?_⟩
                  · skip
                    exact hpost _ _ (iv_w (iv_lit (l := (-1)) (h := (-1)) (by decide)) (by decide)) k_pa_walked
                  · skip
                    exact (iv_emp (iv_ne (l := 1) (h := 0) c11 (iv_lit (l := 0) (h := 0) (by decide)) (iv_lit (l := 0) (h := 0) (by decide)) (by decide)) (by decide)).elim
                · skip
                  refine ⟨fun c12 => ?_, fun c12 => ?_⟩
                  · skip
                    exact (iv_emp (iv_eqa (l := 1) (h := 0) c12 (iv_lit (l := 1) (h := 1) (by decide)) (iv_lit (l := 0) (h := 0) (by decide)) (by decide)) (by decide)).elim
                  · skip
                    refine ⟨fun c13 => ?_, fun c13 => ?_⟩
                    · skip
                      refine s_wp_X7_walk_9_0 k_pa_walked k_tl0f_huts k_tl0a_minutes (fun o14 k_o14 => ?_)
                      refine ⟨iv_in (iv_lta (l := 0) (h := 5) (r_nle c5) (iv_leb (l := 0) (h := 2147483647) (r_nlt c3) (iv_lit (l := 0) (h := 0) (by decide)) (iv_top x2) (by decide)) k_tl0f_singers (by decide)) (by decide), ?_⟩
                      refine ⟨iv_in (iv_lta (l := 0) (h := 5) (r_nle c10) (iv_leb (l := 0) (h := 2147483647) (r_nlt c8) (iv_lit (l := 0) (h := 0) (by decide)) (iv_top x3) (by decide)) (iv_ltb (l := 1) (h := 6) (r_nle c5) (iv_leb (l := 0) (h := 2147483647) (r_nlt c3) (iv_lit (l := 0) (h := 0) (by decide)) (iv_top x2) (by decide)) k_tl0f_singers (by decide)) (by decide)) (by decide), ?_⟩
                      refine s_wp_X7_together_9_2_0 k_o14 k_tl0f_huts (k_tl0a_homes _) (k_tl0a_homes _) (fun r15 hr15 => ?_)
                      exact hpost _ _ hr15 k_o14
                    · skip
                      exact hpost _ _ (iv_w (iv_lit (l := (-1)) (h := (-1)) (by decide)) (by decide)) k_pa_walked
      · skip
        refine ⟨fun h => absurd h (by decide), fun _ => ?_, fun h0 h1 => absurd rfl h1⟩
        refine ⟨fun c16 => ?_, fun c16 => ?_⟩
        · skip
          refine ⟨fun c17 => ?_, fun c17 => ?_⟩
          · skip
            exact hpost _ _ (iv_w (iv_lit (l := (-1)) (h := (-1)) (by decide)) (by decide)) k_pa_walked
          · skip
            exact (iv_emp (iv_ne (l := 1) (h := 0) c17 (iv_lit (l := 0) (h := 0) (by decide)) (iv_lit (l := 0) (h := 0) (by decide)) (by decide)) (by decide)).elim
        · skip
          refine ⟨fun c18 => ?_, fun c18 => ?_⟩
          · skip
            refine ⟨fun c19 => ?_, fun c19 => ?_⟩
            · skip
              exact hpost _ _ (iv_w (iv_lit (l := (-1)) (h := (-1)) (by decide)) (by decide)) k_pa_walked
            · skip
              exact (iv_emp (iv_ne (l := 1) (h := 0) c19 (iv_lit (l := 0) (h := 0) (by decide)) (iv_lit (l := 0) (h := 0) (by decide)) (by decide)) (by decide)).elim
          · skip
            refine ⟨fun c20 => ?_, fun c20 => ?_⟩
            · skip
              exact (iv_emp (iv_eqa (l := 1) (h := 0) c20 (iv_lit (l := 1) (h := 1) (by decide)) (iv_lit (l := 0) (h := 0) (by decide)) (by decide)) (by decide)).elim
            · skip
              refine ⟨fun c21 => ?_, fun c21 => ?_⟩
              · skip
                refine ⟨fun c22 => ?_, fun c22 => ?_⟩
                · skip
                  exact hpost _ _ (iv_w (iv_lit (l := (-1)) (h := (-1)) (by decide)) (by decide)) k_pa_walked
                · skip
                  exact (iv_emp (iv_ne (l := 1) (h := 0) c22 (iv_lit (l := 0) (h := 0) (by decide)) (iv_lit (l := 0) (h := 0) (by decide)) (by decide)) (by decide)).elim
              · skip
                refine ⟨fun c23 => ?_, fun c23 => ?_⟩
                · skip
                  refine ⟨fun c24 => ?_, fun c24 => ?_⟩
                  · skip
                    exact hpost _ _ (iv_w (iv_lit (l := (-1)) (h := (-1)) (by decide)) (by decide)) k_pa_walked
                  · skip
                    exact (iv_emp (iv_ne (l := 1) (h := 0) c24 (iv_lit (l := 0) (h := 0) (by decide)) (iv_lit (l := 0) (h := 0) (by decide)) (by decide)) (by decide)).elim
                · skip
                  refine ⟨fun c25 => ?_, fun c25 => ?_⟩
                  · skip
                    exact (iv_emp (iv_eqa (l := 1) (h := 0) c25 (iv_lit (l := 1) (h := 1) (by decide)) (iv_lit (l := 0) (h := 0) (by decide)) (by decide)) (by decide)).elim
                  · skip
                    refine ⟨fun c26 => ?_, fun c26 => ?_⟩
                    · skip
                      refine s_wp_X7_walk_9_0 k_pa_walked k_tl1f_huts k_tl1a_minutes (fun o27 k_o27 => ?_)
                      refine ⟨iv_in (iv_lta (l := 0) (h := 5) (r_nle c18) (iv_leb (l := 0) (h := 2147483647) (r_nlt c16) (iv_lit (l := 0) (h := 0) (by decide)) (iv_top x2) (by decide)) k_tl1f_singers (by decide)) (by decide), ?_⟩
                      refine ⟨iv_in (iv_lta (l := 0) (h := 5) (r_nle c23) (iv_leb (l := 0) (h := 2147483647) (r_nlt c21) (iv_lit (l := 0) (h := 0) (by decide)) (iv_top x3) (by decide)) (iv_ltb (l := 1) (h := 6) (r_nle c18) (iv_leb (l := 0) (h := 2147483647) (r_nlt c16) (iv_lit (l := 0) (h := 0) (by decide)) (iv_top x2) (by decide)) k_tl1f_singers (by decide)) (by decide)) (by decide), ?_⟩
                      refine s_wp_X7_together_9_2_0 k_o27 k_tl1f_huts (k_tl1a_homes _) (k_tl1a_homes _) (fun r28 hr28 => ?_)
                      exact hpost _ _ hr28 k_o27
                    · skip
                      exact hpost _ _ (iv_w (iv_lit (l := (-1)) (h := (-1)) (by decide)) (by decide)) k_pa_walked
-- wx_X10_carry
set_option maxRecDepth 20000 in
theorem s_wx_X10_carry_0 {ta_counts : Nat → Int32} {tl0f_huts : Int32} {tl0f_singers : Int32} {tl0f_villages : Int32} {tl0f_dams : Int32} {tl0f_echoes : Int32} {tl0a_heights : Nat → Int32} {tl0a_minutes : Nat → Int32} {tl0a_echoFrom : Nat → Int32} {tl0a_echoTo : Nat → Int32} {tl0a_homes : Nat → Int32} {tl1f_huts : Int32} {tl1f_singers : Int32} {tl1f_villages : Int32} {tl1f_dams : Int32} {tl1f_echoes : Int32} {tl1a_heights : Nat → Int32} {tl1a_minutes : Nat → Int32} {tl1a_echoFrom : Nat → Int32} {tl1a_echoTo : Nat → Int32} {tl1a_homes : Nat → Int32} {pa_heard : Nat → Int32} {pa_walked : Nat → Int32} {x1 : Int32} {x2 : Int32} {x3 : Int32} {post : Int32 → (Nat → Int32) → (Nat → Int32) → Prop} (k_ta_counts : ∀ j, iv 0 2 (ta_counts j)) (k_tl0f_huts : iv 0 9 tl0f_huts) (k_tl0f_singers : iv 0 6 tl0f_singers) (k_tl0f_villages : iv 0 511 tl0f_villages) (k_tl0f_dams : iv 0 511 tl0f_dams) (k_tl0f_echoes : iv 0 4 tl0f_echoes) (k_tl0a_heights : ∀ j, iv 0 99 (tl0a_heights j)) (k_tl0a_minutes : ∀ j, iv 0 9 (tl0a_minutes j)) (k_tl0a_echoFrom : ∀ j, iv 0 8 (tl0a_echoFrom j)) (k_tl0a_echoTo : ∀ j, iv 0 8 (tl0a_echoTo j)) (k_tl0a_homes : ∀ j, iv 0 8 (tl0a_homes j)) (k_tl1f_huts : iv 0 9 tl1f_huts) (k_tl1f_singers : iv 0 6 tl1f_singers) (k_tl1f_villages : iv 0 511 tl1f_villages) (k_tl1f_dams : iv 0 511 tl1f_dams) (k_tl1f_echoes : iv 0 4 tl1f_echoes) (k_tl1a_heights : ∀ j, iv 0 99 (tl1a_heights j)) (k_tl1a_minutes : ∀ j, iv 0 9 (tl1a_minutes j)) (k_tl1a_echoFrom : ∀ j, iv 0 8 (tl1a_echoFrom j)) (k_tl1a_echoTo : ∀ j, iv 0 8 (tl1a_echoTo j)) (k_tl1a_homes : ∀ j, iv 0 8 (tl1a_homes j)) (k_pa_heard : ∀ j, iv 0 1000 (pa_heard j)) (k_pa_walked : ∀ j, iv 0 1000 (pa_walked j)) (hpost : ∀ (r : Int32) (pa_heard : Nat → Int32) (pa_walked : Nat → Int32), iv (-1) 1000 r → (∀ j, iv 0 1000 (pa_heard j)) → (∀ j, iv 0 1000 (pa_walked j)) → post r pa_heard pa_walked) : q_wx_X10_carry_0 ta_counts tl0f_huts tl0f_singers tl0f_villages tl0f_dams tl0f_echoes tl0a_heights tl0a_minutes tl0a_echoFrom tl0a_echoTo tl0a_homes tl1f_huts tl1f_singers tl1f_villages tl1f_dams tl1f_echoes tl1a_heights tl1a_minutes tl1a_echoFrom tl1a_echoTo tl1a_homes pa_heard pa_walked x1 x2 x3 post := by
  refine ⟨fun c1 => ?_, fun c1 => ?_⟩
  · skip
    refine ⟨fun _ => ?_, fun h => absurd h (by decide), fun h0 h1 => absurd rfl h0⟩
    exact hpost _ _ _ (iv_w (iv_lit (l := (-1)) (h := (-1)) (by decide)) (by decide)) k_pa_heard k_pa_walked
  · skip
    refine ⟨fun c2 => ?_, fun c2 => ?_⟩
    · skip
      refine ⟨fun _ => ?_, fun h => absurd h (by decide), fun h0 h1 => absurd rfl h0⟩
      exact hpost _ _ _ (iv_w (iv_lit (l := (-1)) (h := (-1)) (by decide)) (by decide)) k_pa_heard k_pa_walked
    · skip
      refine ⟨iv_in (iv_lta (l := 0) (h := 1) (r_nle c2) (iv_leb (l := 0) (h := 2147483647) (r_nlt c1) (iv_lit (l := 0) (h := 0) (by decide)) (iv_top x1) (by decide)) (k_ta_counts _) (by decide)) (by decide), fun hc => ?_, fun hc => ?_⟩
      · skip
        refine ⟨fun h => absurd h (by decide), fun h => absurd h (by decide), fun h0 h1 => ?_⟩
        refine ⟨fun c3 => ?_, fun c3 => ?_⟩
        · skip
          refine ⟨fun c4 => ?_, fun c4 => ?_⟩
          · skip
            exact (iv_emp (iv_ne (l := 1) (h := 0) c4 (iv_lit (l := 0) (h := 0) (by decide)) (iv_lit (l := 0) (h := 0) (by decide)) (by decide)) (by decide)).elim
          · skip
            exact hpost _ _ _ (iv_w (iv_lit (l := (-1)) (h := (-1)) (by decide)) (by decide)) k_pa_heard k_pa_walked
        · skip
          refine ⟨fun c5 => ?_, fun c5 => ?_⟩
          · skip
            refine ⟨fun c6 => ?_, fun c6 => ?_⟩
            · skip
              exact (iv_emp (iv_ne (l := 1) (h := 0) c6 (iv_lit (l := 0) (h := 0) (by decide)) (iv_lit (l := 0) (h := 0) (by decide)) (by decide)) (by decide)).elim
            · skip
              exact hpost _ _ _ (iv_w (iv_lit (l := (-1)) (h := (-1)) (by decide)) (by decide)) k_pa_heard k_pa_walked
          · skip
            refine ⟨fun c7 => ?_, fun c7 => ?_⟩
            · skip
              refine s_wp_X7_hear_9_0 k_pa_heard k_tl0f_huts k_tl0f_dams k_tl0f_echoes k_tl0a_heights k_tl0a_minutes k_tl0a_echoFrom k_tl0a_echoTo (fun o8 k_o8 => ?_)
              refine s_wp_X7_walk_9_0 k_pa_walked k_tl0f_huts k_tl0a_minutes (fun o9 k_o9 => ?_)
              refine ⟨iv_in (iv_lta (l := 0) (h := 5) (r_nle c5) (iv_leb (l := 0) (h := 2147483647) (r_nlt c3) (iv_lit (l := 0) (h := 0) (by decide)) (iv_top x2) (by decide)) k_tl0f_singers (by decide)) (by decide), ?_⟩
              refine s_wp_X7_carried_9_0 k_o8 k_o9 k_tl0f_huts k_tl0f_villages k_tl0f_dams (k_tl0a_homes _) (fun r10 hr10 => ?_)
              exact hpost _ _ _ hr10 k_o8 k_o9
            · skip
              exact (iv_emp (iv_eqa (l := 1) (h := 0) c7 (iv_lit (l := 1) (h := 1) (by decide)) (iv_lit (l := 0) (h := 0) (by decide)) (by decide)) (by decide)).elim
      · skip
        refine ⟨fun h => absurd h (by decide), fun _ => ?_, fun h0 h1 => absurd rfl h1⟩
        refine ⟨fun c11 => ?_, fun c11 => ?_⟩
        · skip
          refine ⟨fun c12 => ?_, fun c12 => ?_⟩
          · skip
            exact (iv_emp (iv_ne (l := 1) (h := 0) c12 (iv_lit (l := 0) (h := 0) (by decide)) (iv_lit (l := 0) (h := 0) (by decide)) (by decide)) (by decide)).elim
          · skip
            exact hpost _ _ _ (iv_w (iv_lit (l := (-1)) (h := (-1)) (by decide)) (by decide)) k_pa_heard k_pa_walked
        · skip
          refine ⟨fun c13 => ?_, fun c13 => ?_⟩
          · skip
            refine ⟨fun c14 => ?_, fun c14 => ?_⟩
            · skip
              exact (iv_emp (iv_ne (l := 1) (h := 0) c14 (iv_lit (l := 0) (h := 0) (by decide)) (iv_lit (l := 0) (h := 0) (by decide)) (by decide)) (by decide)).elim
            · skip
              exact hpost _ _ _ (iv_w (iv_lit (l := (-1)) (h := (-1)) (by decide)) (by decide)) k_pa_heard k_pa_walked
          · skip
            refine ⟨fun c15 => ?_, fun c15 => ?_⟩
            · skip
              refine s_wp_X7_hear_9_0 k_pa_heard k_tl1f_huts k_tl1f_dams k_tl1f_echoes k_tl1a_heights k_tl1a_minutes k_tl1a_echoFrom k_tl1a_echoTo (fun o16 k_o16 => ?_)
              refine s_wp_X7_walk_9_0 k_pa_walked k_tl1f_huts k_tl1a_minutes (fun o17 k_o17 => ?_)
              refine ⟨iv_in (iv_lta (l := 0) (h := 5) (r_nle c13) (iv_leb (l := 0) (h := 2147483647) (r_nlt c11) (iv_lit (l := 0) (h := 0) (by decide)) (iv_top x2) (by decide)) k_tl1f_singers (by decide)) (by decide), ?_⟩
              refine s_wp_X7_carried_9_0 k_o16 k_o17 k_tl1f_huts k_tl1f_villages k_tl1f_dams (k_tl1a_homes _) (fun r18 hr18 => ?_)
              exact hpost _ _ _ hr18 k_o16 k_o17
            · skip
              exact (iv_emp (iv_eqa (l := 1) (h := 0) c15 (iv_lit (l := 1) (h := 1) (by decide)) (iv_lit (l := 0) (h := 0) (by decide)) (by decide)) (by decide)).elim
end
section
-- wx_X10_join
set_option maxRecDepth 20000 in
theorem s_wx_X10_join_0 {ta_counts : Nat → Int32} {tl0f_huts : Int32} {tl0f_dams : Int32} {tl0f_echoes : Int32} {tl0a_heights : Nat → Int32} {tl0a_minutes : Nat → Int32} {tl0a_echoFrom : Nat → Int32} {tl0a_echoTo : Nat → Int32} {tl1f_huts : Int32} {tl1f_dams : Int32} {tl1f_echoes : Int32} {tl1a_heights : Nat → Int32} {tl1a_minutes : Nat → Int32} {tl1a_echoFrom : Nat → Int32} {tl1a_echoTo : Nat → Int32} {pa_heard : Nat → Int32} {x1 : Int32} {x2 : Int32} {x3 : Int32} {x4 : Int32} {post : Int32 → (Nat → Int32) → Prop} (k_ta_counts : ∀ j, iv 0 2 (ta_counts j)) (k_tl0f_huts : iv 0 9 tl0f_huts) (k_tl0f_dams : iv 0 511 tl0f_dams) (k_tl0f_echoes : iv 0 4 tl0f_echoes) (k_tl0a_heights : ∀ j, iv 0 99 (tl0a_heights j)) (k_tl0a_minutes : ∀ j, iv 0 9 (tl0a_minutes j)) (k_tl0a_echoFrom : ∀ j, iv 0 8 (tl0a_echoFrom j)) (k_tl0a_echoTo : ∀ j, iv 0 8 (tl0a_echoTo j)) (k_tl1f_huts : iv 0 9 tl1f_huts) (k_tl1f_dams : iv 0 511 tl1f_dams) (k_tl1f_echoes : iv 0 4 tl1f_echoes) (k_tl1a_heights : ∀ j, iv 0 99 (tl1a_heights j)) (k_tl1a_minutes : ∀ j, iv 0 9 (tl1a_minutes j)) (k_tl1a_echoFrom : ∀ j, iv 0 8 (tl1a_echoFrom j)) (k_tl1a_echoTo : ∀ j, iv 0 8 (tl1a_echoTo j)) (k_pa_heard : ∀ j, iv 0 1000 (pa_heard j)) (hpost : ∀ (r : Int32) (pa_heard : Nat → Int32), iv (-1) 1000 r → (∀ j, iv 0 1000 (pa_heard j)) → post r pa_heard) : q_wx_X10_join_0 ta_counts tl0f_huts tl0f_dams tl0f_echoes tl0a_heights tl0a_minutes tl0a_echoFrom tl0a_echoTo tl1f_huts tl1f_dams tl1f_echoes tl1a_heights tl1a_minutes tl1a_echoFrom tl1a_echoTo pa_heard x1 x2 x3 x4 post := by
  refine ⟨fun c1 => ?_, fun c1 => ?_⟩
  · skip
    refine ⟨fun _ => ?_, fun h => absurd h (by decide), fun h0 h1 => absurd rfl h0⟩
    exact hpost _ _ (iv_w (iv_lit (l := (-1)) (h := (-1)) (by decide)) (by decide)) k_pa_heard
  · skip
    refine ⟨fun c2 => ?_, fun c2 => ?_⟩
    · skip
      refine ⟨fun _ => ?_, fun h => absurd h (by decide), fun h0 h1 => absurd rfl h0⟩
      exact hpost _ _ (iv_w (iv_lit (l := (-1)) (h := (-1)) (by decide)) (by decide)) k_pa_heard
    · skip
      refine ⟨iv_in (iv_lta (l := 0) (h := 1) (r_nle c2) (iv_leb (l := 0) (h := 2147483647) (r_nlt c1) (iv_lit (l := 0) (h := 0) (by decide)) (iv_top x1) (by decide)) (k_ta_counts _) (by decide)) (by decide), fun hc => ?_, fun hc => ?_⟩
      · skip
        refine ⟨fun h => absurd h (by decide), fun h => absurd h (by decide), fun h0 h1 => ?_⟩
        refine ⟨fun c3 => ?_, fun c3 => ?_⟩
        · skip
          refine ⟨fun c4 => ?_, fun c4 => ?_⟩
          · skip
            refine ⟨fun c5 => ?_, fun c5 => ?_⟩
            · skip
              exact hpost _ _ (iv_w (iv_lit (l := (-1)) (h := (-1)) (by decide)) (by decide)) k_pa_heard
            · skip
              exact (iv_emp (iv_ne (l := 1) (h := 0) c5 (iv_lit (l := 0) (h := 0) (by decide)) (iv_lit (l := 0) (h := 0) (by decide)) (by decide)) (by decide)).elim
          · skip
            exact (iv_emp (iv_ne (l := 1) (h := 0) c4 (iv_lit (l := 0) (h := 0) (by decide)) (iv_lit (l := 0) (h := 0) (by decide)) (by decide)) (by decide)).elim
        · skip
          refine ⟨fun c6 => ?_, fun c6 => ?_⟩
          · skip
            refine ⟨fun c7 => ?_, fun c7 => ?_⟩
            · skip
              refine ⟨fun c8 => ?_, fun c8 => ?_⟩
              · skip
                exact hpost _ _ (iv_w (iv_lit (l := (-1)) (h := (-1)) (by decide)) (by decide)) k_pa_heard
              · skip
                exact (iv_emp (iv_ne (l := 1) (h := 0) c8 (iv_lit (l := 0) (h := 0) (by decide)) (iv_lit (l := 0) (h := 0) (by decide)) (by decide)) (by decide)).elim
            · skip
              exact (iv_emp (iv_ne (l := 1) (h := 0) c7 (iv_lit (l := 0) (h := 0) (by decide)) (iv_lit (l := 0) (h := 0) (by decide)) (by decide)) (by decide)).elim
          · skip
            refine ⟨fun c9 => ?_, fun c9 => ?_⟩
            · skip
              exact (iv_emp (iv_eqa (l := 1) (h := 0) c9 (iv_lit (l := 1) (h := 1) (by decide)) (iv_lit (l := 0) (h := 0) (by decide)) (by decide)) (by decide)).elim
            · skip
              refine ⟨fun c10 => ?_, fun c10 => ?_⟩
              · skip
                refine ⟨fun c11 => ?_, fun c11 => ?_⟩
                · skip
                  exact (iv_emp (iv_ne (l := 1) (h := 0) c11 (iv_lit (l := 0) (h := 0) (by decide)) (iv_lit (l := 0) (h := 0) (by decide)) (by decide)) (by decide)).elim
                · skip
                  refine ⟨fun c12 => ?_, fun c12 => ?_⟩
                  · skip
                    exact (iv_emp (iv_eqa (l := 1) (h := 0) c12 (iv_lit (l := 1) (h := 1) (by decide)) (iv_lit (l := 0) (h := 0) (by decide)) (by decide)) (by decide)).elim
                  · skip
                    refine ⟨fun c13 => ?_, fun c13 => ?_⟩
                    · skip
                      refine ⟨fun c14 => ?_, fun c14 => ?_⟩
                      · skip
                        refine ⟨fun c15 => ?_, fun c15 => ?_⟩
                        · skip
                          exact (iv_emp (iv_ne (l := 1) (h := 0) c15 (iv_lit (l := 0) (h := 0) (by decide)) (iv_lit (l := 0) (h := 0) (by decide)) (by decide)) (by decide)).elim
                        · skip
                          exact hpost _ _ (iv_w (iv_lit (l := (-1)) (h := (-1)) (by decide)) (by decide)) k_pa_heard
                      · skip
                        exact (iv_emp (iv_ne (l := 1) (h := 0) c14 (iv_lit (l := 0) (h := 0) (by decide)) (iv_lit (l := 0) (h := 0) (by decide)) (by decide)) (by decide)).elim
                    · skip
                      refine ⟨fun c16 => ?_, fun c16 => ?_⟩
                      · skip
                        refine ⟨fun c17 => ?_, fun c17 => ?_⟩
                        · skip
                          refine ⟨fun c18 => ?_, fun c18 => ?_⟩
                          · skip
                            exact (iv_emp (iv_ne (l := 1) (h := 0) c18 (iv_lit (l := 0) (h := 0) (by decide)) (iv_lit (l := 0) (h := 0) (by decide)) (by decide)) (by decide)).elim
                          · skip
                            exact hpost _ _ (iv_w (iv_lit (l := (-1)) (h := (-1)) (by decide)) (by decide)) k_pa_heard
                        · skip
                          exact (iv_emp (iv_ne (l := 1) (h := 0) c17 (iv_lit (l := 0) (h := 0) (by decide)) (iv_lit (l := 0) (h := 0) (by decide)) (by decide)) (by decide)).elim
                      · skip
                        refine ⟨fun c19 => ?_, fun c19 => ?_⟩
                        · skip
                          exact (iv_emp (iv_eqa (l := 1) (h := 0) c19 (iv_lit (l := 1) (h := 1) (by decide)) (iv_lit (l := 0) (h := 0) (by decide)) (by decide)) (by decide)).elim
                        · skip
                          refine ⟨fun c20 => ?_, fun c20 => ?_⟩
                          · skip
                            refine ⟨fun c21 => ?_, fun c21 => ?_⟩
                            · skip
                              exact (iv_emp (iv_ne (l := 1) (h := 0) c21 (iv_lit (l := 0) (h := 0) (by decide)) (iv_lit (l := 0) (h := 0) (by decide)) (by decide)) (by decide)).elim
                            · skip
                              refine ⟨fun c22 => ?_, fun c22 => ?_⟩
                              · skip
                                refine s_wp_X7_hear_9_0 k_pa_heard (iv_w (iv_ltb (l := 1) (h := 9) (r_nle c6) (iv_leb (l := 0) (h := 2147483647) (r_nlt c3) (iv_lit (l := 0) (h := 0) (by decide)) (iv_top x2) (by decide)) k_tl0f_huts (by decide)) (by decide)) k_tl0f_dams k_tl0f_echoes k_tl0a_heights k_tl0a_minutes k_tl0a_echoFrom k_tl0a_echoTo (fun o23 k_o23 => ?_)
                                refine s_wp_X7_together_9_1_0 k_o23 (iv_ltb (l := 1) (h := 9) (r_nle c6) (iv_leb (l := 0) (h := 2147483647) (r_nlt c3) (iv_lit (l := 0) (h := 0) (by decide)) (iv_top x2) (by decide)) k_tl0f_huts (by decide)) (iv_lta (l := 0) (h := 8) (r_nle c6) (iv_leb (l := 0) (h := 2147483647) (r_nlt c3) (iv_lit (l := 0) (h := 0) (by decide)) (iv_top x2) (by decide)) k_tl0f_huts (by decide)) (iv_lta (l := 0) (h := 8) (r_nle c16) (iv_leb (l := 0) (h := 2147483647) (r_nlt c13) (iv_lit (l := 0) (h := 0) (by decide)) (iv_top x3) (by decide)) (iv_ltb (l := 1) (h := 9) (r_nle c6) (iv_leb (l := 0) (h := 2147483647) (r_nlt c3) (iv_lit (l := 0) (h := 0) (by decide)) (iv_top x2) (by decide)) k_tl0f_huts (by decide)) (by decide)) (fun r24 hr24 => ?_)
                                exact hpost _ _ hr24 k_o23
                              · skip
                                exact (iv_emp (iv_eqa (l := 1) (h := 0) c22 (iv_lit (l := 1) (h := 1) (by decide)) (iv_lit (l := 0) (h := 0) (by decide)) (by decide)) (by decide)).elim
                          · skip
                            refine ⟨fun c25 => ?_, fun c25 => ?_⟩
                            · skip
                              refine ⟨fun c26 => ?_, fun c26 => ?_⟩
                              · skip
                                exact (iv_emp (iv_ne (l := 1) (h := 0) c26 (iv_lit (l := 0) (h := 0) (by decide)) (iv_lit (l := 0) (h := 0) (by decide)) (by decide)) (by decide)).elim
                              · skip
                                exact hpost _ _ (iv_w (iv_lit (l := (-1)) (h := (-1)) (by decide)) (by decide)) k_pa_heard
                            · skip
                              exact (iv_emp (iv_eqa (l := 1) (h := 0) c25 (iv_lit (l := 1) (h := 1) (by decide)) (iv_lit (l := 0) (h := 0) (by decide)) (by decide)) (by decide)).elim
              · skip
                refine ⟨fun c27 => ?_, fun c27 => ?_⟩
                · skip
                  refine ⟨fun c28 => ?_, fun c28 => ?_⟩
                  · skip
                    exact hpost _ _ (iv_w (iv_lit (l := (-1)) (h := (-1)) (by decide)) (by decide)) k_pa_heard
                  · skip
                    exact (iv_emp (iv_ne (l := 1) (h := 0) c28 (iv_lit (l := 0) (h := 0) (by decide)) (iv_lit (l := 0) (h := 0) (by decide)) (by decide)) (by decide)).elim
                · skip
                  exact (iv_emp (iv_eqa (l := 1) (h := 0) c27 (iv_lit (l := 1) (h := 1) (by decide)) (iv_lit (l := 0) (h := 0) (by decide)) (by decide)) (by decide)).elim
      · skip
        refine ⟨fun h => absurd h (by decide), fun _ => ?_, fun h0 h1 => absurd rfl h1⟩
        refine ⟨fun c29 => ?_, fun c29 => ?_⟩
        · skip
          refine ⟨fun c30 => ?_, fun c30 => ?_⟩
          · skip
            refine ⟨fun c31 => ?_, fun c31 => ?_⟩
            · skip
              exact hpost _ _ (iv_w (iv_lit (l := (-1)) (h := (-1)) (by decide)) (by decide)) k_pa_heard
            · skip
              exact (iv_emp (iv_ne (l := 1) (h := 0) c31 (iv_lit (l := 0) (h := 0) (by decide)) (iv_lit (l := 0) (h := 0) (by decide)) (by decide)) (by decide)).elim
          · skip
            exact (iv_emp (iv_ne (l := 1) (h := 0) c30 (iv_lit (l := 0) (h := 0) (by decide)) (iv_lit (l := 0) (h := 0) (by decide)) (by decide)) (by decide)).elim
        · skip
          refine ⟨fun c32 => ?_, fun c32 => ?_⟩
          · skip
            refine ⟨fun c33 => ?_, fun c33 => ?_⟩
            · skip
              refine ⟨fun c34 => ?_, fun c34 => ?_⟩
              · skip
                exact hpost _ _ (iv_w (iv_lit (l := (-1)) (h := (-1)) (by decide)) (by decide)) k_pa_heard
              · skip
                exact (iv_emp (iv_ne (l := 1) (h := 0) c34 (iv_lit (l := 0) (h := 0) (by decide)) (iv_lit (l := 0) (h := 0) (by decide)) (by decide)) (by decide)).elim
            · skip
              exact (iv_emp (iv_ne (l := 1) (h := 0) c33 (iv_lit (l := 0) (h := 0) (by decide)) (iv_lit (l := 0) (h := 0) (by decide)) (by decide)) (by decide)).elim
          · skip
            refine ⟨fun c35 => ?_, fun c35 => ?_⟩
            · skip
              exact (iv_emp (iv_eqa (l := 1) (h := 0) c35 (iv_lit (l := 1) (h := 1) (by decide)) (iv_lit (l := 0) (h := 0) (by decide)) (by decide)) (by decide)).elim
            · skip
              refine ⟨fun c36 => ?_, fun c36 => ?_⟩
              · skip
                refine ⟨fun c37 => ?_, fun c37 => ?_⟩
                · skip
                  exact (iv_emp (iv_ne (l := 1) (h := 0) c37 (iv_lit (l := 0) (h := 0) (by decide)) (iv_lit (l := 0) (h := 0) (by decide)) (by decide)) (by decide)).elim
                · skip
                  refine ⟨fun c38 => ?_, fun c38 => ?_⟩
                  · skip
                    exact (iv_emp (iv_eqa (l := 1) (h := 0) c38 (iv_lit (l := 1) (h := 1) (by decide)) (iv_lit (l := 0) (h := 0) (by decide)) (by decide)) (by decide)).elim
                  · skip
                    refine ⟨fun c39 => ?_, fun c39 => ?_⟩
                    · skip
                      refine ⟨fun c40 => ?_, fun c40 => ?_⟩
                      · skip
                        refine ⟨fun c41 => ?_, fun c41 => ?_⟩
                        · skip
                          exact (iv_emp (iv_ne (l := 1) (h := 0) c41 (iv_lit (l := 0) (h := 0) (by decide)) (iv_lit (l := 0) (h := 0) (by decide)) (by decide)) (by decide)).elim
                        · skip
                          exact hpost _ _ (iv_w (iv_lit (l := (-1)) (h := (-1)) (by decide)) (by decide)) k_pa_heard
                      · skip
                        exact (iv_emp (iv_ne (l := 1) (h := 0) c40 (iv_lit (l := 0) (h := 0) (by decide)) (iv_lit (l := 0) (h := 0) (by decide)) (by decide)) (by decide)).elim
                    · skip
                      refine ⟨fun c42 => ?_, fun c42 => ?_⟩
                      · skip
                        refine ⟨fun c43 => ?_, fun c43 => ?_⟩
                        · skip
                          refine ⟨fun c44 => ?_, fun c44 => ?_⟩
                          · skip
                            exact (iv_emp (iv_ne (l := 1) (h := 0) c44 (iv_lit (l := 0) (h := 0) (by decide)) (iv_lit (l := 0) (h := 0) (by decide)) (by decide)) (by decide)).elim
                          · skip
                            exact hpost _ _ (iv_w (iv_lit (l := (-1)) (h := (-1)) (by decide)) (by decide)) k_pa_heard
                        · skip
                          exact (iv_emp (iv_ne (l := 1) (h := 0) c43 (iv_lit (l := 0) (h := 0) (by decide)) (iv_lit (l := 0) (h := 0) (by decide)) (by decide)) (by decide)).elim
                      · skip
                        refine ⟨fun c45 => ?_, fun c45 => ?_⟩
                        · skip
                          exact (iv_emp (iv_eqa (l := 1) (h := 0) c45 (iv_lit (l := 1) (h := 1) (by decide)) (iv_lit (l := 0) (h := 0) (by decide)) (by decide)) (by decide)).elim
                        · skip
                          refine ⟨fun c46 => ?_, fun c46 => ?_⟩
                          · skip
                            refine ⟨fun c47 => ?_, fun c47 => ?_⟩
                            · skip
                              exact (iv_emp (iv_ne (l := 1) (h := 0) c47 (iv_lit (l := 0) (h := 0) (by decide)) (iv_lit (l := 0) (h := 0) (by decide)) (by decide)) (by decide)).elim
                            · skip
                              refine ⟨fun c48 => ?_, fun c48 => ?_⟩
                              · skip
                                refine s_wp_X7_hear_9_0 k_pa_heard (iv_w (iv_ltb (l := 1) (h := 9) (r_nle c32) (iv_leb (l := 0) (h := 2147483647) (r_nlt c29) (iv_lit (l := 0) (h := 0) (by decide)) (iv_top x2) (by decide)) k_tl1f_huts (by decide)) (by decide)) k_tl1f_dams k_tl1f_echoes k_tl1a_heights k_tl1a_minutes k_tl1a_echoFrom k_tl1a_echoTo (fun o49 k_o49 => ?_)
                                refine s_wp_X7_together_9_1_0 k_o49 (iv_ltb (l := 1) (h := 9) (r_nle c32) (iv_leb (l := 0) (h := 2147483647) (r_nlt c29) (iv_lit (l := 0) (h := 0) (by decide)) (iv_top x2) (by decide)) k_tl1f_huts (by decide)) (iv_lta (l := 0) (h := 8) (r_nle c32) (iv_leb (l := 0) (h := 2147483647) (r_nlt c29) (iv_lit (l := 0) (h := 0) (by decide)) (iv_top x2) (by decide)) k_tl1f_huts (by decide)) (iv_lta (l := 0) (h := 8) (r_nle c42) (iv_leb (l := 0) (h := 2147483647) (r_nlt c39) (iv_lit (l := 0) (h := 0) (by decide)) (iv_top x3) (by decide)) (iv_ltb (l := 1) (h := 9) (r_nle c32) (iv_leb (l := 0) (h := 2147483647) (r_nlt c29) (iv_lit (l := 0) (h := 0) (by decide)) (iv_top x2) (by decide)) k_tl1f_huts (by decide)) (by decide)) (fun r50 hr50 => ?_)
                                exact hpost _ _ hr50 k_o49
                              · skip
                                exact (iv_emp (iv_eqa (l := 1) (h := 0) c48 (iv_lit (l := 1) (h := 1) (by decide)) (iv_lit (l := 0) (h := 0) (by decide)) (by decide)) (by decide)).elim
                          · skip
                            refine ⟨fun c51 => ?_, fun c51 => ?_⟩
                            · skip
                              refine ⟨fun c52 => ?_, fun c52 => ?_⟩
                              · skip
                                exact (iv_emp (iv_ne (l := 1) (h := 0) c52 (iv_lit (l := 0) (h := 0) (by decide)) (iv_lit (l := 0) (h := 0) (by decide)) (by decide)) (by decide)).elim
                              · skip
                                exact hpost _ _ (iv_w (iv_lit (l := (-1)) (h := (-1)) (by decide)) (by decide)) k_pa_heard
                            · skip
                              exact (iv_emp (iv_eqa (l := 1) (h := 0) c51 (iv_lit (l := 1) (h := 1) (by decide)) (iv_lit (l := 0) (h := 0) (by decide)) (by decide)) (by decide)).elim
              · skip
                refine ⟨fun c53 => ?_, fun c53 => ?_⟩
                · skip
                  refine ⟨fun c54 => ?_, fun c54 => ?_⟩
                  · skip
                    exact hpost _ _ (iv_w (iv_lit (l := (-1)) (h := (-1)) (by decide)) (by decide)) k_pa_heard
                  · skip
                    exact (iv_emp (iv_ne (l := 1) (h := 0) c54 (iv_lit (l := 0) (h := 0) (by decide)) (iv_lit (l := 0) (h := 0) (by decide)) (by decide)) (by decide)).elim
                · skip
                  exact (iv_emp (iv_eqa (l := 1) (h := 0) c53 (iv_lit (l := 1) (h := 1) (by decide)) (iv_lit (l := 0) (h := 0) (by decide)) (by decide)) (by decide)).elim
-- wx_X10_slopes
set_option maxRecDepth 20000 in
theorem s_wx_X10_slopes_0 {ta_counts : Nat → Int32} {tl0f_huts : Int32} {tl0f_dams : Int32} {tl0f_echoes : Int32} {tl0a_heights : Nat → Int32} {tl0a_minutes : Nat → Int32} {tl0a_echoFrom : Nat → Int32} {tl0a_echoTo : Nat → Int32} {tl1f_huts : Int32} {tl1f_dams : Int32} {tl1f_echoes : Int32} {tl1a_heights : Nat → Int32} {tl1a_minutes : Nat → Int32} {tl1a_echoFrom : Nat → Int32} {tl1a_echoTo : Nat → Int32} {pa_heard : Nat → Int32} {pa_total : Nat → Int32} {pa_longest : Nat → Int32} {pa_now : Nat → Int32} {pa_then : Nat → Int32} {x1 : Int32} {x2 : Int32} {post : Int32 → (Nat → Int32) → (Nat → Int32) → (Nat → Int32) → (Nat → Int32) → (Nat → Int32) → Prop} (k_ta_counts : ∀ j, iv 0 2 (ta_counts j)) (k_tl0f_huts : iv 0 9 tl0f_huts) (k_tl0f_dams : iv 0 511 tl0f_dams) (k_tl0f_echoes : iv 0 4 tl0f_echoes) (k_tl0a_heights : ∀ j, iv 0 99 (tl0a_heights j)) (k_tl0a_minutes : ∀ j, iv 0 9 (tl0a_minutes j)) (k_tl0a_echoFrom : ∀ j, iv 0 8 (tl0a_echoFrom j)) (k_tl0a_echoTo : ∀ j, iv 0 8 (tl0a_echoTo j)) (k_tl1f_huts : iv 0 9 tl1f_huts) (k_tl1f_dams : iv 0 511 tl1f_dams) (k_tl1f_echoes : iv 0 4 tl1f_echoes) (k_tl1a_heights : ∀ j, iv 0 99 (tl1a_heights j)) (k_tl1a_minutes : ∀ j, iv 0 9 (tl1a_minutes j)) (k_tl1a_echoFrom : ∀ j, iv 0 8 (tl1a_echoFrom j)) (k_tl1a_echoTo : ∀ j, iv 0 8 (tl1a_echoTo j)) (k_pa_heard : ∀ j, iv 0 1000 (pa_heard j)) (k_pa_longest : ∀ j, iv 0 8 (pa_longest j)) (hpost : ∀ (r : Int32) (pa_heard : Nat → Int32) (pa_total : Nat → Int32) (pa_longest : Nat → Int32) (pa_now : Nat → Int32) (pa_then : Nat → Int32), (∀ j, iv 0 1000 (pa_heard j)) → (∀ j, iv 0 8 (pa_longest j)) → post r pa_heard pa_total pa_longest pa_now pa_then) : q_wx_X10_slopes_0 ta_counts tl0f_huts tl0f_dams tl0f_echoes tl0a_heights tl0a_minutes tl0a_echoFrom tl0a_echoTo tl1f_huts tl1f_dams tl1f_echoes tl1a_heights tl1a_minutes tl1a_echoFrom tl1a_echoTo pa_heard pa_total pa_longest pa_now pa_then x1 x2 post := by
  refine ⟨fun c1 => ?_, fun c1 => ?_⟩
  · skip
    refine ⟨fun _ => ?_, fun h => absurd h (by decide), fun h0 h1 => absurd rfl h0⟩
    exact hpost _ _ _ _ _ _ k_pa_heard k_pa_longest
  · skip
    refine ⟨fun c2 => ?_, fun c2 => ?_⟩
    · skip
      refine ⟨fun _ => ?_, fun h => absurd h (by decide), fun h0 h1 => absurd rfl h0⟩
      exact hpost _ _ _ _ _ _ k_pa_heard k_pa_longest
    · skip
      refine ⟨iv_in (iv_lta (l := 0) (h := 1) (r_nle c2) (iv_leb (l := 0) (h := 2147483647) (r_nlt c1) (iv_lit (l := 0) (h := 0) (by decide)) (iv_top x1) (by decide)) (k_ta_counts _) (by decide)) (by decide), fun hc => ?_, fun hc => ?_⟩
      · skip
        refine ⟨fun h => absurd h (by decide), fun h => absurd h (by decide), fun h0 h1 => ?_⟩
        refine s_wp_X7_hear_9_0 k_pa_heard k_tl0f_huts k_tl0f_dams k_tl0f_echoes k_tl0a_heights k_tl0a_minutes k_tl0a_echoFrom k_tl0a_echoTo (fun o3 k_o3 => ?_)
        refine ⟨fun c4 => ?_, fun c4 => ?_, fun c4 => ?_, fun c4 => ?_, fun c4 => ?_⟩
        · skip
          exact hpost _ _ _ _ _ _ k_o3 k_pa_longest
        · skip
          refine s_wp_X7_tops_9_0 k_o3 k_tl0f_huts (fun r5 hr5 => ?_)
          exact hpost _ _ _ _ _ _ k_o3 k_pa_longest
        · skip
          refine s_wp_X7_ends_9_0 k_o3 k_tl0f_huts k_tl0f_dams (fun r6 hr6 => ?_)
          exact hpost _ _ _ _ _ _ k_o3 k_pa_longest
        · skip
          refine s_wp_X7_couples_9_0 k_o3 k_tl0f_huts (fun r7 => ?_)
          exact hpost _ _ _ _ _ _ k_o3 k_pa_longest
        · skip
          refine s_wp_X7_depth_9_0 k_pa_longest k_tl0f_huts k_tl0f_dams k_tl0a_heights k_tl0a_minutes (fun r8 o9 o10 o11 o12 hr8 k_o10 => ?_)
          exact hpost _ _ _ _ _ _ k_o3 k_o10
      · skip
        refine ⟨fun h => absurd h (by decide), fun _ => ?_, fun h0 h1 => absurd rfl h1⟩
        refine s_wp_X7_hear_9_0 k_pa_heard k_tl1f_huts k_tl1f_dams k_tl1f_echoes k_tl1a_heights k_tl1a_minutes k_tl1a_echoFrom k_tl1a_echoTo (fun o13 k_o13 => ?_)
        refine ⟨fun c14 => ?_, fun c14 => ?_, fun c14 => ?_, fun c14 => ?_, fun c14 => ?_⟩
        · skip
          exact hpost _ _ _ _ _ _ k_o13 k_pa_longest
        · skip
          refine s_wp_X7_tops_9_0 k_o13 k_tl1f_huts (fun r15 hr15 => ?_)
          exact hpost _ _ _ _ _ _ k_o13 k_pa_longest
        · skip
          refine s_wp_X7_ends_9_0 k_o13 k_tl1f_huts k_tl1f_dams (fun r16 hr16 => ?_)
          exact hpost _ _ _ _ _ _ k_o13 k_pa_longest
        · skip
          refine s_wp_X7_couples_9_0 k_o13 k_tl1f_huts (fun r17 => ?_)
          exact hpost _ _ _ _ _ _ k_o13 k_pa_longest
        · skip
          refine s_wp_X7_depth_9_0 k_pa_longest k_tl1f_huts k_tl1f_dams k_tl1a_heights k_tl1a_minutes (fun r18 o19 o20 o21 o22 hr18 k_o20 => ?_)
          exact hpost _ _ _ _ _ _ k_o13 k_o20
-- wx_X10_flood
set_option maxRecDepth 20000 in
theorem s_wx_X10_flood_70 {ta_counts : Nat → Int32} {tl0f_huts : Int32} {tl0f_dams : Int32} {tl0f_echoes : Int32} {tl0a_heights : Nat → Int32} {tl0a_minutes : Nat → Int32} {tl0a_echoFrom : Nat → Int32} {tl0a_echoTo : Nat → Int32} {tl1f_huts : Int32} {tl1f_dams : Int32} {tl1f_echoes : Int32} {tl1a_heights : Nat → Int32} {tl1a_minutes : Nat → Int32} {tl1a_echoFrom : Nat → Int32} {tl1a_echoTo : Nat → Int32} {pa_next : Nat → Int32} {x6 : Int32} {post : Int32 → (Nat → Int32) → Prop} (k_ta_counts : ∀ j, iv 0 2 (ta_counts j)) (k_tl0f_huts : iv 0 9 tl0f_huts) (k_tl0f_dams : iv 0 511 tl0f_dams) (k_tl0f_echoes : iv 0 4 tl0f_echoes) (k_tl0a_heights : ∀ j, iv 0 99 (tl0a_heights j)) (k_tl0a_minutes : ∀ j, iv 0 9 (tl0a_minutes j)) (k_tl0a_echoFrom : ∀ j, iv 0 8 (tl0a_echoFrom j)) (k_tl0a_echoTo : ∀ j, iv 0 8 (tl0a_echoTo j)) (k_tl1f_huts : iv 0 9 tl1f_huts) (k_tl1f_dams : iv 0 511 tl1f_dams) (k_tl1f_echoes : iv 0 4 tl1f_echoes) (k_tl1a_heights : ∀ j, iv 0 99 (tl1a_heights j)) (k_tl1a_minutes : ∀ j, iv 0 9 (tl1a_minutes j)) (k_tl1a_echoFrom : ∀ j, iv 0 8 (tl1a_echoFrom j)) (k_tl1a_echoTo : ∀ j, iv 0 8 (tl1a_echoTo j)) (k_pa_next : ∀ j, iv 0 511 (pa_next j)) (hx6 : iv (-1) 511 x6) (hpost : ∀ (r : Int32) (pa_next : Nat → Int32), iv (-1) 511 r → (∀ j, iv 0 511 (pa_next j)) → post r pa_next) : q_wx_X10_flood_70 ta_counts tl0f_huts tl0f_dams tl0f_echoes tl0a_heights tl0a_minutes tl0a_echoFrom tl0a_echoTo tl1f_huts tl1f_dams tl1f_echoes tl1a_heights tl1a_minutes tl1a_echoFrom tl1a_echoTo pa_next x6 post := by
  exact hpost _ _ hx6 k_pa_next
set_option maxRecDepth 20000 in
theorem s_wx_X10_flood_0 {ta_counts : Nat → Int32} {tl0f_huts : Int32} {tl0f_dams : Int32} {tl0f_echoes : Int32} {tl0a_heights : Nat → Int32} {tl0a_minutes : Nat → Int32} {tl0a_echoFrom : Nat → Int32} {tl0a_echoTo : Nat → Int32} {tl1f_huts : Int32} {tl1f_dams : Int32} {tl1f_echoes : Int32} {tl1a_heights : Nat → Int32} {tl1a_minutes : Nat → Int32} {tl1a_echoFrom : Nat → Int32} {tl1a_echoTo : Nat → Int32} {pa_next : Nat → Int32} {x1 : Int32} {x2 : Int32} {x3 : Int32} {x4 : Int32} {post : Int32 → (Nat → Int32) → Prop} (k_ta_counts : ∀ j, iv 0 2 (ta_counts j)) (k_tl0f_huts : iv 0 9 tl0f_huts) (k_tl0f_dams : iv 0 511 tl0f_dams) (k_tl0f_echoes : iv 0 4 tl0f_echoes) (k_tl0a_heights : ∀ j, iv 0 99 (tl0a_heights j)) (k_tl0a_minutes : ∀ j, iv 0 9 (tl0a_minutes j)) (k_tl0a_echoFrom : ∀ j, iv 0 8 (tl0a_echoFrom j)) (k_tl0a_echoTo : ∀ j, iv 0 8 (tl0a_echoTo j)) (k_tl1f_huts : iv 0 9 tl1f_huts) (k_tl1f_dams : iv 0 511 tl1f_dams) (k_tl1f_echoes : iv 0 4 tl1f_echoes) (k_tl1a_heights : ∀ j, iv 0 99 (tl1a_heights j)) (k_tl1a_minutes : ∀ j, iv 0 9 (tl1a_minutes j)) (k_tl1a_echoFrom : ∀ j, iv 0 8 (tl1a_echoFrom j)) (k_tl1a_echoTo : ∀ j, iv 0 8 (tl1a_echoTo j)) (k_pa_next : ∀ j, iv 0 511 (pa_next j)) (hpost : ∀ (r : Int32) (pa_next : Nat → Int32), iv (-1) 511 r → (∀ j, iv 0 511 (pa_next j)) → post r pa_next) : q_wx_X10_flood_0 ta_counts tl0f_huts tl0f_dams tl0f_echoes tl0a_heights tl0a_minutes tl0a_echoFrom tl0a_echoTo tl1f_huts tl1f_dams tl1f_echoes tl1a_heights tl1a_minutes tl1a_echoFrom tl1a_echoTo pa_next x1 x2 x3 x4 post := by
  refine ⟨fun c1 => ?_, fun c1 => ?_⟩
  · skip
    refine ⟨fun _ => ?_, fun h => absurd h (by decide), fun h0 h1 => absurd rfl h0⟩
    exact hpost _ _ (iv_w (iv_lit (l := (-1)) (h := (-1)) (by decide)) (by decide)) k_pa_next
  · skip
    refine ⟨fun c2 => ?_, fun c2 => ?_⟩
    · skip
      refine ⟨fun _ => ?_, fun h => absurd h (by decide), fun h0 h1 => absurd rfl h0⟩
      exact hpost _ _ (iv_w (iv_lit (l := (-1)) (h := (-1)) (by decide)) (by decide)) k_pa_next
    · skip
      refine ⟨iv_in (iv_lta (l := 0) (h := 1) (r_nle c2) (iv_leb (l := 0) (h := 2147483647) (r_nlt c1) (iv_lit (l := 0) (h := 0) (by decide)) (iv_top x1) (by decide)) (k_ta_counts _) (by decide)) (by decide), fun hc => ?_, fun hc => ?_⟩
      · skip
        refine ⟨fun h => absurd h (by decide), fun h => absurd h (by decide), fun h0 h1 => ?_⟩
        refine ⟨fun c3 => ?_, fun c3 => ?_⟩
        · skip
          refine ⟨fun c4 => ?_, fun c4 => ?_⟩
          · skip
            refine ⟨fun c5 => ?_, fun c5 => ?_⟩
            · skip
              exact hpost _ _ (iv_w (iv_lit (l := (-1)) (h := (-1)) (by decide)) (by decide)) k_pa_next
            · skip
              exact (iv_emp (iv_ne (l := 1) (h := 0) c5 (iv_lit (l := 0) (h := 0) (by decide)) (iv_lit (l := 0) (h := 0) (by decide)) (by decide)) (by decide)).elim
          · skip
            exact (iv_emp (iv_ne (l := 1) (h := 0) c4 (iv_lit (l := 0) (h := 0) (by decide)) (iv_lit (l := 0) (h := 0) (by decide)) (by decide)) (by decide)).elim
        · skip
          refine ⟨fun c6 => ?_, fun c6 => ?_⟩
          · skip
            refine ⟨fun c7 => ?_, fun c7 => ?_⟩
            · skip
              refine ⟨fun c8 => ?_, fun c8 => ?_⟩
              · skip
                exact hpost _ _ (iv_w (iv_lit (l := (-1)) (h := (-1)) (by decide)) (by decide)) k_pa_next
              · skip
                exact (iv_emp (iv_ne (l := 1) (h := 0) c8 (iv_lit (l := 0) (h := 0) (by decide)) (iv_lit (l := 0) (h := 0) (by decide)) (by decide)) (by decide)).elim
            · skip
              exact (iv_emp (iv_ne (l := 1) (h := 0) c7 (iv_lit (l := 0) (h := 0) (by decide)) (iv_lit (l := 0) (h := 0) (by decide)) (by decide)) (by decide)).elim
          · skip
            refine ⟨fun c9 => ?_, fun c9 => ?_⟩
            · skip
              exact (iv_emp (iv_eqa (l := 1) (h := 0) c9 (iv_lit (l := 1) (h := 1) (by decide)) (iv_lit (l := 0) (h := 0) (by decide)) (by decide)) (by decide)).elim
            · skip
              refine ⟨fun c10 => ?_, fun c10 => ?_⟩
              · skip
                refine ⟨fun c11 => ?_, fun c11 => ?_⟩
                · skip
                  exact (iv_emp (iv_ne (l := 1) (h := 0) c11 (iv_lit (l := 0) (h := 0) (by decide)) (iv_lit (l := 0) (h := 0) (by decide)) (by decide)) (by decide)).elim
                · skip
                  refine ⟨fun c12 => ?_, fun c12 => ?_⟩
                  · skip
                    exact (iv_emp (iv_eqa (l := 1) (h := 0) c12 (iv_lit (l := 1) (h := 1) (by decide)) (iv_lit (l := 0) (h := 0) (by decide)) (by decide)) (by decide)).elim
                  · skip
                    refine ⟨fun c13 => ?_, fun c13 => ?_⟩
                    · skip
                      refine ⟨fun c14 => ?_, fun c14 => ?_⟩
                      · skip
                        refine ⟨fun c15 => ?_, fun c15 => ?_⟩
                        · skip
                          exact hpost _ _ (iv_w (iv_lit (l := (-1)) (h := (-1)) (by decide)) (by decide)) k_pa_next
                        · skip
                          exact (iv_emp (iv_ne (l := 1) (h := 0) c15 (iv_lit (l := 0) (h := 0) (by decide)) (iv_lit (l := 0) (h := 0) (by decide)) (by decide)) (by decide)).elim
                      · skip
                        exact (iv_emp (iv_ne (l := 1) (h := 0) c14 (iv_lit (l := 0) (h := 0) (by decide)) (iv_lit (l := 0) (h := 0) (by decide)) (by decide)) (by decide)).elim
                    · skip
                      refine ⟨fun c16 => ?_, fun c16 => ?_⟩
                      · skip
                        refine ⟨fun c17 => ?_, fun c17 => ?_⟩
                        · skip
                          refine ⟨fun c18 => ?_, fun c18 => ?_⟩
                          · skip
                            exact hpost _ _ (iv_w (iv_lit (l := (-1)) (h := (-1)) (by decide)) (by decide)) k_pa_next
                          · skip
                            exact (iv_emp (iv_ne (l := 1) (h := 0) c18 (iv_lit (l := 0) (h := 0) (by decide)) (iv_lit (l := 0) (h := 0) (by decide)) (by decide)) (by decide)).elim
                        · skip
                          exact (iv_emp (iv_ne (l := 1) (h := 0) c17 (iv_lit (l := 0) (h := 0) (by decide)) (iv_lit (l := 0) (h := 0) (by decide)) (by decide)) (by decide)).elim
                      · skip
                        refine ⟨fun c19 => ?_, fun c19 => ?_⟩
                        · skip
                          exact (iv_emp (iv_eqa (l := 1) (h := 0) c19 (iv_lit (l := 1) (h := 1) (by decide)) (iv_lit (l := 0) (h := 0) (by decide)) (by decide)) (by decide)).elim
                        · skip
                          refine ⟨fun c20 => ?_, fun c20 => ?_⟩
                          · skip
                            refine ⟨fun c21 => ?_, fun c21 => ?_⟩
                            · skip
                              exact (iv_emp (iv_ne (l := 1) (h := 0) c21 (iv_lit (l := 0) (h := 0) (by decide)) (iv_lit (l := 0) (h := 0) (by decide)) (by decide)) (by decide)).elim
                            · skip
                              refine ⟨fun c22 => ?_, fun c22 => ?_⟩
                              · skip
                                exact (iv_emp (iv_eqa (l := 1) (h := 0) c22 (iv_lit (l := 1) (h := 1) (by decide)) (iv_lit (l := 0) (h := 0) (by decide)) (by decide)) (by decide)).elim
                              · skip
                                refine ⟨fun c23 => ?_, fun c23 => ?_⟩
                                · skip
                                  refine s_wp_X7_link_9_0 k_pa_next (iv_ltb (l := 1) (h := 9) (r_nle c6) (iv_leb (l := 0) (h := 2147483647) (r_nlt c3) (iv_lit (l := 0) (h := 0) (by decide)) (iv_top x2) (by decide)) k_tl0f_huts (by decide)) k_tl0f_dams k_tl0f_echoes k_tl0a_heights k_tl0a_minutes k_tl0a_echoFrom k_tl0a_echoTo (fun o24 k_o24 => ?_)
                                  refine s_wp_X7_fewestDams_9_0 k_o24 (iv_ltb (l := 1) (h := 9) (r_nle c6) (iv_leb (l := 0) (h := 2147483647) (r_nlt c3) (iv_lit (l := 0) (h := 0) (by decide)) (iv_top x2) (by decide)) k_tl0f_huts (by decide)) k_tl0f_dams (iv_lta (l := 0) (h := 8) (r_nle c6) (iv_leb (l := 0) (h := 2147483647) (r_nlt c3) (iv_lit (l := 0) (h := 0) (by decide)) (iv_top x2) (by decide)) k_tl0f_huts (by decide)) (iv_lta (l := 0) (h := 8) (r_nle c16) (iv_leb (l := 0) (h := 2147483647) (r_nlt c13) (iv_lit (l := 0) (h := 0) (by decide)) (iv_top x3) (by decide)) (iv_ltb (l := 1) (h := 9) (r_nle c6) (iv_leb (l := 0) (h := 2147483647) (r_nlt c3) (iv_lit (l := 0) (h := 0) (by decide)) (iv_top x2) (by decide)) k_tl0f_huts (by decide)) (by decide)) (fun r25 hr25 => ?_)
                                  refine ⟨fun c26 => ?_, fun c26 => ?_⟩
                                  · skip
                                    exact s_wx_X10_flood_70 k_ta_counts (iv_w (iv_ltb (l := 1) (h := 9) (r_nle c6) (iv_leb (l := 0) (h := 2147483647) (r_nlt c3) (iv_lit (l := 0) (h := 0) (by decide)) (iv_top x2) (by decide)) k_tl0f_huts (by decide)) (by decide)) k_tl0f_dams k_tl0f_echoes k_tl0a_heights k_tl0a_minutes k_tl0a_echoFrom k_tl0a_echoTo k_tl1f_huts k_tl1f_dams k_tl1f_echoes k_tl1a_heights k_tl1a_minutes k_tl1a_echoFrom k_tl1a_echoTo k_o24 (iv_w (iv_eqa (l := (-1)) (h := (-1)) c26 hr25 (iv_lit (l := (-1)) (h := (-1)) (by decide)) (by decide)) (by decide)) hpost
                                  · skip
                                    refine ⟨fun c27 => ?_, fun c27 => ?_⟩
                                    · skip
                                      refine s_z_J6_bitCount_0f7a4_0 (iv_w (iv_ne (l := 0) (h := 511) c26 hr25 (iv_lit (l := (-1)) (h := (-1)) (by decide)) (by decide)) (by decide)) (fun r28 hr28 => ?_)
                                      exact hpost _ _ (iv_w hr28 (by decide)) k_o24
                                    · skip
                                      exact s_wx_X10_flood_70 k_ta_counts (iv_w (iv_ltb (l := 1) (h := 9) (r_nle c6) (iv_leb (l := 0) (h := 2147483647) (r_nlt c3) (iv_lit (l := 0) (h := 0) (by decide)) (iv_top x2) (by decide)) k_tl0f_huts (by decide)) (by decide)) k_tl0f_dams k_tl0f_echoes k_tl0a_heights k_tl0a_minutes k_tl0a_echoFrom k_tl0a_echoTo k_tl1f_huts k_tl1f_dams k_tl1f_echoes k_tl1a_heights k_tl1a_minutes k_tl1a_echoFrom k_tl1a_echoTo k_o24 (iv_w (iv_ne (l := 0) (h := 511) c26 hr25 (iv_lit (l := (-1)) (h := (-1)) (by decide)) (by decide)) (by decide)) hpost
                                · skip
                                  exact hpost _ _ (iv_w (iv_lit (l := (-1)) (h := (-1)) (by decide)) (by decide)) k_pa_next
                          · skip
                            refine ⟨fun c29 => ?_, fun c29 => ?_⟩
                            · skip
                              refine ⟨fun c30 => ?_, fun c30 => ?_⟩
                              · skip
                                exact hpost _ _ (iv_w (iv_lit (l := (-1)) (h := (-1)) (by decide)) (by decide)) k_pa_next
                              · skip
                                exact (iv_emp (iv_ne (l := 1) (h := 0) c30 (iv_lit (l := 0) (h := 0) (by decide)) (iv_lit (l := 0) (h := 0) (by decide)) (by decide)) (by decide)).elim
                            · skip
                              exact (iv_emp (iv_eqa (l := 1) (h := 0) c29 (iv_lit (l := 1) (h := 1) (by decide)) (iv_lit (l := 0) (h := 0) (by decide)) (by decide)) (by decide)).elim
              · skip
                refine ⟨fun c31 => ?_, fun c31 => ?_⟩
                · skip
                  refine ⟨fun c32 => ?_, fun c32 => ?_⟩
                  · skip
                    exact hpost _ _ (iv_w (iv_lit (l := (-1)) (h := (-1)) (by decide)) (by decide)) k_pa_next
                  · skip
                    exact (iv_emp (iv_ne (l := 1) (h := 0) c32 (iv_lit (l := 0) (h := 0) (by decide)) (iv_lit (l := 0) (h := 0) (by decide)) (by decide)) (by decide)).elim
                · skip
                  exact (iv_emp (iv_eqa (l := 1) (h := 0) c31 (iv_lit (l := 1) (h := 1) (by decide)) (iv_lit (l := 0) (h := 0) (by decide)) (by decide)) (by decide)).elim
      · skip
        refine ⟨fun h => absurd h (by decide), fun _ => ?_, fun h0 h1 => absurd rfl h1⟩
        refine ⟨fun c33 => ?_, fun c33 => ?_⟩
        · skip
          refine ⟨fun c34 => ?_, fun c34 => ?_⟩
          · skip
            refine ⟨fun c35 => ?_, fun c35 => ?_⟩
            · skip
              exact hpost _ _ (iv_w (iv_lit (l := (-1)) (h := (-1)) (by decide)) (by decide)) k_pa_next
            · skip
              exact (iv_emp (iv_ne (l := 1) (h := 0) c35 (iv_lit (l := 0) (h := 0) (by decide)) (iv_lit (l := 0) (h := 0) (by decide)) (by decide)) (by decide)).elim
          · skip
            exact (iv_emp (iv_ne (l := 1) (h := 0) c34 (iv_lit (l := 0) (h := 0) (by decide)) (iv_lit (l := 0) (h := 0) (by decide)) (by decide)) (by decide)).elim
        · skip
          refine ⟨fun c36 => ?_, fun c36 => ?_⟩
          · skip
            refine ⟨fun c37 => ?_, fun c37 => ?_⟩
            · skip
              refine ⟨fun c38 => ?_, fun c38 => ?_⟩
              · skip
                exact hpost _ _ (iv_w (iv_lit (l := (-1)) (h := (-1)) (by decide)) (by decide)) k_pa_next
              · skip
                exact (iv_emp (iv_ne (l := 1) (h := 0) c38 (iv_lit (l := 0) (h := 0) (by decide)) (iv_lit (l := 0) (h := 0) (by decide)) (by decide)) (by decide)).elim
            · skip
              exact (iv_emp (iv_ne (l := 1) (h := 0) c37 (iv_lit (l := 0) (h := 0) (by decide)) (iv_lit (l := 0) (h := 0) (by decide)) (by decide)) (by decide)).elim
          · skip
            refine ⟨fun c39 => ?_, fun c39 => ?_⟩
            · skip
              exact (iv_emp (iv_eqa (l := 1) (h := 0) c39 (iv_lit (l := 1) (h := 1) (by decide)) (iv_lit (l := 0) (h := 0) (by decide)) (by decide)) (by decide)).elim
            · skip
              refine ⟨fun c40 => ?_, fun c40 => ?_⟩
              · skip
                refine ⟨fun c41 => ?_, fun c41 => ?_⟩
                · skip
                  exact (iv_emp (iv_ne (l := 1) (h := 0) c41 (iv_lit (l := 0) (h := 0) (by decide)) (iv_lit (l := 0) (h := 0) (by decide)) (by decide)) (by decide)).elim
                · skip
                  refine ⟨fun c42 => ?_, fun c42 => ?_⟩
                  · skip
                    exact (iv_emp (iv_eqa (l := 1) (h := 0) c42 (iv_lit (l := 1) (h := 1) (by decide)) (iv_lit (l := 0) (h := 0) (by decide)) (by decide)) (by decide)).elim
                  · skip
                    refine ⟨fun c43 => ?_, fun c43 => ?_⟩
                    · skip
                      refine ⟨fun c44 => ?_, fun c44 => ?_⟩
                      · skip
                        refine ⟨fun c45 => ?_, fun c45 => ?_⟩
                        · skip
                          exact hpost _ _ (iv_w (iv_lit (l := (-1)) (h := (-1)) (by decide)) (by decide)) k_pa_next
                        · skip
                          exact (iv_emp (iv_ne (l := 1) (h := 0) c45 (iv_lit (l := 0) (h := 0) (by decide)) (iv_lit (l := 0) (h := 0) (by decide)) (by decide)) (by decide)).elim
                      · skip
                        exact (iv_emp (iv_ne (l := 1) (h := 0) c44 (iv_lit (l := 0) (h := 0) (by decide)) (iv_lit (l := 0) (h := 0) (by decide)) (by decide)) (by decide)).elim
                    · skip
                      refine ⟨fun c46 => ?_, fun c46 => ?_⟩
                      · skip
                        refine ⟨fun c47 => ?_, fun c47 => ?_⟩
                        · skip
                          refine ⟨fun c48 => ?_, fun c48 => ?_⟩
                          · skip
                            exact hpost _ _ (iv_w (iv_lit (l := (-1)) (h := (-1)) (by decide)) (by decide)) k_pa_next
                          · skip
                            exact (iv_emp (iv_ne (l := 1) (h := 0) c48 (iv_lit (l := 0) (h := 0) (by decide)) (iv_lit (l := 0) (h := 0) (by decide)) (by decide)) (by decide)).elim
                        · skip
                          exact (iv_emp (iv_ne (l := 1) (h := 0) c47 (iv_lit (l := 0) (h := 0) (by decide)) (iv_lit (l := 0) (h := 0) (by decide)) (by decide)) (by decide)).elim
                      · skip
                        refine ⟨fun c49 => ?_, fun c49 => ?_⟩
                        · skip
                          exact (iv_emp (iv_eqa (l := 1) (h := 0) c49 (iv_lit (l := 1) (h := 1) (by decide)) (iv_lit (l := 0) (h := 0) (by decide)) (by decide)) (by decide)).elim
                        · skip
                          refine ⟨fun c50 => ?_, fun c50 => ?_⟩
                          · skip
                            refine ⟨fun c51 => ?_, fun c51 => ?_⟩
                            · skip
                              exact (iv_emp (iv_ne (l := 1) (h := 0) c51 (iv_lit (l := 0) (h := 0) (by decide)) (iv_lit (l := 0) (h := 0) (by decide)) (by decide)) (by decide)).elim
                            · skip
                              refine ⟨fun c52 => ?_, fun c52 => ?_⟩
                              · skip
                                exact (iv_emp (iv_eqa (l := 1) (h := 0) c52 (iv_lit (l := 1) (h := 1) (by decide)) (iv_lit (l := 0) (h := 0) (by decide)) (by decide)) (by decide)).elim
                              · skip
                                refine ⟨fun c53 => ?_, fun c53 => ?_⟩
                                · skip
                                  refine s_wp_X7_link_9_0 k_pa_next (iv_ltb (l := 1) (h := 9) (r_nle c36) (iv_leb (l := 0) (h := 2147483647) (r_nlt c33) (iv_lit (l := 0) (h := 0) (by decide)) (iv_top x2) (by decide)) k_tl1f_huts (by decide)) k_tl1f_dams k_tl1f_echoes k_tl1a_heights k_tl1a_minutes k_tl1a_echoFrom k_tl1a_echoTo (fun o54 k_o54 => ?_)
                                  refine s_wp_X7_fewestDams_9_0 k_o54 (iv_ltb (l := 1) (h := 9) (r_nle c36) (iv_leb (l := 0) (h := 2147483647) (r_nlt c33) (iv_lit (l := 0) (h := 0) (by decide)) (iv_top x2) (by decide)) k_tl1f_huts (by decide)) k_tl1f_dams (iv_lta (l := 0) (h := 8) (r_nle c36) (iv_leb (l := 0) (h := 2147483647) (r_nlt c33) (iv_lit (l := 0) (h := 0) (by decide)) (iv_top x2) (by decide)) k_tl1f_huts (by decide)) (iv_lta (l := 0) (h := 8) (r_nle c46) (iv_leb (l := 0) (h := 2147483647) (r_nlt c43) (iv_lit (l := 0) (h := 0) (by decide)) (iv_top x3) (by decide)) (iv_ltb (l := 1) (h := 9) (r_nle c36) (iv_leb (l := 0) (h := 2147483647) (r_nlt c33) (iv_lit (l := 0) (h := 0) (by decide)) (iv_top x2) (by decide)) k_tl1f_huts (by decide)) (by decide)) (fun r55 hr55 => ?_)
                                  refine ⟨fun c56 => ?_, fun c56 => ?_⟩
                                  · skip
                                    exact s_wx_X10_flood_70 k_ta_counts k_tl0f_huts k_tl0f_dams k_tl0f_echoes k_tl0a_heights k_tl0a_minutes k_tl0a_echoFrom k_tl0a_echoTo (iv_w (iv_ltb (l := 1) (h := 9) (r_nle c36) (iv_leb (l := 0) (h := 2147483647) (r_nlt c33) (iv_lit (l := 0) (h := 0) (by decide)) (iv_top x2) (by decide)) k_tl1f_huts (by decide)) (by decide)) k_tl1f_dams k_tl1f_echoes k_tl1a_heights k_tl1a_minutes k_tl1a_echoFrom k_tl1a_echoTo k_o54 (iv_w (iv_eqa (l := (-1)) (h := (-1)) c56 hr55 (iv_lit (l := (-1)) (h := (-1)) (by decide)) (by decide)) (by decide)) hpost
                                  · skip
                                    refine ⟨fun c57 => ?_, fun c57 => ?_⟩
                                    · skip
                                      refine s_z_J6_bitCount_0f7a4_0 (iv_w (iv_ne (l := 0) (h := 511) c56 hr55 (iv_lit (l := (-1)) (h := (-1)) (by decide)) (by decide)) (by decide)) (fun r58 hr58 => ?_)
                                      exact hpost _ _ (iv_w hr58 (by decide)) k_o54
                                    · skip
                                      exact s_wx_X10_flood_70 k_ta_counts k_tl0f_huts k_tl0f_dams k_tl0f_echoes k_tl0a_heights k_tl0a_minutes k_tl0a_echoFrom k_tl0a_echoTo (iv_w (iv_ltb (l := 1) (h := 9) (r_nle c36) (iv_leb (l := 0) (h := 2147483647) (r_nlt c33) (iv_lit (l := 0) (h := 0) (by decide)) (iv_top x2) (by decide)) k_tl1f_huts (by decide)) (by decide)) k_tl1f_dams k_tl1f_echoes k_tl1a_heights k_tl1a_minutes k_tl1a_echoFrom k_tl1a_echoTo k_o54 (iv_w (iv_ne (l := 0) (h := 511) c56 hr55 (iv_lit (l := (-1)) (h := (-1)) (by decide)) (by decide)) (by decide)) hpost
                                · skip
                                  exact hpost _ _ (iv_w (iv_lit (l := (-1)) (h := (-1)) (by decide)) (by decide)) k_pa_next
                          · skip
                            refine ⟨fun c59 => ?_, fun c59 => ?_⟩
                            · skip
                              refine ⟨fun c60 => ?_, fun c60 => ?_⟩
                              · skip
                                exact hpost _ _ (iv_w (iv_lit (l := (-1)) (h := (-1)) (by decide)) (by decide)) k_pa_next
                              · skip
                                exact (iv_emp (iv_ne (l := 1) (h := 0) c60 (iv_lit (l := 0) (h := 0) (by decide)) (iv_lit (l := 0) (h := 0) (by decide)) (by decide)) (by decide)).elim
                            · skip
                              exact (iv_emp (iv_eqa (l := 1) (h := 0) c59 (iv_lit (l := 1) (h := 1) (by decide)) (iv_lit (l := 0) (h := 0) (by decide)) (by decide)) (by decide)).elim
              · skip
                refine ⟨fun c61 => ?_, fun c61 => ?_⟩
                · skip
                  refine ⟨fun c62 => ?_, fun c62 => ?_⟩
                  · skip
                    exact hpost _ _ (iv_w (iv_lit (l := (-1)) (h := (-1)) (by decide)) (by decide)) k_pa_next
                  · skip
                    exact (iv_emp (iv_ne (l := 1) (h := 0) c62 (iv_lit (l := 0) (h := 0) (by decide)) (iv_lit (l := 0) (h := 0) (by decide)) (by decide)) (by decide)).elim
                · skip
                  exact (iv_emp (iv_eqa (l := 1) (h := 0) c61 (iv_lit (l := 1) (h := 1) (by decide)) (iv_lit (l := 0) (h := 0) (by decide)) (by decide)) (by decide)).elim
-- wx_X10_teach
set_option maxRecDepth 20000 in
theorem s_wx_X10_teach_0 {ta_counts : Nat → Int32} {tl0f_huts : Int32} {tl0f_singers : Int32} {tl0f_dams : Int32} {tl0f_echoes : Int32} {tl0f_deep : Int32} {tl0a_heights : Nat → Int32} {tl0a_ladders : Nat → Int32} {tl0a_minutes : Nat → Int32} {tl0a_echoFrom : Nat → Int32} {tl0a_echoTo : Nat → Int32} {tl0a_homes : Nat → Int32} {tl0a_talls : Nat → Int32} {tl0a_known : Nat → Int32} {tl1f_huts : Int32} {tl1f_singers : Int32} {tl1f_dams : Int32} {tl1f_echoes : Int32} {tl1f_deep : Int32} {tl1a_heights : Nat → Int32} {tl1a_ladders : Nat → Int32} {tl1a_minutes : Nat → Int32} {tl1a_echoFrom : Nat → Int32} {tl1a_echoTo : Nat → Int32} {tl1a_homes : Nat → Int32} {tl1a_talls : Nat → Int32} {tl1a_known : Nat → Int32} {tv0f_deeds : Int32} {tv0a_kinds : Nat → Int32} {tv0a_firsts : Nat → Int32} {tv0a_seconds : Nat → Int32} {tv1f_deeds : Int32} {tv1a_kinds : Nat → Int32} {tv1a_firsts : Nat → Int32} {tv1a_seconds : Nat → Int32} {nf_minute : Int32} {nf_avalanches : Int32} {nf_begun : Int32} {nf_climbed : Int32} {na_huts : Nat → Int32} {na_known : Nat → Int32} {na_levels : Nat → Int32} {na_snow : Nat → Int32} {x1 : Int32} {x2 : Int32} {x3 : Int32} {x4 : Int32} {post : Int32 → (Int32) → (Int32) → (Int32) → (Int32) → (Nat → Int32) → (Nat → Int32) → (Nat → Int32) → (Nat → Int32) → Prop} (k_ta_counts : ∀ j, iv 0 2 (ta_counts j)) (k_tl0f_huts : iv 0 9 tl0f_huts) (k_tl0f_singers : iv 0 6 tl0f_singers) (k_tl0f_dams : iv 0 511 tl0f_dams) (k_tl0f_echoes : iv 0 4 tl0f_echoes) (k_tl0f_deep : iv 1 9 tl0f_deep) (k_tl0a_heights : ∀ j, iv 0 99 (tl0a_heights j)) (k_tl0a_ladders : ∀ j, iv 0 9 (tl0a_ladders j)) (k_tl0a_minutes : ∀ j, iv 0 9 (tl0a_minutes j)) (k_tl0a_echoFrom : ∀ j, iv 0 8 (tl0a_echoFrom j)) (k_tl0a_echoTo : ∀ j, iv 0 8 (tl0a_echoTo j)) (k_tl0a_homes : ∀ j, iv 0 8 (tl0a_homes j)) (k_tl0a_talls : ∀ j, iv 0 9 (tl0a_talls j)) (k_tl0a_known : ∀ j, iv 0 31 (tl0a_known j)) (k_tl1f_huts : iv 0 9 tl1f_huts) (k_tl1f_singers : iv 0 6 tl1f_singers) (k_tl1f_dams : iv 0 511 tl1f_dams) (k_tl1f_echoes : iv 0 4 tl1f_echoes) (k_tl1f_deep : iv 1 9 tl1f_deep) (k_tl1a_heights : ∀ j, iv 0 99 (tl1a_heights j)) (k_tl1a_ladders : ∀ j, iv 0 9 (tl1a_ladders j)) (k_tl1a_minutes : ∀ j, iv 0 9 (tl1a_minutes j)) (k_tl1a_echoFrom : ∀ j, iv 0 8 (tl1a_echoFrom j)) (k_tl1a_echoTo : ∀ j, iv 0 8 (tl1a_echoTo j)) (k_tl1a_homes : ∀ j, iv 0 8 (tl1a_homes j)) (k_tl1a_talls : ∀ j, iv 0 9 (tl1a_talls j)) (k_tl1a_known : ∀ j, iv 0 31 (tl1a_known j)) (k_tv0f_deeds : iv 0 40 tv0f_deeds) (k_tv0a_kinds : ∀ j, iv 0 5 (tv0a_kinds j)) (k_tv0a_firsts : ∀ j, iv 0 5 (tv0a_firsts j)) (k_tv0a_seconds : ∀ j, iv (-1) 8 (tv0a_seconds j)) (k_tv1f_deeds : iv 0 40 tv1f_deeds) (k_tv1a_kinds : ∀ j, iv 0 5 (tv1a_kinds j)) (k_tv1a_firsts : ∀ j, iv 0 5 (tv1a_firsts j)) (k_tv1a_seconds : ∀ j, iv (-1) 8 (tv1a_seconds j)) (k_nf_begun : iv 0 31 nf_begun) (k_nf_climbed : iv 0 63 nf_climbed) (k_na_huts : ∀ j, iv 0 8 (na_huts j)) (k_na_known : ∀ j, iv 0 31 (na_known j)) (k_na_levels : ∀ j, iv (-9) 122 (na_levels j)) (hpost : ∀ (r : Int32) (nf_minute : Int32) (nf_avalanches : Int32) (nf_begun : Int32) (nf_climbed : Int32) (na_huts : Nat → Int32) (na_known : Nat → Int32) (na_levels : Nat → Int32) (na_snow : Nat → Int32), iv (-1) 63 r → (iv 0 31 nf_begun) → (iv 0 63 nf_climbed) → (∀ j, iv 0 8 (na_huts j)) → (∀ j, iv 0 31 (na_known j)) → (∀ j, iv (-9) 122 (na_levels j)) → post r nf_minute nf_avalanches nf_begun nf_climbed na_huts na_known na_levels na_snow) : q_wx_X10_teach_0 ta_counts tl0f_huts tl0f_singers tl0f_dams tl0f_echoes tl0f_deep tl0a_heights tl0a_ladders tl0a_minutes tl0a_echoFrom tl0a_echoTo tl0a_homes tl0a_talls tl0a_known tl1f_huts tl1f_singers tl1f_dams tl1f_echoes tl1f_deep tl1a_heights tl1a_ladders tl1a_minutes tl1a_echoFrom tl1a_echoTo tl1a_homes tl1a_talls tl1a_known tv0f_deeds tv0a_kinds tv0a_firsts tv0a_seconds tv1f_deeds tv1a_kinds tv1a_firsts tv1a_seconds nf_minute nf_avalanches nf_begun nf_climbed na_huts na_known na_levels na_snow x1 x2 x3 x4 post := by
  refine ⟨fun c1 => ?_, fun c1 => ?_⟩
  · skip
    exact hpost _ _ _ _ _ _ _ _ _ (iv_w (iv_lit (l := (-1)) (h := (-1)) (by decide)) (by decide)) k_nf_begun k_nf_climbed k_na_huts k_na_known k_na_levels
  · skip
    refine ⟨fun c2 => ?_, fun c2 => ?_⟩
    · skip
      exact hpost _ _ _ _ _ _ _ _ _ (iv_w (iv_lit (l := (-1)) (h := (-1)) (by decide)) (by decide)) k_nf_begun k_nf_climbed k_na_huts k_na_known k_na_levels
    · skip
      refine ⟨fun c3 => ?_, fun c3 => ?_⟩
      · skip
        refine ⟨fun _ => ?_, fun h => absurd h (by decide), fun h0 h1 => absurd rfl h0⟩
        refine ⟨fun c4 => ?_, fun c4 => ?_⟩
        · skip
          refine ⟨fun _ => ?_, fun h => absurd h (by decide), fun h0 h1 => absurd rfl h0⟩
          refine ⟨fun c5 => ?_, fun c5 => ?_⟩
          · skip
            exact (iv_emp (iv_ne (l := 1) (h := 0) c5 (iv_lit (l := 0) (h := 0) (by decide)) (iv_lit (l := 0) (h := 0) (by decide)) (by decide)) (by decide)).elim
          · skip
            exact hpost _ _ _ _ _ _ _ _ _ (iv_w (iv_lit (l := (-1)) (h := (-1)) (by decide)) (by decide)) k_nf_begun k_nf_climbed k_na_huts k_na_known k_na_levels
        · skip
          refine ⟨fun c6 => ?_, fun c6 => ?_⟩
          · skip
            refine ⟨fun _ => ?_, fun h => absurd h (by decide), fun h0 h1 => absurd rfl h0⟩
            refine ⟨fun c7 => ?_, fun c7 => ?_⟩
            · skip
              exact (iv_emp (iv_ne (l := 1) (h := 0) c7 (iv_lit (l := 0) (h := 0) (by decide)) (iv_lit (l := 0) (h := 0) (by decide)) (by decide)) (by decide)).elim
            · skip
              exact hpost _ _ _ _ _ _ _ _ _ (iv_w (iv_lit (l := (-1)) (h := (-1)) (by decide)) (by decide)) k_nf_begun k_nf_climbed k_na_huts k_na_known k_na_levels
          · skip
            refine ⟨iv_in (iv_lta (l := 0) (h := 1) (r_nle c6) (iv_leb (l := 0) (h := 2147483647) (r_nlt c4) (iv_lit (l := 0) (h := 0) (by decide)) (iv_top x2) (by decide)) (k_ta_counts _) (by decide)) (by decide), fun hc => ?_, fun hc => ?_⟩
            · skip
              refine ⟨fun h => absurd h (by decide), fun h => absurd h (by decide), fun h0 h1 => ?_⟩
              refine ⟨fun c8 => ?_, fun c8 => ?_⟩
              · skip
                exact (iv_emp (iv_ne (l := 1) (h := 0) c8 (iv_lit (l := 0) (h := 0) (by decide)) (iv_lit (l := 0) (h := 0) (by decide)) (by decide)) (by decide)).elim
              · skip
                exact hpost _ _ _ _ _ _ _ _ _ (iv_w (iv_lit (l := (-1)) (h := (-1)) (by decide)) (by decide)) k_nf_begun k_nf_climbed k_na_huts k_na_known k_na_levels
            · skip
              refine ⟨fun h => absurd h (by decide), fun _ => ?_, fun h0 h1 => absurd rfl h1⟩
              refine ⟨fun c9 => ?_, fun c9 => ?_⟩
              · skip
                exact (iv_emp (iv_ne (l := 1) (h := 0) c9 (iv_lit (l := 0) (h := 0) (by decide)) (iv_lit (l := 0) (h := 0) (by decide)) (by decide)) (by decide)).elim
              · skip
                exact hpost _ _ _ _ _ _ _ _ _ (iv_w (iv_lit (l := (-1)) (h := (-1)) (by decide)) (by decide)) k_nf_begun k_nf_climbed k_na_huts k_na_known k_na_levels
      · skip
        refine ⟨fun c10 => ?_, fun c10 => ?_⟩
        · skip
          refine ⟨fun _ => ?_, fun h => absurd h (by decide), fun h0 h1 => absurd rfl h0⟩
          refine ⟨fun c11 => ?_, fun c11 => ?_⟩
          · skip
            refine ⟨fun _ => ?_, fun h => absurd h (by decide), fun h0 h1 => absurd rfl h0⟩
            refine ⟨fun c12 => ?_, fun c12 => ?_⟩
            · skip
              exact (iv_emp (iv_ne (l := 1) (h := 0) c12 (iv_lit (l := 0) (h := 0) (by decide)) (iv_lit (l := 0) (h := 0) (by decide)) (by decide)) (by decide)).elim
            · skip
              exact hpost _ _ _ _ _ _ _ _ _ (iv_w (iv_lit (l := (-1)) (h := (-1)) (by decide)) (by decide)) k_nf_begun k_nf_climbed k_na_huts k_na_known k_na_levels
          · skip
            refine ⟨fun c13 => ?_, fun c13 => ?_⟩
            · skip
              refine ⟨fun _ => ?_, fun h => absurd h (by decide), fun h0 h1 => absurd rfl h0⟩
              refine ⟨fun c14 => ?_, fun c14 => ?_⟩
              · skip
                exact (iv_emp (iv_ne (l := 1) (h := 0) c14 (iv_lit (l := 0) (h := 0) (by decide)) (iv_lit (l := 0) (h := 0) (by decide)) (by decide)) (by decide)).elim
              · skip
                exact hpost _ _ _ _ _ _ _ _ _ (iv_w (iv_lit (l := (-1)) (h := (-1)) (by decide)) (by decide)) k_nf_begun k_nf_climbed k_na_huts k_na_known k_na_levels
            · skip
              refine ⟨iv_in (iv_lta (l := 0) (h := 1) (r_nle c13) (iv_leb (l := 0) (h := 2147483647) (r_nlt c11) (iv_lit (l := 0) (h := 0) (by decide)) (iv_top x2) (by decide)) (k_ta_counts _) (by decide)) (by decide), fun hc => ?_, fun hc => ?_⟩
              · skip
                refine ⟨fun h => absurd h (by decide), fun h => absurd h (by decide), fun h0 h1 => ?_⟩
                refine ⟨fun c15 => ?_, fun c15 => ?_⟩
                · skip
                  exact (iv_emp (iv_ne (l := 1) (h := 0) c15 (iv_lit (l := 0) (h := 0) (by decide)) (iv_lit (l := 0) (h := 0) (by decide)) (by decide)) (by decide)).elim
                · skip
                  exact hpost _ _ _ _ _ _ _ _ _ (iv_w (iv_lit (l := (-1)) (h := (-1)) (by decide)) (by decide)) k_nf_begun k_nf_climbed k_na_huts k_na_known k_na_levels
              · skip
                refine ⟨fun h => absurd h (by decide), fun _ => ?_, fun h0 h1 => absurd rfl h1⟩
                refine ⟨fun c16 => ?_, fun c16 => ?_⟩
                · skip
                  exact (iv_emp (iv_ne (l := 1) (h := 0) c16 (iv_lit (l := 0) (h := 0) (by decide)) (iv_lit (l := 0) (h := 0) (by decide)) (by decide)) (by decide)).elim
                · skip
                  exact hpost _ _ _ _ _ _ _ _ _ (iv_w (iv_lit (l := (-1)) (h := (-1)) (by decide)) (by decide)) k_nf_begun k_nf_climbed k_na_huts k_na_known k_na_levels
        · skip
          refine ⟨iv_in (iv_lta (l := 0) (h := 1) (r_nle c10) (iv_leb (l := 0) (h := 2147483647) (r_nlt c3) (iv_lit (l := 0) (h := 0) (by decide)) (iv_top x1) (by decide)) (k_ta_counts _) (by decide)) (by decide), fun hc => ?_, fun hc => ?_⟩
          · skip
            refine ⟨fun h => absurd h (by decide), fun h => absurd h (by decide), fun h0 h1 => ?_⟩
            refine ⟨fun c17 => ?_, fun c17 => ?_⟩
            · skip
              refine ⟨fun _ => ?_, fun h => absurd h (by decide), fun h0 h1 => absurd rfl h0⟩
              refine ⟨fun c18 => ?_, fun c18 => ?_⟩
              · skip
                exact (iv_emp (iv_ne (l := 1) (h := 0) c18 (iv_lit (l := 0) (h := 0) (by decide)) (iv_lit (l := 0) (h := 0) (by decide)) (by decide)) (by decide)).elim
              · skip
                exact hpost _ _ _ _ _ _ _ _ _ (iv_w (iv_lit (l := (-1)) (h := (-1)) (by decide)) (by decide)) k_nf_begun k_nf_climbed k_na_huts k_na_known k_na_levels
            · skip
              refine ⟨fun c19 => ?_, fun c19 => ?_⟩
              · skip
                refine ⟨fun _ => ?_, fun h => absurd h (by decide), fun h0 h1 => absurd rfl h0⟩
                refine ⟨fun c20 => ?_, fun c20 => ?_⟩
                · skip
                  exact (iv_emp (iv_ne (l := 1) (h := 0) c20 (iv_lit (l := 0) (h := 0) (by decide)) (iv_lit (l := 0) (h := 0) (by decide)) (by decide)) (by decide)).elim
                · skip
                  exact hpost _ _ _ _ _ _ _ _ _ (iv_w (iv_lit (l := (-1)) (h := (-1)) (by decide)) (by decide)) k_nf_begun k_nf_climbed k_na_huts k_na_known k_na_levels
              · skip
                refine ⟨iv_in (iv_lta (l := 0) (h := 1) (r_nle c19) (iv_leb (l := 0) (h := 2147483647) (r_nlt c17) (iv_lit (l := 0) (h := 0) (by decide)) (iv_top x2) (by decide)) (k_ta_counts _) (by decide)) (by decide), fun hc => ?_, fun hc => ?_⟩
                · skip
                  refine ⟨fun h => absurd h (by decide), fun h => absurd h (by decide), fun h0 h1 => ?_⟩
                  refine ⟨fun c21 => ?_, fun c21 => ?_⟩
                  · skip
                    refine ⟨fun c22 => ?_, fun c22 => ?_⟩
                    · skip
                      exact (iv_emp (iv_ne (l := 1) (h := 0) c22 (iv_lit (l := 0) (h := 0) (by decide)) (iv_lit (l := 0) (h := 0) (by decide)) (by decide)) (by decide)).elim
                    · skip
                      exact hpost _ _ _ _ _ _ _ _ _ (iv_w (iv_lit (l := (-1)) (h := (-1)) (by decide)) (by decide)) k_nf_begun k_nf_climbed k_na_huts k_na_known k_na_levels
                  · skip
                    refine ⟨fun c23 => ?_, fun c23 => ?_⟩
                    · skip
                      refine s_wn_X3_play_6_15_0 k_nf_begun k_nf_climbed k_na_huts k_na_known k_na_levels k_tl0f_huts k_tl0f_singers k_tl0f_dams k_tl0f_echoes k_tl0f_deep k_tl0a_heights k_tl0a_ladders k_tl0a_minutes k_tl0a_echoFrom k_tl0a_echoTo k_tl0a_homes k_tl0a_talls k_tl0a_known k_tv0f_deeds k_tv0a_kinds k_tv0a_firsts k_tv0a_seconds (iv_lea (l := 0) (h := 40) (r_le c23) (iv_leb (l := 0) (h := 2147483647) (r_nlt c21) (iv_lit (l := 0) (h := 0) (by decide)) (iv_top x3) (by decide)) k_tv0f_deeds (by decide)) (fun r24 o25 o26 o27 o28 o29 o30 o31 o32 hr24 k_o27 k_o28 k_o29 k_o30 k_o31 => ?_)
                      refine ⟨fun c33 => ?_, fun c33 => ?_⟩
                      · skip
                        refine ⟨fun c34 => ?_, fun c34 => ?_⟩
                        · skip
                          exact (iv_emp (iv_ne (l := 1) (h := 0) c34 (iv_lit (l := 0) (h := 0) (by decide)) (iv_lit (l := 0) (h := 0) (by decide)) (by decide)) (by decide)).elim
                        · skip
                          exact hpost _ _ _ _ _ _ _ _ _ (iv_w (iv_lit (l := (-1)) (h := (-1)) (by decide)) (by decide)) k_o27 k_o28 k_o29 k_o30 k_o31
                      · skip
                        refine ⟨fun c35 => ?_, fun c35 => ?_⟩
                        · skip
                          refine ⟨iv_in (iv_lta (l := 0) (h := 1) (r_nle c10) (iv_leb (l := 0) (h := 2147483647) (r_nlt c3) (iv_lit (l := 0) (h := 0) (by decide)) (iv_top x1) (by decide)) (k_ta_counts _) (by decide)) (by decide), fun hc => ?_, fun hc => ?_⟩
                          · skip
                            refine s_wn_X3_fewestTimes_6_0 k_o27 k_o28 k_o29 k_o30 k_o31 k_tl0f_singers k_tl0f_dams k_tl0f_echoes k_tl0a_heights k_tl0a_ladders k_tl0a_echoFrom k_tl0a_echoTo k_tl0a_talls (iv_lta (l := 0) (h := 4) (r_nle c2) (iv_leb (l := 0) (h := 2147483647) (r_nlt c1) (iv_lit (l := 0) (h := 0) (by decide)) (iv_top x4) (by decide)) (iv_lit (l := 5) (h := 5) (by decide)) (by decide)) (fun r36 hr36 => ?_)
                            exact hpost _ _ _ _ _ _ _ _ _ hr36 k_o27 k_o28 k_o29 k_o30 k_o31
                          · skip
                            refine s_wn_X3_fewestTimes_6_0 k_o27 k_o28 k_o29 k_o30 k_o31 k_tl1f_singers k_tl1f_dams k_tl1f_echoes k_tl1a_heights k_tl1a_ladders k_tl1a_echoFrom k_tl1a_echoTo k_tl1a_talls (iv_lta (l := 0) (h := 4) (r_nle c2) (iv_leb (l := 0) (h := 2147483647) (r_nlt c1) (iv_lit (l := 0) (h := 0) (by decide)) (iv_top x4) (by decide)) (iv_lit (l := 5) (h := 5) (by decide)) (by decide)) (fun r37 hr37 => ?_)
                            exact hpost _ _ _ _ _ _ _ _ _ hr37 k_o27 k_o28 k_o29 k_o30 k_o31
                        · skip
                          exact (iv_emp (iv_eqa (l := 1) (h := 0) c35 (iv_lit (l := 1) (h := 1) (by decide)) (iv_lit (l := 0) (h := 0) (by decide)) (by decide)) (by decide)).elim
                    · skip
                      refine ⟨fun c38 => ?_, fun c38 => ?_⟩
                      · skip
                        exact (iv_emp (iv_ne (l := 1) (h := 0) c38 (iv_lit (l := 0) (h := 0) (by decide)) (iv_lit (l := 0) (h := 0) (by decide)) (by decide)) (by decide)).elim
                      · skip
                        exact hpost _ _ _ _ _ _ _ _ _ (iv_w (iv_lit (l := (-1)) (h := (-1)) (by decide)) (by decide)) k_nf_begun k_nf_climbed k_na_huts k_na_known k_na_levels
                · skip
                  refine ⟨fun h => absurd h (by decide), fun _ => ?_, fun h0 h1 => absurd rfl h1⟩
                  refine ⟨fun c39 => ?_, fun c39 => ?_⟩
                  · skip
                    refine ⟨fun c40 => ?_, fun c40 => ?_⟩
                    · skip
                      exact (iv_emp (iv_ne (l := 1) (h := 0) c40 (iv_lit (l := 0) (h := 0) (by decide)) (iv_lit (l := 0) (h := 0) (by decide)) (by decide)) (by decide)).elim
                    · skip
                      exact hpost _ _ _ _ _ _ _ _ _ (iv_w (iv_lit (l := (-1)) (h := (-1)) (by decide)) (by decide)) k_nf_begun k_nf_climbed k_na_huts k_na_known k_na_levels
                  · skip
                    refine ⟨fun c41 => ?_, fun c41 => ?_⟩
                    · skip
                      refine s_wn_X3_play_6_15_0 k_nf_begun k_nf_climbed k_na_huts k_na_known k_na_levels k_tl0f_huts k_tl0f_singers k_tl0f_dams k_tl0f_echoes k_tl0f_deep k_tl0a_heights k_tl0a_ladders k_tl0a_minutes k_tl0a_echoFrom k_tl0a_echoTo k_tl0a_homes k_tl0a_talls k_tl0a_known k_tv1f_deeds k_tv1a_kinds k_tv1a_firsts k_tv1a_seconds (iv_lea (l := 0) (h := 40) (r_le c41) (iv_leb (l := 0) (h := 2147483647) (r_nlt c39) (iv_lit (l := 0) (h := 0) (by decide)) (iv_top x3) (by decide)) k_tv1f_deeds (by decide)) (fun r42 o43 o44 o45 o46 o47 o48 o49 o50 hr42 k_o45 k_o46 k_o47 k_o48 k_o49 => ?_)
                      refine ⟨fun c51 => ?_, fun c51 => ?_⟩
                      · skip
                        refine ⟨fun c52 => ?_, fun c52 => ?_⟩
                        · skip
                          exact (iv_emp (iv_ne (l := 1) (h := 0) c52 (iv_lit (l := 0) (h := 0) (by decide)) (iv_lit (l := 0) (h := 0) (by decide)) (by decide)) (by decide)).elim
                        · skip
                          exact hpost _ _ _ _ _ _ _ _ _ (iv_w (iv_lit (l := (-1)) (h := (-1)) (by decide)) (by decide)) k_o45 k_o46 k_o47 k_o48 k_o49
                      · skip
                        refine ⟨fun c53 => ?_, fun c53 => ?_⟩
                        · skip
                          refine ⟨iv_in (iv_lta (l := 0) (h := 1) (r_nle c10) (iv_leb (l := 0) (h := 2147483647) (r_nlt c3) (iv_lit (l := 0) (h := 0) (by decide)) (iv_top x1) (by decide)) (k_ta_counts _) (by decide)) (by decide), fun hc => ?_, fun hc => ?_⟩
                          · skip
                            refine s_wn_X3_fewestTimes_6_0 k_o45 k_o46 k_o47 k_o48 k_o49 k_tl0f_singers k_tl0f_dams k_tl0f_echoes k_tl0a_heights k_tl0a_ladders k_tl0a_echoFrom k_tl0a_echoTo k_tl0a_talls (iv_lta (l := 0) (h := 4) (r_nle c2) (iv_leb (l := 0) (h := 2147483647) (r_nlt c1) (iv_lit (l := 0) (h := 0) (by decide)) (iv_top x4) (by decide)) (iv_lit (l := 5) (h := 5) (by decide)) (by decide)) (fun r54 hr54 => ?_)
                            exact hpost _ _ _ _ _ _ _ _ _ hr54 k_o45 k_o46 k_o47 k_o48 k_o49
                          · skip
                            refine s_wn_X3_fewestTimes_6_0 k_o45 k_o46 k_o47 k_o48 k_o49 k_tl1f_singers k_tl1f_dams k_tl1f_echoes k_tl1a_heights k_tl1a_ladders k_tl1a_echoFrom k_tl1a_echoTo k_tl1a_talls (iv_lta (l := 0) (h := 4) (r_nle c2) (iv_leb (l := 0) (h := 2147483647) (r_nlt c1) (iv_lit (l := 0) (h := 0) (by decide)) (iv_top x4) (by decide)) (iv_lit (l := 5) (h := 5) (by decide)) (by decide)) (fun r55 hr55 => ?_)
                            exact hpost _ _ _ _ _ _ _ _ _ hr55 k_o45 k_o46 k_o47 k_o48 k_o49
                        · skip
                          exact (iv_emp (iv_eqa (l := 1) (h := 0) c53 (iv_lit (l := 1) (h := 1) (by decide)) (iv_lit (l := 0) (h := 0) (by decide)) (by decide)) (by decide)).elim
                    · skip
                      refine ⟨fun c56 => ?_, fun c56 => ?_⟩
                      · skip
                        exact (iv_emp (iv_ne (l := 1) (h := 0) c56 (iv_lit (l := 0) (h := 0) (by decide)) (iv_lit (l := 0) (h := 0) (by decide)) (by decide)) (by decide)).elim
                      · skip
                        exact hpost _ _ _ _ _ _ _ _ _ (iv_w (iv_lit (l := (-1)) (h := (-1)) (by decide)) (by decide)) k_nf_begun k_nf_climbed k_na_huts k_na_known k_na_levels
          · skip
            refine ⟨fun h => absurd h (by decide), fun _ => ?_, fun h0 h1 => absurd rfl h1⟩
            refine ⟨fun c57 => ?_, fun c57 => ?_⟩
            · skip
              refine ⟨fun _ => ?_, fun h => absurd h (by decide), fun h0 h1 => absurd rfl h0⟩
              refine ⟨fun c58 => ?_, fun c58 => ?_⟩
              · skip
                exact (iv_emp (iv_ne (l := 1) (h := 0) c58 (iv_lit (l := 0) (h := 0) (by decide)) (iv_lit (l := 0) (h := 0) (by decide)) (by decide)) (by decide)).elim
              · skip
                exact hpost _ _ _ _ _ _ _ _ _ (iv_w (iv_lit (l := (-1)) (h := (-1)) (by decide)) (by decide)) k_nf_begun k_nf_climbed k_na_huts k_na_known k_na_levels
            · skip
              refine ⟨fun c59 => ?_, fun c59 => ?_⟩
              · skip
                refine ⟨fun _ => ?_, fun h => absurd h (by decide), fun h0 h1 => absurd rfl h0⟩
                refine ⟨fun c60 => ?_, fun c60 => ?_⟩
                · skip
                  exact (iv_emp (iv_ne (l := 1) (h := 0) c60 (iv_lit (l := 0) (h := 0) (by decide)) (iv_lit (l := 0) (h := 0) (by decide)) (by decide)) (by decide)).elim
                · skip
                  exact hpost _ _ _ _ _ _ _ _ _ (iv_w (iv_lit (l := (-1)) (h := (-1)) (by decide)) (by decide)) k_nf_begun k_nf_climbed k_na_huts k_na_known k_na_levels
              · skip
                refine ⟨iv_in (iv_lta (l := 0) (h := 1) (r_nle c59) (iv_leb (l := 0) (h := 2147483647) (r_nlt c57) (iv_lit (l := 0) (h := 0) (by decide)) (iv_top x2) (by decide)) (k_ta_counts _) (by decide)) (by decide), fun hc => ?_, fun hc => ?_⟩
                · skip
                  refine ⟨fun h => absurd h (by decide), fun h => absurd h (by decide), fun h0 h1 => ?_⟩
                  refine ⟨fun c61 => ?_, fun c61 => ?_⟩
                  · skip
                    refine ⟨fun c62 => ?_, fun c62 => ?_⟩
                    · skip
                      exact (iv_emp (iv_ne (l := 1) (h := 0) c62 (iv_lit (l := 0) (h := 0) (by decide)) (iv_lit (l := 0) (h := 0) (by decide)) (by decide)) (by decide)).elim
                    · skip
                      exact hpost _ _ _ _ _ _ _ _ _ (iv_w (iv_lit (l := (-1)) (h := (-1)) (by decide)) (by decide)) k_nf_begun k_nf_climbed k_na_huts k_na_known k_na_levels
                  · skip
                    refine ⟨fun c63 => ?_, fun c63 => ?_⟩
                    · skip
                      refine s_wn_X3_play_6_15_0 k_nf_begun k_nf_climbed k_na_huts k_na_known k_na_levels k_tl1f_huts k_tl1f_singers k_tl1f_dams k_tl1f_echoes k_tl1f_deep k_tl1a_heights k_tl1a_ladders k_tl1a_minutes k_tl1a_echoFrom k_tl1a_echoTo k_tl1a_homes k_tl1a_talls k_tl1a_known k_tv0f_deeds k_tv0a_kinds k_tv0a_firsts k_tv0a_seconds (iv_lea (l := 0) (h := 40) (r_le c63) (iv_leb (l := 0) (h := 2147483647) (r_nlt c61) (iv_lit (l := 0) (h := 0) (by decide)) (iv_top x3) (by decide)) k_tv0f_deeds (by decide)) (fun r64 o65 o66 o67 o68 o69 o70 o71 o72 hr64 k_o67 k_o68 k_o69 k_o70 k_o71 => ?_)
                      refine ⟨fun c73 => ?_, fun c73 => ?_⟩
                      · skip
                        refine ⟨fun c74 => ?_, fun c74 => ?_⟩
                        · skip
                          exact (iv_emp (iv_ne (l := 1) (h := 0) c74 (iv_lit (l := 0) (h := 0) (by decide)) (iv_lit (l := 0) (h := 0) (by decide)) (by decide)) (by decide)).elim
                        · skip
                          exact hpost _ _ _ _ _ _ _ _ _ (iv_w (iv_lit (l := (-1)) (h := (-1)) (by decide)) (by decide)) k_o67 k_o68 k_o69 k_o70 k_o71
                      · skip
                        refine ⟨fun c75 => ?_, fun c75 => ?_⟩
                        · skip
                          refine ⟨iv_in (iv_lta (l := 0) (h := 1) (r_nle c10) (iv_leb (l := 0) (h := 2147483647) (r_nlt c3) (iv_lit (l := 0) (h := 0) (by decide)) (iv_top x1) (by decide)) (k_ta_counts _) (by decide)) (by decide), fun hc => ?_, fun hc => ?_⟩
                          · skip
                            refine s_wn_X3_fewestTimes_6_0 k_o67 k_o68 k_o69 k_o70 k_o71 k_tl0f_singers k_tl0f_dams k_tl0f_echoes k_tl0a_heights k_tl0a_ladders k_tl0a_echoFrom k_tl0a_echoTo k_tl0a_talls (iv_lta (l := 0) (h := 4) (r_nle c2) (iv_leb (l := 0) (h := 2147483647) (r_nlt c1) (iv_lit (l := 0) (h := 0) (by decide)) (iv_top x4) (by decide)) (iv_lit (l := 5) (h := 5) (by decide)) (by decide)) (fun r76 hr76 => ?_)
                            exact hpost _ _ _ _ _ _ _ _ _ hr76 k_o67 k_o68 k_o69 k_o70 k_o71
                          · skip
                            refine s_wn_X3_fewestTimes_6_0 k_o67 k_o68 k_o69 k_o70 k_o71 k_tl1f_singers k_tl1f_dams k_tl1f_echoes k_tl1a_heights k_tl1a_ladders k_tl1a_echoFrom k_tl1a_echoTo k_tl1a_talls (iv_lta (l := 0) (h := 4) (r_nle c2) (iv_leb (l := 0) (h := 2147483647) (r_nlt c1) (iv_lit (l := 0) (h := 0) (by decide)) (iv_top x4) (by decide)) (iv_lit (l := 5) (h := 5) (by decide)) (by decide)) (fun r77 hr77 => ?_)
                            exact hpost _ _ _ _ _ _ _ _ _ hr77 k_o67 k_o68 k_o69 k_o70 k_o71
                        · skip
                          exact (iv_emp (iv_eqa (l := 1) (h := 0) c75 (iv_lit (l := 1) (h := 1) (by decide)) (iv_lit (l := 0) (h := 0) (by decide)) (by decide)) (by decide)).elim
                    · skip
                      refine ⟨fun c78 => ?_, fun c78 => ?_⟩
                      · skip
                        exact (iv_emp (iv_ne (l := 1) (h := 0) c78 (iv_lit (l := 0) (h := 0) (by decide)) (iv_lit (l := 0) (h := 0) (by decide)) (by decide)) (by decide)).elim
                      · skip
                        exact hpost _ _ _ _ _ _ _ _ _ (iv_w (iv_lit (l := (-1)) (h := (-1)) (by decide)) (by decide)) k_nf_begun k_nf_climbed k_na_huts k_na_known k_na_levels
                · skip
                  refine ⟨fun h => absurd h (by decide), fun _ => ?_, fun h0 h1 => absurd rfl h1⟩
                  refine ⟨fun c79 => ?_, fun c79 => ?_⟩
                  · skip
                    refine ⟨fun c80 => ?_, fun c80 => ?_⟩
                    · skip
                      exact (iv_emp (iv_ne (l := 1) (h := 0) c80 (iv_lit (l := 0) (h := 0) (by decide)) (iv_lit (l := 0) (h := 0) (by decide)) (by decide)) (by decide)).elim
                    · skip
                      exact hpost _ _ _ _ _ _ _ _ _ (iv_w (iv_lit (l := (-1)) (h := (-1)) (by decide)) (by decide)) k_nf_begun k_nf_climbed k_na_huts k_na_known k_na_levels
                  · skip
                    refine ⟨fun c81 => ?_, fun c81 => ?_⟩
                    · skip
                      refine s_wn_X3_play_6_15_0 k_nf_begun k_nf_climbed k_na_huts k_na_known k_na_levels k_tl1f_huts k_tl1f_singers k_tl1f_dams k_tl1f_echoes k_tl1f_deep k_tl1a_heights k_tl1a_ladders k_tl1a_minutes k_tl1a_echoFrom k_tl1a_echoTo k_tl1a_homes k_tl1a_talls k_tl1a_known k_tv1f_deeds k_tv1a_kinds k_tv1a_firsts k_tv1a_seconds (iv_lea (l := 0) (h := 40) (r_le c81) (iv_leb (l := 0) (h := 2147483647) (r_nlt c79) (iv_lit (l := 0) (h := 0) (by decide)) (iv_top x3) (by decide)) k_tv1f_deeds (by decide)) (fun r82 o83 o84 o85 o86 o87 o88 o89 o90 hr82 k_o85 k_o86 k_o87 k_o88 k_o89 => ?_)
                      refine ⟨fun c91 => ?_, fun c91 => ?_⟩
                      · skip
                        refine ⟨fun c92 => ?_, fun c92 => ?_⟩
                        · skip
                          exact (iv_emp (iv_ne (l := 1) (h := 0) c92 (iv_lit (l := 0) (h := 0) (by decide)) (iv_lit (l := 0) (h := 0) (by decide)) (by decide)) (by decide)).elim
                        · skip
                          exact hpost _ _ _ _ _ _ _ _ _ (iv_w (iv_lit (l := (-1)) (h := (-1)) (by decide)) (by decide)) k_o85 k_o86 k_o87 k_o88 k_o89
                      · skip
                        refine ⟨fun c93 => ?_, fun c93 => ?_⟩
                        · skip
                          refine ⟨iv_in (iv_lta (l := 0) (h := 1) (r_nle c10) (iv_leb (l := 0) (h := 2147483647) (r_nlt c3) (iv_lit (l := 0) (h := 0) (by decide)) (iv_top x1) (by decide)) (k_ta_counts _) (by decide)) (by decide), fun hc => ?_, fun hc => ?_⟩
                          · skip
                            refine s_wn_X3_fewestTimes_6_0 k_o85 k_o86 k_o87 k_o88 k_o89 k_tl0f_singers k_tl0f_dams k_tl0f_echoes k_tl0a_heights k_tl0a_ladders k_tl0a_echoFrom k_tl0a_echoTo k_tl0a_talls (iv_lta (l := 0) (h := 4) (r_nle c2) (iv_leb (l := 0) (h := 2147483647) (r_nlt c1) (iv_lit (l := 0) (h := 0) (by decide)) (iv_top x4) (by decide)) (iv_lit (l := 5) (h := 5) (by decide)) (by decide)) (fun r94 hr94 => ?_)
                            exact hpost _ _ _ _ _ _ _ _ _ hr94 k_o85 k_o86 k_o87 k_o88 k_o89
                          · skip
                            refine s_wn_X3_fewestTimes_6_0 k_o85 k_o86 k_o87 k_o88 k_o89 k_tl1f_singers k_tl1f_dams k_tl1f_echoes k_tl1a_heights k_tl1a_ladders k_tl1a_echoFrom k_tl1a_echoTo k_tl1a_talls (iv_lta (l := 0) (h := 4) (r_nle c2) (iv_leb (l := 0) (h := 2147483647) (r_nlt c1) (iv_lit (l := 0) (h := 0) (by decide)) (iv_top x4) (by decide)) (iv_lit (l := 5) (h := 5) (by decide)) (by decide)) (fun r95 hr95 => ?_)
                            exact hpost _ _ _ _ _ _ _ _ _ hr95 k_o85 k_o86 k_o87 k_o88 k_o89
                        · skip
                          exact (iv_emp (iv_eqa (l := 1) (h := 0) c93 (iv_lit (l := 1) (h := 1) (by decide)) (iv_lit (l := 0) (h := 0) (by decide)) (by decide)) (by decide)).elim
                    · skip
                      refine ⟨fun c96 => ?_, fun c96 => ?_⟩
                      · skip
                        exact (iv_emp (iv_ne (l := 1) (h := 0) c96 (iv_lit (l := 0) (h := 0) (by decide)) (iv_lit (l := 0) (h := 0) (by decide)) (by decide)) (by decide)).elim
                      · skip
                        exact hpost _ _ _ _ _ _ _ _ _ (iv_w (iv_lit (l := (-1)) (h := (-1)) (by decide)) (by decide)) k_nf_begun k_nf_climbed k_na_huts k_na_known k_na_levels
-- wx_X10_count
set_option maxRecDepth 20000 in
theorem s_wx_X10_count_9 {ta_counts : Nat → Int32} {post : Int32 → Prop} (k_ta_counts : ∀ j, iv 0 2 (ta_counts j)) (hpost : ∀ (r : Int32), iv (-2) 2 r → post r) : q_wx_X10_count_9 ta_counts post := by
  exact hpost _ (iv_w (iv_lit (l := (-2)) (h := (-2)) (by decide)) (by decide))
set_option maxRecDepth 20000 in
theorem s_wx_X10_count_0 {ta_counts : Nat → Int32} {x1 : Int32} {post : Int32 → Prop} (k_ta_counts : ∀ j, iv 0 2 (ta_counts j)) (hpost : ∀ (r : Int32), iv (-2) 2 r → post r) : q_wx_X10_count_0 ta_counts x1 post := by
  refine ⟨fun c1 => ?_, fun c1 => ?_⟩
  · skip
    exact s_wx_X10_count_9 k_ta_counts hpost
  · skip
    refine ⟨fun c2 => ?_, fun c2 => ?_⟩
    · skip
      refine ⟨iv_in (iv_lta (l := 0) (h := 3) (r_lt c2) (iv_leb (l := 0) (h := 2147483647) (r_nlt c1) (iv_lit (l := 0) (h := 0) (by decide)) (iv_top x1) (by decide)) (iv_lit (l := 4) (h := 4) (by decide)) (by decide)) (by decide), ?_⟩
      exact hpost _ (iv_w (k_ta_counts _) (by decide))
    · skip
      exact s_wx_X10_count_9 k_ta_counts hpost
-- wtt_X9_copyFrom_47
set_option maxRecDepth 20000 in
theorem s_wtt_X9_copyFrom_47_57 {a_tape : Nat → Int32} {f_length : Int32} {f_fault : Int32} {f_place : Int32} {a_counts : Nat → Int32} {l0f_huts : Int32} {l0f_singers : Int32} {l0f_villages : Int32} {l0f_dams : Int32} {l0f_echoes : Int32} {l0f_deep : Int32} {l0f_slide : Int32} {l0a_heights : Nat → Int32} {l0a_ladders : Nat → Int32} {l0a_minutes : Nat → Int32} {l0a_echoFrom : Nat → Int32} {l0a_echoTo : Nat → Int32} {l0a_homes : Nat → Int32} {l0a_talls : Nat → Int32} {l0a_known : Nat → Int32} {l1f_huts : Int32} {l1f_singers : Int32} {l1f_villages : Int32} {l1f_dams : Int32} {l1f_echoes : Int32} {l1f_deep : Int32} {l1f_slide : Int32} {l1a_heights : Nat → Int32} {l1a_ladders : Nat → Int32} {l1a_minutes : Nat → Int32} {l1a_echoFrom : Nat → Int32} {l1a_echoTo : Nat → Int32} {l1a_homes : Nat → Int32} {l1a_talls : Nat → Int32} {l1a_known : Nat → Int32} {v0f_deeds : Int32} {v0a_kinds : Nat → Int32} {v0a_firsts : Nat → Int32} {v0a_seconds : Nat → Int32} {v1f_deeds : Int32} {v1a_kinds : Nat → Int32} {v1a_firsts : Nat → Int32} {v1a_seconds : Nat → Int32} {s0f_facts : Int32} {s0a_heard : Nat → Int32} {s0a_huts : Nat → Int32} {s0a_minutes : Nat → Int32} {s1f_facts : Int32} {s1a_heard : Nat → Int32} {s1a_huts : Nat → Int32} {s1a_minutes : Nat → Int32} {c0f_voices : Int32} {c0f_step : Int32} {c0a_parts : Nat → Int32} {c0a_heights : Nat → Int32} {c1f_voices : Int32} {c1f_step : Int32} {c1a_parts : Nat → Int32} {c1a_heights : Nat → Int32} {oa_tape : Nat → Int32} {of_length : Int32} {of_fault : Int32} {of_place : Int32} {oa_counts : Nat → Int32} {ol0f_huts : Int32} {ol0f_singers : Int32} {ol0f_villages : Int32} {ol0f_dams : Int32} {ol0f_echoes : Int32} {ol0f_deep : Int32} {ol0f_slide : Int32} {ol0a_heights : Nat → Int32} {ol0a_ladders : Nat → Int32} {ol0a_minutes : Nat → Int32} {ol0a_echoFrom : Nat → Int32} {ol0a_echoTo : Nat → Int32} {ol0a_homes : Nat → Int32} {ol0a_talls : Nat → Int32} {ol0a_known : Nat → Int32} {ol1f_huts : Int32} {ol1f_singers : Int32} {ol1f_villages : Int32} {ol1f_dams : Int32} {ol1f_echoes : Int32} {ol1f_deep : Int32} {ol1f_slide : Int32} {ol1a_heights : Nat → Int32} {ol1a_ladders : Nat → Int32} {ol1a_minutes : Nat → Int32} {ol1a_echoFrom : Nat → Int32} {ol1a_echoTo : Nat → Int32} {ol1a_homes : Nat → Int32} {ol1a_talls : Nat → Int32} {ol1a_known : Nat → Int32} {ov0f_deeds : Int32} {ov0a_kinds : Nat → Int32} {ov0a_firsts : Nat → Int32} {ov0a_seconds : Nat → Int32} {ov1f_deeds : Int32} {ov1a_kinds : Nat → Int32} {ov1a_firsts : Nat → Int32} {ov1a_seconds : Nat → Int32} {os0f_facts : Int32} {os0a_heard : Nat → Int32} {os0a_huts : Nat → Int32} {os0a_minutes : Nat → Int32} {os1f_facts : Int32} {os1a_heard : Nat → Int32} {os1a_huts : Nat → Int32} {os1a_minutes : Nat → Int32} {oc0f_voices : Int32} {oc0f_step : Int32} {oc0a_parts : Nat → Int32} {oc0a_heights : Nat → Int32} {oc1f_voices : Int32} {oc1f_step : Int32} {oc1a_parts : Nat → Int32} {oc1a_heights : Nat → Int32} {x2 : Int32} {post : (Nat → Int32) → (Int32) → (Int32) → (Int32) → (Nat → Int32) → (Int32) → (Int32) → (Int32) → (Int32) → (Int32) → (Int32) → (Int32) → (Nat → Int32) → (Nat → Int32) → (Nat → Int32) → (Nat → Int32) → (Nat → Int32) → (Nat → Int32) → (Nat → Int32) → (Nat → Int32) → (Int32) → (Int32) → (Int32) → (Int32) → (Int32) → (Int32) → (Int32) → (Nat → Int32) → (Nat → Int32) → (Nat → Int32) → (Nat → Int32) → (Nat → Int32) → (Nat → Int32) → (Nat → Int32) → (Nat → Int32) → (Int32) → (Nat → Int32) → (Nat → Int32) → (Nat → Int32) → (Int32) → (Nat → Int32) → (Nat → Int32) → (Nat → Int32) → (Int32) → (Nat → Int32) → (Nat → Int32) → (Nat → Int32) → (Int32) → (Nat → Int32) → (Nat → Int32) → (Nat → Int32) → (Int32) → (Int32) → (Nat → Int32) → (Nat → Int32) → (Int32) → (Int32) → (Nat → Int32) → (Nat → Int32) → Prop} (k_a_tape : ∀ j, iv (-128) 127 (a_tape j)) (k_f_length : iv 0 600 f_length) (k_f_fault : iv 0 4 f_fault) (k_f_place : iv (-1) 600 f_place) (k_a_counts : ∀ j, iv 0 2 (a_counts j)) (k_l0f_huts : iv 0 9 l0f_huts) (k_l0f_singers : iv 0 6 l0f_singers) (k_l0f_villages : iv 0 511 l0f_villages) (k_l0f_dams : iv 0 511 l0f_dams) (k_l0f_echoes : iv 0 4 l0f_echoes) (k_l0f_deep : iv 1 9 l0f_deep) (k_l0f_slide : iv 0 10 l0f_slide) (k_l0a_heights : ∀ j, iv 0 99 (l0a_heights j)) (k_l0a_ladders : ∀ j, iv 0 9 (l0a_ladders j)) (k_l0a_minutes : ∀ j, iv 0 9 (l0a_minutes j)) (k_l0a_echoFrom : ∀ j, iv 0 8 (l0a_echoFrom j)) (k_l0a_echoTo : ∀ j, iv 0 8 (l0a_echoTo j)) (k_l0a_homes : ∀ j, iv 0 8 (l0a_homes j)) (k_l0a_talls : ∀ j, iv 0 9 (l0a_talls j)) (k_l0a_known : ∀ j, iv 0 31 (l0a_known j)) (k_l1f_huts : iv 0 9 l1f_huts) (k_l1f_singers : iv 0 6 l1f_singers) (k_l1f_villages : iv 0 511 l1f_villages) (k_l1f_dams : iv 0 511 l1f_dams) (k_l1f_echoes : iv 0 4 l1f_echoes) (k_l1f_deep : iv 1 9 l1f_deep) (k_l1f_slide : iv 0 10 l1f_slide) (k_l1a_heights : ∀ j, iv 0 99 (l1a_heights j)) (k_l1a_ladders : ∀ j, iv 0 9 (l1a_ladders j)) (k_l1a_minutes : ∀ j, iv 0 9 (l1a_minutes j)) (k_l1a_echoFrom : ∀ j, iv 0 8 (l1a_echoFrom j)) (k_l1a_echoTo : ∀ j, iv 0 8 (l1a_echoTo j)) (k_l1a_homes : ∀ j, iv 0 8 (l1a_homes j)) (k_l1a_talls : ∀ j, iv 0 9 (l1a_talls j)) (k_l1a_known : ∀ j, iv 0 31 (l1a_known j)) (k_v0f_deeds : iv 0 40 v0f_deeds) (k_v0a_kinds : ∀ j, iv 0 5 (v0a_kinds j)) (k_v0a_firsts : ∀ j, iv 0 5 (v0a_firsts j)) (k_v0a_seconds : ∀ j, iv (-1) 8 (v0a_seconds j)) (k_v1f_deeds : iv 0 40 v1f_deeds) (k_v1a_kinds : ∀ j, iv 0 5 (v1a_kinds j)) (k_v1a_firsts : ∀ j, iv 0 5 (v1a_firsts j)) (k_v1a_seconds : ∀ j, iv (-1) 8 (v1a_seconds j)) (k_s0f_facts : iv 0 10 s0f_facts) (k_s0a_heard : ∀ j, iv 0 1 (s0a_heard j)) (k_s0a_huts : ∀ j, iv 0 8 (s0a_huts j)) (k_s0a_minutes : ∀ j, iv 0 60 (s0a_minutes j)) (k_s1f_facts : iv 0 10 s1f_facts) (k_s1a_heard : ∀ j, iv 0 1 (s1a_heard j)) (k_s1a_huts : ∀ j, iv 0 8 (s1a_huts j)) (k_s1a_minutes : ∀ j, iv 0 60 (s1a_minutes j)) (k_c0f_voices : iv 0 9 c0f_voices) (k_c0f_step : iv 0 9 c0f_step) (k_c0a_parts : ∀ j, iv 0 3 (c0a_parts j)) (k_c0a_heights : ∀ j, iv 0 9 (c0a_heights j)) (k_c1f_voices : iv 0 9 c1f_voices) (k_c1f_step : iv 0 9 c1f_step) (k_c1a_parts : ∀ j, iv 0 3 (c1a_parts j)) (k_c1a_heights : ∀ j, iv 0 9 (c1a_heights j)) (k_oa_tape : ∀ j, iv (-128) 127 (oa_tape j)) (k_of_length : iv 0 600 of_length) (k_of_fault : iv 0 4 of_fault) (k_of_place : iv (-1) 600 of_place) (k_oa_counts : ∀ j, iv 0 2 (oa_counts j)) (k_ol0f_huts : iv 0 9 ol0f_huts) (k_ol0f_singers : iv 0 6 ol0f_singers) (k_ol0f_villages : iv 0 511 ol0f_villages) (k_ol0f_dams : iv 0 511 ol0f_dams) (k_ol0f_echoes : iv 0 4 ol0f_echoes) (k_ol0f_deep : iv 1 9 ol0f_deep) (k_ol0f_slide : iv 0 10 ol0f_slide) (k_ol0a_heights : ∀ j, iv 0 99 (ol0a_heights j)) (k_ol0a_ladders : ∀ j, iv 0 9 (ol0a_ladders j)) (k_ol0a_minutes : ∀ j, iv 0 9 (ol0a_minutes j)) (k_ol0a_echoFrom : ∀ j, iv 0 8 (ol0a_echoFrom j)) (k_ol0a_echoTo : ∀ j, iv 0 8 (ol0a_echoTo j)) (k_ol0a_homes : ∀ j, iv 0 8 (ol0a_homes j)) (k_ol0a_talls : ∀ j, iv 0 9 (ol0a_talls j)) (k_ol0a_known : ∀ j, iv 0 31 (ol0a_known j)) (k_ol1f_huts : iv 0 9 ol1f_huts) (k_ol1f_singers : iv 0 6 ol1f_singers) (k_ol1f_villages : iv 0 511 ol1f_villages) (k_ol1f_dams : iv 0 511 ol1f_dams) (k_ol1f_echoes : iv 0 4 ol1f_echoes) (k_ol1f_deep : iv 1 9 ol1f_deep) (k_ol1f_slide : iv 0 10 ol1f_slide) (k_ol1a_heights : ∀ j, iv 0 99 (ol1a_heights j)) (k_ol1a_ladders : ∀ j, iv 0 9 (ol1a_ladders j)) (k_ol1a_minutes : ∀ j, iv 0 9 (ol1a_minutes j)) (k_ol1a_echoFrom : ∀ j, iv 0 8 (ol1a_echoFrom j)) (k_ol1a_echoTo : ∀ j, iv 0 8 (ol1a_echoTo j)) (k_ol1a_homes : ∀ j, iv 0 8 (ol1a_homes j)) (k_ol1a_talls : ∀ j, iv 0 9 (ol1a_talls j)) (k_ol1a_known : ∀ j, iv 0 31 (ol1a_known j)) (k_ov0f_deeds : iv 0 40 ov0f_deeds) (k_ov0a_kinds : ∀ j, iv 0 5 (ov0a_kinds j)) (k_ov0a_firsts : ∀ j, iv 0 5 (ov0a_firsts j)) (k_ov0a_seconds : ∀ j, iv (-1) 8 (ov0a_seconds j)) (k_ov1f_deeds : iv 0 40 ov1f_deeds) (k_ov1a_kinds : ∀ j, iv 0 5 (ov1a_kinds j)) (k_ov1a_firsts : ∀ j, iv 0 5 (ov1a_firsts j)) (k_ov1a_seconds : ∀ j, iv (-1) 8 (ov1a_seconds j)) (k_os0f_facts : iv 0 10 os0f_facts) (k_os0a_heard : ∀ j, iv 0 1 (os0a_heard j)) (k_os0a_huts : ∀ j, iv 0 8 (os0a_huts j)) (k_os0a_minutes : ∀ j, iv 0 60 (os0a_minutes j)) (k_os1f_facts : iv 0 10 os1f_facts) (k_os1a_heard : ∀ j, iv 0 1 (os1a_heard j)) (k_os1a_huts : ∀ j, iv 0 8 (os1a_huts j)) (k_os1a_minutes : ∀ j, iv 0 60 (os1a_minutes j)) (k_oc0f_voices : iv 0 9 oc0f_voices) (k_oc0f_step : iv 0 9 oc0f_step) (k_oc0a_parts : ∀ j, iv 0 3 (oc0a_parts j)) (k_oc0a_heights : ∀ j, iv 0 9 (oc0a_heights j)) (k_oc1f_voices : iv 0 9 oc1f_voices) (k_oc1f_step : iv 0 9 oc1f_step) (k_oc1a_parts : ∀ j, iv 0 3 (oc1a_parts j)) (k_oc1a_heights : ∀ j, iv 0 9 (oc1a_heights j)) (hx2 : iv 0 2 x2) (hpost : ∀ (a_tape : Nat → Int32) (f_length : Int32) (f_fault : Int32) (f_place : Int32) (a_counts : Nat → Int32) (l0f_huts : Int32) (l0f_singers : Int32) (l0f_villages : Int32) (l0f_dams : Int32) (l0f_echoes : Int32) (l0f_deep : Int32) (l0f_slide : Int32) (l0a_heights : Nat → Int32) (l0a_ladders : Nat → Int32) (l0a_minutes : Nat → Int32) (l0a_echoFrom : Nat → Int32) (l0a_echoTo : Nat → Int32) (l0a_homes : Nat → Int32) (l0a_talls : Nat → Int32) (l0a_known : Nat → Int32) (l1f_huts : Int32) (l1f_singers : Int32) (l1f_villages : Int32) (l1f_dams : Int32) (l1f_echoes : Int32) (l1f_deep : Int32) (l1f_slide : Int32) (l1a_heights : Nat → Int32) (l1a_ladders : Nat → Int32) (l1a_minutes : Nat → Int32) (l1a_echoFrom : Nat → Int32) (l1a_echoTo : Nat → Int32) (l1a_homes : Nat → Int32) (l1a_talls : Nat → Int32) (l1a_known : Nat → Int32) (v0f_deeds : Int32) (v0a_kinds : Nat → Int32) (v0a_firsts : Nat → Int32) (v0a_seconds : Nat → Int32) (v1f_deeds : Int32) (v1a_kinds : Nat → Int32) (v1a_firsts : Nat → Int32) (v1a_seconds : Nat → Int32) (s0f_facts : Int32) (s0a_heard : Nat → Int32) (s0a_huts : Nat → Int32) (s0a_minutes : Nat → Int32) (s1f_facts : Int32) (s1a_heard : Nat → Int32) (s1a_huts : Nat → Int32) (s1a_minutes : Nat → Int32) (c0f_voices : Int32) (c0f_step : Int32) (c0a_parts : Nat → Int32) (c0a_heights : Nat → Int32) (c1f_voices : Int32) (c1f_step : Int32) (c1a_parts : Nat → Int32) (c1a_heights : Nat → Int32), (∀ j, iv (-128) 127 (a_tape j)) → (iv 0 600 f_length) → (iv 0 4 f_fault) → (iv (-1) 600 f_place) → (∀ j, iv 0 2 (a_counts j)) → (iv 0 9 l0f_huts) → (iv 0 6 l0f_singers) → (iv 0 511 l0f_villages) → (iv 0 511 l0f_dams) → (iv 0 4 l0f_echoes) → (iv 1 9 l0f_deep) → (iv 0 10 l0f_slide) → (∀ j, iv 0 99 (l0a_heights j)) → (∀ j, iv 0 9 (l0a_ladders j)) → (∀ j, iv 0 9 (l0a_minutes j)) → (∀ j, iv 0 8 (l0a_echoFrom j)) → (∀ j, iv 0 8 (l0a_echoTo j)) → (∀ j, iv 0 8 (l0a_homes j)) → (∀ j, iv 0 9 (l0a_talls j)) → (∀ j, iv 0 31 (l0a_known j)) → (iv 0 9 l1f_huts) → (iv 0 6 l1f_singers) → (iv 0 511 l1f_villages) → (iv 0 511 l1f_dams) → (iv 0 4 l1f_echoes) → (iv 1 9 l1f_deep) → (iv 0 10 l1f_slide) → (∀ j, iv 0 99 (l1a_heights j)) → (∀ j, iv 0 9 (l1a_ladders j)) → (∀ j, iv 0 9 (l1a_minutes j)) → (∀ j, iv 0 8 (l1a_echoFrom j)) → (∀ j, iv 0 8 (l1a_echoTo j)) → (∀ j, iv 0 8 (l1a_homes j)) → (∀ j, iv 0 9 (l1a_talls j)) → (∀ j, iv 0 31 (l1a_known j)) → (iv 0 40 v0f_deeds) → (∀ j, iv 0 5 (v0a_kinds j)) → (∀ j, iv 0 5 (v0a_firsts j)) → (∀ j, iv (-1) 8 (v0a_seconds j)) → (iv 0 40 v1f_deeds) → (∀ j, iv 0 5 (v1a_kinds j)) → (∀ j, iv 0 5 (v1a_firsts j)) → (∀ j, iv (-1) 8 (v1a_seconds j)) → (iv 0 10 s0f_facts) → (∀ j, iv 0 1 (s0a_heard j)) → (∀ j, iv 0 8 (s0a_huts j)) → (∀ j, iv 0 60 (s0a_minutes j)) → (iv 0 10 s1f_facts) → (∀ j, iv 0 1 (s1a_heard j)) → (∀ j, iv 0 8 (s1a_huts j)) → (∀ j, iv 0 60 (s1a_minutes j)) → (iv 0 9 c0f_voices) → (iv 0 9 c0f_step) → (∀ j, iv 0 3 (c0a_parts j)) → (∀ j, iv 0 9 (c0a_heights j)) → (iv 0 9 c1f_voices) → (iv 0 9 c1f_step) → (∀ j, iv 0 3 (c1a_parts j)) → (∀ j, iv 0 9 (c1a_heights j)) → post a_tape f_length f_fault f_place a_counts l0f_huts l0f_singers l0f_villages l0f_dams l0f_echoes l0f_deep l0f_slide l0a_heights l0a_ladders l0a_minutes l0a_echoFrom l0a_echoTo l0a_homes l0a_talls l0a_known l1f_huts l1f_singers l1f_villages l1f_dams l1f_echoes l1f_deep l1f_slide l1a_heights l1a_ladders l1a_minutes l1a_echoFrom l1a_echoTo l1a_homes l1a_talls l1a_known v0f_deeds v0a_kinds v0a_firsts v0a_seconds v1f_deeds v1a_kinds v1a_firsts v1a_seconds s0f_facts s0a_heard s0a_huts s0a_minutes s1f_facts s1a_heard s1a_huts s1a_minutes c0f_voices c0f_step c0a_parts c0a_heights c1f_voices c1f_step c1a_parts c1a_heights) : q_wtt_X9_copyFrom_47_57 a_tape f_length f_fault f_place a_counts l0f_huts l0f_singers l0f_villages l0f_dams l0f_echoes l0f_deep l0f_slide l0a_heights l0a_ladders l0a_minutes l0a_echoFrom l0a_echoTo l0a_homes l0a_talls l0a_known l1f_huts l1f_singers l1f_villages l1f_dams l1f_echoes l1f_deep l1f_slide l1a_heights l1a_ladders l1a_minutes l1a_echoFrom l1a_echoTo l1a_homes l1a_talls l1a_known v0f_deeds v0a_kinds v0a_firsts v0a_seconds v1f_deeds v1a_kinds v1a_firsts v1a_seconds s0f_facts s0a_heard s0a_huts s0a_minutes s1f_facts s1a_heard s1a_huts s1a_minutes c0f_voices c0f_step c0a_parts c0a_heights c1f_voices c1f_step c1a_parts c1a_heights oa_tape of_length of_fault of_place oa_counts ol0f_huts ol0f_singers ol0f_villages ol0f_dams ol0f_echoes ol0f_deep ol0f_slide ol0a_heights ol0a_ladders ol0a_minutes ol0a_echoFrom ol0a_echoTo ol0a_homes ol0a_talls ol0a_known ol1f_huts ol1f_singers ol1f_villages ol1f_dams ol1f_echoes ol1f_deep ol1f_slide ol1a_heights ol1a_ladders ol1a_minutes ol1a_echoFrom ol1a_echoTo ol1a_homes ol1a_talls ol1a_known ov0f_deeds ov0a_kinds ov0a_firsts ov0a_seconds ov1f_deeds ov1a_kinds ov1a_firsts ov1a_seconds os0f_facts os0a_heard os0a_huts os0a_minutes os1f_facts os1a_heard os1a_huts os1a_minutes oc0f_voices oc0f_step oc0a_parts oc0a_heights oc1f_voices oc1f_step oc1a_parts oc1a_heights x2 post := by
  intro P hP
  have loop : ∀ (n : Nat) (x2 : Int32) (l0f_huts : Int32) (l0f_singers : Int32) (l0f_villages : Int32) (l0f_dams : Int32) (l0f_echoes : Int32) (l0f_deep : Int32) (l0f_slide : Int32) (l0a_heights : Nat → Int32) (l0a_ladders : Nat → Int32) (l0a_minutes : Nat → Int32) (l0a_echoFrom : Nat → Int32) (l0a_echoTo : Nat → Int32) (l0a_homes : Nat → Int32) (l0a_talls : Nat → Int32) (l0a_known : Nat → Int32) (l1f_huts : Int32) (l1f_singers : Int32) (l1f_villages : Int32) (l1f_dams : Int32) (l1f_echoes : Int32) (l1f_deep : Int32) (l1f_slide : Int32) (l1a_heights : Nat → Int32) (l1a_ladders : Nat → Int32) (l1a_minutes : Nat → Int32) (l1a_echoFrom : Nat → Int32) (l1a_echoTo : Nat → Int32) (l1a_homes : Nat → Int32) (l1a_talls : Nat → Int32) (l1a_known : Nat → Int32) (v0f_deeds : Int32) (v0a_kinds : Nat → Int32) (v0a_firsts : Nat → Int32) (v0a_seconds : Nat → Int32) (v1f_deeds : Int32) (v1a_kinds : Nat → Int32) (v1a_firsts : Nat → Int32) (v1a_seconds : Nat → Int32) (s0f_facts : Int32) (s0a_heard : Nat → Int32) (s0a_huts : Nat → Int32) (s0a_minutes : Nat → Int32) (s1f_facts : Int32) (s1a_heard : Nat → Int32) (s1a_huts : Nat → Int32) (s1a_minutes : Nat → Int32) (c0f_voices : Int32) (c0f_step : Int32) (c0a_parts : Nat → Int32) (c0a_heights : Nat → Int32) (c1f_voices : Int32) (c1f_step : Int32) (c1a_parts : Nat → Int32) (c1a_heights : Nat → Int32), (2 - x2.toInt < (n : Int)) → (iv 0 2 x2) → (iv 0 9 l0f_huts) → (iv 0 6 l0f_singers) → (iv 0 511 l0f_villages) → (iv 0 511 l0f_dams) → (iv 0 4 l0f_echoes) → (iv 1 9 l0f_deep) → (iv 0 10 l0f_slide) → (∀ j, iv 0 99 (l0a_heights j)) → (∀ j, iv 0 9 (l0a_ladders j)) → (∀ j, iv 0 9 (l0a_minutes j)) → (∀ j, iv 0 8 (l0a_echoFrom j)) → (∀ j, iv 0 8 (l0a_echoTo j)) → (∀ j, iv 0 8 (l0a_homes j)) → (∀ j, iv 0 9 (l0a_talls j)) → (∀ j, iv 0 31 (l0a_known j)) → (iv 0 9 l1f_huts) → (iv 0 6 l1f_singers) → (iv 0 511 l1f_villages) → (iv 0 511 l1f_dams) → (iv 0 4 l1f_echoes) → (iv 1 9 l1f_deep) → (iv 0 10 l1f_slide) → (∀ j, iv 0 99 (l1a_heights j)) → (∀ j, iv 0 9 (l1a_ladders j)) → (∀ j, iv 0 9 (l1a_minutes j)) → (∀ j, iv 0 8 (l1a_echoFrom j)) → (∀ j, iv 0 8 (l1a_echoTo j)) → (∀ j, iv 0 8 (l1a_homes j)) → (∀ j, iv 0 9 (l1a_talls j)) → (∀ j, iv 0 31 (l1a_known j)) → (iv 0 40 v0f_deeds) → (∀ j, iv 0 5 (v0a_kinds j)) → (∀ j, iv 0 5 (v0a_firsts j)) → (∀ j, iv (-1) 8 (v0a_seconds j)) → (iv 0 40 v1f_deeds) → (∀ j, iv 0 5 (v1a_kinds j)) → (∀ j, iv 0 5 (v1a_firsts j)) → (∀ j, iv (-1) 8 (v1a_seconds j)) → (iv 0 10 s0f_facts) → (∀ j, iv 0 1 (s0a_heard j)) → (∀ j, iv 0 8 (s0a_huts j)) → (∀ j, iv 0 60 (s0a_minutes j)) → (iv 0 10 s1f_facts) → (∀ j, iv 0 1 (s1a_heard j)) → (∀ j, iv 0 8 (s1a_huts j)) → (∀ j, iv 0 60 (s1a_minutes j)) → (iv 0 9 c0f_voices) → (iv 0 9 c0f_step) → (∀ j, iv 0 3 (c0a_parts j)) → (∀ j, iv 0 9 (c0a_heights j)) → (iv 0 9 c1f_voices) → (iv 0 9 c1f_step) → (∀ j, iv 0 3 (c1a_parts j)) → (∀ j, iv 0 9 (c1a_heights j)) → P x2 l0f_huts l0f_singers l0f_villages l0f_dams l0f_echoes l0f_deep l0f_slide l0a_heights l0a_ladders l0a_minutes l0a_echoFrom l0a_echoTo l0a_homes l0a_talls l0a_known l1f_huts l1f_singers l1f_villages l1f_dams l1f_echoes l1f_deep l1f_slide l1a_heights l1a_ladders l1a_minutes l1a_echoFrom l1a_echoTo l1a_homes l1a_talls l1a_known v0f_deeds v0a_kinds v0a_firsts v0a_seconds v1f_deeds v1a_kinds v1a_firsts v1a_seconds s0f_facts s0a_heard s0a_huts s0a_minutes s1f_facts s1a_heard s1a_huts s1a_minutes c0f_voices c0f_step c0a_parts c0a_heights c1f_voices c1f_step c1a_parts c1a_heights := by
    intro n
    induction n with
    | zero => intro x2 l0f_huts l0f_singers l0f_villages l0f_dams l0f_echoes l0f_deep l0f_slide l0a_heights l0a_ladders l0a_minutes l0a_echoFrom l0a_echoTo l0a_homes l0a_talls l0a_known l1f_huts l1f_singers l1f_villages l1f_dams l1f_echoes l1f_deep l1f_slide l1a_heights l1a_ladders l1a_minutes l1a_echoFrom l1a_echoTo l1a_homes l1a_talls l1a_known v0f_deeds v0a_kinds v0a_firsts v0a_seconds v1f_deeds v1a_kinds v1a_firsts v1a_seconds s0f_facts s0a_heard s0a_huts s0a_minutes s1f_facts s1a_heard s1a_huts s1a_minutes c0f_voices c0f_step c0a_parts c0a_heights c1f_voices c1f_step c1a_parts c1a_heights hm hx2 k_l0f_huts k_l0f_singers k_l0f_villages k_l0f_dams k_l0f_echoes k_l0f_deep k_l0f_slide k_l0a_heights k_l0a_ladders k_l0a_minutes k_l0a_echoFrom k_l0a_echoTo k_l0a_homes k_l0a_talls k_l0a_known k_l1f_huts k_l1f_singers k_l1f_villages k_l1f_dams k_l1f_echoes k_l1f_deep k_l1f_slide k_l1a_heights k_l1a_ladders k_l1a_minutes k_l1a_echoFrom k_l1a_echoTo k_l1a_homes k_l1a_talls k_l1a_known k_v0f_deeds k_v0a_kinds k_v0a_firsts k_v0a_seconds k_v1f_deeds k_v1a_kinds k_v1a_firsts k_v1a_seconds k_s0f_facts k_s0a_heard k_s0a_huts k_s0a_minutes k_s1f_facts k_s1a_heard k_s1a_huts k_s1a_minutes k_c0f_voices k_c0f_step k_c0a_parts k_c0a_heights k_c1f_voices k_c1f_step k_c1a_parts k_c1a_heights; exact (ms0_up hm hx2).elim
    | succ n ih =>
      intro x2 l0f_huts l0f_singers l0f_villages l0f_dams l0f_echoes l0f_deep l0f_slide l0a_heights l0a_ladders l0a_minutes l0a_echoFrom l0a_echoTo l0a_homes l0a_talls l0a_known l1f_huts l1f_singers l1f_villages l1f_dams l1f_echoes l1f_deep l1f_slide l1a_heights l1a_ladders l1a_minutes l1a_echoFrom l1a_echoTo l1a_homes l1a_talls l1a_known v0f_deeds v0a_kinds v0a_firsts v0a_seconds v1f_deeds v1a_kinds v1a_firsts v1a_seconds s0f_facts s0a_heard s0a_huts s0a_minutes s1f_facts s1a_heard s1a_huts s1a_minutes c0f_voices c0f_step c0a_parts c0a_heights c1f_voices c1f_step c1a_parts c1a_heights hm hx2 k_l0f_huts k_l0f_singers k_l0f_villages k_l0f_dams k_l0f_echoes k_l0f_deep k_l0f_slide k_l0a_heights k_l0a_ladders k_l0a_minutes k_l0a_echoFrom k_l0a_echoTo k_l0a_homes k_l0a_talls k_l0a_known k_l1f_huts k_l1f_singers k_l1f_villages k_l1f_dams k_l1f_echoes k_l1f_deep k_l1f_slide k_l1a_heights k_l1a_ladders k_l1a_minutes k_l1a_echoFrom k_l1a_echoTo k_l1a_homes k_l1a_talls k_l1a_known k_v0f_deeds k_v0a_kinds k_v0a_firsts k_v0a_seconds k_v1f_deeds k_v1a_kinds k_v1a_firsts k_v1a_seconds k_s0f_facts k_s0a_heard k_s0a_huts k_s0a_minutes k_s1f_facts k_s1a_heard k_s1a_huts k_s1a_minutes k_c0f_voices k_c0f_step k_c0a_parts k_c0a_heights k_c1f_voices k_c1f_step k_c1a_parts k_c1a_heights
      apply hP
      refine ⟨fun c1 => ?_, fun c1 => ?_⟩
      · skip
        exact hpost _ _ _ _ _ _ _ _ _ _ _ _ _ _ _ _ _ _ _ _ _ _ _ _ _ _ _ _ _ _ _ _ _ _ _ _ _ _ _ _ _ _ _ _ _ _ _ _ _ _ _ _ _ _ _ _ _ _ _ k_a_tape k_f_length k_f_fault k_f_place k_a_counts k_l0f_huts k_l0f_singers k_l0f_villages k_l0f_dams k_l0f_echoes k_l0f_deep k_l0f_slide k_l0a_heights k_l0a_ladders k_l0a_minutes k_l0a_echoFrom k_l0a_echoTo k_l0a_homes k_l0a_talls k_l0a_known k_l1f_huts k_l1f_singers k_l1f_villages k_l1f_dams k_l1f_echoes k_l1f_deep k_l1f_slide k_l1a_heights k_l1a_ladders k_l1a_minutes k_l1a_echoFrom k_l1a_echoTo k_l1a_homes k_l1a_talls k_l1a_known k_v0f_deeds k_v0a_kinds k_v0a_firsts k_v0a_seconds k_v1f_deeds k_v1a_kinds k_v1a_firsts k_v1a_seconds k_s0f_facts k_s0a_heard k_s0a_huts k_s0a_minutes k_s1f_facts k_s1a_heard k_s1a_huts k_s1a_minutes k_c0f_voices k_c0f_step k_c0a_parts k_c0a_heights k_c1f_voices k_c1f_step k_c1a_parts k_c1a_heights
      · skip
        refine ⟨iv_in (iv_lta (l := 0) (h := 1) (r_nle c1) hx2 (iv_lit (l := 2) (h := 2) (by decide)) (by decide)) (by decide), fun hc => ?_, fun hc => ?_⟩
        · skip
          refine s_wll_X2_copyFrom_9_0 k_l0f_huts k_l0f_singers k_l0f_villages k_l0f_dams k_l0f_echoes k_l0f_deep k_l0f_slide k_l0a_heights k_l0a_ladders k_l0a_minutes k_l0a_echoFrom k_l0a_echoTo k_l0a_homes k_l0a_talls k_l0a_known k_ol0f_huts k_ol0f_singers k_ol0f_villages k_ol0f_dams k_ol0f_echoes k_ol0f_deep k_ol0f_slide k_ol0a_heights k_ol0a_ladders k_ol0a_minutes k_ol0a_echoFrom k_ol0a_echoTo k_ol0a_homes k_ol0a_talls k_ol0a_known (fun o2 o3 o4 o5 o6 o7 o8 o9 o10 o11 o12 o13 o14 o15 o16 k_o2 k_o3 k_o4 k_o5 k_o6 k_o7 k_o8 k_o9 k_o10 k_o11 k_o12 k_o13 k_o14 k_o15 k_o16 => ?_)
          refine s_wvv_X1_copyFrom_4_0 k_v0f_deeds k_v0a_kinds k_v0a_firsts k_v0a_seconds k_ov0f_deeds k_ov0a_kinds k_ov0a_firsts k_ov0a_seconds (fun o17 o18 o19 o20 k_o17 k_o18 k_o19 k_o20 => ?_)
          refine s_wss_X6_copyFrom_4_0 k_s0f_facts k_s0a_heard k_s0a_huts k_s0a_minutes k_os0f_facts k_os0a_heard k_os0a_huts k_os0a_minutes (fun o21 o22 o23 o24 k_o21 k_o22 k_o23 k_o24 => ?_)
          refine ⟨iv_nn k_oc0f_voices (by decide), ?_⟩
          refine ⟨iv_len (iv_lit (l := 0) (h := 0) (by decide)) k_oc0f_voices (by decide), ?_⟩
          refine ⟨iv_len (iv_lit (l := 0) (h := 0) (by decide)) k_oc0f_voices (by decide), ?_⟩
          intro a25 ea25
          have k_a25 := iv_cpy ea25 k_oc0a_parts k_c0a_parts
          refine ⟨iv_nn k_oc0f_voices (by decide), ?_⟩
          refine ⟨iv_len (iv_lit (l := 0) (h := 0) (by decide)) k_oc0f_voices (by decide), ?_⟩
          refine ⟨iv_len (iv_lit (l := 0) (h := 0) (by decide)) k_oc0f_voices (by decide), ?_⟩
          intro a26 ea26
          have k_a26 := iv_cpy ea26 k_oc0a_heights k_c0a_heights
          intro w27 ew27
          have hw27 := iv_eq ew27 (iv_add (l := 1) (h := 1) (iv_lit (l := 0) (h := 0) (by decide)) (iv_lit (l := 1) (h := 1) (by decide)) (by decide))
          exact ih _ _ _ _ _ _ _ _ _ _ _ _ _ _ _ _ _ _ _ _ _ _ _ _ _ _ _ _ _ _ _ _ _ _ _ _ _ _ _ _ _ _ _ _ _ _ _ _ _ _ _ _ _ _ _ (ms_up hm (inc_ltc hc ew27 (by decide))) (iv_w hw27 (by decide)) k_o2 k_o3 k_o4 k_o5 k_o6 k_o7 k_o8 k_o9 k_o10 k_o11 k_o12 k_o13 k_o14 k_o15 k_o16 k_l1f_huts k_l1f_singers k_l1f_villages k_l1f_dams k_l1f_echoes k_l1f_deep k_l1f_slide k_l1a_heights k_l1a_ladders k_l1a_minutes k_l1a_echoFrom k_l1a_echoTo k_l1a_homes k_l1a_talls k_l1a_known k_o17 k_o18 k_o19 k_o20 k_v1f_deeds k_v1a_kinds k_v1a_firsts k_v1a_seconds k_o21 k_o22 k_o23 k_o24 k_s1f_facts k_s1a_heard k_s1a_huts k_s1a_minutes k_oc0f_voices k_oc0f_step k_a25 k_a26 k_c1f_voices k_c1f_step k_c1a_parts k_c1a_heights
        · skip
          refine s_wll_X2_copyFrom_9_0 k_l1f_huts k_l1f_singers k_l1f_villages k_l1f_dams k_l1f_echoes k_l1f_deep k_l1f_slide k_l1a_heights k_l1a_ladders k_l1a_minutes k_l1a_echoFrom k_l1a_echoTo k_l1a_homes k_l1a_talls k_l1a_known k_ol1f_huts k_ol1f_singers k_ol1f_villages k_ol1f_dams k_ol1f_echoes k_ol1f_deep k_ol1f_slide k_ol1a_heights k_ol1a_ladders k_ol1a_minutes k_ol1a_echoFrom k_ol1a_echoTo k_ol1a_homes k_ol1a_talls k_ol1a_known (fun o28 o29 o30 o31 o32 o33 o34 o35 o36 o37 o38 o39 o40 o41 o42 k_o28 k_o29 k_o30 k_o31 k_o32 k_o33 k_o34 k_o35 k_o36 k_o37 k_o38 k_o39 k_o40 k_o41 k_o42 => ?_)
          refine s_wvv_X1_copyFrom_4_0 k_v1f_deeds k_v1a_kinds k_v1a_firsts k_v1a_seconds k_ov1f_deeds k_ov1a_kinds k_ov1a_firsts k_ov1a_seconds (fun o43 o44 o45 o46 k_o43 k_o44 k_o45 k_o46 => ?_)
          refine s_wss_X6_copyFrom_4_0 k_s1f_facts k_s1a_heard k_s1a_huts k_s1a_minutes k_os1f_facts k_os1a_heard k_os1a_huts k_os1a_minutes (fun o47 o48 o49 o50 k_o47 k_o48 k_o49 k_o50 => ?_)
          refine ⟨iv_nn k_oc1f_voices (by decide), ?_⟩
          refine ⟨iv_len (iv_lit (l := 0) (h := 0) (by decide)) k_oc1f_voices (by decide), ?_⟩
          refine ⟨iv_len (iv_lit (l := 0) (h := 0) (by decide)) k_oc1f_voices (by decide), ?_⟩
          intro a51 ea51
          have k_a51 := iv_cpy ea51 k_oc1a_parts k_c1a_parts
          refine ⟨iv_nn k_oc1f_voices (by decide), ?_⟩
          refine ⟨iv_len (iv_lit (l := 0) (h := 0) (by decide)) k_oc1f_voices (by decide), ?_⟩
          refine ⟨iv_len (iv_lit (l := 0) (h := 0) (by decide)) k_oc1f_voices (by decide), ?_⟩
          intro a52 ea52
          have k_a52 := iv_cpy ea52 k_oc1a_heights k_c1a_heights
          intro w53 ew53
          have hw53 := iv_eq ew53 (iv_add (l := 2) (h := 2) (iv_lit (l := 1) (h := 1) (by decide)) (iv_lit (l := 1) (h := 1) (by decide)) (by decide))
          exact ih _ _ _ _ _ _ _ _ _ _ _ _ _ _ _ _ _ _ _ _ _ _ _ _ _ _ _ _ _ _ _ _ _ _ _ _ _ _ _ _ _ _ _ _ _ _ _ _ _ _ _ _ _ _ _ (ms_up hm (inc_ltc (iv_is1 (iv_lta (l := 0) (h := 1) (r_nle c1) hx2 (iv_lit (l := 2) (h := 2) (by decide)) (by decide)) hc) ew53 (by decide))) (iv_w hw53 (by decide)) k_l0f_huts k_l0f_singers k_l0f_villages k_l0f_dams k_l0f_echoes k_l0f_deep k_l0f_slide k_l0a_heights k_l0a_ladders k_l0a_minutes k_l0a_echoFrom k_l0a_echoTo k_l0a_homes k_l0a_talls k_l0a_known k_o28 k_o29 k_o30 k_o31 k_o32 k_o33 k_o34 k_o35 k_o36 k_o37 k_o38 k_o39 k_o40 k_o41 k_o42 k_v0f_deeds k_v0a_kinds k_v0a_firsts k_v0a_seconds k_o43 k_o44 k_o45 k_o46 k_s0f_facts k_s0a_heard k_s0a_huts k_s0a_minutes k_o47 k_o48 k_o49 k_o50 k_c0f_voices k_c0f_step k_c0a_parts k_c0a_heights k_oc1f_voices k_oc1f_step k_a51 k_a52
  exact loop _ _ _ _ _ _ _ _ _ _ _ _ _ _ _ _ _ _ _ _ _ _ _ _ _ _ _ _ _ _ _ _ _ _ _ _ _ _ _ _ _ _ _ _ _ _ _ _ _ _ _ _ _ _ _ _ (ms_init_up _ _) hx2 k_l0f_huts k_l0f_singers k_l0f_villages k_l0f_dams k_l0f_echoes k_l0f_deep k_l0f_slide k_l0a_heights k_l0a_ladders k_l0a_minutes k_l0a_echoFrom k_l0a_echoTo k_l0a_homes k_l0a_talls k_l0a_known k_l1f_huts k_l1f_singers k_l1f_villages k_l1f_dams k_l1f_echoes k_l1f_deep k_l1f_slide k_l1a_heights k_l1a_ladders k_l1a_minutes k_l1a_echoFrom k_l1a_echoTo k_l1a_homes k_l1a_talls k_l1a_known k_v0f_deeds k_v0a_kinds k_v0a_firsts k_v0a_seconds k_v1f_deeds k_v1a_kinds k_v1a_firsts k_v1a_seconds k_s0f_facts k_s0a_heard k_s0a_huts k_s0a_minutes k_s1f_facts k_s1a_heard k_s1a_huts k_s1a_minutes k_c0f_voices k_c0f_step k_c0a_parts k_c0a_heights k_c1f_voices k_c1f_step k_c1a_parts k_c1a_heights
set_option maxRecDepth 20000 in
theorem s_wtt_X9_copyFrom_47_0 {a_tape : Nat → Int32} {f_length : Int32} {f_fault : Int32} {f_place : Int32} {a_counts : Nat → Int32} {l0f_huts : Int32} {l0f_singers : Int32} {l0f_villages : Int32} {l0f_dams : Int32} {l0f_echoes : Int32} {l0f_deep : Int32} {l0f_slide : Int32} {l0a_heights : Nat → Int32} {l0a_ladders : Nat → Int32} {l0a_minutes : Nat → Int32} {l0a_echoFrom : Nat → Int32} {l0a_echoTo : Nat → Int32} {l0a_homes : Nat → Int32} {l0a_talls : Nat → Int32} {l0a_known : Nat → Int32} {l1f_huts : Int32} {l1f_singers : Int32} {l1f_villages : Int32} {l1f_dams : Int32} {l1f_echoes : Int32} {l1f_deep : Int32} {l1f_slide : Int32} {l1a_heights : Nat → Int32} {l1a_ladders : Nat → Int32} {l1a_minutes : Nat → Int32} {l1a_echoFrom : Nat → Int32} {l1a_echoTo : Nat → Int32} {l1a_homes : Nat → Int32} {l1a_talls : Nat → Int32} {l1a_known : Nat → Int32} {v0f_deeds : Int32} {v0a_kinds : Nat → Int32} {v0a_firsts : Nat → Int32} {v0a_seconds : Nat → Int32} {v1f_deeds : Int32} {v1a_kinds : Nat → Int32} {v1a_firsts : Nat → Int32} {v1a_seconds : Nat → Int32} {s0f_facts : Int32} {s0a_heard : Nat → Int32} {s0a_huts : Nat → Int32} {s0a_minutes : Nat → Int32} {s1f_facts : Int32} {s1a_heard : Nat → Int32} {s1a_huts : Nat → Int32} {s1a_minutes : Nat → Int32} {c0f_voices : Int32} {c0f_step : Int32} {c0a_parts : Nat → Int32} {c0a_heights : Nat → Int32} {c1f_voices : Int32} {c1f_step : Int32} {c1a_parts : Nat → Int32} {c1a_heights : Nat → Int32} {oa_tape : Nat → Int32} {of_length : Int32} {of_fault : Int32} {of_place : Int32} {oa_counts : Nat → Int32} {ol0f_huts : Int32} {ol0f_singers : Int32} {ol0f_villages : Int32} {ol0f_dams : Int32} {ol0f_echoes : Int32} {ol0f_deep : Int32} {ol0f_slide : Int32} {ol0a_heights : Nat → Int32} {ol0a_ladders : Nat → Int32} {ol0a_minutes : Nat → Int32} {ol0a_echoFrom : Nat → Int32} {ol0a_echoTo : Nat → Int32} {ol0a_homes : Nat → Int32} {ol0a_talls : Nat → Int32} {ol0a_known : Nat → Int32} {ol1f_huts : Int32} {ol1f_singers : Int32} {ol1f_villages : Int32} {ol1f_dams : Int32} {ol1f_echoes : Int32} {ol1f_deep : Int32} {ol1f_slide : Int32} {ol1a_heights : Nat → Int32} {ol1a_ladders : Nat → Int32} {ol1a_minutes : Nat → Int32} {ol1a_echoFrom : Nat → Int32} {ol1a_echoTo : Nat → Int32} {ol1a_homes : Nat → Int32} {ol1a_talls : Nat → Int32} {ol1a_known : Nat → Int32} {ov0f_deeds : Int32} {ov0a_kinds : Nat → Int32} {ov0a_firsts : Nat → Int32} {ov0a_seconds : Nat → Int32} {ov1f_deeds : Int32} {ov1a_kinds : Nat → Int32} {ov1a_firsts : Nat → Int32} {ov1a_seconds : Nat → Int32} {os0f_facts : Int32} {os0a_heard : Nat → Int32} {os0a_huts : Nat → Int32} {os0a_minutes : Nat → Int32} {os1f_facts : Int32} {os1a_heard : Nat → Int32} {os1a_huts : Nat → Int32} {os1a_minutes : Nat → Int32} {oc0f_voices : Int32} {oc0f_step : Int32} {oc0a_parts : Nat → Int32} {oc0a_heights : Nat → Int32} {oc1f_voices : Int32} {oc1f_step : Int32} {oc1a_parts : Nat → Int32} {oc1a_heights : Nat → Int32} {post : (Nat → Int32) → (Int32) → (Int32) → (Int32) → (Nat → Int32) → (Int32) → (Int32) → (Int32) → (Int32) → (Int32) → (Int32) → (Int32) → (Nat → Int32) → (Nat → Int32) → (Nat → Int32) → (Nat → Int32) → (Nat → Int32) → (Nat → Int32) → (Nat → Int32) → (Nat → Int32) → (Int32) → (Int32) → (Int32) → (Int32) → (Int32) → (Int32) → (Int32) → (Nat → Int32) → (Nat → Int32) → (Nat → Int32) → (Nat → Int32) → (Nat → Int32) → (Nat → Int32) → (Nat → Int32) → (Nat → Int32) → (Int32) → (Nat → Int32) → (Nat → Int32) → (Nat → Int32) → (Int32) → (Nat → Int32) → (Nat → Int32) → (Nat → Int32) → (Int32) → (Nat → Int32) → (Nat → Int32) → (Nat → Int32) → (Int32) → (Nat → Int32) → (Nat → Int32) → (Nat → Int32) → (Int32) → (Int32) → (Nat → Int32) → (Nat → Int32) → (Int32) → (Int32) → (Nat → Int32) → (Nat → Int32) → Prop} (k_a_tape : ∀ j, iv (-128) 127 (a_tape j)) (k_f_length : iv 0 600 f_length) (k_f_fault : iv 0 4 f_fault) (k_f_place : iv (-1) 600 f_place) (k_a_counts : ∀ j, iv 0 2 (a_counts j)) (k_l0f_huts : iv 0 9 l0f_huts) (k_l0f_singers : iv 0 6 l0f_singers) (k_l0f_villages : iv 0 511 l0f_villages) (k_l0f_dams : iv 0 511 l0f_dams) (k_l0f_echoes : iv 0 4 l0f_echoes) (k_l0f_deep : iv 1 9 l0f_deep) (k_l0f_slide : iv 0 10 l0f_slide) (k_l0a_heights : ∀ j, iv 0 99 (l0a_heights j)) (k_l0a_ladders : ∀ j, iv 0 9 (l0a_ladders j)) (k_l0a_minutes : ∀ j, iv 0 9 (l0a_minutes j)) (k_l0a_echoFrom : ∀ j, iv 0 8 (l0a_echoFrom j)) (k_l0a_echoTo : ∀ j, iv 0 8 (l0a_echoTo j)) (k_l0a_homes : ∀ j, iv 0 8 (l0a_homes j)) (k_l0a_talls : ∀ j, iv 0 9 (l0a_talls j)) (k_l0a_known : ∀ j, iv 0 31 (l0a_known j)) (k_l1f_huts : iv 0 9 l1f_huts) (k_l1f_singers : iv 0 6 l1f_singers) (k_l1f_villages : iv 0 511 l1f_villages) (k_l1f_dams : iv 0 511 l1f_dams) (k_l1f_echoes : iv 0 4 l1f_echoes) (k_l1f_deep : iv 1 9 l1f_deep) (k_l1f_slide : iv 0 10 l1f_slide) (k_l1a_heights : ∀ j, iv 0 99 (l1a_heights j)) (k_l1a_ladders : ∀ j, iv 0 9 (l1a_ladders j)) (k_l1a_minutes : ∀ j, iv 0 9 (l1a_minutes j)) (k_l1a_echoFrom : ∀ j, iv 0 8 (l1a_echoFrom j)) (k_l1a_echoTo : ∀ j, iv 0 8 (l1a_echoTo j)) (k_l1a_homes : ∀ j, iv 0 8 (l1a_homes j)) (k_l1a_talls : ∀ j, iv 0 9 (l1a_talls j)) (k_l1a_known : ∀ j, iv 0 31 (l1a_known j)) (k_v0f_deeds : iv 0 40 v0f_deeds) (k_v0a_kinds : ∀ j, iv 0 5 (v0a_kinds j)) (k_v0a_firsts : ∀ j, iv 0 5 (v0a_firsts j)) (k_v0a_seconds : ∀ j, iv (-1) 8 (v0a_seconds j)) (k_v1f_deeds : iv 0 40 v1f_deeds) (k_v1a_kinds : ∀ j, iv 0 5 (v1a_kinds j)) (k_v1a_firsts : ∀ j, iv 0 5 (v1a_firsts j)) (k_v1a_seconds : ∀ j, iv (-1) 8 (v1a_seconds j)) (k_s0f_facts : iv 0 10 s0f_facts) (k_s0a_heard : ∀ j, iv 0 1 (s0a_heard j)) (k_s0a_huts : ∀ j, iv 0 8 (s0a_huts j)) (k_s0a_minutes : ∀ j, iv 0 60 (s0a_minutes j)) (k_s1f_facts : iv 0 10 s1f_facts) (k_s1a_heard : ∀ j, iv 0 1 (s1a_heard j)) (k_s1a_huts : ∀ j, iv 0 8 (s1a_huts j)) (k_s1a_minutes : ∀ j, iv 0 60 (s1a_minutes j)) (k_c0f_voices : iv 0 9 c0f_voices) (k_c0f_step : iv 0 9 c0f_step) (k_c0a_parts : ∀ j, iv 0 3 (c0a_parts j)) (k_c0a_heights : ∀ j, iv 0 9 (c0a_heights j)) (k_c1f_voices : iv 0 9 c1f_voices) (k_c1f_step : iv 0 9 c1f_step) (k_c1a_parts : ∀ j, iv 0 3 (c1a_parts j)) (k_c1a_heights : ∀ j, iv 0 9 (c1a_heights j)) (k_oa_tape : ∀ j, iv (-128) 127 (oa_tape j)) (k_of_length : iv 0 600 of_length) (k_of_fault : iv 0 4 of_fault) (k_of_place : iv (-1) 600 of_place) (k_oa_counts : ∀ j, iv 0 2 (oa_counts j)) (k_ol0f_huts : iv 0 9 ol0f_huts) (k_ol0f_singers : iv 0 6 ol0f_singers) (k_ol0f_villages : iv 0 511 ol0f_villages) (k_ol0f_dams : iv 0 511 ol0f_dams) (k_ol0f_echoes : iv 0 4 ol0f_echoes) (k_ol0f_deep : iv 1 9 ol0f_deep) (k_ol0f_slide : iv 0 10 ol0f_slide) (k_ol0a_heights : ∀ j, iv 0 99 (ol0a_heights j)) (k_ol0a_ladders : ∀ j, iv 0 9 (ol0a_ladders j)) (k_ol0a_minutes : ∀ j, iv 0 9 (ol0a_minutes j)) (k_ol0a_echoFrom : ∀ j, iv 0 8 (ol0a_echoFrom j)) (k_ol0a_echoTo : ∀ j, iv 0 8 (ol0a_echoTo j)) (k_ol0a_homes : ∀ j, iv 0 8 (ol0a_homes j)) (k_ol0a_talls : ∀ j, iv 0 9 (ol0a_talls j)) (k_ol0a_known : ∀ j, iv 0 31 (ol0a_known j)) (k_ol1f_huts : iv 0 9 ol1f_huts) (k_ol1f_singers : iv 0 6 ol1f_singers) (k_ol1f_villages : iv 0 511 ol1f_villages) (k_ol1f_dams : iv 0 511 ol1f_dams) (k_ol1f_echoes : iv 0 4 ol1f_echoes) (k_ol1f_deep : iv 1 9 ol1f_deep) (k_ol1f_slide : iv 0 10 ol1f_slide) (k_ol1a_heights : ∀ j, iv 0 99 (ol1a_heights j)) (k_ol1a_ladders : ∀ j, iv 0 9 (ol1a_ladders j)) (k_ol1a_minutes : ∀ j, iv 0 9 (ol1a_minutes j)) (k_ol1a_echoFrom : ∀ j, iv 0 8 (ol1a_echoFrom j)) (k_ol1a_echoTo : ∀ j, iv 0 8 (ol1a_echoTo j)) (k_ol1a_homes : ∀ j, iv 0 8 (ol1a_homes j)) (k_ol1a_talls : ∀ j, iv 0 9 (ol1a_talls j)) (k_ol1a_known : ∀ j, iv 0 31 (ol1a_known j)) (k_ov0f_deeds : iv 0 40 ov0f_deeds) (k_ov0a_kinds : ∀ j, iv 0 5 (ov0a_kinds j)) (k_ov0a_firsts : ∀ j, iv 0 5 (ov0a_firsts j)) (k_ov0a_seconds : ∀ j, iv (-1) 8 (ov0a_seconds j)) (k_ov1f_deeds : iv 0 40 ov1f_deeds) (k_ov1a_kinds : ∀ j, iv 0 5 (ov1a_kinds j)) (k_ov1a_firsts : ∀ j, iv 0 5 (ov1a_firsts j)) (k_ov1a_seconds : ∀ j, iv (-1) 8 (ov1a_seconds j)) (k_os0f_facts : iv 0 10 os0f_facts) (k_os0a_heard : ∀ j, iv 0 1 (os0a_heard j)) (k_os0a_huts : ∀ j, iv 0 8 (os0a_huts j)) (k_os0a_minutes : ∀ j, iv 0 60 (os0a_minutes j)) (k_os1f_facts : iv 0 10 os1f_facts) (k_os1a_heard : ∀ j, iv 0 1 (os1a_heard j)) (k_os1a_huts : ∀ j, iv 0 8 (os1a_huts j)) (k_os1a_minutes : ∀ j, iv 0 60 (os1a_minutes j)) (k_oc0f_voices : iv 0 9 oc0f_voices) (k_oc0f_step : iv 0 9 oc0f_step) (k_oc0a_parts : ∀ j, iv 0 3 (oc0a_parts j)) (k_oc0a_heights : ∀ j, iv 0 9 (oc0a_heights j)) (k_oc1f_voices : iv 0 9 oc1f_voices) (k_oc1f_step : iv 0 9 oc1f_step) (k_oc1a_parts : ∀ j, iv 0 3 (oc1a_parts j)) (k_oc1a_heights : ∀ j, iv 0 9 (oc1a_heights j)) (hpost : ∀ (a_tape : Nat → Int32) (f_length : Int32) (f_fault : Int32) (f_place : Int32) (a_counts : Nat → Int32) (l0f_huts : Int32) (l0f_singers : Int32) (l0f_villages : Int32) (l0f_dams : Int32) (l0f_echoes : Int32) (l0f_deep : Int32) (l0f_slide : Int32) (l0a_heights : Nat → Int32) (l0a_ladders : Nat → Int32) (l0a_minutes : Nat → Int32) (l0a_echoFrom : Nat → Int32) (l0a_echoTo : Nat → Int32) (l0a_homes : Nat → Int32) (l0a_talls : Nat → Int32) (l0a_known : Nat → Int32) (l1f_huts : Int32) (l1f_singers : Int32) (l1f_villages : Int32) (l1f_dams : Int32) (l1f_echoes : Int32) (l1f_deep : Int32) (l1f_slide : Int32) (l1a_heights : Nat → Int32) (l1a_ladders : Nat → Int32) (l1a_minutes : Nat → Int32) (l1a_echoFrom : Nat → Int32) (l1a_echoTo : Nat → Int32) (l1a_homes : Nat → Int32) (l1a_talls : Nat → Int32) (l1a_known : Nat → Int32) (v0f_deeds : Int32) (v0a_kinds : Nat → Int32) (v0a_firsts : Nat → Int32) (v0a_seconds : Nat → Int32) (v1f_deeds : Int32) (v1a_kinds : Nat → Int32) (v1a_firsts : Nat → Int32) (v1a_seconds : Nat → Int32) (s0f_facts : Int32) (s0a_heard : Nat → Int32) (s0a_huts : Nat → Int32) (s0a_minutes : Nat → Int32) (s1f_facts : Int32) (s1a_heard : Nat → Int32) (s1a_huts : Nat → Int32) (s1a_minutes : Nat → Int32) (c0f_voices : Int32) (c0f_step : Int32) (c0a_parts : Nat → Int32) (c0a_heights : Nat → Int32) (c1f_voices : Int32) (c1f_step : Int32) (c1a_parts : Nat → Int32) (c1a_heights : Nat → Int32), (∀ j, iv (-128) 127 (a_tape j)) → (iv 0 600 f_length) → (iv 0 4 f_fault) → (iv (-1) 600 f_place) → (∀ j, iv 0 2 (a_counts j)) → (iv 0 9 l0f_huts) → (iv 0 6 l0f_singers) → (iv 0 511 l0f_villages) → (iv 0 511 l0f_dams) → (iv 0 4 l0f_echoes) → (iv 1 9 l0f_deep) → (iv 0 10 l0f_slide) → (∀ j, iv 0 99 (l0a_heights j)) → (∀ j, iv 0 9 (l0a_ladders j)) → (∀ j, iv 0 9 (l0a_minutes j)) → (∀ j, iv 0 8 (l0a_echoFrom j)) → (∀ j, iv 0 8 (l0a_echoTo j)) → (∀ j, iv 0 8 (l0a_homes j)) → (∀ j, iv 0 9 (l0a_talls j)) → (∀ j, iv 0 31 (l0a_known j)) → (iv 0 9 l1f_huts) → (iv 0 6 l1f_singers) → (iv 0 511 l1f_villages) → (iv 0 511 l1f_dams) → (iv 0 4 l1f_echoes) → (iv 1 9 l1f_deep) → (iv 0 10 l1f_slide) → (∀ j, iv 0 99 (l1a_heights j)) → (∀ j, iv 0 9 (l1a_ladders j)) → (∀ j, iv 0 9 (l1a_minutes j)) → (∀ j, iv 0 8 (l1a_echoFrom j)) → (∀ j, iv 0 8 (l1a_echoTo j)) → (∀ j, iv 0 8 (l1a_homes j)) → (∀ j, iv 0 9 (l1a_talls j)) → (∀ j, iv 0 31 (l1a_known j)) → (iv 0 40 v0f_deeds) → (∀ j, iv 0 5 (v0a_kinds j)) → (∀ j, iv 0 5 (v0a_firsts j)) → (∀ j, iv (-1) 8 (v0a_seconds j)) → (iv 0 40 v1f_deeds) → (∀ j, iv 0 5 (v1a_kinds j)) → (∀ j, iv 0 5 (v1a_firsts j)) → (∀ j, iv (-1) 8 (v1a_seconds j)) → (iv 0 10 s0f_facts) → (∀ j, iv 0 1 (s0a_heard j)) → (∀ j, iv 0 8 (s0a_huts j)) → (∀ j, iv 0 60 (s0a_minutes j)) → (iv 0 10 s1f_facts) → (∀ j, iv 0 1 (s1a_heard j)) → (∀ j, iv 0 8 (s1a_huts j)) → (∀ j, iv 0 60 (s1a_minutes j)) → (iv 0 9 c0f_voices) → (iv 0 9 c0f_step) → (∀ j, iv 0 3 (c0a_parts j)) → (∀ j, iv 0 9 (c0a_heights j)) → (iv 0 9 c1f_voices) → (iv 0 9 c1f_step) → (∀ j, iv 0 3 (c1a_parts j)) → (∀ j, iv 0 9 (c1a_heights j)) → post a_tape f_length f_fault f_place a_counts l0f_huts l0f_singers l0f_villages l0f_dams l0f_echoes l0f_deep l0f_slide l0a_heights l0a_ladders l0a_minutes l0a_echoFrom l0a_echoTo l0a_homes l0a_talls l0a_known l1f_huts l1f_singers l1f_villages l1f_dams l1f_echoes l1f_deep l1f_slide l1a_heights l1a_ladders l1a_minutes l1a_echoFrom l1a_echoTo l1a_homes l1a_talls l1a_known v0f_deeds v0a_kinds v0a_firsts v0a_seconds v1f_deeds v1a_kinds v1a_firsts v1a_seconds s0f_facts s0a_heard s0a_huts s0a_minutes s1f_facts s1a_heard s1a_huts s1a_minutes c0f_voices c0f_step c0a_parts c0a_heights c1f_voices c1f_step c1a_parts c1a_heights) : q_wtt_X9_copyFrom_47_0 a_tape f_length f_fault f_place a_counts l0f_huts l0f_singers l0f_villages l0f_dams l0f_echoes l0f_deep l0f_slide l0a_heights l0a_ladders l0a_minutes l0a_echoFrom l0a_echoTo l0a_homes l0a_talls l0a_known l1f_huts l1f_singers l1f_villages l1f_dams l1f_echoes l1f_deep l1f_slide l1a_heights l1a_ladders l1a_minutes l1a_echoFrom l1a_echoTo l1a_homes l1a_talls l1a_known v0f_deeds v0a_kinds v0a_firsts v0a_seconds v1f_deeds v1a_kinds v1a_firsts v1a_seconds s0f_facts s0a_heard s0a_huts s0a_minutes s1f_facts s1a_heard s1a_huts s1a_minutes c0f_voices c0f_step c0a_parts c0a_heights c1f_voices c1f_step c1a_parts c1a_heights oa_tape of_length of_fault of_place oa_counts ol0f_huts ol0f_singers ol0f_villages ol0f_dams ol0f_echoes ol0f_deep ol0f_slide ol0a_heights ol0a_ladders ol0a_minutes ol0a_echoFrom ol0a_echoTo ol0a_homes ol0a_talls ol0a_known ol1f_huts ol1f_singers ol1f_villages ol1f_dams ol1f_echoes ol1f_deep ol1f_slide ol1a_heights ol1a_ladders ol1a_minutes ol1a_echoFrom ol1a_echoTo ol1a_homes ol1a_talls ol1a_known ov0f_deeds ov0a_kinds ov0a_firsts ov0a_seconds ov1f_deeds ov1a_kinds ov1a_firsts ov1a_seconds os0f_facts os0a_heard os0a_huts os0a_minutes os1f_facts os1a_heard os1a_huts os1a_minutes oc0f_voices oc0f_step oc0a_parts oc0a_heights oc1f_voices oc1f_step oc1a_parts oc1a_heights post := by
  refine ⟨iv_nn k_of_length (by decide), ?_⟩
  refine ⟨iv_len (iv_lit (l := 0) (h := 0) (by decide)) k_of_length (by decide), ?_⟩
  refine ⟨iv_len (iv_lit (l := 0) (h := 0) (by decide)) k_of_length (by decide), ?_⟩
  refine ⟨fun i _ => iv_fitB (k_oa_tape _), ?_⟩
  intro a1 ea1
  have k_a1 := iv_cpy ea1 k_oa_tape k_a_tape
  intro a2 ea2
  have k_a2 := iv_cpy ea2 k_oa_counts k_a_counts
  exact s_wtt_X9_copyFrom_47_57 k_a1 k_of_length k_of_fault k_of_place k_a2 k_l0f_huts k_l0f_singers k_l0f_villages k_l0f_dams k_l0f_echoes k_l0f_deep k_l0f_slide k_l0a_heights k_l0a_ladders k_l0a_minutes k_l0a_echoFrom k_l0a_echoTo k_l0a_homes k_l0a_talls k_l0a_known k_l1f_huts k_l1f_singers k_l1f_villages k_l1f_dams k_l1f_echoes k_l1f_deep k_l1f_slide k_l1a_heights k_l1a_ladders k_l1a_minutes k_l1a_echoFrom k_l1a_echoTo k_l1a_homes k_l1a_talls k_l1a_known k_v0f_deeds k_v0a_kinds k_v0a_firsts k_v0a_seconds k_v1f_deeds k_v1a_kinds k_v1a_firsts k_v1a_seconds k_s0f_facts k_s0a_heard k_s0a_huts k_s0a_minutes k_s1f_facts k_s1a_heard k_s1a_huts k_s1a_minutes k_c0f_voices k_c0f_step k_c0a_parts k_c0a_heights k_c1f_voices k_c1f_step k_c1a_parts k_c1a_heights k_oa_tape k_of_length k_of_fault k_of_place k_oa_counts k_ol0f_huts k_ol0f_singers k_ol0f_villages k_ol0f_dams k_ol0f_echoes k_ol0f_deep k_ol0f_slide k_ol0a_heights k_ol0a_ladders k_ol0a_minutes k_ol0a_echoFrom k_ol0a_echoTo k_ol0a_homes k_ol0a_talls k_ol0a_known k_ol1f_huts k_ol1f_singers k_ol1f_villages k_ol1f_dams k_ol1f_echoes k_ol1f_deep k_ol1f_slide k_ol1a_heights k_ol1a_ladders k_ol1a_minutes k_ol1a_echoFrom k_ol1a_echoTo k_ol1a_homes k_ol1a_talls k_ol1a_known k_ov0f_deeds k_ov0a_kinds k_ov0a_firsts k_ov0a_seconds k_ov1f_deeds k_ov1a_kinds k_ov1a_firsts k_ov1a_seconds k_os0f_facts k_os0a_heard k_os0a_huts k_os0a_minutes k_os1f_facts k_os1a_heard k_os1a_huts k_os1a_minutes k_oc0f_voices k_oc0f_step k_oc0a_parts k_oc0a_heights k_oc1f_voices k_oc1f_step k_oc1a_parts k_oc1a_heights (iv_w (iv_lit (l := 0) (h := 0) (by decide)) (by decide)) hpost
-- wxt_X10_choir
set_option maxRecDepth 20000 in
theorem s_wxt_X10_choir_0 {ta_counts : Nat → Int32} {tc0f_voices : Int32} {tc0f_step : Int32} {tc0a_parts : Nat → Int32} {tc0a_heights : Nat → Int32} {tc1f_voices : Int32} {tc1f_step : Int32} {tc1a_parts : Nat → Int32} {tc1a_heights : Nat → Int32} {ka_gaps : Nat → Int32} {ka_behind : Nat → Int32} {z_tab : Nat → Int32} {x1 : Int32} {x2 : Int32} {post : Int32 → (Nat → Int32) → (Nat → Int32) → (Nat → Int32) → Prop} (k_ta_counts : ∀ j, iv 0 2 (ta_counts j)) (k_tc0f_voices : iv 0 9 tc0f_voices) (k_tc0f_step : iv 0 9 tc0f_step) (k_tc0a_parts : ∀ j, iv 0 3 (tc0a_parts j)) (k_tc0a_heights : ∀ j, iv 0 9 (tc0a_heights j)) (k_tc1f_voices : iv 0 9 tc1f_voices) (k_tc1f_step : iv 0 9 tc1f_step) (k_tc1a_parts : ∀ j, iv 0 3 (tc1a_parts j)) (k_tc1a_heights : ∀ j, iv 0 9 (tc1a_heights j)) (k_ka_behind : ∀ j, iv 0 511 (ka_behind j)) (hpost : ∀ (r : Int32) (ka_gaps : Nat → Int32) (ka_behind : Nat → Int32) (z_tab : Nat → Int32), (∀ j, iv 0 511 (ka_behind j)) → post r ka_gaps ka_behind z_tab) : q_wxt_X10_choir_0 ta_counts tc0f_voices tc0f_step tc0a_parts tc0a_heights tc1f_voices tc1f_step tc1a_parts tc1a_heights ka_gaps ka_behind z_tab x1 x2 post := by
  refine ⟨fun c1 => ?_, fun c1 => ?_⟩
  · skip
    refine ⟨fun _ => ?_, fun h => absurd h (by decide), fun h0 h1 => absurd rfl h0⟩
    exact hpost _ _ _ _ k_ka_behind
  · skip
    refine ⟨fun c2 => ?_, fun c2 => ?_⟩
    · skip
      refine ⟨fun _ => ?_, fun h => absurd h (by decide), fun h0 h1 => absurd rfl h0⟩
      exact hpost _ _ _ _ k_ka_behind
    · skip
      refine ⟨iv_in (iv_lta (l := 0) (h := 1) (r_nle c2) (iv_leb (l := 0) (h := 2147483647) (r_nlt c1) (iv_lit (l := 0) (h := 0) (by decide)) (iv_top x1) (by decide)) (k_ta_counts _) (by decide)) (by decide), fun hc => ?_, fun hc => ?_⟩
      · skip
        refine ⟨fun h => absurd h (by decide), fun h => absurd h (by decide), fun h0 h1 => ?_⟩
        refine ⟨fun c3 => ?_, fun c3 => ?_⟩
        · skip
          refine s_wc_X0_look_0 k_tc0f_voices k_tc0f_step k_tc0a_parts k_tc0a_heights (fun r4 hr4 => ?_)
          exact hpost _ _ _ _ k_ka_behind
        · skip
          refine s_wk_X5_leastStep_3_0 k_ka_behind k_tc0f_voices k_tc0f_step k_tc0a_parts k_tc0a_heights (fun r5 o6 o7 o8 hr5 k_o7 => ?_)
          exact hpost _ _ _ _ k_o7
      · skip
        refine ⟨fun h => absurd h (by decide), fun _ => ?_, fun h0 h1 => absurd rfl h1⟩
        refine ⟨fun c9 => ?_, fun c9 => ?_⟩
        · skip
          refine s_wc_X0_look_0 k_tc1f_voices k_tc1f_step k_tc1a_parts k_tc1a_heights (fun r10 hr10 => ?_)
          exact hpost _ _ _ _ k_ka_behind
        · skip
          refine s_wk_X5_leastStep_3_0 k_ka_behind k_tc1f_voices k_tc1f_step k_tc1a_parts k_tc1a_heights (fun r11 o12 o13 o14 hr11 k_o13 => ?_)
          exact hpost _ _ _ _ k_o13
-- wxt_X10_orders
set_option maxRecDepth 20000 in
theorem s_wxt_X10_orders_22k0 {ta_counts : Nat → Int32} {tc0f_voices : Int32} {tc0f_step : Int32} {tc0a_parts : Nat → Int32} {tc0a_heights : Nat → Int32} {tc1f_voices : Int32} {tc1f_step : Int32} {tc1a_parts : Nat → Int32} {tc1a_heights : Nat → Int32} {ka_gaps : Nat → Int32} {ka_behind : Nat → Int32} {z_tab : Nat → Int32} {post : Int64 → (Nat → Int32) → (Nat → Int32) → (Nat → Int32) → Prop} (k_ta_counts : ∀ j, iv 0 2 (ta_counts j)) (k_tc0f_voices : iv 0 9 tc0f_voices) (k_tc0f_step : iv 0 9 tc0f_step) (k_tc0a_parts : ∀ j, iv 0 3 (tc0a_parts j)) (k_tc0a_heights : ∀ j, iv 0 9 (tc0a_heights j)) (k_tc1f_voices : iv 0 9 tc1f_voices) (k_tc1f_step : iv 0 9 tc1f_step) (k_tc1a_parts : ∀ j, iv 0 3 (tc1a_parts j)) (k_tc1a_heights : ∀ j, iv 0 9 (tc1a_heights j)) (k_ka_behind : ∀ j, iv 0 511 (ka_behind j)) (hpost : ∀ (r : Int64) (ka_gaps : Nat → Int32) (ka_behind : Nat → Int32) (z_tab : Nat → Int32), (∀ j, iv 0 511 (ka_behind j)) → post r ka_gaps ka_behind z_tab) : q_wxt_X10_orders_22k0 ta_counts tc0f_voices tc0f_step tc0a_parts tc0a_heights tc1f_voices tc1f_step tc1a_parts tc1a_heights ka_gaps ka_behind z_tab post := by
  refine s_wk_X5_total_3_0 k_tc0f_voices (fun r1 => ?_)
  exact hpost _ _ _ _ k_ka_behind
set_option maxRecDepth 20000 in
theorem s_wxt_X10_orders_22k1 {ta_counts : Nat → Int32} {tc0f_voices : Int32} {tc0f_step : Int32} {tc0a_parts : Nat → Int32} {tc0a_heights : Nat → Int32} {tc1f_voices : Int32} {tc1f_step : Int32} {tc1a_parts : Nat → Int32} {tc1a_heights : Nat → Int32} {ka_gaps : Nat → Int32} {ka_behind : Nat → Int32} {z_tab : Nat → Int32} {post : Int64 → (Nat → Int32) → (Nat → Int32) → (Nat → Int32) → Prop} (k_ta_counts : ∀ j, iv 0 2 (ta_counts j)) (k_tc0f_voices : iv 0 9 tc0f_voices) (k_tc0f_step : iv 0 9 tc0f_step) (k_tc0a_parts : ∀ j, iv 0 3 (tc0a_parts j)) (k_tc0a_heights : ∀ j, iv 0 9 (tc0a_heights j)) (k_tc1f_voices : iv 0 9 tc1f_voices) (k_tc1f_step : iv 0 9 tc1f_step) (k_tc1a_parts : ∀ j, iv 0 3 (tc1a_parts j)) (k_tc1a_heights : ∀ j, iv 0 9 (tc1a_heights j)) (k_ka_behind : ∀ j, iv 0 511 (ka_behind j)) (hpost : ∀ (r : Int64) (ka_gaps : Nat → Int32) (ka_behind : Nat → Int32) (z_tab : Nat → Int32), (∀ j, iv 0 511 (ka_behind j)) → post r ka_gaps ka_behind z_tab) : q_wxt_X10_orders_22k1 ta_counts tc0f_voices tc0f_step tc0a_parts tc0a_heights tc1f_voices tc1f_step tc1a_parts tc1a_heights ka_gaps ka_behind z_tab post := by
  refine s_wk_X5_total_3_0 k_tc1f_voices (fun r1 => ?_)
  exact hpost _ _ _ _ k_ka_behind
set_option maxRecDepth 20000 in
theorem s_wxt_X10_orders_0 {ta_counts : Nat → Int32} {tc0f_voices : Int32} {tc0f_step : Int32} {tc0a_parts : Nat → Int32} {tc0a_heights : Nat → Int32} {tc1f_voices : Int32} {tc1f_step : Int32} {tc1a_parts : Nat → Int32} {tc1a_heights : Nat → Int32} {ka_gaps : Nat → Int32} {ka_behind : Nat → Int32} {z_tab : Nat → Int32} {x1 : Int32} {post : Int64 → (Nat → Int32) → (Nat → Int32) → (Nat → Int32) → Prop} (k_ta_counts : ∀ j, iv 0 2 (ta_counts j)) (k_tc0f_voices : iv 0 9 tc0f_voices) (k_tc0f_step : iv 0 9 tc0f_step) (k_tc0a_parts : ∀ j, iv 0 3 (tc0a_parts j)) (k_tc0a_heights : ∀ j, iv 0 9 (tc0a_heights j)) (k_tc1f_voices : iv 0 9 tc1f_voices) (k_tc1f_step : iv 0 9 tc1f_step) (k_tc1a_parts : ∀ j, iv 0 3 (tc1a_parts j)) (k_tc1a_heights : ∀ j, iv 0 9 (tc1a_heights j)) (k_ka_behind : ∀ j, iv 0 511 (ka_behind j)) (hpost : ∀ (r : Int64) (ka_gaps : Nat → Int32) (ka_behind : Nat → Int32) (z_tab : Nat → Int32), (∀ j, iv 0 511 (ka_behind j)) → post r ka_gaps ka_behind z_tab) : q_wxt_X10_orders_0 ta_counts tc0f_voices tc0f_step tc0a_parts tc0a_heights tc1f_voices tc1f_step tc1a_parts tc1a_heights ka_gaps ka_behind z_tab x1 post := by
  refine ⟨fun c1 => ?_, fun c1 => ?_⟩
  · skip
    refine ⟨fun _ => ?_, fun h => absurd h (by decide), fun h0 h1 => absurd rfl h0⟩
    exact hpost _ _ _ _ k_ka_behind
  · skip
    refine ⟨fun c2 => ?_, fun c2 => ?_⟩
    · skip
      refine ⟨fun _ => ?_, fun h => absurd h (by decide), fun h0 h1 => absurd rfl h0⟩
      exact hpost _ _ _ _ k_ka_behind
    · skip
      refine ⟨iv_in (iv_lta (l := 0) (h := 1) (r_nle c2) (iv_leb (l := 0) (h := 2147483647) (r_nlt c1) (iv_lit (l := 0) (h := 0) (by decide)) (iv_top x1) (by decide)) (k_ta_counts _) (by decide)) (by decide), fun hc => ?_, fun hc => ?_⟩
      · skip
        refine ⟨fun h => absurd h (by decide), fun h => absurd h (by decide), fun h0 h1 => ?_⟩
        refine s_wk_X5_fill_3_0 k_ka_behind k_tc0f_voices k_tc0f_step k_tc0a_parts k_tc0a_heights (fun o3 o4 o5 k_o4 => ?_)
        exact s_wxt_X10_orders_22k0 k_ta_counts k_tc0f_voices k_tc0f_step k_tc0a_parts k_tc0a_heights k_tc1f_voices k_tc1f_step k_tc1a_parts k_tc1a_heights k_o4 hpost
      · skip
        refine ⟨fun h => absurd h (by decide), fun _ => ?_, fun h0 h1 => absurd rfl h1⟩
        refine s_wk_X5_fill_3_0 k_ka_behind k_tc1f_voices k_tc1f_step k_tc1a_parts k_tc1a_heights (fun o6 o7 o8 k_o7 => ?_)
        exact s_wxt_X10_orders_22k1 k_ta_counts k_tc0f_voices k_tc0f_step k_tc0a_parts k_tc0a_heights k_tc1f_voices k_tc1f_step k_tc1a_parts k_tc1a_heights k_o7 hpost
-- wxt_X10_order
set_option maxRecDepth 20000 in
theorem s_wxt_X10_order_32k0 {ta_counts : Nat → Int32} {tc0f_voices : Int32} {tc0f_step : Int32} {tc0a_parts : Nat → Int32} {tc0a_heights : Nat → Int32} {tc1f_voices : Int32} {tc1f_step : Int32} {tc1a_parts : Nat → Int32} {tc1a_heights : Nat → Int32} {ka_gaps : Nat → Int32} {ka_behind : Nat → Int32} {z_tab : Nat → Int32} {x2 : Int32} {post : Int32 → (Nat → Int32) → (Nat → Int32) → (Nat → Int32) → Prop} (k_ta_counts : ∀ j, iv 0 2 (ta_counts j)) (k_tc0f_voices : iv 1 9 tc0f_voices) (k_tc0f_step : iv 0 9 tc0f_step) (k_tc0a_parts : ∀ j, iv 0 3 (tc0a_parts j)) (k_tc0a_heights : ∀ j, iv 0 9 (tc0a_heights j)) (k_tc1f_voices : iv 0 9 tc1f_voices) (k_tc1f_step : iv 0 9 tc1f_step) (k_tc1a_parts : ∀ j, iv 0 3 (tc1a_parts j)) (k_tc1a_heights : ∀ j, iv 0 9 (tc1a_heights j)) (k_ka_behind : ∀ j, iv 0 511 (ka_behind j)) (hx2 : iv 0 8 x2) (hpost : ∀ (r : Int32) (ka_gaps : Nat → Int32) (ka_behind : Nat → Int32) (z_tab : Nat → Int32), iv (-1) 8 r → (∀ j, iv 0 511 (ka_behind j)) → post r ka_gaps ka_behind z_tab) : q_wxt_X10_order_32k0 ta_counts tc0f_voices tc0f_step tc0a_parts tc0a_heights tc1f_voices tc1f_step tc1a_parts tc1a_heights ka_gaps ka_behind z_tab x2 post := by
  refine s_wk_X5_total_3_0 (iv_w k_tc0f_voices (by decide)) (fun r1 => ?_)
  refine ⟨fun c2 => ?_, fun c2 => ?_⟩
  · skip
    refine s_wk_X5_voiceAt_3_0 k_ka_behind k_tc0f_voices hx2 (fun r3 hr3 => ?_)
    exact hpost _ _ _ _ hr3 k_ka_behind
  · skip
    exact hpost _ _ _ _ (iv_w (iv_lit (l := (-1)) (h := (-1)) (by decide)) (by decide)) k_ka_behind
set_option maxRecDepth 20000 in
theorem s_wxt_X10_order_32k1 {ta_counts : Nat → Int32} {tc0f_voices : Int32} {tc0f_step : Int32} {tc0a_parts : Nat → Int32} {tc0a_heights : Nat → Int32} {tc1f_voices : Int32} {tc1f_step : Int32} {tc1a_parts : Nat → Int32} {tc1a_heights : Nat → Int32} {ka_gaps : Nat → Int32} {ka_behind : Nat → Int32} {z_tab : Nat → Int32} {x2 : Int32} {post : Int32 → (Nat → Int32) → (Nat → Int32) → (Nat → Int32) → Prop} (k_ta_counts : ∀ j, iv 0 2 (ta_counts j)) (k_tc0f_voices : iv 0 9 tc0f_voices) (k_tc0f_step : iv 0 9 tc0f_step) (k_tc0a_parts : ∀ j, iv 0 3 (tc0a_parts j)) (k_tc0a_heights : ∀ j, iv 0 9 (tc0a_heights j)) (k_tc1f_voices : iv 1 9 tc1f_voices) (k_tc1f_step : iv 0 9 tc1f_step) (k_tc1a_parts : ∀ j, iv 0 3 (tc1a_parts j)) (k_tc1a_heights : ∀ j, iv 0 9 (tc1a_heights j)) (k_ka_behind : ∀ j, iv 0 511 (ka_behind j)) (hx2 : iv 0 8 x2) (hpost : ∀ (r : Int32) (ka_gaps : Nat → Int32) (ka_behind : Nat → Int32) (z_tab : Nat → Int32), iv (-1) 8 r → (∀ j, iv 0 511 (ka_behind j)) → post r ka_gaps ka_behind z_tab) : q_wxt_X10_order_32k1 ta_counts tc0f_voices tc0f_step tc0a_parts tc0a_heights tc1f_voices tc1f_step tc1a_parts tc1a_heights ka_gaps ka_behind z_tab x2 post := by
  refine s_wk_X5_total_3_0 (iv_w k_tc1f_voices (by decide)) (fun r1 => ?_)
  refine ⟨fun c2 => ?_, fun c2 => ?_⟩
  · skip
    refine s_wk_X5_voiceAt_3_0 k_ka_behind k_tc1f_voices hx2 (fun r3 hr3 => ?_)
    exact hpost _ _ _ _ hr3 k_ka_behind
  · skip
    exact hpost _ _ _ _ (iv_w (iv_lit (l := (-1)) (h := (-1)) (by decide)) (by decide)) k_ka_behind
set_option maxRecDepth 20000 in
theorem s_wxt_X10_order_0 {ta_counts : Nat → Int32} {tc0f_voices : Int32} {tc0f_step : Int32} {tc0a_parts : Nat → Int32} {tc0a_heights : Nat → Int32} {tc1f_voices : Int32} {tc1f_step : Int32} {tc1a_parts : Nat → Int32} {tc1a_heights : Nat → Int32} {ka_gaps : Nat → Int32} {ka_behind : Nat → Int32} {z_tab : Nat → Int32} {x1 : Int32} {x2 : Int32} {post : Int32 → (Nat → Int32) → (Nat → Int32) → (Nat → Int32) → Prop} (k_ta_counts : ∀ j, iv 0 2 (ta_counts j)) (k_tc0f_voices : iv 0 9 tc0f_voices) (k_tc0f_step : iv 0 9 tc0f_step) (k_tc0a_parts : ∀ j, iv 0 3 (tc0a_parts j)) (k_tc0a_heights : ∀ j, iv 0 9 (tc0a_heights j)) (k_tc1f_voices : iv 0 9 tc1f_voices) (k_tc1f_step : iv 0 9 tc1f_step) (k_tc1a_parts : ∀ j, iv 0 3 (tc1a_parts j)) (k_tc1a_heights : ∀ j, iv 0 9 (tc1a_heights j)) (k_ka_behind : ∀ j, iv 0 511 (ka_behind j)) (hpost : ∀ (r : Int32) (ka_gaps : Nat → Int32) (ka_behind : Nat → Int32) (z_tab : Nat → Int32), iv (-1) 8 r → (∀ j, iv 0 511 (ka_behind j)) → post r ka_gaps ka_behind z_tab) : q_wxt_X10_order_0 ta_counts tc0f_voices tc0f_step tc0a_parts tc0a_heights tc1f_voices tc1f_step tc1a_parts tc1a_heights ka_gaps ka_behind z_tab x1 x2 post := by
  refine ⟨fun c1 => ?_, fun c1 => ?_⟩
  · skip
    refine ⟨fun _ => ?_, fun h => absurd h (by decide), fun h0 h1 => absurd rfl h0⟩
    exact hpost _ _ _ _ (iv_w (iv_lit (l := (-1)) (h := (-1)) (by decide)) (by decide)) k_ka_behind
  · skip
    refine ⟨fun c2 => ?_, fun c2 => ?_⟩
    · skip
      refine ⟨fun _ => ?_, fun h => absurd h (by decide), fun h0 h1 => absurd rfl h0⟩
      exact hpost _ _ _ _ (iv_w (iv_lit (l := (-1)) (h := (-1)) (by decide)) (by decide)) k_ka_behind
    · skip
      refine ⟨iv_in (iv_lta (l := 0) (h := 1) (r_nle c2) (iv_leb (l := 0) (h := 2147483647) (r_nlt c1) (iv_lit (l := 0) (h := 0) (by decide)) (iv_top x1) (by decide)) (k_ta_counts _) (by decide)) (by decide), fun hc => ?_, fun hc => ?_⟩
      · skip
        refine ⟨fun h => absurd h (by decide), fun h => absurd h (by decide), fun h0 h1 => ?_⟩
        refine ⟨fun c3 => ?_, fun c3 => ?_⟩
        · skip
          exact hpost _ _ _ _ (iv_w (iv_lit (l := (-1)) (h := (-1)) (by decide)) (by decide)) k_ka_behind
        · skip
          refine ⟨fun c4 => ?_, fun c4 => ?_⟩
          · skip
            refine s_wk_X5_fill_3_0 k_ka_behind (iv_w (iv_ltb (l := 1) (h := 9) (r_lt c4) (iv_leb (l := 0) (h := 2147483647) (r_nlt c3) (iv_lit (l := 0) (h := 0) (by decide)) (iv_top x2) (by decide)) k_tc0f_voices (by decide)) (by decide)) k_tc0f_step k_tc0a_parts k_tc0a_heights (fun o5 o6 o7 k_o6 => ?_)
            exact s_wxt_X10_order_32k0 k_ta_counts (iv_ltb (l := 1) (h := 9) (r_lt c4) (iv_leb (l := 0) (h := 2147483647) (r_nlt c3) (iv_lit (l := 0) (h := 0) (by decide)) (iv_top x2) (by decide)) k_tc0f_voices (by decide)) k_tc0f_step k_tc0a_parts k_tc0a_heights k_tc1f_voices k_tc1f_step k_tc1a_parts k_tc1a_heights k_o6 (iv_lta (l := 0) (h := 8) (r_lt c4) (iv_leb (l := 0) (h := 2147483647) (r_nlt c3) (iv_lit (l := 0) (h := 0) (by decide)) (iv_top x2) (by decide)) k_tc0f_voices (by decide)) hpost
          · skip
            exact hpost _ _ _ _ (iv_w (iv_lit (l := (-1)) (h := (-1)) (by decide)) (by decide)) k_ka_behind
      · skip
        refine ⟨fun h => absurd h (by decide), fun _ => ?_, fun h0 h1 => absurd rfl h1⟩
        refine ⟨fun c8 => ?_, fun c8 => ?_⟩
        · skip
          exact hpost _ _ _ _ (iv_w (iv_lit (l := (-1)) (h := (-1)) (by decide)) (by decide)) k_ka_behind
        · skip
          refine ⟨fun c9 => ?_, fun c9 => ?_⟩
          · skip
            refine s_wk_X5_fill_3_0 k_ka_behind (iv_w (iv_ltb (l := 1) (h := 9) (r_lt c9) (iv_leb (l := 0) (h := 2147483647) (r_nlt c8) (iv_lit (l := 0) (h := 0) (by decide)) (iv_top x2) (by decide)) k_tc1f_voices (by decide)) (by decide)) k_tc1f_step k_tc1a_parts k_tc1a_heights (fun o10 o11 o12 k_o11 => ?_)
            exact s_wxt_X10_order_32k1 k_ta_counts k_tc0f_voices k_tc0f_step k_tc0a_parts k_tc0a_heights (iv_ltb (l := 1) (h := 9) (r_lt c9) (iv_leb (l := 0) (h := 2147483647) (r_nlt c8) (iv_lit (l := 0) (h := 0) (by decide)) (iv_top x2) (by decide)) k_tc1f_voices (by decide)) k_tc1f_step k_tc1a_parts k_tc1a_heights k_o11 (iv_lta (l := 0) (h := 8) (r_lt c9) (iv_leb (l := 0) (h := 2147483647) (r_nlt c8) (iv_lit (l := 0) (h := 0) (by decide)) (iv_top x2) (by decide)) k_tc1f_voices (by decide)) hpost
          · skip
            exact hpost _ _ _ _ (iv_w (iv_lit (l := (-1)) (h := (-1)) (by decide)) (by decide)) k_ka_behind
end
section
theorem bd09_947_dec_0 : ([(0, [42]), (1, [183, 0, 3]), (4, [42]), (5, [16, 9]), (7, [188, 10]), (9, [181, 0, 9]), (12, [42]), (13, [16, 9]), (15, [188, 10]), (17, [181, 0, 15]), (20, [177])] : List (Nat × List UInt8)).all (fun x => prB x.2 ((cX0_init.data.toList.drop 0).drop x.1)) = true := by decide +kernel
theorem dX0_init_0 : decode cX0_init 0 = .ok (.aload_n 0, 1) := op42 (bA_at bd09_947_dec_0 0 rfl rfl)
theorem dX0_init_1 : decode cX0_init 1 = .ok (.invokespecial 3, 3) := op183 (bA_at bd09_947_dec_0 1 rfl rfl) rfl
theorem dX0_init_4 : decode cX0_init 4 = .ok (.aload_n 0, 1) := op42 (bA_at bd09_947_dec_0 2 rfl rfl)
theorem dX0_init_5 : decode cX0_init 5 = .ok (.bipush 9, 2) := op16 (bA_at bd09_947_dec_0 3 rfl rfl) (by decide +kernel)
theorem dX0_init_7 : decode cX0_init 7 = .ok (.newarray .int, 2) := op188_10 (bA_at bd09_947_dec_0 4 rfl rfl)
theorem dX0_init_9 : decode cX0_init 9 = .ok (.putfield 9, 3) := op181 (bA_at bd09_947_dec_0 5 rfl rfl) rfl
theorem dX0_init_12 : decode cX0_init 12 = .ok (.aload_n 0, 1) := op42 (bA_at bd09_947_dec_0 6 rfl rfl)
theorem dX0_init_13 : decode cX0_init 13 = .ok (.bipush 9, 2) := op16 (bA_at bd09_947_dec_0 7 rfl rfl) (by decide +kernel)
theorem dX0_init_15 : decode cX0_init 15 = .ok (.newarray .int, 2) := op188_10 (bA_at bd09_947_dec_0 8 rfl rfl)
theorem dX0_init_17 : decode cX0_init 17 = .ok (.putfield 15, 3) := op181 (bA_at bd09_947_dec_0 9 rfl rfl) rfl
theorem dX0_init_20 : decode cX0_init 20 = .ok (.return_, 1) := op177 (bA_at bd09_947_dec_0 10 rfl rfl)
theorem bd09_947_dec_1 : ([(0, [42]), (1, [183, 0, 3]), (4, [42]), (5, [16, 40]), (7, [188, 10]), (9, [181, 0, 9]), (12, [42]), (13, [16, 40]), (15, [188, 10]), (17, [181, 0, 15]), (20, [42]), (21, [16, 40])] : List (Nat × List UInt8)).all (fun x => prB x.2 ((cX1_init.data.toList.drop 0).drop x.1)) = true := by decide +kernel
theorem dX1_init_0 : decode cX1_init 0 = .ok (.aload_n 0, 1) := op42 (bA_at bd09_947_dec_1 0 rfl rfl)
theorem dX1_init_1 : decode cX1_init 1 = .ok (.invokespecial 3, 3) := op183 (bA_at bd09_947_dec_1 1 rfl rfl) rfl
theorem dX1_init_4 : decode cX1_init 4 = .ok (.aload_n 0, 1) := op42 (bA_at bd09_947_dec_1 2 rfl rfl)
theorem dX1_init_5 : decode cX1_init 5 = .ok (.bipush 40, 2) := op16 (bA_at bd09_947_dec_1 3 rfl rfl) (by decide +kernel)
theorem dX1_init_7 : decode cX1_init 7 = .ok (.newarray .int, 2) := op188_10 (bA_at bd09_947_dec_1 4 rfl rfl)
theorem dX1_init_9 : decode cX1_init 9 = .ok (.putfield 9, 3) := op181 (bA_at bd09_947_dec_1 5 rfl rfl) rfl
theorem dX1_init_12 : decode cX1_init 12 = .ok (.aload_n 0, 1) := op42 (bA_at bd09_947_dec_1 6 rfl rfl)
theorem dX1_init_13 : decode cX1_init 13 = .ok (.bipush 40, 2) := op16 (bA_at bd09_947_dec_1 7 rfl rfl) (by decide +kernel)
theorem dX1_init_15 : decode cX1_init 15 = .ok (.newarray .int, 2) := op188_10 (bA_at bd09_947_dec_1 8 rfl rfl)
theorem dX1_init_17 : decode cX1_init 17 = .ok (.putfield 15, 3) := op181 (bA_at bd09_947_dec_1 9 rfl rfl) rfl
theorem dX1_init_20 : decode cX1_init 20 = .ok (.aload_n 0, 1) := op42 (bA_at bd09_947_dec_1 10 rfl rfl)
theorem dX1_init_21 : decode cX1_init 21 = .ok (.bipush 40, 2) := op16 (bA_at bd09_947_dec_1 11 rfl rfl) (by decide +kernel)
theorem bd09_947_dec_2 : ([(0, [188, 10]), (2, [181, 0, 18]), (5, [177])] : List (Nat × List UInt8)).all (fun x => prB x.2 ((cX1_init.data.toList.drop 23).drop x.1)) = true := by decide +kernel
theorem dX1_init_23 : decode cX1_init 23 = .ok (.newarray .int, 2) := op188_10 (bA_at bd09_947_dec_2 0 rfl rfl)
theorem dX1_init_25 : decode cX1_init 25 = .ok (.putfield 18, 3) := op181 (bA_at bd09_947_dec_2 1 rfl rfl) rfl
theorem dX1_init_28 : decode cX1_init 28 = .ok (.return_, 1) := op177 (bA_at bd09_947_dec_2 2 rfl rfl)
theorem bd09_947_dec_3 : ([(0, [42]), (1, [183, 0, 3]), (4, [42]), (5, [5]), (6, [181, 0, 9]), (9, [42]), (10, [8]), (11, [181, 0, 15]), (14, [42]), (15, [16, 9]), (17, [188, 10]), (19, [181, 0, 18])] : List (Nat × List UInt8)).all (fun x => prB x.2 ((cX2_init.data.toList.drop 0).drop x.1)) = true := by decide +kernel
theorem dX2_init_0 : decode cX2_init 0 = .ok (.aload_n 0, 1) := op42 (bA_at bd09_947_dec_3 0 rfl rfl)
theorem dX2_init_1 : decode cX2_init 1 = .ok (.invokespecial 3, 3) := op183 (bA_at bd09_947_dec_3 1 rfl rfl) rfl
theorem dX2_init_4 : decode cX2_init 4 = .ok (.aload_n 0, 1) := op42 (bA_at bd09_947_dec_3 2 rfl rfl)
theorem dX2_init_5 : decode cX2_init 5 = .ok (.iconst 2, 1) := op5 (bA_at bd09_947_dec_3 3 rfl rfl)
theorem dX2_init_6 : decode cX2_init 6 = .ok (.putfield 9, 3) := op181 (bA_at bd09_947_dec_3 4 rfl rfl) rfl
theorem dX2_init_9 : decode cX2_init 9 = .ok (.aload_n 0, 1) := op42 (bA_at bd09_947_dec_3 5 rfl rfl)
theorem dX2_init_10 : decode cX2_init 10 = .ok (.iconst 5, 1) := op8 (bA_at bd09_947_dec_3 6 rfl rfl)
theorem dX2_init_11 : decode cX2_init 11 = .ok (.putfield 15, 3) := op181 (bA_at bd09_947_dec_3 7 rfl rfl) rfl
theorem dX2_init_14 : decode cX2_init 14 = .ok (.aload_n 0, 1) := op42 (bA_at bd09_947_dec_3 8 rfl rfl)
theorem dX2_init_15 : decode cX2_init 15 = .ok (.bipush 9, 2) := op16 (bA_at bd09_947_dec_3 9 rfl rfl) (by decide +kernel)
theorem dX2_init_17 : decode cX2_init 17 = .ok (.newarray .int, 2) := op188_10 (bA_at bd09_947_dec_3 10 rfl rfl)
theorem dX2_init_19 : decode cX2_init 19 = .ok (.putfield 18, 3) := op181 (bA_at bd09_947_dec_3 11 rfl rfl) rfl
theorem bd09_947_dec_4 : ([(0, [42]), (1, [16, 9]), (3, [188, 10]), (5, [181, 0, 22]), (8, [42]), (9, [16, 81]), (11, [188, 10]), (13, [181, 0, 25]), (16, [42]), (17, [7]), (18, [188, 10]), (20, [181, 0, 28])] : List (Nat × List UInt8)).all (fun x => prB x.2 ((cX2_init.data.toList.drop 22).drop x.1)) = true := by decide +kernel
theorem dX2_init_22 : decode cX2_init 22 = .ok (.aload_n 0, 1) := op42 (bA_at bd09_947_dec_4 0 rfl rfl)
theorem dX2_init_23 : decode cX2_init 23 = .ok (.bipush 9, 2) := op16 (bA_at bd09_947_dec_4 1 rfl rfl) (by decide +kernel)
theorem dX2_init_25 : decode cX2_init 25 = .ok (.newarray .int, 2) := op188_10 (bA_at bd09_947_dec_4 2 rfl rfl)
theorem dX2_init_27 : decode cX2_init 27 = .ok (.putfield 22, 3) := op181 (bA_at bd09_947_dec_4 3 rfl rfl) rfl
theorem dX2_init_30 : decode cX2_init 30 = .ok (.aload_n 0, 1) := op42 (bA_at bd09_947_dec_4 4 rfl rfl)
theorem dX2_init_31 : decode cX2_init 31 = .ok (.bipush 81, 2) := op16 (bA_at bd09_947_dec_4 5 rfl rfl) (by decide +kernel)
theorem dX2_init_33 : decode cX2_init 33 = .ok (.newarray .int, 2) := op188_10 (bA_at bd09_947_dec_4 6 rfl rfl)
theorem dX2_init_35 : decode cX2_init 35 = .ok (.putfield 25, 3) := op181 (bA_at bd09_947_dec_4 7 rfl rfl) rfl
theorem dX2_init_38 : decode cX2_init 38 = .ok (.aload_n 0, 1) := op42 (bA_at bd09_947_dec_4 8 rfl rfl)
theorem dX2_init_39 : decode cX2_init 39 = .ok (.iconst 4, 1) := op7 (bA_at bd09_947_dec_4 9 rfl rfl)
theorem dX2_init_40 : decode cX2_init 40 = .ok (.newarray .int, 2) := op188_10 (bA_at bd09_947_dec_4 10 rfl rfl)
theorem dX2_init_42 : decode cX2_init 42 = .ok (.putfield 28, 3) := op181 (bA_at bd09_947_dec_4 11 rfl rfl) rfl
theorem bd09_947_dec_5 : ([(0, [42]), (1, [7]), (2, [188, 10]), (4, [181, 0, 31]), (7, [42]), (8, [16, 6]), (10, [188, 10]), (12, [181, 0, 34]), (15, [42]), (16, [16, 6]), (18, [188, 10]), (20, [181, 0, 37])] : List (Nat × List UInt8)).all (fun x => prB x.2 ((cX2_init.data.toList.drop 45).drop x.1)) = true := by decide +kernel
theorem dX2_init_45 : decode cX2_init 45 = .ok (.aload_n 0, 1) := op42 (bA_at bd09_947_dec_5 0 rfl rfl)
theorem dX2_init_46 : decode cX2_init 46 = .ok (.iconst 4, 1) := op7 (bA_at bd09_947_dec_5 1 rfl rfl)
theorem dX2_init_47 : decode cX2_init 47 = .ok (.newarray .int, 2) := op188_10 (bA_at bd09_947_dec_5 2 rfl rfl)
theorem dX2_init_49 : decode cX2_init 49 = .ok (.putfield 31, 3) := op181 (bA_at bd09_947_dec_5 3 rfl rfl) rfl
theorem dX2_init_52 : decode cX2_init 52 = .ok (.aload_n 0, 1) := op42 (bA_at bd09_947_dec_5 4 rfl rfl)
theorem dX2_init_53 : decode cX2_init 53 = .ok (.bipush 6, 2) := op16 (bA_at bd09_947_dec_5 5 rfl rfl) (by decide +kernel)
theorem dX2_init_55 : decode cX2_init 55 = .ok (.newarray .int, 2) := op188_10 (bA_at bd09_947_dec_5 6 rfl rfl)
theorem dX2_init_57 : decode cX2_init 57 = .ok (.putfield 34, 3) := op181 (bA_at bd09_947_dec_5 7 rfl rfl) rfl
theorem dX2_init_60 : decode cX2_init 60 = .ok (.aload_n 0, 1) := op42 (bA_at bd09_947_dec_5 8 rfl rfl)
theorem dX2_init_61 : decode cX2_init 61 = .ok (.bipush 6, 2) := op16 (bA_at bd09_947_dec_5 9 rfl rfl) (by decide +kernel)
theorem dX2_init_63 : decode cX2_init 63 = .ok (.newarray .int, 2) := op188_10 (bA_at bd09_947_dec_5 10 rfl rfl)
theorem dX2_init_65 : decode cX2_init 65 = .ok (.putfield 37, 3) := op181 (bA_at bd09_947_dec_5 11 rfl rfl) rfl
theorem bd09_947_dec_6 : ([(0, [42]), (1, [16, 6]), (3, [188, 10]), (5, [181, 0, 40]), (8, [177])] : List (Nat × List UInt8)).all (fun x => prB x.2 ((cX2_init.data.toList.drop 68).drop x.1)) = true := by decide +kernel
theorem dX2_init_68 : decode cX2_init 68 = .ok (.aload_n 0, 1) := op42 (bA_at bd09_947_dec_6 0 rfl rfl)
theorem dX2_init_69 : decode cX2_init 69 = .ok (.bipush 6, 2) := op16 (bA_at bd09_947_dec_6 1 rfl rfl) (by decide +kernel)
theorem dX2_init_71 : decode cX2_init 71 = .ok (.newarray .int, 2) := op188_10 (bA_at bd09_947_dec_6 2 rfl rfl)
theorem dX2_init_73 : decode cX2_init 73 = .ok (.putfield 40, 3) := op181 (bA_at bd09_947_dec_6 3 rfl rfl) rfl
theorem dX2_init_76 : decode cX2_init 76 = .ok (.return_, 1) := op177 (bA_at bd09_947_dec_6 4 rfl rfl)
theorem bd09_947_dec_7 : ([(0, [42]), (1, [183, 0, 3]), (4, [42]), (5, [16, 6]), (7, [188, 10]), (9, [181, 0, 9]), (12, [42]), (13, [16, 6]), (15, [188, 10]), (17, [181, 0, 15]), (20, [42]), (21, [8])] : List (Nat × List UInt8)).all (fun x => prB x.2 ((cX3_init.data.toList.drop 0).drop x.1)) = true := by decide +kernel
theorem dX3_init_0 : decode cX3_init 0 = .ok (.aload_n 0, 1) := op42 (bA_at bd09_947_dec_7 0 rfl rfl)
theorem dX3_init_1 : decode cX3_init 1 = .ok (.invokespecial 3, 3) := op183 (bA_at bd09_947_dec_7 1 rfl rfl) rfl
theorem dX3_init_4 : decode cX3_init 4 = .ok (.aload_n 0, 1) := op42 (bA_at bd09_947_dec_7 2 rfl rfl)
theorem dX3_init_5 : decode cX3_init 5 = .ok (.bipush 6, 2) := op16 (bA_at bd09_947_dec_7 3 rfl rfl) (by decide +kernel)
theorem dX3_init_7 : decode cX3_init 7 = .ok (.newarray .int, 2) := op188_10 (bA_at bd09_947_dec_7 4 rfl rfl)
theorem dX3_init_9 : decode cX3_init 9 = .ok (.putfield 9, 3) := op181 (bA_at bd09_947_dec_7 5 rfl rfl) rfl
theorem dX3_init_12 : decode cX3_init 12 = .ok (.aload_n 0, 1) := op42 (bA_at bd09_947_dec_7 6 rfl rfl)
theorem dX3_init_13 : decode cX3_init 13 = .ok (.bipush 6, 2) := op16 (bA_at bd09_947_dec_7 7 rfl rfl) (by decide +kernel)
theorem dX3_init_15 : decode cX3_init 15 = .ok (.newarray .int, 2) := op188_10 (bA_at bd09_947_dec_7 8 rfl rfl)
theorem dX3_init_17 : decode cX3_init 17 = .ok (.putfield 15, 3) := op181 (bA_at bd09_947_dec_7 9 rfl rfl) rfl
theorem dX3_init_20 : decode cX3_init 20 = .ok (.aload_n 0, 1) := op42 (bA_at bd09_947_dec_7 10 rfl rfl)
theorem dX3_init_21 : decode cX3_init 21 = .ok (.iconst 5, 1) := op8 (bA_at bd09_947_dec_7 11 rfl rfl)
theorem bd09_947_dec_8 : ([(0, [188, 10]), (2, [181, 0, 18]), (5, [42]), (6, [16, 9]), (8, [188, 10]), (10, [181, 0, 21]), (13, [42]), (14, [16, 9]), (16, [188, 10]), (18, [181, 0, 24]), (21, [177])] : List (Nat × List UInt8)).all (fun x => prB x.2 ((cX3_init.data.toList.drop 22).drop x.1)) = true := by decide +kernel
theorem dX3_init_22 : decode cX3_init 22 = .ok (.newarray .int, 2) := op188_10 (bA_at bd09_947_dec_8 0 rfl rfl)
theorem dX3_init_24 : decode cX3_init 24 = .ok (.putfield 18, 3) := op181 (bA_at bd09_947_dec_8 1 rfl rfl) rfl
theorem dX3_init_27 : decode cX3_init 27 = .ok (.aload_n 0, 1) := op42 (bA_at bd09_947_dec_8 2 rfl rfl)
theorem dX3_init_28 : decode cX3_init 28 = .ok (.bipush 9, 2) := op16 (bA_at bd09_947_dec_8 3 rfl rfl) (by decide +kernel)
theorem dX3_init_30 : decode cX3_init 30 = .ok (.newarray .int, 2) := op188_10 (bA_at bd09_947_dec_8 4 rfl rfl)
theorem dX3_init_32 : decode cX3_init 32 = .ok (.putfield 21, 3) := op181 (bA_at bd09_947_dec_8 5 rfl rfl) rfl
theorem dX3_init_35 : decode cX3_init 35 = .ok (.aload_n 0, 1) := op42 (bA_at bd09_947_dec_8 6 rfl rfl)
theorem dX3_init_36 : decode cX3_init 36 = .ok (.bipush 9, 2) := op16 (bA_at bd09_947_dec_8 7 rfl rfl) (by decide +kernel)
theorem dX3_init_38 : decode cX3_init 38 = .ok (.newarray .int, 2) := op188_10 (bA_at bd09_947_dec_8 8 rfl rfl)
theorem dX3_init_40 : decode cX3_init 40 = .ok (.putfield 24, 3) := op181 (bA_at bd09_947_dec_8 9 rfl rfl) rfl
theorem dX3_init_43 : decode cX3_init 43 = .ok (.return_, 1) := op177 (bA_at bd09_947_dec_8 10 rfl rfl)
theorem bd09_947_dec_9 : ([(0, [42]), (1, [183, 0, 3]), (4, [42]), (5, [187, 0, 9]), (8, [89]), (9, [183, 0, 11]), (12, [181, 0, 12]), (15, [42]), (16, [187, 0, 18]), (19, [89]), (20, [183, 0, 20]), (23, [181, 0, 21])] : List (Nat × List UInt8)).all (fun x => prB x.2 ((cX4_init.data.toList.drop 0).drop x.1)) = true := by decide +kernel
theorem dX4_init_0 : decode cX4_init 0 = .ok (.aload_n 0, 1) := op42 (bA_at bd09_947_dec_9 0 rfl rfl)
theorem dX4_init_1 : decode cX4_init 1 = .ok (.invokespecial 3, 3) := op183 (bA_at bd09_947_dec_9 1 rfl rfl) rfl
theorem dX4_init_4 : decode cX4_init 4 = .ok (.aload_n 0, 1) := op42 (bA_at bd09_947_dec_9 2 rfl rfl)
theorem dX4_init_5 : decode cX4_init 5 = .ok (.new 9, 3) := op187 (bA_at bd09_947_dec_9 3 rfl rfl) rfl
theorem dX4_init_8 : decode cX4_init 8 = .ok (.dup, 1) := op89 (bA_at bd09_947_dec_9 4 rfl rfl)
theorem dX4_init_9 : decode cX4_init 9 = .ok (.invokespecial 11, 3) := op183 (bA_at bd09_947_dec_9 5 rfl rfl) rfl
theorem dX4_init_12 : decode cX4_init 12 = .ok (.putfield 12, 3) := op181 (bA_at bd09_947_dec_9 6 rfl rfl) rfl
theorem dX4_init_15 : decode cX4_init 15 = .ok (.aload_n 0, 1) := op42 (bA_at bd09_947_dec_9 7 rfl rfl)
theorem dX4_init_16 : decode cX4_init 16 = .ok (.new 18, 3) := op187 (bA_at bd09_947_dec_9 8 rfl rfl) rfl
theorem dX4_init_19 : decode cX4_init 19 = .ok (.dup, 1) := op89 (bA_at bd09_947_dec_9 9 rfl rfl)
theorem dX4_init_20 : decode cX4_init 20 = .ok (.invokespecial 20, 3) := op183 (bA_at bd09_947_dec_9 10 rfl rfl) rfl
theorem dX4_init_23 : decode cX4_init 23 = .ok (.putfield 21, 3) := op181 (bA_at bd09_947_dec_9 11 rfl rfl) rfl
theorem bd09_947_dec_10 : ([(0, [42]), (1, [187, 0, 25]), (4, [89]), (5, [183, 0, 27]), (8, [181, 0, 28]), (11, [42]), (12, [187, 0, 32]), (15, [89]), (16, [183, 0, 34]), (19, [181, 0, 35]), (22, [42]), (23, [2])] : List (Nat × List UInt8)).all (fun x => prB x.2 ((cX4_init.data.toList.drop 26).drop x.1)) = true := by decide +kernel
theorem dX4_init_26 : decode cX4_init 26 = .ok (.aload_n 0, 1) := op42 (bA_at bd09_947_dec_10 0 rfl rfl)
theorem dX4_init_27 : decode cX4_init 27 = .ok (.new 25, 3) := op187 (bA_at bd09_947_dec_10 1 rfl rfl) rfl
theorem dX4_init_30 : decode cX4_init 30 = .ok (.dup, 1) := op89 (bA_at bd09_947_dec_10 2 rfl rfl)
theorem dX4_init_31 : decode cX4_init 31 = .ok (.invokespecial 27, 3) := op183 (bA_at bd09_947_dec_10 3 rfl rfl) rfl
theorem dX4_init_34 : decode cX4_init 34 = .ok (.putfield 28, 3) := op181 (bA_at bd09_947_dec_10 4 rfl rfl) rfl
theorem dX4_init_37 : decode cX4_init 37 = .ok (.aload_n 0, 1) := op42 (bA_at bd09_947_dec_10 5 rfl rfl)
theorem dX4_init_38 : decode cX4_init 38 = .ok (.new 32, 3) := op187 (bA_at bd09_947_dec_10 6 rfl rfl) rfl
theorem dX4_init_41 : decode cX4_init 41 = .ok (.dup, 1) := op89 (bA_at bd09_947_dec_10 7 rfl rfl)
theorem dX4_init_42 : decode cX4_init 42 = .ok (.invokespecial 34, 3) := op183 (bA_at bd09_947_dec_10 8 rfl rfl) rfl
theorem dX4_init_45 : decode cX4_init 45 = .ok (.putfield 35, 3) := op181 (bA_at bd09_947_dec_10 9 rfl rfl) rfl
theorem dX4_init_48 : decode cX4_init 48 = .ok (.aload_n 0, 1) := op42 (bA_at bd09_947_dec_10 10 rfl rfl)
theorem dX4_init_49 : decode cX4_init 49 = .ok (.iconst (-1), 1) := op2 (bA_at bd09_947_dec_10 11 rfl rfl)
theorem bd09_947_dec_11 : ([(0, [181, 0, 39]), (3, [42]), (4, [6]), (5, [188, 10]), (7, [181, 0, 43]), (10, [42]), (11, [17, 2, 88]), (14, [188, 8]), (16, [181, 0, 47]), (19, [177])] : List (Nat × List UInt8)).all (fun x => prB x.2 ((cX4_init.data.toList.drop 50).drop x.1)) = true := by decide +kernel
theorem dX4_init_50 : decode cX4_init 50 = .ok (.putfield 39, 3) := op181 (bA_at bd09_947_dec_11 0 rfl rfl) rfl
theorem dX4_init_53 : decode cX4_init 53 = .ok (.aload_n 0, 1) := op42 (bA_at bd09_947_dec_11 1 rfl rfl)
theorem dX4_init_54 : decode cX4_init 54 = .ok (.iconst 3, 1) := op6 (bA_at bd09_947_dec_11 2 rfl rfl)
theorem dX4_init_55 : decode cX4_init 55 = .ok (.newarray .int, 2) := op188_10 (bA_at bd09_947_dec_11 3 rfl rfl)
theorem dX4_init_57 : decode cX4_init 57 = .ok (.putfield 43, 3) := op181 (bA_at bd09_947_dec_11 4 rfl rfl) rfl
theorem dX4_init_60 : decode cX4_init 60 = .ok (.aload_n 0, 1) := op42 (bA_at bd09_947_dec_11 5 rfl rfl)
theorem dX4_init_61 : decode cX4_init 61 = .ok (.sipush 600, 3) := op17 (bA_at bd09_947_dec_11 6 rfl rfl) (by decide +kernel)
theorem dX4_init_64 : decode cX4_init 64 = .ok (.newarray .byte, 2) := op188_8 (bA_at bd09_947_dec_11 7 rfl rfl)
theorem dX4_init_66 : decode cX4_init 66 = .ok (.putfield 47, 3) := op181 (bA_at bd09_947_dec_11 8 rfl rfl) rfl
theorem dX4_init_69 : decode cX4_init 69 = .ok (.return_, 1) := op177 (bA_at bd09_947_dec_11 9 rfl rfl)
theorem bd09_947_dec_12 : ([(0, [42]), (1, [183, 0, 3]), (4, [42]), (5, [16, 81]), (7, [188, 10]), (9, [181, 0, 9]), (12, [42]), (13, [16, 9]), (15, [188, 10]), (17, [181, 0, 15]), (20, [177])] : List (Nat × List UInt8)).all (fun x => prB x.2 ((cX5_init.data.toList.drop 0).drop x.1)) = true := by decide +kernel
theorem dX5_init_0 : decode cX5_init 0 = .ok (.aload_n 0, 1) := op42 (bA_at bd09_947_dec_12 0 rfl rfl)
theorem dX5_init_1 : decode cX5_init 1 = .ok (.invokespecial 3, 3) := op183 (bA_at bd09_947_dec_12 1 rfl rfl) rfl
theorem dX5_init_4 : decode cX5_init 4 = .ok (.aload_n 0, 1) := op42 (bA_at bd09_947_dec_12 2 rfl rfl)
theorem dX5_init_5 : decode cX5_init 5 = .ok (.bipush 81, 2) := op16 (bA_at bd09_947_dec_12 3 rfl rfl) (by decide +kernel)
theorem dX5_init_7 : decode cX5_init 7 = .ok (.newarray .int, 2) := op188_10 (bA_at bd09_947_dec_12 4 rfl rfl)
theorem dX5_init_9 : decode cX5_init 9 = .ok (.putfield 9, 3) := op181 (bA_at bd09_947_dec_12 5 rfl rfl) rfl
theorem dX5_init_12 : decode cX5_init 12 = .ok (.aload_n 0, 1) := op42 (bA_at bd09_947_dec_12 6 rfl rfl)
theorem dX5_init_13 : decode cX5_init 13 = .ok (.bipush 9, 2) := op16 (bA_at bd09_947_dec_12 7 rfl rfl) (by decide +kernel)
theorem dX5_init_15 : decode cX5_init 15 = .ok (.newarray .int, 2) := op188_10 (bA_at bd09_947_dec_12 8 rfl rfl)
theorem dX5_init_17 : decode cX5_init 17 = .ok (.putfield 15, 3) := op181 (bA_at bd09_947_dec_12 9 rfl rfl) rfl
theorem dX5_init_20 : decode cX5_init 20 = .ok (.return_, 1) := op177 (bA_at bd09_947_dec_12 10 rfl rfl)
theorem bd09_947_dec_13 : ([(0, [42]), (1, [17, 18, 0]), (4, [188, 10]), (6, [181, 0, 66])] : List (Nat × List UInt8)).all (fun x => prB x.2 ((cX5_table.data.toList.drop 7).drop x.1)) = true := by decide +kernel
theorem dX5_table_7 : decode cX5_table 7 = .ok (.aload_n 0, 1) := op42 (bA_at bd09_947_dec_13 0 rfl rfl)
theorem dX5_table_8 : decode cX5_table 8 = .ok (.sipush 4608, 3) := op17 (bA_at bd09_947_dec_13 1 rfl rfl) (by decide +kernel)
theorem dX5_table_11 : decode cX5_table 11 = .ok (.newarray .int, 2) := op188_10 (bA_at bd09_947_dec_13 2 rfl rfl)
theorem dX5_table_13 : decode cX5_table 13 = .ok (.putfield 66, 3) := op181 (bA_at bd09_947_dec_13 3 rfl rfl) rfl
theorem bd09_947_dec_14 : ([(0, [42]), (1, [183, 0, 3]), (4, [42]), (5, [16, 10]), (7, [188, 10]), (9, [181, 0, 9]), (12, [42]), (13, [16, 10]), (15, [188, 10]), (17, [181, 0, 15]), (20, [42]), (21, [16, 10])] : List (Nat × List UInt8)).all (fun x => prB x.2 ((cX6_init.data.toList.drop 0).drop x.1)) = true := by decide +kernel
theorem dX6_init_0 : decode cX6_init 0 = .ok (.aload_n 0, 1) := op42 (bA_at bd09_947_dec_14 0 rfl rfl)
theorem dX6_init_1 : decode cX6_init 1 = .ok (.invokespecial 3, 3) := op183 (bA_at bd09_947_dec_14 1 rfl rfl) rfl
theorem dX6_init_4 : decode cX6_init 4 = .ok (.aload_n 0, 1) := op42 (bA_at bd09_947_dec_14 2 rfl rfl)
theorem dX6_init_5 : decode cX6_init 5 = .ok (.bipush 10, 2) := op16 (bA_at bd09_947_dec_14 3 rfl rfl) (by decide +kernel)
theorem dX6_init_7 : decode cX6_init 7 = .ok (.newarray .int, 2) := op188_10 (bA_at bd09_947_dec_14 4 rfl rfl)
theorem dX6_init_9 : decode cX6_init 9 = .ok (.putfield 9, 3) := op181 (bA_at bd09_947_dec_14 5 rfl rfl) rfl
theorem dX6_init_12 : decode cX6_init 12 = .ok (.aload_n 0, 1) := op42 (bA_at bd09_947_dec_14 6 rfl rfl)
theorem dX6_init_13 : decode cX6_init 13 = .ok (.bipush 10, 2) := op16 (bA_at bd09_947_dec_14 7 rfl rfl) (by decide +kernel)
theorem dX6_init_15 : decode cX6_init 15 = .ok (.newarray .int, 2) := op188_10 (bA_at bd09_947_dec_14 8 rfl rfl)
theorem dX6_init_17 : decode cX6_init 17 = .ok (.putfield 15, 3) := op181 (bA_at bd09_947_dec_14 9 rfl rfl) rfl
theorem dX6_init_20 : decode cX6_init 20 = .ok (.aload_n 0, 1) := op42 (bA_at bd09_947_dec_14 10 rfl rfl)
theorem dX6_init_21 : decode cX6_init 21 = .ok (.bipush 10, 2) := op16 (bA_at bd09_947_dec_14 11 rfl rfl) (by decide +kernel)
theorem bd09_947_dec_15 : ([(0, [188, 10]), (2, [181, 0, 18]), (5, [177])] : List (Nat × List UInt8)).all (fun x => prB x.2 ((cX6_init.data.toList.drop 23).drop x.1)) = true := by decide +kernel
theorem dX6_init_23 : decode cX6_init 23 = .ok (.newarray .int, 2) := op188_10 (bA_at bd09_947_dec_15 0 rfl rfl)
theorem dX6_init_25 : decode cX6_init 25 = .ok (.putfield 18, 3) := op181 (bA_at bd09_947_dec_15 1 rfl rfl) rfl
theorem dX6_init_28 : decode cX6_init 28 = .ok (.return_, 1) := op177 (bA_at bd09_947_dec_15 2 rfl rfl)
theorem bd09_947_dec_16 : ([(0, [42]), (1, [183, 0, 3]), (4, [42]), (5, [16, 81]), (7, [188, 10]), (9, [181, 0, 9]), (12, [42]), (13, [16, 81]), (15, [188, 10]), (17, [181, 0, 15]), (20, [42]), (21, [16, 9])] : List (Nat × List UInt8)).all (fun x => prB x.2 ((cX7_init.data.toList.drop 0).drop x.1)) = true := by decide +kernel
theorem dX7_init_0 : decode cX7_init 0 = .ok (.aload_n 0, 1) := op42 (bA_at bd09_947_dec_16 0 rfl rfl)
theorem dX7_init_1 : decode cX7_init 1 = .ok (.invokespecial 3, 3) := op183 (bA_at bd09_947_dec_16 1 rfl rfl) rfl
theorem dX7_init_4 : decode cX7_init 4 = .ok (.aload_n 0, 1) := op42 (bA_at bd09_947_dec_16 2 rfl rfl)
theorem dX7_init_5 : decode cX7_init 5 = .ok (.bipush 81, 2) := op16 (bA_at bd09_947_dec_16 3 rfl rfl) (by decide +kernel)
theorem dX7_init_7 : decode cX7_init 7 = .ok (.newarray .int, 2) := op188_10 (bA_at bd09_947_dec_16 4 rfl rfl)
theorem dX7_init_9 : decode cX7_init 9 = .ok (.putfield 9, 3) := op181 (bA_at bd09_947_dec_16 5 rfl rfl) rfl
theorem dX7_init_12 : decode cX7_init 12 = .ok (.aload_n 0, 1) := op42 (bA_at bd09_947_dec_16 6 rfl rfl)
theorem dX7_init_13 : decode cX7_init 13 = .ok (.bipush 81, 2) := op16 (bA_at bd09_947_dec_16 7 rfl rfl) (by decide +kernel)
theorem dX7_init_15 : decode cX7_init 15 = .ok (.newarray .int, 2) := op188_10 (bA_at bd09_947_dec_16 8 rfl rfl)
theorem dX7_init_17 : decode cX7_init 17 = .ok (.putfield 15, 3) := op181 (bA_at bd09_947_dec_16 9 rfl rfl) rfl
theorem dX7_init_20 : decode cX7_init 20 = .ok (.aload_n 0, 1) := op42 (bA_at bd09_947_dec_16 10 rfl rfl)
theorem dX7_init_21 : decode cX7_init 21 = .ok (.bipush 9, 2) := op16 (bA_at bd09_947_dec_16 11 rfl rfl) (by decide +kernel)
theorem bd09_947_dec_17 : ([(0, [188, 10]), (2, [181, 0, 18]), (5, [42]), (6, [16, 9]), (8, [188, 10]), (10, [181, 0, 21]), (13, [42]), (14, [16, 9]), (16, [188, 10]), (18, [181, 0, 24]), (21, [42]), (22, [16, 9])] : List (Nat × List UInt8)).all (fun x => prB x.2 ((cX7_init.data.toList.drop 23).drop x.1)) = true := by decide +kernel
theorem dX7_init_23 : decode cX7_init 23 = .ok (.newarray .int, 2) := op188_10 (bA_at bd09_947_dec_17 0 rfl rfl)
theorem dX7_init_25 : decode cX7_init 25 = .ok (.putfield 18, 3) := op181 (bA_at bd09_947_dec_17 1 rfl rfl) rfl
theorem dX7_init_28 : decode cX7_init 28 = .ok (.aload_n 0, 1) := op42 (bA_at bd09_947_dec_17 2 rfl rfl)
theorem dX7_init_29 : decode cX7_init 29 = .ok (.bipush 9, 2) := op16 (bA_at bd09_947_dec_17 3 rfl rfl) (by decide +kernel)
theorem dX7_init_31 : decode cX7_init 31 = .ok (.newarray .int, 2) := op188_10 (bA_at bd09_947_dec_17 4 rfl rfl)
theorem dX7_init_33 : decode cX7_init 33 = .ok (.putfield 21, 3) := op181 (bA_at bd09_947_dec_17 5 rfl rfl) rfl
theorem dX7_init_36 : decode cX7_init 36 = .ok (.aload_n 0, 1) := op42 (bA_at bd09_947_dec_17 6 rfl rfl)
theorem dX7_init_37 : decode cX7_init 37 = .ok (.bipush 9, 2) := op16 (bA_at bd09_947_dec_17 7 rfl rfl) (by decide +kernel)
theorem dX7_init_39 : decode cX7_init 39 = .ok (.newarray .int, 2) := op188_10 (bA_at bd09_947_dec_17 8 rfl rfl)
theorem dX7_init_41 : decode cX7_init 41 = .ok (.putfield 24, 3) := op181 (bA_at bd09_947_dec_17 9 rfl rfl) rfl
theorem dX7_init_44 : decode cX7_init 44 = .ok (.aload_n 0, 1) := op42 (bA_at bd09_947_dec_17 10 rfl rfl)
theorem dX7_init_45 : decode cX7_init 45 = .ok (.bipush 9, 2) := op16 (bA_at bd09_947_dec_17 11 rfl rfl) (by decide +kernel)
theorem bd09_947_dec_18 : ([(0, [188, 10]), (2, [181, 0, 27]), (5, [42]), (6, [16, 9]), (8, [188, 10]), (10, [181, 0, 30]), (13, [42]), (14, [16, 9]), (16, [188, 10]), (18, [181, 0, 33]), (21, [177])] : List (Nat × List UInt8)).all (fun x => prB x.2 ((cX7_init.data.toList.drop 47).drop x.1)) = true := by decide +kernel
theorem dX7_init_47 : decode cX7_init 47 = .ok (.newarray .int, 2) := op188_10 (bA_at bd09_947_dec_18 0 rfl rfl)
theorem dX7_init_49 : decode cX7_init 49 = .ok (.putfield 27, 3) := op181 (bA_at bd09_947_dec_18 1 rfl rfl) rfl
theorem dX7_init_52 : decode cX7_init 52 = .ok (.aload_n 0, 1) := op42 (bA_at bd09_947_dec_18 2 rfl rfl)
theorem dX7_init_53 : decode cX7_init 53 = .ok (.bipush 9, 2) := op16 (bA_at bd09_947_dec_18 3 rfl rfl) (by decide +kernel)
theorem dX7_init_55 : decode cX7_init 55 = .ok (.newarray .int, 2) := op188_10 (bA_at bd09_947_dec_18 4 rfl rfl)
theorem dX7_init_57 : decode cX7_init 57 = .ok (.putfield 30, 3) := op181 (bA_at bd09_947_dec_18 5 rfl rfl) rfl
theorem dX7_init_60 : decode cX7_init 60 = .ok (.aload_n 0, 1) := op42 (bA_at bd09_947_dec_18 6 rfl rfl)
theorem dX7_init_61 : decode cX7_init 61 = .ok (.bipush 9, 2) := op16 (bA_at bd09_947_dec_18 7 rfl rfl) (by decide +kernel)
theorem dX7_init_63 : decode cX7_init 63 = .ok (.newarray .int, 2) := op188_10 (bA_at bd09_947_dec_18 8 rfl rfl)
theorem dX7_init_65 : decode cX7_init 65 = .ok (.putfield 33, 3) := op181 (bA_at bd09_947_dec_18 9 rfl rfl) rfl
theorem dX7_init_68 : decode cX7_init 68 = .ok (.return_, 1) := op177 (bA_at bd09_947_dec_18 10 rfl rfl)
theorem bd09_947_dec_19 : ([(0, [42]), (1, [183, 0, 3]), (4, [42]), (5, [16, 61]), (7, [188, 10]), (9, [181, 0, 9]), (12, [42]), (13, [16, 61]), (15, [188, 10]), (17, [181, 0, 15]), (20, [177])] : List (Nat × List UInt8)).all (fun x => prB x.2 ((cX8_init.data.toList.drop 0).drop x.1)) = true := by decide +kernel
theorem dX8_init_0 : decode cX8_init 0 = .ok (.aload_n 0, 1) := op42 (bA_at bd09_947_dec_19 0 rfl rfl)
theorem dX8_init_1 : decode cX8_init 1 = .ok (.invokespecial 3, 3) := op183 (bA_at bd09_947_dec_19 1 rfl rfl) rfl
theorem dX8_init_4 : decode cX8_init 4 = .ok (.aload_n 0, 1) := op42 (bA_at bd09_947_dec_19 2 rfl rfl)
theorem dX8_init_5 : decode cX8_init 5 = .ok (.bipush 61, 2) := op16 (bA_at bd09_947_dec_19 3 rfl rfl) (by decide +kernel)
theorem dX8_init_7 : decode cX8_init 7 = .ok (.newarray .int, 2) := op188_10 (bA_at bd09_947_dec_19 4 rfl rfl)
theorem dX8_init_9 : decode cX8_init 9 = .ok (.putfield 9, 3) := op181 (bA_at bd09_947_dec_19 5 rfl rfl) rfl
theorem dX8_init_12 : decode cX8_init 12 = .ok (.aload_n 0, 1) := op42 (bA_at bd09_947_dec_19 6 rfl rfl)
theorem dX8_init_13 : decode cX8_init 13 = .ok (.bipush 61, 2) := op16 (bA_at bd09_947_dec_19 7 rfl rfl) (by decide +kernel)
theorem dX8_init_15 : decode cX8_init 15 = .ok (.newarray .int, 2) := op188_10 (bA_at bd09_947_dec_19 8 rfl rfl)
theorem dX8_init_17 : decode cX8_init 17 = .ok (.putfield 15, 3) := op181 (bA_at bd09_947_dec_19 9 rfl rfl) rfl
theorem dX8_init_20 : decode cX8_init 20 = .ok (.return_, 1) := op177 (bA_at bd09_947_dec_19 10 rfl rfl)
theorem bd09_947_dec_20 : ([(0, [42]), (1, [183, 0, 3]), (4, [42]), (5, [17, 2, 88]), (8, [188, 8]), (10, [181, 0, 9]), (13, [42]), (14, [2]), (15, [181, 0, 15]), (18, [42]), (19, [7]), (20, [188, 10])] : List (Nat × List UInt8)).all (fun x => prB x.2 ((cX9_init.data.toList.drop 0).drop x.1)) = true := by decide +kernel
theorem dX9_init_0 : decode cX9_init 0 = .ok (.aload_n 0, 1) := op42 (bA_at bd09_947_dec_20 0 rfl rfl)
theorem dX9_init_1 : decode cX9_init 1 = .ok (.invokespecial 3, 3) := op183 (bA_at bd09_947_dec_20 1 rfl rfl) rfl
theorem dX9_init_4 : decode cX9_init 4 = .ok (.aload_n 0, 1) := op42 (bA_at bd09_947_dec_20 2 rfl rfl)
theorem dX9_init_5 : decode cX9_init 5 = .ok (.sipush 600, 3) := op17 (bA_at bd09_947_dec_20 3 rfl rfl) (by decide +kernel)
theorem dX9_init_8 : decode cX9_init 8 = .ok (.newarray .byte, 2) := op188_8 (bA_at bd09_947_dec_20 4 rfl rfl)
theorem dX9_init_10 : decode cX9_init 10 = .ok (.putfield 9, 3) := op181 (bA_at bd09_947_dec_20 5 rfl rfl) rfl
theorem dX9_init_13 : decode cX9_init 13 = .ok (.aload_n 0, 1) := op42 (bA_at bd09_947_dec_20 6 rfl rfl)
theorem dX9_init_14 : decode cX9_init 14 = .ok (.iconst (-1), 1) := op2 (bA_at bd09_947_dec_20 7 rfl rfl)
theorem dX9_init_15 : decode cX9_init 15 = .ok (.putfield 15, 3) := op181 (bA_at bd09_947_dec_20 8 rfl rfl) rfl
theorem dX9_init_18 : decode cX9_init 18 = .ok (.aload_n 0, 1) := op42 (bA_at bd09_947_dec_20 9 rfl rfl)
theorem dX9_init_19 : decode cX9_init 19 = .ok (.iconst 4, 1) := op7 (bA_at bd09_947_dec_20 10 rfl rfl)
theorem dX9_init_20 : decode cX9_init 20 = .ok (.newarray .int, 2) := op188_10 (bA_at bd09_947_dec_20 11 rfl rfl)
theorem bd09_947_dec_21 : ([(0, [181, 0, 19]), (3, [42]), (4, [5]), (5, [189, 0, 23]), (8, [89]), (9, [3]), (10, [187, 0, 23]), (13, [89]), (14, [183, 0, 25]), (17, [83]), (18, [89]), (19, [4])] : List (Nat × List UInt8)).all (fun x => prB x.2 ((cX9_init.data.toList.drop 22).drop x.1)) = true := by decide +kernel
theorem dX9_init_22 : decode cX9_init 22 = .ok (.putfield 19, 3) := op181 (bA_at bd09_947_dec_21 0 rfl rfl) rfl
theorem dX9_init_25 : decode cX9_init 25 = .ok (.aload_n 0, 1) := op42 (bA_at bd09_947_dec_21 1 rfl rfl)
theorem dX9_init_26 : decode cX9_init 26 = .ok (.iconst 2, 1) := op5 (bA_at bd09_947_dec_21 2 rfl rfl)
theorem dX9_init_27 : decode cX9_init 27 = .ok (.anewarray 23, 3) := op189 (bA_at bd09_947_dec_21 3 rfl rfl) rfl
theorem dX9_init_30 : decode cX9_init 30 = .ok (.dup, 1) := op89 (bA_at bd09_947_dec_21 4 rfl rfl)
theorem dX9_init_31 : decode cX9_init 31 = .ok (.iconst 0, 1) := op3 (bA_at bd09_947_dec_21 5 rfl rfl)
theorem dX9_init_32 : decode cX9_init 32 = .ok (.new 23, 3) := op187 (bA_at bd09_947_dec_21 6 rfl rfl) rfl
theorem dX9_init_35 : decode cX9_init 35 = .ok (.dup, 1) := op89 (bA_at bd09_947_dec_21 7 rfl rfl)
theorem dX9_init_36 : decode cX9_init 36 = .ok (.invokespecial 25, 3) := op183 (bA_at bd09_947_dec_21 8 rfl rfl) rfl
theorem dX9_init_39 : decode cX9_init 39 = .ok (.aastore, 1) := op83 (bA_at bd09_947_dec_21 9 rfl rfl)
theorem dX9_init_40 : decode cX9_init 40 = .ok (.dup, 1) := op89 (bA_at bd09_947_dec_21 10 rfl rfl)
theorem dX9_init_41 : decode cX9_init 41 = .ok (.iconst 1, 1) := op4 (bA_at bd09_947_dec_21 11 rfl rfl)
theorem bd09_947_dec_22 : ([(0, [187, 0, 23]), (3, [89]), (4, [183, 0, 25]), (7, [83]), (8, [181, 0, 26]), (11, [42]), (12, [5]), (13, [189, 0, 30]), (16, [89]), (17, [3]), (18, [187, 0, 30]), (21, [89])] : List (Nat × List UInt8)).all (fun x => prB x.2 ((cX9_init.data.toList.drop 42).drop x.1)) = true := by decide +kernel
theorem dX9_init_42 : decode cX9_init 42 = .ok (.new 23, 3) := op187 (bA_at bd09_947_dec_22 0 rfl rfl) rfl
theorem dX9_init_45 : decode cX9_init 45 = .ok (.dup, 1) := op89 (bA_at bd09_947_dec_22 1 rfl rfl)
theorem dX9_init_46 : decode cX9_init 46 = .ok (.invokespecial 25, 3) := op183 (bA_at bd09_947_dec_22 2 rfl rfl) rfl
theorem dX9_init_49 : decode cX9_init 49 = .ok (.aastore, 1) := op83 (bA_at bd09_947_dec_22 3 rfl rfl)
theorem dX9_init_50 : decode cX9_init 50 = .ok (.putfield 26, 3) := op181 (bA_at bd09_947_dec_22 4 rfl rfl) rfl
theorem dX9_init_53 : decode cX9_init 53 = .ok (.aload_n 0, 1) := op42 (bA_at bd09_947_dec_22 5 rfl rfl)
theorem dX9_init_54 : decode cX9_init 54 = .ok (.iconst 2, 1) := op5 (bA_at bd09_947_dec_22 6 rfl rfl)
theorem dX9_init_55 : decode cX9_init 55 = .ok (.anewarray 30, 3) := op189 (bA_at bd09_947_dec_22 7 rfl rfl) rfl
theorem dX9_init_58 : decode cX9_init 58 = .ok (.dup, 1) := op89 (bA_at bd09_947_dec_22 8 rfl rfl)
theorem dX9_init_59 : decode cX9_init 59 = .ok (.iconst 0, 1) := op3 (bA_at bd09_947_dec_22 9 rfl rfl)
theorem dX9_init_60 : decode cX9_init 60 = .ok (.new 30, 3) := op187 (bA_at bd09_947_dec_22 10 rfl rfl) rfl
theorem dX9_init_63 : decode cX9_init 63 = .ok (.dup, 1) := op89 (bA_at bd09_947_dec_22 11 rfl rfl)
theorem bd09_947_dec_23 : ([(0, [183, 0, 32]), (3, [83]), (4, [89]), (5, [4]), (6, [187, 0, 30]), (9, [89]), (10, [183, 0, 32]), (13, [83]), (14, [181, 0, 33]), (17, [42]), (18, [5]), (19, [189, 0, 37])] : List (Nat × List UInt8)).all (fun x => prB x.2 ((cX9_init.data.toList.drop 64).drop x.1)) = true := by decide +kernel
theorem dX9_init_64 : decode cX9_init 64 = .ok (.invokespecial 32, 3) := op183 (bA_at bd09_947_dec_23 0 rfl rfl) rfl
theorem dX9_init_67 : decode cX9_init 67 = .ok (.aastore, 1) := op83 (bA_at bd09_947_dec_23 1 rfl rfl)
theorem dX9_init_68 : decode cX9_init 68 = .ok (.dup, 1) := op89 (bA_at bd09_947_dec_23 2 rfl rfl)
theorem dX9_init_69 : decode cX9_init 69 = .ok (.iconst 1, 1) := op4 (bA_at bd09_947_dec_23 3 rfl rfl)
theorem dX9_init_70 : decode cX9_init 70 = .ok (.new 30, 3) := op187 (bA_at bd09_947_dec_23 4 rfl rfl) rfl
theorem dX9_init_73 : decode cX9_init 73 = .ok (.dup, 1) := op89 (bA_at bd09_947_dec_23 5 rfl rfl)
theorem dX9_init_74 : decode cX9_init 74 = .ok (.invokespecial 32, 3) := op183 (bA_at bd09_947_dec_23 6 rfl rfl) rfl
theorem dX9_init_77 : decode cX9_init 77 = .ok (.aastore, 1) := op83 (bA_at bd09_947_dec_23 7 rfl rfl)
theorem dX9_init_78 : decode cX9_init 78 = .ok (.putfield 33, 3) := op181 (bA_at bd09_947_dec_23 8 rfl rfl) rfl
theorem dX9_init_81 : decode cX9_init 81 = .ok (.aload_n 0, 1) := op42 (bA_at bd09_947_dec_23 9 rfl rfl)
theorem dX9_init_82 : decode cX9_init 82 = .ok (.iconst 2, 1) := op5 (bA_at bd09_947_dec_23 10 rfl rfl)
theorem dX9_init_83 : decode cX9_init 83 = .ok (.anewarray 37, 3) := op189 (bA_at bd09_947_dec_23 11 rfl rfl) rfl
theorem bd09_947_dec_24 : ([(0, [89]), (1, [3]), (2, [187, 0, 37]), (5, [89]), (6, [183, 0, 39]), (9, [83]), (10, [89]), (11, [4]), (12, [187, 0, 37]), (15, [89]), (16, [183, 0, 39]), (19, [83])] : List (Nat × List UInt8)).all (fun x => prB x.2 ((cX9_init.data.toList.drop 86).drop x.1)) = true := by decide +kernel
theorem dX9_init_86 : decode cX9_init 86 = .ok (.dup, 1) := op89 (bA_at bd09_947_dec_24 0 rfl rfl)
theorem dX9_init_87 : decode cX9_init 87 = .ok (.iconst 0, 1) := op3 (bA_at bd09_947_dec_24 1 rfl rfl)
theorem dX9_init_88 : decode cX9_init 88 = .ok (.new 37, 3) := op187 (bA_at bd09_947_dec_24 2 rfl rfl) rfl
theorem dX9_init_91 : decode cX9_init 91 = .ok (.dup, 1) := op89 (bA_at bd09_947_dec_24 3 rfl rfl)
theorem dX9_init_92 : decode cX9_init 92 = .ok (.invokespecial 39, 3) := op183 (bA_at bd09_947_dec_24 4 rfl rfl) rfl
theorem dX9_init_95 : decode cX9_init 95 = .ok (.aastore, 1) := op83 (bA_at bd09_947_dec_24 5 rfl rfl)
theorem dX9_init_96 : decode cX9_init 96 = .ok (.dup, 1) := op89 (bA_at bd09_947_dec_24 6 rfl rfl)
theorem dX9_init_97 : decode cX9_init 97 = .ok (.iconst 1, 1) := op4 (bA_at bd09_947_dec_24 7 rfl rfl)
theorem dX9_init_98 : decode cX9_init 98 = .ok (.new 37, 3) := op187 (bA_at bd09_947_dec_24 8 rfl rfl) rfl
theorem dX9_init_101 : decode cX9_init 101 = .ok (.dup, 1) := op89 (bA_at bd09_947_dec_24 9 rfl rfl)
theorem dX9_init_102 : decode cX9_init 102 = .ok (.invokespecial 39, 3) := op183 (bA_at bd09_947_dec_24 10 rfl rfl) rfl
theorem dX9_init_105 : decode cX9_init 105 = .ok (.aastore, 1) := op83 (bA_at bd09_947_dec_24 11 rfl rfl)
theorem bd09_947_dec_25 : ([(0, [181, 0, 40]), (3, [42]), (4, [5]), (5, [189, 0, 44]), (8, [89]), (9, [3]), (10, [187, 0, 44]), (13, [89]), (14, [183, 0, 46]), (17, [83]), (18, [89]), (19, [4])] : List (Nat × List UInt8)).all (fun x => prB x.2 ((cX9_init.data.toList.drop 106).drop x.1)) = true := by decide +kernel
theorem dX9_init_106 : decode cX9_init 106 = .ok (.putfield 40, 3) := op181 (bA_at bd09_947_dec_25 0 rfl rfl) rfl
theorem dX9_init_109 : decode cX9_init 109 = .ok (.aload_n 0, 1) := op42 (bA_at bd09_947_dec_25 1 rfl rfl)
theorem dX9_init_110 : decode cX9_init 110 = .ok (.iconst 2, 1) := op5 (bA_at bd09_947_dec_25 2 rfl rfl)
theorem dX9_init_111 : decode cX9_init 111 = .ok (.anewarray 44, 3) := op189 (bA_at bd09_947_dec_25 3 rfl rfl) rfl
theorem dX9_init_114 : decode cX9_init 114 = .ok (.dup, 1) := op89 (bA_at bd09_947_dec_25 4 rfl rfl)
theorem dX9_init_115 : decode cX9_init 115 = .ok (.iconst 0, 1) := op3 (bA_at bd09_947_dec_25 5 rfl rfl)
theorem dX9_init_116 : decode cX9_init 116 = .ok (.new 44, 3) := op187 (bA_at bd09_947_dec_25 6 rfl rfl) rfl
theorem dX9_init_119 : decode cX9_init 119 = .ok (.dup, 1) := op89 (bA_at bd09_947_dec_25 7 rfl rfl)
theorem dX9_init_120 : decode cX9_init 120 = .ok (.invokespecial 46, 3) := op183 (bA_at bd09_947_dec_25 8 rfl rfl) rfl
theorem dX9_init_123 : decode cX9_init 123 = .ok (.aastore, 1) := op83 (bA_at bd09_947_dec_25 9 rfl rfl)
theorem dX9_init_124 : decode cX9_init 124 = .ok (.dup, 1) := op89 (bA_at bd09_947_dec_25 10 rfl rfl)
theorem dX9_init_125 : decode cX9_init 125 = .ok (.iconst 1, 1) := op4 (bA_at bd09_947_dec_25 11 rfl rfl)
theorem bd09_947_dec_26 : ([(0, [187, 0, 44]), (3, [89]), (4, [183, 0, 46]), (7, [83]), (8, [181, 0, 47]), (11, [177])] : List (Nat × List UInt8)).all (fun x => prB x.2 ((cX9_init.data.toList.drop 126).drop x.1)) = true := by decide +kernel
theorem dX9_init_126 : decode cX9_init 126 = .ok (.new 44, 3) := op187 (bA_at bd09_947_dec_26 0 rfl rfl) rfl
theorem dX9_init_129 : decode cX9_init 129 = .ok (.dup, 1) := op89 (bA_at bd09_947_dec_26 1 rfl rfl)
theorem dX9_init_130 : decode cX9_init 130 = .ok (.invokespecial 46, 3) := op183 (bA_at bd09_947_dec_26 2 rfl rfl) rfl
theorem dX9_init_133 : decode cX9_init 133 = .ok (.aastore, 1) := op83 (bA_at bd09_947_dec_26 3 rfl rfl)
theorem dX9_init_134 : decode cX9_init 134 = .ok (.putfield 47, 3) := op181 (bA_at bd09_947_dec_26 4 rfl rfl) rfl
theorem dX9_init_137 : decode cX9_init 137 = .ok (.return_, 1) := op177 (bA_at bd09_947_dec_26 5 rfl rfl)
theorem bd09_947_dec_27 : ([(0, [42]), (1, [183, 0, 1]), (4, [42]), (5, [187, 0, 7]), (8, [89]), (9, [183, 0, 9]), (12, [181, 0, 10]), (15, [42]), (16, [6]), (17, [189, 0, 7]), (20, [181, 0, 16]), (23, [42])] : List (Nat × List UInt8)).all (fun x => prB x.2 ((cX10_init.data.toList.drop 0).drop x.1)) = true := by decide +kernel
theorem dX10_init_0 : decode cX10_init 0 = .ok (.aload_n 0, 1) := op42 (bA_at bd09_947_dec_27 0 rfl rfl)
theorem dX10_init_1 : decode cX10_init 1 = .ok (.invokespecial 1, 3) := op183 (bA_at bd09_947_dec_27 1 rfl rfl) rfl
theorem dX10_init_4 : decode cX10_init 4 = .ok (.aload_n 0, 1) := op42 (bA_at bd09_947_dec_27 2 rfl rfl)
theorem dX10_init_5 : decode cX10_init 5 = .ok (.new 7, 3) := op187 (bA_at bd09_947_dec_27 3 rfl rfl) rfl
theorem dX10_init_8 : decode cX10_init 8 = .ok (.dup, 1) := op89 (bA_at bd09_947_dec_27 4 rfl rfl)
theorem dX10_init_9 : decode cX10_init 9 = .ok (.invokespecial 9, 3) := op183 (bA_at bd09_947_dec_27 5 rfl rfl) rfl
theorem dX10_init_12 : decode cX10_init 12 = .ok (.putfield 10, 3) := op181 (bA_at bd09_947_dec_27 6 rfl rfl) rfl
theorem dX10_init_15 : decode cX10_init 15 = .ok (.aload_n 0, 1) := op42 (bA_at bd09_947_dec_27 7 rfl rfl)
theorem dX10_init_16 : decode cX10_init 16 = .ok (.iconst 3, 1) := op6 (bA_at bd09_947_dec_27 8 rfl rfl)
theorem dX10_init_17 : decode cX10_init 17 = .ok (.anewarray 7, 3) := op189 (bA_at bd09_947_dec_27 9 rfl rfl) rfl
theorem dX10_init_20 : decode cX10_init 20 = .ok (.putfield 16, 3) := op181 (bA_at bd09_947_dec_27 10 rfl rfl) rfl
theorem dX10_init_23 : decode cX10_init 23 = .ok (.aload_n 0, 1) := op42 (bA_at bd09_947_dec_27 11 rfl rfl)
theorem bd09_947_dec_28 : ([(0, [187, 0, 20]), (3, [89]), (4, [183, 0, 22]), (7, [181, 0, 23]), (10, [42]), (11, [187, 0, 27]), (14, [89]), (15, [183, 0, 29]), (18, [181, 0, 30]), (21, [42]), (22, [187, 0, 34]), (25, [89])] : List (Nat × List UInt8)).all (fun x => prB x.2 ((cX10_init.data.toList.drop 24).drop x.1)) = true := by decide +kernel
theorem dX10_init_24 : decode cX10_init 24 = .ok (.new 20, 3) := op187 (bA_at bd09_947_dec_28 0 rfl rfl) rfl
theorem dX10_init_27 : decode cX10_init 27 = .ok (.dup, 1) := op89 (bA_at bd09_947_dec_28 1 rfl rfl)
theorem dX10_init_28 : decode cX10_init 28 = .ok (.invokespecial 22, 3) := op183 (bA_at bd09_947_dec_28 2 rfl rfl) rfl
theorem dX10_init_31 : decode cX10_init 31 = .ok (.putfield 23, 3) := op181 (bA_at bd09_947_dec_28 3 rfl rfl) rfl
theorem dX10_init_34 : decode cX10_init 34 = .ok (.aload_n 0, 1) := op42 (bA_at bd09_947_dec_28 4 rfl rfl)
theorem dX10_init_35 : decode cX10_init 35 = .ok (.new 27, 3) := op187 (bA_at bd09_947_dec_28 5 rfl rfl) rfl
theorem dX10_init_38 : decode cX10_init 38 = .ok (.dup, 1) := op89 (bA_at bd09_947_dec_28 6 rfl rfl)
theorem dX10_init_39 : decode cX10_init 39 = .ok (.invokespecial 29, 3) := op183 (bA_at bd09_947_dec_28 7 rfl rfl) rfl
theorem dX10_init_42 : decode cX10_init 42 = .ok (.putfield 30, 3) := op181 (bA_at bd09_947_dec_28 8 rfl rfl) rfl
theorem dX10_init_45 : decode cX10_init 45 = .ok (.aload_n 0, 1) := op42 (bA_at bd09_947_dec_28 9 rfl rfl)
theorem dX10_init_46 : decode cX10_init 46 = .ok (.new 34, 3) := op187 (bA_at bd09_947_dec_28 10 rfl rfl) rfl
theorem dX10_init_49 : decode cX10_init 49 = .ok (.dup, 1) := op89 (bA_at bd09_947_dec_28 11 rfl rfl)
theorem bd09_947_dec_29 : ([(0, [183, 0, 36]), (3, [181, 0, 37]), (6, [42]), (7, [187, 0, 41]), (10, [89]), (11, [183, 0, 43]), (14, [181, 0, 44]), (17, [42]), (18, [187, 0, 48]), (21, [89]), (22, [183, 0, 50]), (25, [181, 0, 51])] : List (Nat × List UInt8)).all (fun x => prB x.2 ((cX10_init.data.toList.drop 50).drop x.1)) = true := by decide +kernel
theorem dX10_init_50 : decode cX10_init 50 = .ok (.invokespecial 36, 3) := op183 (bA_at bd09_947_dec_29 0 rfl rfl) rfl
theorem dX10_init_53 : decode cX10_init 53 = .ok (.putfield 37, 3) := op181 (bA_at bd09_947_dec_29 1 rfl rfl) rfl
theorem dX10_init_56 : decode cX10_init 56 = .ok (.aload_n 0, 1) := op42 (bA_at bd09_947_dec_29 2 rfl rfl)
theorem dX10_init_57 : decode cX10_init 57 = .ok (.new 41, 3) := op187 (bA_at bd09_947_dec_29 3 rfl rfl) rfl
theorem dX10_init_60 : decode cX10_init 60 = .ok (.dup, 1) := op89 (bA_at bd09_947_dec_29 4 rfl rfl)
theorem dX10_init_61 : decode cX10_init 61 = .ok (.invokespecial 43, 3) := op183 (bA_at bd09_947_dec_29 5 rfl rfl) rfl
theorem dX10_init_64 : decode cX10_init 64 = .ok (.putfield 44, 3) := op181 (bA_at bd09_947_dec_29 6 rfl rfl) rfl
theorem dX10_init_67 : decode cX10_init 67 = .ok (.aload_n 0, 1) := op42 (bA_at bd09_947_dec_29 7 rfl rfl)
theorem dX10_init_68 : decode cX10_init 68 = .ok (.new 48, 3) := op187 (bA_at bd09_947_dec_29 8 rfl rfl) rfl
theorem dX10_init_71 : decode cX10_init 71 = .ok (.dup, 1) := op89 (bA_at bd09_947_dec_29 9 rfl rfl)
theorem dX10_init_72 : decode cX10_init 72 = .ok (.invokespecial 50, 3) := op183 (bA_at bd09_947_dec_29 10 rfl rfl) rfl
theorem dX10_init_75 : decode cX10_init 75 = .ok (.putfield 51, 3) := op181 (bA_at bd09_947_dec_29 11 rfl rfl) rfl
theorem bd09_947_dec_30 : ([(0, [177])] : List (Nat × List UInt8)).all (fun x => prB x.2 ((cX10_init.data.toList.drop 78).drop x.1)) = true := by decide +kernel
theorem dX10_init_78 : decode cX10_init 78 = .ok (.return_, 1) := op177 (bA_at bd09_947_dec_30 0 rfl rfl)
theorem bd09_947_dec_31 : ([(0, [27]), (1, [155, 0, 17]), (4, [27]), (5, [6]), (6, [162, 0, 12]), (9, [42]), (10, [180, 0, 16]), (13, [27]), (14, [50]), (15, [199, 0, 5]), (18, [3]), (19, [172])] : List (Nat × List UInt8)).all (fun x => prB x.2 ((cX10_again.data.toList.drop 0).drop x.1)) = true := by decide +kernel
theorem dX10_again_0 : decode cX10_again 0 = .ok (.iload_n 1, 1) := op27 (bA_at bd09_947_dec_31 0 rfl rfl)
theorem dX10_again_1 : decode cX10_again 1 = .ok (.ifCond .lt 17, 3) := op155 (bA_at bd09_947_dec_31 1 rfl rfl) (by decide +kernel)
theorem dX10_again_4 : decode cX10_again 4 = .ok (.iload_n 1, 1) := op27 (bA_at bd09_947_dec_31 2 rfl rfl)
theorem dX10_again_5 : decode cX10_again 5 = .ok (.iconst 3, 1) := op6 (bA_at bd09_947_dec_31 3 rfl rfl)
theorem dX10_again_6 : decode cX10_again 6 = .ok (.if_icmp .ge 12, 3) := op162 (bA_at bd09_947_dec_31 4 rfl rfl) (by decide +kernel)
theorem dX10_again_9 : decode cX10_again 9 = .ok (.aload_n 0, 1) := op42 (bA_at bd09_947_dec_31 5 rfl rfl)
theorem dX10_again_10 : decode cX10_again 10 = .ok (.getfield 16, 3) := op180 (bA_at bd09_947_dec_31 6 rfl rfl) rfl
theorem dX10_again_13 : decode cX10_again 13 = .ok (.iload_n 1, 1) := op27 (bA_at bd09_947_dec_31 7 rfl rfl)
theorem dX10_again_14 : decode cX10_again 14 = .ok (.aaload, 1) := op50 (bA_at bd09_947_dec_31 8 rfl rfl)
theorem dX10_again_15 : decode cX10_again 15 = .ok (.ifnonnull 5, 3) := op199 (bA_at bd09_947_dec_31 9 rfl rfl) (by decide +kernel)
theorem dX10_again_18 : decode cX10_again 18 = .ok (.iconst 0, 1) := op3 (bA_at bd09_947_dec_31 10 rfl rfl)
theorem dX10_again_19 : decode cX10_again 19 = .ok (.ireturn, 1) := op172 (bA_at bd09_947_dec_31 11 rfl rfl)
theorem bd09_947_dec_32 : ([(0, [42]), (1, [180, 0, 10]), (4, [42]), (5, [180, 0, 16]), (8, [27]), (9, [50]), (10, [182, 1, 67]), (13, [4]), (14, [172])] : List (Nat × List UInt8)).all (fun x => prB x.2 ((cX10_again.data.toList.drop 20).drop x.1)) = true := by decide +kernel
theorem dX10_again_20 : decode cX10_again 20 = .ok (.aload_n 0, 1) := op42 (bA_at bd09_947_dec_32 0 rfl rfl)
theorem dX10_again_21 : decode cX10_again 21 = .ok (.getfield 10, 3) := op180 (bA_at bd09_947_dec_32 1 rfl rfl) rfl
theorem dX10_again_24 : decode cX10_again 24 = .ok (.aload_n 0, 1) := op42 (bA_at bd09_947_dec_32 2 rfl rfl)
theorem dX10_again_25 : decode cX10_again 25 = .ok (.getfield 16, 3) := op180 (bA_at bd09_947_dec_32 3 rfl rfl) rfl
theorem dX10_again_28 : decode cX10_again 28 = .ok (.iload_n 1, 1) := op27 (bA_at bd09_947_dec_32 4 rfl rfl)
theorem dX10_again_29 : decode cX10_again 29 = .ok (.aaload, 1) := op50 (bA_at bd09_947_dec_32 5 rfl rfl)
theorem dX10_again_30 : decode cX10_again 30 = .ok (.invokevirtual 323, 3) := op182 (bA_at bd09_947_dec_32 6 rfl rfl) rfl
theorem dX10_again_33 : decode cX10_again 33 = .ok (.iconst 1, 1) := op4 (bA_at bd09_947_dec_32 7 rfl rfl)
theorem dX10_again_34 : decode cX10_again 34 = .ok (.ireturn, 1) := op172 (bA_at bd09_947_dec_32 8 rfl rfl)
theorem bd09_947_dec_33 : ([(0, [42]), (1, [183, 0, 1]), (4, [42]), (5, [17, 9, 96]), (8, [188, 8]), (10, [181, 0, 7]), (13, [42]), (14, [7]), (15, [188, 10]), (17, [181, 0, 13]), (20, [42]), (21, [7])] : List (Nat × List UInt8)).all (fun x => prB x.2 ((cX11_init.data.toList.drop 0).drop x.1)) = true := by decide +kernel
theorem dX11_init_0 : decode cX11_init 0 = .ok (.aload_n 0, 1) := op42 (bA_at bd09_947_dec_33 0 rfl rfl)
theorem dX11_init_1 : decode cX11_init 1 = .ok (.invokespecial 1, 3) := op183 (bA_at bd09_947_dec_33 1 rfl rfl) rfl
theorem dX11_init_4 : decode cX11_init 4 = .ok (.aload_n 0, 1) := op42 (bA_at bd09_947_dec_33 2 rfl rfl)
theorem dX11_init_5 : decode cX11_init 5 = .ok (.sipush 2400, 3) := op17 (bA_at bd09_947_dec_33 3 rfl rfl) (by decide +kernel)
theorem dX11_init_8 : decode cX11_init 8 = .ok (.newarray .byte, 2) := op188_8 (bA_at bd09_947_dec_33 4 rfl rfl)
theorem dX11_init_10 : decode cX11_init 10 = .ok (.putfield 7, 3) := op181 (bA_at bd09_947_dec_33 5 rfl rfl) rfl
theorem dX11_init_13 : decode cX11_init 13 = .ok (.aload_n 0, 1) := op42 (bA_at bd09_947_dec_33 6 rfl rfl)
theorem dX11_init_14 : decode cX11_init 14 = .ok (.iconst 4, 1) := op7 (bA_at bd09_947_dec_33 7 rfl rfl)
theorem dX11_init_15 : decode cX11_init 15 = .ok (.newarray .int, 2) := op188_10 (bA_at bd09_947_dec_33 8 rfl rfl)
theorem dX11_init_17 : decode cX11_init 17 = .ok (.putfield 13, 3) := op181 (bA_at bd09_947_dec_33 9 rfl rfl) rfl
theorem dX11_init_20 : decode cX11_init 20 = .ok (.aload_n 0, 1) := op42 (bA_at bd09_947_dec_33 10 rfl rfl)
theorem dX11_init_21 : decode cX11_init 21 = .ok (.iconst 4, 1) := op7 (bA_at bd09_947_dec_33 11 rfl rfl)
theorem bd09_947_dec_34 : ([(0, [188, 10]), (2, [181, 0, 17]), (5, [42]), (6, [7]), (7, [188, 10]), (9, [181, 0, 20]), (12, [42]), (13, [16, 16]), (15, [188, 10]), (17, [181, 0, 23]), (20, [42]), (21, [17, 4, 32])] : List (Nat × List UInt8)).all (fun x => prB x.2 ((cX11_init.data.toList.drop 22).drop x.1)) = true := by decide +kernel
theorem dX11_init_22 : decode cX11_init 22 = .ok (.newarray .int, 2) := op188_10 (bA_at bd09_947_dec_34 0 rfl rfl)
theorem dX11_init_24 : decode cX11_init 24 = .ok (.putfield 17, 3) := op181 (bA_at bd09_947_dec_34 1 rfl rfl) rfl
theorem dX11_init_27 : decode cX11_init 27 = .ok (.aload_n 0, 1) := op42 (bA_at bd09_947_dec_34 2 rfl rfl)
theorem dX11_init_28 : decode cX11_init 28 = .ok (.iconst 4, 1) := op7 (bA_at bd09_947_dec_34 3 rfl rfl)
theorem dX11_init_29 : decode cX11_init 29 = .ok (.newarray .int, 2) := op188_10 (bA_at bd09_947_dec_34 4 rfl rfl)
theorem dX11_init_31 : decode cX11_init 31 = .ok (.putfield 20, 3) := op181 (bA_at bd09_947_dec_34 5 rfl rfl) rfl
theorem dX11_init_34 : decode cX11_init 34 = .ok (.aload_n 0, 1) := op42 (bA_at bd09_947_dec_34 6 rfl rfl)
theorem dX11_init_35 : decode cX11_init 35 = .ok (.bipush 16, 2) := op16 (bA_at bd09_947_dec_34 7 rfl rfl) (by decide +kernel)
theorem dX11_init_37 : decode cX11_init 37 = .ok (.newarray .int, 2) := op188_10 (bA_at bd09_947_dec_34 8 rfl rfl)
theorem dX11_init_39 : decode cX11_init 39 = .ok (.putfield 23, 3) := op181 (bA_at bd09_947_dec_34 9 rfl rfl) rfl
theorem dX11_init_42 : decode cX11_init 42 = .ok (.aload_n 0, 1) := op42 (bA_at bd09_947_dec_34 10 rfl rfl)
theorem dX11_init_43 : decode cX11_init 43 = .ok (.sipush 1056, 3) := op17 (bA_at bd09_947_dec_34 11 rfl rfl) (by decide +kernel)
theorem bd09_947_dec_35 : ([(0, [188, 10]), (2, [181, 0, 26]), (5, [42]), (6, [17, 3, 200]), (9, [188, 10]), (11, [181, 0, 29]), (14, [42]), (15, [17, 0, 248]), (18, [188, 10]), (20, [181, 0, 32]), (23, [42]), (24, [17, 0, 160])] : List (Nat × List UInt8)).all (fun x => prB x.2 ((cX11_init.data.toList.drop 46).drop x.1)) = true := by decide +kernel
theorem dX11_init_46 : decode cX11_init 46 = .ok (.newarray .int, 2) := op188_10 (bA_at bd09_947_dec_35 0 rfl rfl)
theorem dX11_init_48 : decode cX11_init 48 = .ok (.putfield 26, 3) := op181 (bA_at bd09_947_dec_35 1 rfl rfl) rfl
theorem dX11_init_51 : decode cX11_init 51 = .ok (.aload_n 0, 1) := op42 (bA_at bd09_947_dec_35 2 rfl rfl)
theorem dX11_init_52 : decode cX11_init 52 = .ok (.sipush 968, 3) := op17 (bA_at bd09_947_dec_35 3 rfl rfl) (by decide +kernel)
theorem dX11_init_55 : decode cX11_init 55 = .ok (.newarray .int, 2) := op188_10 (bA_at bd09_947_dec_35 4 rfl rfl)
theorem dX11_init_57 : decode cX11_init 57 = .ok (.putfield 29, 3) := op181 (bA_at bd09_947_dec_35 5 rfl rfl) rfl
theorem dX11_init_60 : decode cX11_init 60 = .ok (.aload_n 0, 1) := op42 (bA_at bd09_947_dec_35 6 rfl rfl)
theorem dX11_init_61 : decode cX11_init 61 = .ok (.sipush 248, 3) := op17 (bA_at bd09_947_dec_35 7 rfl rfl) (by decide +kernel)
theorem dX11_init_64 : decode cX11_init 64 = .ok (.newarray .int, 2) := op188_10 (bA_at bd09_947_dec_35 8 rfl rfl)
theorem dX11_init_66 : decode cX11_init 66 = .ok (.putfield 32, 3) := op181 (bA_at bd09_947_dec_35 9 rfl rfl) rfl
theorem dX11_init_69 : decode cX11_init 69 = .ok (.aload_n 0, 1) := op42 (bA_at bd09_947_dec_35 10 rfl rfl)
theorem dX11_init_70 : decode cX11_init 70 = .ok (.sipush 160, 3) := op17 (bA_at bd09_947_dec_35 11 rfl rfl) (by decide +kernel)
theorem bd09_947_dec_36 : ([(0, [188, 10]), (2, [181, 0, 35]), (5, [42]), (6, [17, 0, 132]), (9, [188, 10]), (11, [181, 0, 38]), (14, [42]), (15, [6]), (16, [188, 10]), (18, [181, 0, 41]), (21, [42]), (22, [16, 6])] : List (Nat × List UInt8)).all (fun x => prB x.2 ((cX11_init.data.toList.drop 73).drop x.1)) = true := by decide +kernel
theorem dX11_init_73 : decode cX11_init 73 = .ok (.newarray .int, 2) := op188_10 (bA_at bd09_947_dec_36 0 rfl rfl)
theorem dX11_init_75 : decode cX11_init 75 = .ok (.putfield 35, 3) := op181 (bA_at bd09_947_dec_36 1 rfl rfl) rfl
theorem dX11_init_78 : decode cX11_init 78 = .ok (.aload_n 0, 1) := op42 (bA_at bd09_947_dec_36 2 rfl rfl)
theorem dX11_init_79 : decode cX11_init 79 = .ok (.sipush 132, 3) := op17 (bA_at bd09_947_dec_36 3 rfl rfl) (by decide +kernel)
theorem dX11_init_82 : decode cX11_init 82 = .ok (.newarray .int, 2) := op188_10 (bA_at bd09_947_dec_36 4 rfl rfl)
theorem dX11_init_84 : decode cX11_init 84 = .ok (.putfield 38, 3) := op181 (bA_at bd09_947_dec_36 5 rfl rfl) rfl
theorem dX11_init_87 : decode cX11_init 87 = .ok (.aload_n 0, 1) := op42 (bA_at bd09_947_dec_36 6 rfl rfl)
theorem dX11_init_88 : decode cX11_init 88 = .ok (.iconst 3, 1) := op6 (bA_at bd09_947_dec_36 7 rfl rfl)
theorem dX11_init_89 : decode cX11_init 89 = .ok (.newarray .int, 2) := op188_10 (bA_at bd09_947_dec_36 8 rfl rfl)
theorem dX11_init_91 : decode cX11_init 91 = .ok (.putfield 41, 3) := op181 (bA_at bd09_947_dec_36 9 rfl rfl) rfl
theorem dX11_init_94 : decode cX11_init 94 = .ok (.aload_n 0, 1) := op42 (bA_at bd09_947_dec_36 10 rfl rfl)
theorem dX11_init_95 : decode cX11_init 95 = .ok (.bipush 6, 2) := op16 (bA_at bd09_947_dec_36 11 rfl rfl) (by decide +kernel)
theorem bd09_947_dec_37 : ([(0, [188, 10]), (2, [181, 0, 44]), (5, [42]), (6, [16, 6]), (8, [188, 10]), (10, [181, 0, 47]), (13, [42]), (14, [16, 6]), (16, [188, 10]), (18, [181, 0, 50]), (21, [42]), (22, [16, 9])] : List (Nat × List UInt8)).all (fun x => prB x.2 ((cX11_init.data.toList.drop 97).drop x.1)) = true := by decide +kernel
theorem dX11_init_97 : decode cX11_init 97 = .ok (.newarray .int, 2) := op188_10 (bA_at bd09_947_dec_37 0 rfl rfl)
theorem dX11_init_99 : decode cX11_init 99 = .ok (.putfield 44, 3) := op181 (bA_at bd09_947_dec_37 1 rfl rfl) rfl
theorem dX11_init_102 : decode cX11_init 102 = .ok (.aload_n 0, 1) := op42 (bA_at bd09_947_dec_37 2 rfl rfl)
theorem dX11_init_103 : decode cX11_init 103 = .ok (.bipush 6, 2) := op16 (bA_at bd09_947_dec_37 3 rfl rfl) (by decide +kernel)
theorem dX11_init_105 : decode cX11_init 105 = .ok (.newarray .int, 2) := op188_10 (bA_at bd09_947_dec_37 4 rfl rfl)
theorem dX11_init_107 : decode cX11_init 107 = .ok (.putfield 47, 3) := op181 (bA_at bd09_947_dec_37 5 rfl rfl) rfl
theorem dX11_init_110 : decode cX11_init 110 = .ok (.aload_n 0, 1) := op42 (bA_at bd09_947_dec_37 6 rfl rfl)
theorem dX11_init_111 : decode cX11_init 111 = .ok (.bipush 6, 2) := op16 (bA_at bd09_947_dec_37 7 rfl rfl) (by decide +kernel)
theorem dX11_init_113 : decode cX11_init 113 = .ok (.newarray .int, 2) := op188_10 (bA_at bd09_947_dec_37 8 rfl rfl)
theorem dX11_init_115 : decode cX11_init 115 = .ok (.putfield 50, 3) := op181 (bA_at bd09_947_dec_37 9 rfl rfl) rfl
theorem dX11_init_118 : decode cX11_init 118 = .ok (.aload_n 0, 1) := op42 (bA_at bd09_947_dec_37 10 rfl rfl)
theorem dX11_init_119 : decode cX11_init 119 = .ok (.bipush 9, 2) := op16 (bA_at bd09_947_dec_37 11 rfl rfl) (by decide +kernel)
theorem bd09_947_dec_38 : ([(0, [188, 10]), (2, [181, 0, 53]), (5, [42]), (6, [8]), (7, [188, 10]), (9, [181, 0, 56]), (12, [42]), (13, [16, 9]), (15, [188, 10]), (17, [181, 0, 59]), (20, [42]), (21, [16, 9])] : List (Nat × List UInt8)).all (fun x => prB x.2 ((cX11_init.data.toList.drop 121).drop x.1)) = true := by decide +kernel
theorem dX11_init_121 : decode cX11_init 121 = .ok (.newarray .int, 2) := op188_10 (bA_at bd09_947_dec_38 0 rfl rfl)
theorem dX11_init_123 : decode cX11_init 123 = .ok (.putfield 53, 3) := op181 (bA_at bd09_947_dec_38 1 rfl rfl) rfl
theorem dX11_init_126 : decode cX11_init 126 = .ok (.aload_n 0, 1) := op42 (bA_at bd09_947_dec_38 2 rfl rfl)
theorem dX11_init_127 : decode cX11_init 127 = .ok (.iconst 5, 1) := op8 (bA_at bd09_947_dec_38 3 rfl rfl)
theorem dX11_init_128 : decode cX11_init 128 = .ok (.newarray .int, 2) := op188_10 (bA_at bd09_947_dec_38 4 rfl rfl)
theorem dX11_init_130 : decode cX11_init 130 = .ok (.putfield 56, 3) := op181 (bA_at bd09_947_dec_38 5 rfl rfl) rfl
theorem dX11_init_133 : decode cX11_init 133 = .ok (.aload_n 0, 1) := op42 (bA_at bd09_947_dec_38 6 rfl rfl)
theorem dX11_init_134 : decode cX11_init 134 = .ok (.bipush 9, 2) := op16 (bA_at bd09_947_dec_38 7 rfl rfl) (by decide +kernel)
theorem dX11_init_136 : decode cX11_init 136 = .ok (.newarray .int, 2) := op188_10 (bA_at bd09_947_dec_38 8 rfl rfl)
theorem dX11_init_138 : decode cX11_init 138 = .ok (.putfield 59, 3) := op181 (bA_at bd09_947_dec_38 9 rfl rfl) rfl
theorem dX11_init_141 : decode cX11_init 141 = .ok (.aload_n 0, 1) := op42 (bA_at bd09_947_dec_38 10 rfl rfl)
theorem dX11_init_142 : decode cX11_init 142 = .ok (.bipush 9, 2) := op16 (bA_at bd09_947_dec_38 11 rfl rfl) (by decide +kernel)
theorem bd09_947_dec_39 : ([(0, [188, 10]), (2, [181, 0, 62]), (5, [42]), (6, [16, 9]), (8, [188, 10]), (10, [181, 0, 65]), (13, [42]), (14, [16, 9]), (16, [188, 10]), (18, [181, 0, 68]), (21, [42]), (22, [16, 9])] : List (Nat × List UInt8)).all (fun x => prB x.2 ((cX11_init.data.toList.drop 144).drop x.1)) = true := by decide +kernel
theorem dX11_init_144 : decode cX11_init 144 = .ok (.newarray .int, 2) := op188_10 (bA_at bd09_947_dec_39 0 rfl rfl)
theorem dX11_init_146 : decode cX11_init 146 = .ok (.putfield 62, 3) := op181 (bA_at bd09_947_dec_39 1 rfl rfl) rfl
theorem dX11_init_149 : decode cX11_init 149 = .ok (.aload_n 0, 1) := op42 (bA_at bd09_947_dec_39 2 rfl rfl)
theorem dX11_init_150 : decode cX11_init 150 = .ok (.bipush 9, 2) := op16 (bA_at bd09_947_dec_39 3 rfl rfl) (by decide +kernel)
theorem dX11_init_152 : decode cX11_init 152 = .ok (.newarray .int, 2) := op188_10 (bA_at bd09_947_dec_39 4 rfl rfl)
theorem dX11_init_154 : decode cX11_init 154 = .ok (.putfield 65, 3) := op181 (bA_at bd09_947_dec_39 5 rfl rfl) rfl
theorem dX11_init_157 : decode cX11_init 157 = .ok (.aload_n 0, 1) := op42 (bA_at bd09_947_dec_39 6 rfl rfl)
theorem dX11_init_158 : decode cX11_init 158 = .ok (.bipush 9, 2) := op16 (bA_at bd09_947_dec_39 7 rfl rfl) (by decide +kernel)
theorem dX11_init_160 : decode cX11_init 160 = .ok (.newarray .int, 2) := op188_10 (bA_at bd09_947_dec_39 8 rfl rfl)
theorem dX11_init_162 : decode cX11_init 162 = .ok (.putfield 68, 3) := op181 (bA_at bd09_947_dec_39 9 rfl rfl) rfl
theorem dX11_init_165 : decode cX11_init 165 = .ok (.aload_n 0, 1) := op42 (bA_at bd09_947_dec_39 10 rfl rfl)
theorem dX11_init_166 : decode cX11_init 166 = .ok (.bipush 9, 2) := op16 (bA_at bd09_947_dec_39 11 rfl rfl) (by decide +kernel)
theorem bd09_947_dec_40 : ([(0, [188, 10]), (2, [181, 0, 71]), (5, [42]), (6, [16, 9]), (8, [188, 4]), (10, [181, 0, 74]), (13, [42]), (14, [16, 81]), (16, [188, 10]), (18, [181, 0, 78]), (21, [42]), (22, [16, 81])] : List (Nat × List UInt8)).all (fun x => prB x.2 ((cX11_init.data.toList.drop 168).drop x.1)) = true := by decide +kernel
theorem dX11_init_168 : decode cX11_init 168 = .ok (.newarray .int, 2) := op188_10 (bA_at bd09_947_dec_40 0 rfl rfl)
theorem dX11_init_170 : decode cX11_init 170 = .ok (.putfield 71, 3) := op181 (bA_at bd09_947_dec_40 1 rfl rfl) rfl
theorem dX11_init_173 : decode cX11_init 173 = .ok (.aload_n 0, 1) := op42 (bA_at bd09_947_dec_40 2 rfl rfl)
theorem dX11_init_174 : decode cX11_init 174 = .ok (.bipush 9, 2) := op16 (bA_at bd09_947_dec_40 3 rfl rfl) (by decide +kernel)
theorem dX11_init_176 : decode cX11_init 176 = .ok (.newarray .boolean, 2) := op188_4 (bA_at bd09_947_dec_40 4 rfl rfl)
theorem dX11_init_178 : decode cX11_init 178 = .ok (.putfield 74, 3) := op181 (bA_at bd09_947_dec_40 5 rfl rfl) rfl
theorem dX11_init_181 : decode cX11_init 181 = .ok (.aload_n 0, 1) := op42 (bA_at bd09_947_dec_40 6 rfl rfl)
theorem dX11_init_182 : decode cX11_init 182 = .ok (.bipush 81, 2) := op16 (bA_at bd09_947_dec_40 7 rfl rfl) (by decide +kernel)
theorem dX11_init_184 : decode cX11_init 184 = .ok (.newarray .int, 2) := op188_10 (bA_at bd09_947_dec_40 8 rfl rfl)
theorem dX11_init_186 : decode cX11_init 186 = .ok (.putfield 78, 3) := op181 (bA_at bd09_947_dec_40 9 rfl rfl) rfl
theorem dX11_init_189 : decode cX11_init 189 = .ok (.aload_n 0, 1) := op42 (bA_at bd09_947_dec_40 10 rfl rfl)
theorem dX11_init_190 : decode cX11_init 190 = .ok (.bipush 81, 2) := op16 (bA_at bd09_947_dec_40 11 rfl rfl) (by decide +kernel)
theorem bd09_947_dec_41 : ([(0, [188, 10]), (2, [181, 0, 81]), (5, [42]), (6, [17, 18, 0]), (9, [188, 11]), (11, [181, 0, 84]), (14, [42]), (15, [17, 14, 137]), (18, [188, 4]), (20, [181, 0, 88]), (23, [42]), (24, [16, 9])] : List (Nat × List UInt8)).all (fun x => prB x.2 ((cX11_init.data.toList.drop 192).drop x.1)) = true := by decide +kernel
theorem dX11_init_192 : decode cX11_init 192 = .ok (.newarray .int, 2) := op188_10 (bA_at bd09_947_dec_41 0 rfl rfl)
theorem dX11_init_194 : decode cX11_init 194 = .ok (.putfield 81, 3) := op181 (bA_at bd09_947_dec_41 1 rfl rfl) rfl
theorem dX11_init_197 : decode cX11_init 197 = .ok (.aload_n 0, 1) := op42 (bA_at bd09_947_dec_41 2 rfl rfl)
theorem dX11_init_198 : decode cX11_init 198 = .ok (.sipush 4608, 3) := op17 (bA_at bd09_947_dec_41 3 rfl rfl) (by decide +kernel)
theorem dX11_init_201 : decode cX11_init 201 = .ok (.newarray .long, 2) := op188_11 (bA_at bd09_947_dec_41 4 rfl rfl)
theorem dX11_init_203 : decode cX11_init 203 = .ok (.putfield 84, 3) := op181 (bA_at bd09_947_dec_41 5 rfl rfl) rfl
theorem dX11_init_206 : decode cX11_init 206 = .ok (.aload_n 0, 1) := op42 (bA_at bd09_947_dec_41 6 rfl rfl)
theorem dX11_init_207 : decode cX11_init 207 = .ok (.sipush 3721, 3) := op17 (bA_at bd09_947_dec_41 7 rfl rfl) (by decide +kernel)
theorem dX11_init_210 : decode cX11_init 210 = .ok (.newarray .boolean, 2) := op188_4 (bA_at bd09_947_dec_41 8 rfl rfl)
theorem dX11_init_212 : decode cX11_init 212 = .ok (.putfield 88, 3) := op181 (bA_at bd09_947_dec_41 9 rfl rfl) rfl
theorem dX11_init_215 : decode cX11_init 215 = .ok (.aload_n 0, 1) := op42 (bA_at bd09_947_dec_41 10 rfl rfl)
theorem dX11_init_216 : decode cX11_init 216 = .ok (.bipush 9, 2) := op16 (bA_at bd09_947_dec_41 11 rfl rfl) (by decide +kernel)
theorem bd09_947_dec_42 : ([(0, [188, 10]), (2, [181, 0, 91]), (5, [42]), (6, [6]), (7, [188, 4]), (9, [181, 0, 94]), (12, [42]), (13, [180, 0, 20]), (16, [3]), (17, [2]), (18, [79]), (19, [177])] : List (Nat × List UInt8)).all (fun x => prB x.2 ((cX11_init.data.toList.drop 218).drop x.1)) = true := by decide +kernel
theorem dX11_init_218 : decode cX11_init 218 = .ok (.newarray .int, 2) := op188_10 (bA_at bd09_947_dec_42 0 rfl rfl)
theorem dX11_init_220 : decode cX11_init 220 = .ok (.putfield 91, 3) := op181 (bA_at bd09_947_dec_42 1 rfl rfl) rfl
theorem dX11_init_223 : decode cX11_init 223 = .ok (.aload_n 0, 1) := op42 (bA_at bd09_947_dec_42 2 rfl rfl)
theorem dX11_init_224 : decode cX11_init 224 = .ok (.iconst 3, 1) := op6 (bA_at bd09_947_dec_42 3 rfl rfl)
theorem dX11_init_225 : decode cX11_init 225 = .ok (.newarray .boolean, 2) := op188_4 (bA_at bd09_947_dec_42 4 rfl rfl)
theorem dX11_init_227 : decode cX11_init 227 = .ok (.putfield 94, 3) := op181 (bA_at bd09_947_dec_42 5 rfl rfl) rfl
theorem dX11_init_230 : decode cX11_init 230 = .ok (.aload_n 0, 1) := op42 (bA_at bd09_947_dec_42 6 rfl rfl)
theorem dX11_init_231 : decode cX11_init 231 = .ok (.getfield 20, 3) := op180 (bA_at bd09_947_dec_42 7 rfl rfl) rfl
theorem dX11_init_234 : decode cX11_init 234 = .ok (.iconst 0, 1) := op3 (bA_at bd09_947_dec_42 8 rfl rfl)
theorem dX11_init_235 : decode cX11_init 235 = .ok (.iconst (-1), 1) := op2 (bA_at bd09_947_dec_42 9 rfl rfl)
theorem dX11_init_236 : decode cX11_init 236 = .ok (.iastore, 1) := op79 (bA_at bd09_947_dec_42 10 rfl rfl)
theorem dX11_init_237 : decode cX11_init 237 = .ok (.return_, 1) := op177 (bA_at bd09_947_dec_42 11 rfl rfl)
end
section
set_option maxRecDepth 1000000 in
theorem bw09_948_kw_0_e : pickC [169, 0, 0, 0, 0, 0, 0, 0, 0, 0, 0, 0, 1, 0, 0, 0, 0, 82, 0, 0, 1, 0, 0, 0, 0, 19, 1, 0, 0, 0, 0, 19, 1, 0, 0, 0, 0, 56, 0, 0, 0, 0, 0, 0, 0, 0, 0, 0, 0, 0, 0, 52, 0, 0, 0, 0, 0, 32, 0, 0, 0, 0, 0, 29, 0, 0, 0, 0, 0, 10, 0, 0, 0, 0, 0, 8, 775, 0, 0, 157, 0] lw_tbl = [Cond.instanceMethod yX10_init, Cond.code yX10_init cX10_init 1 none, Cond.methodLink RX10 1 Lib.objectInit, Cond.instanceMethod Lib.objectInit, Cond.code Lib.objectInit ⟨#[0xb1]⟩ 1 none, Cond.classLink RX10 7 RX9, Cond.instantiable RX9 9, Cond.methodLink RX10 9 yX9_init, Cond.instanceMethod yX9_init, Cond.code yX9_init cX9_init 1 none, Cond.methodLink RX9 3 Lib.objectInit, Cond.classLink RX9 23 RX2, Cond.instantiable RX2 15, Cond.methodLink RX9 25 yX2_init, Cond.instanceMethod yX2_init, Cond.code yX2_init cX2_init 1 none, Cond.methodLink RX2 3 Lib.objectInit, Cond.arrayClass .byte, Cond.arrayClass .int, Cond.classLink RX9 30 RX1, Cond.instantiable RX1 4, Cond.methodLink RX9 32 yX1_init, Cond.instanceMethod yX1_init, Cond.code yX1_init cX1_init 1 none, Cond.methodLink RX1 3 Lib.objectInit, Cond.classLink RX9 37 RX6, Cond.instantiable RX6 4, Cond.methodLink RX9 39 yX6_init, Cond.instanceMethod yX6_init, Cond.code yX6_init cX6_init 1 none, Cond.methodLink RX6 3 Lib.objectInit, Cond.classLink RX9 44 RX0, Cond.instantiable RX0 4, Cond.methodLink RX9 46 yX0_init, Cond.instanceMethod yX0_init, Cond.code yX0_init cX0_init 1 none, Cond.methodLink RX0 3 Lib.objectInit, Cond.classLink RX10 20 RX4, Cond.instantiable RX4 15, Cond.methodLink RX10 22 yX4_init, Cond.instanceMethod yX4_init, Cond.code yX4_init cX4_init 1 none, Cond.methodLink RX4 3 Lib.objectInit, Cond.classLink RX4 9 RX2, Cond.methodLink RX4 11 yX2_init, Cond.classLink RX4 18 RX1, Cond.methodLink RX4 20 yX1_init, Cond.classLink RX4 25 RX6, Cond.methodLink RX4 27 yX6_init, Cond.classLink RX4 32 RX0, Cond.methodLink RX4 34 yX0_init, Cond.classLink RX10 27 RX3, Cond.instantiable RX3 10, Cond.methodLink RX10 29 yX3_init, Cond.instanceMethod yX3_init, Cond.code yX3_init cX3_init 1 none, Cond.methodLink RX3 3 Lib.objectInit, Cond.classLink RX10 34 RX7, Cond.instantiable RX7 8, Cond.methodLink RX10 36 yX7_init, Cond.instanceMethod yX7_init, Cond.code yX7_init cX7_init 1 none, Cond.methodLink RX7 3 Lib.objectInit, Cond.classLink RX10 41 RX5, Cond.instantiable RX5 3, Cond.methodLink RX10 43 yX5_init, Cond.instanceMethod yX5_init, Cond.code yX5_init cX5_init 1 none, Cond.methodLink RX5 3 Lib.objectInit, Cond.classLink RX10 48 RX8, Cond.instantiable RX8 2, Cond.methodLink RX10 50 yX8_init, Cond.instanceMethod yX8_init, Cond.code yX8_init cX8_init 1 none, Cond.methodLink RX8 3 Lib.objectInit, Cond.fieldLink RX10 16 "DownhillSong" "images" "[LDownhillSong$Told;", Cond.instanceMethod yX11_init, Cond.code yX11_init cX11_init 1 none, Cond.methodLink RX11 1 Lib.objectInit, Cond.arrayClass .boolean, Cond.arrayClass .long] := rfl
theorem bw09_948_kw_0 : ∀ (i : Nat) (w : Cond), ([Cond.instanceMethod yX10_init, Cond.code yX10_init cX10_init 1 none, Cond.methodLink RX10 1 Lib.objectInit, Cond.instanceMethod Lib.objectInit, Cond.code Lib.objectInit ⟨#[0xb1]⟩ 1 none, Cond.classLink RX10 7 RX9, Cond.instantiable RX9 9, Cond.methodLink RX10 9 yX9_init, Cond.instanceMethod yX9_init, Cond.code yX9_init cX9_init 1 none, Cond.methodLink RX9 3 Lib.objectInit, Cond.classLink RX9 23 RX2, Cond.instantiable RX2 15, Cond.methodLink RX9 25 yX2_init, Cond.instanceMethod yX2_init, Cond.code yX2_init cX2_init 1 none, Cond.methodLink RX2 3 Lib.objectInit, Cond.arrayClass .byte, Cond.arrayClass .int, Cond.classLink RX9 30 RX1, Cond.instantiable RX1 4, Cond.methodLink RX9 32 yX1_init, Cond.instanceMethod yX1_init, Cond.code yX1_init cX1_init 1 none, Cond.methodLink RX1 3 Lib.objectInit, Cond.classLink RX9 37 RX6, Cond.instantiable RX6 4, Cond.methodLink RX9 39 yX6_init, Cond.instanceMethod yX6_init, Cond.code yX6_init cX6_init 1 none, Cond.methodLink RX6 3 Lib.objectInit, Cond.classLink RX9 44 RX0, Cond.instantiable RX0 4, Cond.methodLink RX9 46 yX0_init, Cond.instanceMethod yX0_init, Cond.code yX0_init cX0_init 1 none, Cond.methodLink RX0 3 Lib.objectInit, Cond.classLink RX10 20 RX4, Cond.instantiable RX4 15, Cond.methodLink RX10 22 yX4_init, Cond.instanceMethod yX4_init, Cond.code yX4_init cX4_init 1 none, Cond.methodLink RX4 3 Lib.objectInit, Cond.classLink RX4 9 RX2, Cond.methodLink RX4 11 yX2_init, Cond.classLink RX4 18 RX1, Cond.methodLink RX4 20 yX1_init, Cond.classLink RX4 25 RX6, Cond.methodLink RX4 27 yX6_init, Cond.classLink RX4 32 RX0, Cond.methodLink RX4 34 yX0_init, Cond.classLink RX10 27 RX3, Cond.instantiable RX3 10, Cond.methodLink RX10 29 yX3_init, Cond.instanceMethod yX3_init, Cond.code yX3_init cX3_init 1 none, Cond.methodLink RX3 3 Lib.objectInit, Cond.classLink RX10 34 RX7, Cond.instantiable RX7 8, Cond.methodLink RX10 36 yX7_init, Cond.instanceMethod yX7_init, Cond.code yX7_init cX7_init 1 none, Cond.methodLink RX7 3 Lib.objectInit, Cond.classLink RX10 41 RX5, Cond.instantiable RX5 3, Cond.methodLink RX10 43 yX5_init, Cond.instanceMethod yX5_init, Cond.code yX5_init cX5_init 1 none, Cond.methodLink RX5 3 Lib.objectInit, Cond.classLink RX10 48 RX8, Cond.instantiable RX8 2, Cond.methodLink RX10 50 yX8_init, Cond.instanceMethod yX8_init, Cond.code yX8_init cX8_init 1 none, Cond.methodLink RX8 3 Lib.objectInit, Cond.fieldLink RX10 16 "DownhillSong" "images" "[LDownhillSong$Told;", Cond.instanceMethod yX11_init, Cond.code yX11_init cX11_init 1 none, Cond.methodLink RX11 1 Lib.objectInit, Cond.arrayClass .boolean, Cond.arrayClass .long] : List Cond)[i]? = some w → w ∈ zb := fun i w e => pick_zb bw09_948_kw_0_e (by decide +kernel) w (List.mem_of_getElem? e)
theorem kin_X10_init : Cond.instanceMethod yX10_init ∈ zb := bw09_948_kw_0 0 _ rfl
theorem kcode_X10_init : Cond.code yX10_init cX10_init 1 none ∈ zb := bw09_948_kw_0 1 _ rfl
theorem km_10_1 : Cond.methodLink RX10 1 Lib.objectInit ∈ zb := bw09_948_kw_0 2 _ rfl
theorem k_oi : Cond.instanceMethod Lib.objectInit ∈ zb := bw09_948_kw_0 3 _ rfl
theorem k_oc : Cond.code Lib.objectInit ⟨#[0xb1]⟩ 1 none ∈ zb := bw09_948_kw_0 4 _ rfl
theorem kcl_10_7 : Cond.classLink RX10 7 RX9 ∈ zb := bw09_948_kw_0 5 _ rfl
theorem kins_9 : Cond.instantiable RX9 9 ∈ zb := bw09_948_kw_0 6 _ rfl
theorem km_10_9 : Cond.methodLink RX10 9 yX9_init ∈ zb := bw09_948_kw_0 7 _ rfl
theorem kin_X9_init : Cond.instanceMethod yX9_init ∈ zb := bw09_948_kw_0 8 _ rfl
theorem kcode_X9_init : Cond.code yX9_init cX9_init 1 none ∈ zb := bw09_948_kw_0 9 _ rfl
theorem km_9_3 : Cond.methodLink RX9 3 Lib.objectInit ∈ zb := bw09_948_kw_0 10 _ rfl
theorem kcl_9_23 : Cond.classLink RX9 23 RX2 ∈ zb := bw09_948_kw_0 11 _ rfl
theorem kins_2 : Cond.instantiable RX2 15 ∈ zb := bw09_948_kw_0 12 _ rfl
theorem km_9_25 : Cond.methodLink RX9 25 yX2_init ∈ zb := bw09_948_kw_0 13 _ rfl
theorem kin_X2_init : Cond.instanceMethod yX2_init ∈ zb := bw09_948_kw_0 14 _ rfl
theorem kcode_X2_init : Cond.code yX2_init cX2_init 1 none ∈ zb := bw09_948_kw_0 15 _ rfl
theorem km_2_3 : Cond.methodLink RX2 3 Lib.objectInit ∈ zb := bw09_948_kw_0 16 _ rfl
theorem kac_B : Cond.arrayClass .byte ∈ zb := bw09_948_kw_0 17 _ rfl
theorem kac_I : Cond.arrayClass .int ∈ zb := bw09_948_kw_0 18 _ rfl
theorem kcl_9_30 : Cond.classLink RX9 30 RX1 ∈ zb := bw09_948_kw_0 19 _ rfl
theorem kins_1 : Cond.instantiable RX1 4 ∈ zb := bw09_948_kw_0 20 _ rfl
theorem km_9_32 : Cond.methodLink RX9 32 yX1_init ∈ zb := bw09_948_kw_0 21 _ rfl
theorem kin_X1_init : Cond.instanceMethod yX1_init ∈ zb := bw09_948_kw_0 22 _ rfl
theorem kcode_X1_init : Cond.code yX1_init cX1_init 1 none ∈ zb := bw09_948_kw_0 23 _ rfl
theorem km_1_3 : Cond.methodLink RX1 3 Lib.objectInit ∈ zb := bw09_948_kw_0 24 _ rfl
theorem kcl_9_37 : Cond.classLink RX9 37 RX6 ∈ zb := bw09_948_kw_0 25 _ rfl
theorem kins_6 : Cond.instantiable RX6 4 ∈ zb := bw09_948_kw_0 26 _ rfl
theorem km_9_39 : Cond.methodLink RX9 39 yX6_init ∈ zb := bw09_948_kw_0 27 _ rfl
theorem kin_X6_init : Cond.instanceMethod yX6_init ∈ zb := bw09_948_kw_0 28 _ rfl
theorem kcode_X6_init : Cond.code yX6_init cX6_init 1 none ∈ zb := bw09_948_kw_0 29 _ rfl
theorem km_6_3 : Cond.methodLink RX6 3 Lib.objectInit ∈ zb := bw09_948_kw_0 30 _ rfl
theorem kcl_9_44 : Cond.classLink RX9 44 RX0 ∈ zb := bw09_948_kw_0 31 _ rfl
theorem kins_0 : Cond.instantiable RX0 4 ∈ zb := bw09_948_kw_0 32 _ rfl
theorem km_9_46 : Cond.methodLink RX9 46 yX0_init ∈ zb := bw09_948_kw_0 33 _ rfl
theorem kin_X0_init : Cond.instanceMethod yX0_init ∈ zb := bw09_948_kw_0 34 _ rfl
theorem kcode_X0_init : Cond.code yX0_init cX0_init 1 none ∈ zb := bw09_948_kw_0 35 _ rfl
theorem km_0_3 : Cond.methodLink RX0 3 Lib.objectInit ∈ zb := bw09_948_kw_0 36 _ rfl
theorem kcl_10_20 : Cond.classLink RX10 20 RX4 ∈ zb := bw09_948_kw_0 37 _ rfl
theorem kins_4 : Cond.instantiable RX4 15 ∈ zb := bw09_948_kw_0 38 _ rfl
theorem km_10_22 : Cond.methodLink RX10 22 yX4_init ∈ zb := bw09_948_kw_0 39 _ rfl
theorem kin_X4_init : Cond.instanceMethod yX4_init ∈ zb := bw09_948_kw_0 40 _ rfl
theorem kcode_X4_init : Cond.code yX4_init cX4_init 1 none ∈ zb := bw09_948_kw_0 41 _ rfl
theorem km_4_3 : Cond.methodLink RX4 3 Lib.objectInit ∈ zb := bw09_948_kw_0 42 _ rfl
theorem kcl_4_9 : Cond.classLink RX4 9 RX2 ∈ zb := bw09_948_kw_0 43 _ rfl
theorem km_4_11 : Cond.methodLink RX4 11 yX2_init ∈ zb := bw09_948_kw_0 44 _ rfl
theorem kcl_4_18 : Cond.classLink RX4 18 RX1 ∈ zb := bw09_948_kw_0 45 _ rfl
theorem km_4_20 : Cond.methodLink RX4 20 yX1_init ∈ zb := bw09_948_kw_0 46 _ rfl
theorem kcl_4_25 : Cond.classLink RX4 25 RX6 ∈ zb := bw09_948_kw_0 47 _ rfl
theorem km_4_27 : Cond.methodLink RX4 27 yX6_init ∈ zb := bw09_948_kw_0 48 _ rfl
theorem kcl_4_32 : Cond.classLink RX4 32 RX0 ∈ zb := bw09_948_kw_0 49 _ rfl
theorem km_4_34 : Cond.methodLink RX4 34 yX0_init ∈ zb := bw09_948_kw_0 50 _ rfl
theorem kcl_10_27 : Cond.classLink RX10 27 RX3 ∈ zb := bw09_948_kw_0 51 _ rfl
theorem kins_3 : Cond.instantiable RX3 10 ∈ zb := bw09_948_kw_0 52 _ rfl
theorem km_10_29 : Cond.methodLink RX10 29 yX3_init ∈ zb := bw09_948_kw_0 53 _ rfl
theorem kin_X3_init : Cond.instanceMethod yX3_init ∈ zb := bw09_948_kw_0 54 _ rfl
theorem kcode_X3_init : Cond.code yX3_init cX3_init 1 none ∈ zb := bw09_948_kw_0 55 _ rfl
theorem km_3_3 : Cond.methodLink RX3 3 Lib.objectInit ∈ zb := bw09_948_kw_0 56 _ rfl
theorem kcl_10_34 : Cond.classLink RX10 34 RX7 ∈ zb := bw09_948_kw_0 57 _ rfl
theorem kins_7 : Cond.instantiable RX7 8 ∈ zb := bw09_948_kw_0 58 _ rfl
theorem km_10_36 : Cond.methodLink RX10 36 yX7_init ∈ zb := bw09_948_kw_0 59 _ rfl
theorem kin_X7_init : Cond.instanceMethod yX7_init ∈ zb := bw09_948_kw_0 60 _ rfl
theorem kcode_X7_init : Cond.code yX7_init cX7_init 1 none ∈ zb := bw09_948_kw_0 61 _ rfl
theorem km_7_3 : Cond.methodLink RX7 3 Lib.objectInit ∈ zb := bw09_948_kw_0 62 _ rfl
theorem kcl_10_41 : Cond.classLink RX10 41 RX5 ∈ zb := bw09_948_kw_0 63 _ rfl
theorem kins_5 : Cond.instantiable RX5 3 ∈ zb := bw09_948_kw_0 64 _ rfl
theorem km_10_43 : Cond.methodLink RX10 43 yX5_init ∈ zb := bw09_948_kw_0 65 _ rfl
theorem kin_X5_init : Cond.instanceMethod yX5_init ∈ zb := bw09_948_kw_0 66 _ rfl
theorem kcode_X5_init : Cond.code yX5_init cX5_init 1 none ∈ zb := bw09_948_kw_0 67 _ rfl
theorem km_5_3 : Cond.methodLink RX5 3 Lib.objectInit ∈ zb := bw09_948_kw_0 68 _ rfl
theorem kcl_10_48 : Cond.classLink RX10 48 RX8 ∈ zb := bw09_948_kw_0 69 _ rfl
theorem kins_8 : Cond.instantiable RX8 2 ∈ zb := bw09_948_kw_0 70 _ rfl
theorem km_10_50 : Cond.methodLink RX10 50 yX8_init ∈ zb := bw09_948_kw_0 71 _ rfl
theorem kin_X8_init : Cond.instanceMethod yX8_init ∈ zb := bw09_948_kw_0 72 _ rfl
theorem kcode_X8_init : Cond.code yX8_init cX8_init 1 none ∈ zb := bw09_948_kw_0 73 _ rfl
theorem km_8_3 : Cond.methodLink RX8 3 Lib.objectInit ∈ zb := bw09_948_kw_0 74 _ rfl
theorem kf_10_16 : Cond.fieldLink RX10 16 "DownhillSong" "images" "[LDownhillSong$Told;" ∈ zb := bw09_948_kw_0 75 _ rfl
theorem kin_X11_init : Cond.instanceMethod yX11_init ∈ zb := bw09_948_kw_0 76 _ rfl
theorem kcode_X11_init : Cond.code yX11_init cX11_init 1 none ∈ zb := bw09_948_kw_0 77 _ rfl
theorem km_11_1 : Cond.methodLink RX11 1 Lib.objectInit ∈ zb := bw09_948_kw_0 78 _ rfl
theorem kac_Z : Cond.arrayClass .boolean ∈ zb := bw09_948_kw_0 79 _ rfl
theorem kac_J : Cond.arrayClass .long ∈ zb := bw09_948_kw_0 80 _ rfl
theorem ky_X2_init : zY RX2 yX2_init (Cond.code yX2_init cX2_init 1 none) 0 := ⟨rfl, kinit_2, kcode_X2_init, kyn_RX2.1, kyn_RX2.2, kyd_7⟩
theorem kz_X2_init : Cond.instanceMethod yX2_init ∈ zb := kin_X2_init
theorem ky_X1_init : zY RX1 yX1_init (Cond.code yX1_init cX1_init 1 none) 0 := ⟨rfl, kinit_1, kcode_X1_init, kyn_RX1.1, kyn_RX1.2, kyd_7⟩
theorem kz_X1_init : Cond.instanceMethod yX1_init ∈ zb := kin_X1_init
theorem ky_X6_init : zY RX6 yX6_init (Cond.code yX6_init cX6_init 1 none) 0 := ⟨rfl, kinit_6, kcode_X6_init, kyn_RX6.1, kyn_RX6.2, kyd_7⟩
theorem kz_X6_init : Cond.instanceMethod yX6_init ∈ zb := kin_X6_init
theorem ky_X0_init : zY RX0 yX0_init (Cond.code yX0_init cX0_init 1 none) 0 := ⟨rfl, kinit_0, kcode_X0_init, kyn_RX0.1, kyn_RX0.2, kyd_7⟩
theorem kz_X0_init : Cond.instanceMethod yX0_init ∈ zb := kin_X0_init
theorem ky_X9_init : zY RX9 yX9_init (Cond.code yX9_init cX9_init 1 none) 0 := ⟨rfl, kinit_9, kcode_X9_init, kyn_RX9.1, kyn_RX9.2, kyd_7⟩
theorem kz_X9_init : Cond.instanceMethod yX9_init ∈ zb := kin_X9_init
theorem ky_X4_init : zY RX4 yX4_init (Cond.code yX4_init cX4_init 1 none) 0 := ⟨rfl, kinit_4, kcode_X4_init, kyn_RX4.1, kyn_RX4.2, kyd_7⟩
theorem kz_X4_init : Cond.instanceMethod yX4_init ∈ zb := kin_X4_init
theorem ky_X3_init : zY RX3 yX3_init (Cond.code yX3_init cX3_init 1 none) 0 := ⟨rfl, kinit_3, kcode_X3_init, kyn_RX3.1, kyn_RX3.2, kyd_7⟩
theorem kz_X3_init : Cond.instanceMethod yX3_init ∈ zb := kin_X3_init
theorem ky_X7_init : zY RX7 yX7_init (Cond.code yX7_init cX7_init 1 none) 0 := ⟨rfl, kinit_7, kcode_X7_init, kyn_RX7.1, kyn_RX7.2, kyd_7⟩
theorem kz_X7_init : Cond.instanceMethod yX7_init ∈ zb := kin_X7_init
theorem ky_X5_init : zY RX5 yX5_init (Cond.code yX5_init cX5_init 1 none) 0 := ⟨rfl, kinit_5, kcode_X5_init, kyn_RX5.1, kyn_RX5.2, kyd_7⟩
theorem kz_X5_init : Cond.instanceMethod yX5_init ∈ zb := kin_X5_init
theorem ky_X8_init : zY RX8 yX8_init (Cond.code yX8_init cX8_init 1 none) 0 := ⟨rfl, kinit_8, kcode_X8_init, kyn_RX8.1, kyn_RX8.2, kyd_7⟩
theorem kz_X8_init : Cond.instanceMethod yX8_init ∈ zb := kin_X8_init
theorem ky_X10_init : zY RX10 yX10_init (Cond.code yX10_init cX10_init 1 none) 0 := ⟨rfl, kinit_10, kcode_X10_init, kyn_RX10.1, kyn_RX10.2, kyd_7⟩
theorem kz_X10_init : Cond.instanceMethod yX10_init ∈ zb := kin_X10_init
theorem ky_X11_init : zY RX11 yX11_init (Cond.code yX11_init cX11_init 1 none) 0 := ⟨rfl, kinit_11, kcode_X11_init, kyn_RX11.1, kyn_RX11.2, kyd_7⟩
theorem kz_X11_init : Cond.instanceMethod yX11_init ∈ zb := kin_X11_init
/-- cells at neighbouring addresses from a on, all of them free -/
theorem zDa {ws : va_W} {a n : Nat} (h : ws.map Prod.fst = (List.range n).map (fun k => a + k)) : va_D (fun q => a ≤ q) ws := (zD_of h).weaken (fun _ _ _ h => h.1)
def zover : List String := [RX2, RX1, RX6, RX0, RX9]
def zO (s : State) : Prop := ∀ C ∈ zover, va_AO C s
theorem zO_moved {s U : State} (hW : s.WarmedH U.vm) (h : zO s) : zO U := fun C hC => va_AO.moved hW.alike (h C hC)
theorem zO_calling {U : State} {gg : JFrame} {mk : MethodId} {a : Array Value} (h : zO U) : zO (U.calling gg mk a) := fun C hC => va_AO.moved (u := U) (U := U.calling gg mk a) (Vm.Alike.refl U.vm) (h C hC)
theorem zarr_q {cA : ClassId} {n : Nat} {f g : Nat → Option Nat} (h : ∀ j, j < n → f j = g j) : vp_cell cA (n, .inr (.inr (.inr (.inr f)))) = vp_cell cA (n, .inr (.inr (.inr (.inr g)))) := by
  rw [vp_cell_q, vp_cell_q]
  unfold arrV
  congr 1
  apply Array.ext (by simp)
  intro i h1 h2
  simp at h1
  simp [h i h1]
theorem zset {D : va_G} {cl : List vw_C} {ws : va_W} {H : Heap} (hP : va_P D cl ws H) (k : Nat) {x y : Nat × va_E} (hx : ws[k]? = some x) (hy : va_at D cl y H) : va_P D cl (ws.set k y) H := by
  intro j q hq
  by_cases hj : k = j
  · subst hj
    have hlt : k < ws.length := (List.getElem?_eq_some_iff.mp hx).1
    rw [List.getElem?_set_self hlt] at hq
    cases hq
    exact hy
  · rw [List.getElem?_set_ne hj] at hq
    exact hP j q hq
theorem zkeepA {D : va_G} {cl : List vw_C} {wr : va_W} {H H1 : Heap} {A1 : Nat → Prop} {a n : Nat} (hP : va_P D cl wr H) (hk : ∀ q : Nat, q < H.size → ¬ A1 q → H1[q]? = H[q]?) (h : wr.map Prod.fst = (List.range n).map (fun k => a + k)) (hA : ∀ q, A1 q → a + n ≤ q) : va_P D cl wr H1 := by
  refine zkeep hP hk _ h ?_
  intro q hq h1
  obtain ⟨k, hk1, rfl⟩ := List.mem_map.mp hq
  have := hA _ h1
  have := List.mem_range.mp hk1
  omega
/-- the addresses of a segment -/
def zRg (ws : va_W) (lo hi : Nat) : Prop := ∀ x ∈ ws.map Prod.fst, lo ≤ x ∧ x < hi
theorem zRg_1 {q : Nat} {e : va_E} : zRg [(q, e)] q (q + 1) := by intro x hx; simp at hx; omega
theorem zRg_of {ws : va_W} {a n : Nat} (h : ws.map Prod.fst = (List.range n).map (fun k => a + k)) : zRg ws a (a + n) := by
  intro x hx
  rw [h] at hx
  obtain ⟨k, hk, rfl⟩ := List.mem_map.mp hx
  have := List.mem_range.mp hk
  exact ⟨by omega, by omega⟩
theorem zRg.mono {ws : va_W} {lo hi lo2 hi2 : Nat} (h : zRg ws lo hi) (h1 : lo2 ≤ lo) (h2 : hi ≤ hi2) : zRg ws lo2 hi2 := fun x hx => ⟨Nat.le_trans h1 (h x hx).1, Nat.lt_of_lt_of_le (h x hx).2 h2⟩
theorem zRg.app {ws wt : va_W} {lo hi : Nat} (h : zRg ws lo hi) (h1 : zRg wt lo hi) : zRg (ws ++ wt) lo hi := fun x hx => by
  rw [List.map_append] at hx
  exact (List.mem_append.mp hx).elim (h x) (h1 x)
theorem zP1 {D : va_G} {cl : List vw_C} {c : Nat × va_E} {H : Heap} (h : va_at D cl c H) : va_P D cl [c] H := fun k q hq => by
  have h1 := (List.getElem?_eq_some_iff.mp hq).1
  simp at h1
  subst h1
  cases hq
  exact h
theorem zge_n {a q i j : Nat} (h : q < a + i) (hij : i ≤ j) : ¬ (a + j ≤ q) := by omega
theorem znA {a q i p : Nat} (h : a + i ≤ q) (hp : p < i) : q ≠ a + p := by omega
theorem znB {a q i p : Nat} (h : q < a + i) (hp : i ≤ p) : q ≠ a + p := by omega
theorem zkp {D : va_G} {cl : List vw_C} {ws : va_W} {H H1 : Heap} {lo hi : Nat} (hP : va_P D cl ws H) (hr : zRg ws lo hi) (hk : ∀ q : Nat, q < H.size → lo ≤ q → q < hi → H1[q]? = H[q]?) : va_P D cl ws H1 := by
  intro k q hq
  have h1 := hr q.1 (List.mem_map_of_mem (List.mem_of_getElem? hq))
  exact (hP k q hq).kept (hk q.1 (hP k q hq).lt h1.1 h1.2)
theorem zD1 {q a : Nat} {e : va_E} (h : a ≤ q) : va_D (fun x => a ≤ x) [(q, e)] := ⟨fun i j x y hx hy _ => by
  have h1 := (List.getElem?_eq_some_iff.mp hx).1; have h2 := (List.getElem?_eq_some_iff.mp hy).1; simp at h1 h2; omega, fun k x hx => by
  have h1 := (List.getElem?_eq_some_iff.mp hx).1; simp at h1; subst h1; cases hx; exact h⟩
/-- what a constructor begins with: a blank object, the last cell -/
def zI (E : zE) (a ci : Nat) (fs : List Value) (U : State) : Prop := U.heap.size = a + 1 ∧ va_P E.1 zcl [(a, .inr (ci, fs))] U.heap ∧ zK E U ∧ zO U
theorem zI_blind {E : zE} {a ci : Nat} {fs : List Value} : FrameBlind (va_Pc [.ref a] (zI E a ci fs)) := fun _ _ _ _ h => ⟨h.1, h.2.1, h.2.2.1, zK_calling h.2.2.2.1, zO_calling h.2.2.2.2⟩
/-- what it ends with: the block, and how many cells there are -/
def zJ (E : zE) (a n : Nat) (ws : va_W) (_ : Unit) (H : Heap) : Prop := va_P E.1 zcl ws H ∧ H.size = a + n
section ZN
variable {p : Program} {l : Launch} {e : Env} {R : Room} {s : State} {m : MethodId} {args : Array Value} {below : List Frame} {meth : Method} {c : Code} {H : Heap} {locs : List Loc} {cells slots : Nat} {Q : State → Prop} {cc : ByteArray} {pc nL : Nat} {ls : Array Slot} {rest : List Value} {own : String} {ret : Option FieldType} {E : zE} {ws : va_W} {A : Nat → Prop} {h : Nat}
theorem zNew {C : String} {T : u_T} {N ci idx : Nat} (zc : zC p s m args meth c cc nL own ret) (hK : zK E s) (hP : va_P E.1 zcl ws H) (hS : va_S A s.heap H locs) (hsz : H.size = h) (hin : ∀ w ∈ u_ws C T N, w ∈ zb) (ty : Nat → FieldType) (hty : ∀ k, k < N → parseFieldDescriptor (T k).2.2.1 = some (ty k)) (hcl : Cond.classLink own idx C ∈ zb) (hinst : Cond.instantiable C N ∈ zb) (hini : Cond.initialized C ∈ zb) (hc : zcl[ci]? = some (C, T, N)) (fs : List Value) (hfs : ∀ j, j < N → defaultValue (ty j) = vp_V fs j) (hcells : cells + 1 ≤ R.cells) (hslots : slots + N ≤ R.slots) (hdg : decode cc pc = .ok (.new idx, 3))
    (kk : ∀ H1 : Heap, va_P E.1 zcl (ws ++ [(h, .inr (ci, fs))]) H1 → (∀ q : Nat, q < h → H1[q]? = H[q]?) → H1.size = h + 1 → va_S A s.heap H1 locs → W p l e R s m args below meth c H1 locs (cells + 1) (slots + N) Q (F0 m (pc + 3) ls (.ref h :: rest))) : W p l e R s m args below meth c H locs cells slots Q (F0 m pc ls rest) := by
  obtain ⟨hx, hb, hml, hown, hz, hr, hlk⟩ := zc
  have hKn := hK.1.1 ci _ hc
  refine W.newcK hx hb hown (hz _ hcl) (hz _ hinst) (hz _ hini) rfl hdg hcells hslots hKn.2.1 hsz fun H1 kC hkC e1 z1 o1 => ?_
  subst hsz
  have hk : ∀ (k : Nat) (x : Nat × va_E), ws[k]? = some x → H1[x.1]? = H[x.1]? := fun k x hx => o1 x.1 ((hP k x hx).lt)
  refine kk H1 ((hP.kept hk).app (fun k x hx => ?_)) o1 z1 ⟨Nat.le_trans hS.1 (by omega), fun x h1 h2 => (o1 x (Nat.lt_of_lt_of_le h1 hS.1)).trans (hS.2.1 x h1 h2), hS.2.2⟩
  have hz1 : k < 1 := (List.getElem?_eq_some_iff.mp hx).1
  rw [show k = 0 by omega] at hx
  cases hx
  exact ⟨_, hc, (u_born ty hz hin hKn hkC e1 hty).to hfs⟩
theorem zNewa {atype : ArrayType} {t N : Nat} {n : Int32} {a0 : vp_A} (zc : zC p s m args meth c cc nL own ret) (hK : zK E s) (hP : va_P E.1 zcl ws H) (hS : va_S A s.heap H locs) (hsz : H.size = h) (harr : Cond.arrayClass (newarray.typeOf atype) ∈ zb) (ht : (zty E)[t]? = some (E.2 t, newarray.typeOf atype)) (ha : ∀ cA : ClassId, vp_cell cA a0 = arrV cA N (fun _ => defaultValue (newarray.typeOf atype))) (hn : ¬ n < 0) (hN : n.toNatClampNeg = N) (hbytes : N * componentBytes (newarray.typeOf atype) ≤ 536870912) (hcells : cells + 1 ≤ R.cells) (hslots : slots + N ≤ R.slots) (hdg : decode cc pc = .ok (.newarray atype, 2))
    (kk : ∀ H1 : Heap, va_P E.1 zcl (ws ++ [(h, .inl (E.2 t, a0))]) H1 → (∀ q : Nat, q < h → H1[q]? = H[q]?) → H1.size = h + 1 → va_S A s.heap H1 locs → W p l e R s m args below meth c H1 locs (cells + 1) (slots + N) Q (F0 m (pc + 2) ls (.ref h :: rest))) : W p l e R s m args below meth c H locs cells slots Q (F0 m pc ls (.int n :: rest)) := by
  obtain ⟨hx, hb, hml, hown, hz, hr, hlk⟩ := zc
  refine va_newaK hx hb (hz _ harr) rfl hdg rfl hn hN hbytes hcells hslots hsz fun H1 cA e1 z1 o1 hAr hNm => ?_
  have h2 := (hK.1.2 t _ ht).2
  have hcA : cA = E.2 t := Option.some.inj (hNm.symm.trans (by cases atype <;> exact h2))
  subst hcA
  subst hsz
  have hk : ∀ (k : Nat) (x : Nat × va_E), ws[k]? = some x → H1[x.1]? = H[x.1]? := fun k x hx => o1 x.1 ((hP k x hx).lt)
  refine kk H1 ((hP.kept hk).app (fun k x hx => ?_)) o1 z1 ⟨Nat.le_trans hS.1 (by omega), fun x h1 h2 => (o1 x (Nat.lt_of_lt_of_le h1 hS.1)).trans (hS.2.1 x h1 h2), hS.2.2⟩
  have hz1 : k < 1 := (List.getElem?_eq_some_iff.mp hx).1
  rw [show k = 0 by omega] at hx
  cases hx
  show H1[H.size]? = some (vp_cell _ _)
  rw [ha]
  exact e1
theorem zNewq {C : String} {idx t N : Nat} {n : Int32} (zc : zC p s m args meth c cc nL own ret) (hK : zK E s) (hO : va_AO C s) (hP : va_P E.1 zcl ws H) (hS : va_S A s.heap H locs) (hsz : H.size = h) (hcl : Cond.classLink own idx C ∈ zb) (ht : (zty E)[t]? = some (E.2 t, .object C)) (hn : ¬ n < 0) (hN : n.toNatClampNeg = N) (hbytes : N * 4 ≤ 536870912) (hcells : cells + 1 ≤ R.cells) (hslots : slots + N ≤ R.slots) (hdg : decode cc pc = .ok (.anewarray idx, 3))
    (kk : ∀ H1 : Heap, va_P E.1 zcl (ws ++ [(h, .inl (E.2 t, N, .inr (.inr (.inr (.inr (fun _ => none))))))]) H1 → (∀ q : Nat, q < h → H1[q]? = H[q]?) → H1.size = h + 1 → va_S A s.heap H1 locs → W p l e R s m args below meth c H1 locs (cells + 1) (slots + N) Q (F0 m (pc + 3) ls (.ref h :: rest))) : W p l e R s m args below meth c H locs cells slots Q (F0 m pc ls (.int n :: rest)) := by
  obtain ⟨hx, hb, hml, hown, hz, hr, hlk⟩ := zc
  subst hN
  refine W.anew hx hb hown (hz _ hcl) (va_AO.use hO) rfl hdg rfl hn hbytes hcells hslots fun cA kA comp f1 f2 f3 f4 => ?_
  obtain ⟨kA2, comp2, -, -, -, k4⟩ := (hK.1.2 t _ ht).2
  have hcA : cA = E.2 t := Option.some.inj (f1.symm.trans k4)
  subst hcA
  subst hsz
  generalize hH1 : H.push ({ cls := E.2 t, slots := Array.replicate n.toNatClampNeg .null, vm := .none } : Cell) = H1
  have z1 : H1.size = H.size + 1 := by rw [← hH1, Array.size_push]
  have e1 : H1[H.size]? = some (arrV (E.2 t) n.toNatClampNeg (fun _ => .null)) := by rw [← hH1, Array.getElem?_push_size, ← arrV_new]
  have o1 : ∀ q : Nat, q < H.size → H1[q]? = H[q]? := fun q hq => by rw [← hH1, Array.getElem?_push, if_neg (Nat.ne_of_lt hq)]
  have hk : ∀ (k : Nat) (x : Nat × va_E), ws[k]? = some x → H1[x.1]? = H[x.1]? := fun k x hx => o1 x.1 ((hP k x hx).lt)
  refine kk H1 ((hP.kept hk).app (fun k x hx => ?_)) o1 z1 ⟨Nat.le_trans hS.1 (by omega), fun x h1 h2 => (o1 x (Nat.lt_of_lt_of_le h1 hS.1)).trans (hS.2.1 x h1 h2), hS.2.2⟩
  have hz1 : k < 1 := (List.getElem?_eq_some_iff.mp hx).1
  rw [show k = 0 by omega] at hx
  cases hx
  show H1[H.size]? = some (vp_cell _ _)
  rw [vp_cell_q]
  exact e1
/-- a field of the object that is made, final or not: how many cells there are stays -/
theorem zPut {ref C : String} {T : u_T} {N ci idx a : Nat} {ty : FieldType} {v : Value} {fs : List Value} (zc : zC p s m args meth c cc nL own ret) (hK : zK E s) (hP : va_P E.1 zcl ws H) (hD : va_D A ws) (hS : va_S A s.heap H locs) (hin : ∀ w ∈ u_ws C T N, w ∈ zb) (ty0 : Nat → FieldType) (hty : ∀ k, k < N → parseFieldDescriptor (T k).2.2.1 = some (ty0 k)) (hnm : ∀ a, a < N → ∀ b, b < N → a ≠ b → (T a).2.1 ≠ (T b).2.1) (q0 : Nat) (he : ws[q0]? = some (a, .inr (ci, fs))) (hc : zcl[ci]? = some (C, T, N)) (k : Nat) (hk : k < N) (hlink : Cond.fieldLink own idx ref (T k).2.1 (T k).2.2.1 ∈ zb) (hsame : ∀ x, s.fieldFound? (T k).1 (T k).2.1 (T k).2.2.1 = some x → s.fieldFound? ref (T k).2.1 (T k).2.2.1 = some x) (hfin : (T k).2.2.2 = false ∨ ((T k).2.2.2 = true ∧ meth.name = "<init>" ∧ (T k).1 = own)) (hd : parseFieldDescriptor (T k).2.2.1 = some ty) (hn : narrow ty v = v) (hfit : fits ty v = true) (hl : k < fs.length) (hdg : decode cc pc = .ok (.putfield idx, 3))
    (kk : ∀ (H1 : Heap) (locs1 : List Loc), va_P E.1 zcl (ws.set q0 (a, .inr (ci, fs.set k v))) H1 → (∀ q : Nat, q ≠ a → H1[q]? = H[q]?) → H1.size = H.size → va_S A s.heap H1 locs1 → W p l e R s m args below meth c H1 locs1 cells slots Q (F0 m (pc + 3) ls rest)) : W p l e R s m args below meth c H locs cells slots Q (F0 m pc ls (v :: .ref a :: rest)) := by
  obtain ⟨hx, hb, hml, hown, hz, hr, hlk⟩ := zc
  have hap := va_apart (own := own) hz hin ty0 hty hnm hK.1 hc
  obtain ⟨r, h1, cell, q1, q2, q3, q4⟩ := hP q0 _ he
  have hr2 : r = (C, T, N) := Option.some.inj (h1.symm.trans hc)
  subst hr2
  obtain ⟨hS1, hfc, kC, hkC, hkind⟩ := hK.1.1 ci _ hc
  obtain ⟨cf, kf, fi, f, hi, hsl⟩ := hS1 k hk
  have hst := (u_facts hfc hkC (u_lays hz hin hk) hi).1
  have hlay := hz _ (hin _ (u_in_lay hk))
  unfold u_lay at hlay
  rcases hfin with hfin | ⟨hfin, hnm2, hdecl⟩
  · rw [if_neg (by rw [hfin]; decide)] at hlay
    have h6 := u_store hfc hkC hkind hlay hi hd hn hfit
    refine W.putK hx hb (f := f) ⟨hown, hz _ hlink, ⟨_, _, _, hsame _ hi⟩, hst⟩ (by rw [q2]; exact h6) q1 q3 (by rw [hsl]; exact k2_hasslot (q4 k hk)) rfl rfl hdg fun H' e1 e2 e3 => ?_
    rw [hsl] at e1 ⊢
    exact kk H' _ (hP.set hD he ⟨_, hc, t_OB.to (V := updV (vp_V fs) k v) ⟨_, e1, q2, q3, t_set q4 hap hk v⟩ (fun j _ => vp_updV_set hl v j)⟩ e3) e3 e2 (hS.put e2 e3 (hD.2 q0 _ he))
  · rw [if_pos hfin] at hlay
    have hcf : m.cls = cf := by
      obtain ⟨_, _, c', _, _, _, -, -, hf', -, -, -, hown2, -⟩ := Cond.laysFinal_spec hlay
      have e1 : c' = cf := by have := hi.symm.trans hf'; simp at this; exact this.1.symm
      rw [hdecl] at hown2
      rw [← e1]; exact Option.some.inj (hown.symm.trans hown2)
    have h6 := u_fits hfc hkC hkind (Or.inr hlay) hi hd hn hfit
    refine W.putFinK hx hb hown (hz _ hlink) (hsame _ hi) hst hcf hnm2 (by rw [q2]; exact h6) q1 q3 (by rw [hsl]; exact k2_hasslot (q4 k hk)) rfl rfl hdg fun H' e1 e2 e3 => ?_
    rw [hsl] at e1 ⊢
    exact kk H' _ (hP.set hD he ⟨_, hc, t_OB.to (V := updV (vp_V fs) k v) ⟨_, e1, q2, q3, t_set q4 hap hk v⟩ (fun j _ => vp_updV_set hl v j)⟩ e3) e3 e2 (hS.put e2 e3 (hD.2 q0 _ he))
theorem zIast {a n t : Nat} {f : Nat → Int32} {i x : Int32} (zc : zC p s m args meth c cc nL own ret) (hK : zK E s) (hP : va_P E.1 zcl ws H) (hD : va_D A ws) (hS : va_S A s.heap H locs) (q0 : Nat) (ha : ws[q0]? = some (a, .inl (E.2 t, n, .inl f))) (ht : (zty E)[t]? = some (E.2 t, .int)) (hin : vp_in i n) (hdg : decode cc pc = .ok (.iastore, 1))
    (kk : ∀ (H1 : Heap) (locs1 : List Loc), va_P E.1 zcl (ws.set q0 (a, .inl (E.2 t, n, .inl (upd f i.toNatClampNeg x)))) H1 → (∀ q : Nat, q ≠ a → H1[q]? = H[q]?) → H1.size = H.size → va_S A s.heap H1 locs1 → W p l e R s m args below meth c H1 locs1 cells slots Q (F0 m (pc + 1) ls rest)) : W p l e R s m args below meth c H locs cells slots Q (F0 m pc ls (.int x :: .int i :: .ref a :: rest)) := by
  obtain ⟨hx, hb, hml, hown, hz, hr, hlk⟩ := zc
  refine W.iast hx hb (hP q0 _ ha) ((hK.1.2 t _ ht).1 n (fun j => .int (f j))) (fun q => by cases q) (by show ¬ (i < 0 ∨ (arrV _ _ _).slots.size ≤ _); rw [arrV_size]; exact hin) rfl rfl hdg fun H1 e z oq => ?_
  refine kk H1 _ (hP.set hD ha ?_ oq) oq z (hS.put z oq (hD.2 q0 _ ha))
  show H1[a]? = some (vp_cell _ _)
  rw [e]
  rw [vp_cell_i, vp_cell_i, arrV_store]
  congr 2
  funext q
  by_cases hq : q = i.toNatClampNeg
  · subst hq
    simp [updV, upd]
  · simp [updV, upd, hq]
theorem zAast {a n t v ci : Nat} {r : vw_C} {vs : List Value} {f : Nat → Option Nat} {i : Int32} (zc : zC p s m args meth c cc nL own ret) (hK : zK E s) (hP : va_P E.1 zcl ws H) (hD : va_D A ws) (hS : va_S A s.heap H locs) (q0 qk : Nat) (ha : ws[q0]? = some (a, .inl (E.2 t, n, .inr (.inr (.inr (.inr f)))))) (ht : (zty E)[t]? = some (E.2 t, .object r.1)) {wv : va_W} (hPv : va_P E.1 zcl wv H) (hv : wv[qk]? = some (v, .inr (ci, vs))) (hc : zcl[ci]? = some r) (hin : vp_in i n) (hdg : decode cc pc = .ok (.aastore, 1))
    (kk : ∀ (H1 : Heap) (locs1 : List Loc), va_P E.1 zcl (ws.set q0 (a, .inl (E.2 t, n, .inr (.inr (.inr (.inr (va_up f i.toNatClampNeg (some v)))))))) H1 → (∀ q : Nat, q ≠ a → H1[q]? = H[q]?) → H1.size = H.size → va_S A s.heap H1 locs1 → W p l e R s m args below meth c H1 locs1 cells slots Q (F0 m (pc + 1) ls rest)) : W p l e R s m args below meth c H locs cells slots Q (F0 m pc ls (.ref v :: .int i :: .ref a :: rest)) := by
  obtain ⟨hx, hb, hml, hown, hz, hr, hlk⟩ := zc
  have hlt : i.toNatClampNeg < n := Nat.not_le.mp fun q => hin (Or.inr q)
  have h0 : ¬ i < 0 := fun q => hin (Or.inl q)
  obtain ⟨r', hr', cellV, g1, g2, g3, -⟩ := hPv qk _ hv
  have hcls := (hK.1.1 ci r hc).2
  obtain ⟨kA, comp, k1, k2, k3, -⟩ := (hK.1.2 t _ ht).2
  have hcomp : comp = E.1.1 ci := Option.some.inj (k3.symm.trans hcls.1)
  subst hcomp
  obtain ⟨kC, hkC, -⟩ := hcls.2
  refine W.aast hx hb (hP q0 _ ha) (fun q h => by cases h) (fun h => by cases h) k1 k2 rfl hkC ⟨h0, by show _ < (arrV _ _ _).slots.size; rw [arrV_size]; exact hlt⟩ g1 (fun q h => by rw [g3] at h; cases h) (by rw [g2]; exact hkC) (by rw [g2]; exact va_assign hcls) rfl rfl hdg fun H1 e z oq => ?_
  refine kk H1 _ (hP.set hD ha ?_ oq) oq z (hS.put z oq (hD.2 q0 _ ha))
  show H1[a]? = some (vp_cell _ _)
  rw [e]
  rw [vp_cell_q, vp_cell_q, arrV_store]
  congr 2
  funext q
  by_cases hq : q = i.toNatClampNeg
  · subst hq
    simp [updV, va_up, va_rf]
  · simp [updV, va_up, hq]
/-- a constructor's call -/
theorem zIc {S : Type} {post : S → Prop} {B : S → Heap → Prop} {A1 : Nat → Prop} {C : String} {y : MethodName} {bytes : ByteArray} {maxL idx mc ms : Nat} {rm : Room} {Pc : Array Value → State → Prop} {b : Addr} (zc : zC p s m args meth c cc nL own ret) (ky : zY C y (Cond.code y bytes maxL none) 0) (k2 : Cond.instanceMethod y ∈ zb) (hy : y.name = "<init>") (hl : Cond.methodLink own idx y ∈ zb) (hM : Met l y (Cond.code y bytes maxL none :: zb) rm Pc (zQv post B A1) mc ms A1) (hp : PreS s H Pc [.ref b]) (hS : va_S A s.heap H locs) (hsub : ∀ q, A1 q → A q) (hsz : ls.size = nL) (hW : (rest.map fun v => v.category).sum ≤ 8) (hrm : rm.cells = mc ∧ rm.slots = ms) (hR : rm.frames + 1 ≤ R.frames ∧ 8 + (maxL + 11) + rm.locals ≤ R.locals) (hcs : cells + mc ≤ R.cells ∧ slots + ms ≤ R.slots) (hdg : decode cc pc = .ok (.invokespecial idx, 3))
    (kk : ∀ (u : S) (H1 : Heap) (locs1 : List Loc), post u → B u H1 → (∀ q : Nat, q < H.size → ¬ A1 q → H1[q]? = H[q]?) → va_S A s.heap H1 locs1 → W p l e R s m args below meth c H1 locs1 (cells + mc) (slots + ms) Q (F0 m (pc + 3) ls rest)) : W p l e R s m args below meth c H locs cells slots Q (F0 m pc ls (.ref b :: rest)) := by
  obtain ⟨hx, hb, hml, hown, hz, hr, hlk⟩ := zc
  obtain ⟨y1, y2, y3, y4⟩ := ky
  have cw : CallB R s args own idx y bytes maxL none (Cond.code y bytes maxL none :: zb) rm mc ms 0 := callB_of 0 hz (zb_self y3) rfl hrm.1 hrm.2 (by rw [y1]; exact hz _ y2) (hz _ hl) y4 hR
  exact va_callv (va_runI (As := []) (rest := rest) ⟨hx, hb, hml, hown, hz⟩ hM ⟨cw, hy, hz _ k2⟩ hp rfl rfl hsz rfl (lv_room hW) hdg hcs) hS (fun q _ h => hsub q h) hsub (fun u t H1 locs1 ht _ hpost hB _ hk1 hS1 => kk u H1 locs1 hpost (ht ▸ hB) hk1 hS1)
theorem zIpre {b ci : Nat} {fs : List Value} (hK : zK E s) (hO : zO s) (hP : va_P E.1 zcl [(b, .inr (ci, fs))] H) (hsz : H.size = b + 1) : PreS s H (va_Pc [.ref b] (zI E b ci fs)) [.ref b] := ⟨zI_blind, fun U hU hW => ⟨rfl, by rw [hU]; exact hsz, by rw [hU]; exact hP, zK_moved hW hK, zO_moved hW hO⟩⟩
theorem zIret {S : Type} {post : S → Prop} {B : S → Heap → Prop} (u : S) (zc : zC p s m args meth c cc nL own none) (hS : va_S A s.heap H locs) (hw : post u) (hB : B u H) (hdg : decode cc pc = .ok (.return_, 1)) : W p l e R s m args below meth c H locs cells slots (MQ below (zQv post B A) args s cells slots A) (F0 m pc ls []) := zret_vw u zc hS hw hB hdg
end ZN
end
section
abbrev rmi_X0_init : Room := { frames := 1, cells := 2, slots := 18, locals := 20 }
abbrev zb_X0_init (E : zE) (a : Nat) : va_W := (([(a, .inr (0, [.int 0, .int 0, .ref (a + 1), .ref (a + 2)]))] : va_W) ++ (([((a + 1), .inl (E.2 1, 9, .inl (fun _ => 0)))] : va_W) ++ (([((a + 2), .inl (E.2 1, 9, .inl (fun _ => 0)))] : va_W))))
theorem zrg_X0_init {E : zE} {a : Nat} : zRg (zb_X0_init E a) a (a + 3) := by
  exact ((zRg_1).mono (by omega) (by omega)).app (((zRg_1).mono (by omega) (by omega)).app ((zRg_1).mono (by omega) (by omega)))
set_option maxRecDepth 40000 in
set_option maxHeartbeats 4000000 in
theorem ci_X0_init (l : Launch) {E : zE} {a : Nat} : Met l yX0_init (Cond.code yX0_init cX0_init 1 none :: zb) rmi_X0_init (va_Pc [.ref a] (zI E a 0 [.int 0, .int 0, .null, .null])) (zQv (S := Unit) (fun _ => True) (zJ E a 3 (zb_X0_init E a)) (fun q => a ≤ q)) 2 18 (fun q => a ≤ q) := by
  refine Met.ofW (cc := cX0_init) (maxL := 1) (ret := none) (by decide) rfl ?_
  intro p e s m args below meth c s₁ B hml hv
  obtain ⟨rfl, hsz, g0, hK, hO⟩ := hv
  have zc := zc_of B hml
  have hx := zc.1
  have hb := zc.2.1
  have hz := zc.2.2.2.2.1
  have hin : meth.name = "<init>" := (name_of_methodNamed B.named B.method).1
  have hS : va_S (fun q => a ≤ q) s.heap s.heap [] := va_S.rf
  have hl := lv_entry ([.ref a]) (n := 1) (Nat.le_of_ble_eq_true rfl)
  rw [lg_entry_eq]
  generalize (lg_sl ([.ref a]) ++ List.replicate (1 - (lg_sl ([.ref a])).length) Slot.unset).toArray = ls at hl ⊢
  have hl : lv_has ls 1 [(0, .ref a)] := hl
  refine lv_aload_n hx hb dX0_init_0 rfl (lv_at hl 0 rfl) ?_
  refine W.objInit hx hb zc.2.2.2.1 (hz _ km_0_3) (hz _ k_oi) (hz _ k_oc) rfl (by rw [zc.2.2.1]; exact hl.1) rfl dX0_init_1 (Nat.le_of_ble_eq_true rfl) (Nat.le_of_ble_eq_true rfl) ?_
  refine W.eq (g2 := F0 m 4 ls []) rfl ?_
  refine lv_aload_n hx hb dX0_init_4 rfl (lv_at hl 0 rfl) ?_
  refine lv_bipush (v := (9 : Int32)) hx hb dX0_init_5 (by decide) ?_
  refine zNewa (ws := []) (atype := .int) (t := 1) (N := 9) (a0 := (9, .inl (fun _ => 0))) zc hK (fun k q h => by simp at h) hS hsz kac_I rfl (fun _ => rfl) (by decide) (by decide) (by decide) (Nat.le_of_ble_eq_true rfl) (Nat.le_of_ble_eq_true rfl) dX0_init_7 (fun H1 hN o1 hz1 hS => ?_)
  have g0 := zkp g0 zRg_1 (fun q h1 _ _ => o1 q (Nat.lt_of_lt_of_eq h1 hsz))
  have g1 : va_P E.1 zcl [((a + 1), .inl (E.2 1, 9, .inl (fun _ => 0)))] H1 := hN
  have hsz : H1.size = a + 2 := hz1
  refine W.cs (cells' := 1) (slots' := 9) rfl rfl ?_
  refine zPut (C := RX0) (T := TX0) (N := 4) (ci := 0) (v := .ref (a + 1)) (ty := .array .int) zc hK g0 (zD1 (Nat.le_refl a)) hS uw0 tyX0 tyX0_ok nmX0 0 rfl rfl 2 (by decide) kf_0_9 (fun _ h9 => h9) (Or.inr ⟨rfl, hin, rfl⟩) (by decide +kernel) rfl rfl (Nat.le_of_ble_eq_true rfl) dX0_init_9 (fun H2 locs hN oq hz1 hS => ?_)
  have g1 := zkp g1 zRg_1 (fun q _ h2 h3 => oq q (znA (a := a) (i := 1) (p := 0) h2 (Nat.le_of_ble_eq_true rfl)))
  have g0 : va_P E.1 zcl [(a, .inr (0, [.int 0, .int 0, .ref (a + 1), .null]))] H2 := hN
  have hsz := hz1.trans hsz
  refine lv_aload_n hx hb dX0_init_12 rfl (lv_at hl 0 rfl) ?_
  refine lv_bipush (v := (9 : Int32)) hx hb dX0_init_13 (by decide) ?_
  refine zNewa (ws := []) (atype := .int) (t := 1) (N := 9) (a0 := (9, .inl (fun _ => 0))) zc hK (fun k q h => by simp at h) hS hsz kac_I rfl (fun _ => rfl) (by decide) (by decide) (by decide) (Nat.le_of_ble_eq_true rfl) (Nat.le_of_ble_eq_true rfl) dX0_init_15 (fun H3 hN o1 hz1 hS => ?_)
  have g0 := zkp g0 zRg_1 (fun q h1 _ _ => o1 q (Nat.lt_of_lt_of_eq h1 hsz))
  have g1 := zkp g1 zRg_1 (fun q h1 _ _ => o1 q (Nat.lt_of_lt_of_eq h1 hsz))
  have g2 : va_P E.1 zcl [((a + 2), .inl (E.2 1, 9, .inl (fun _ => 0)))] H3 := hN
  have hsz : H3.size = a + 3 := hz1
  refine W.cs (cells' := 2) (slots' := 18) rfl rfl ?_
  refine zPut (C := RX0) (T := TX0) (N := 4) (ci := 0) (v := .ref (a + 2)) (ty := .array .int) zc hK g0 (zD1 (Nat.le_refl a)) hS uw0 tyX0 tyX0_ok nmX0 0 rfl rfl 3 (by decide) kf_0_15 (fun _ h9 => h9) (Or.inr ⟨rfl, hin, rfl⟩) (by decide +kernel) rfl rfl (Nat.le_of_ble_eq_true rfl) dX0_init_17 (fun H4 locs hN oq hz1 hS => ?_)
  have g1 := zkp g1 zRg_1 (fun q _ h2 h3 => oq q (znA (a := a) (i := 1) (p := 0) h2 (Nat.le_of_ble_eq_true rfl)))
  have g2 := zkp g2 zRg_1 (fun q _ h2 h3 => oq q (znA (a := a) (i := 2) (p := 0) h2 (Nat.le_of_ble_eq_true rfl)))
  have g0 : va_P E.1 zcl [(a, .inr (0, [.int 0, .int 0, .ref (a + 1), .ref (a + 2)]))] H4 := hN
  have hsz := hz1.trans hsz
  exact zIret (post := fun _ => True) (B := zJ E a 3 ([(a, .inr (0, [.int 0, .int 0, .ref (a + 1), .ref (a + 2)]))] ++ ([((a + 1), .inl (E.2 1, 9, .inl (fun _ => 0)))] ++ ([((a + 2), .inl (E.2 1, 9, .inl (fun _ => 0)))])))) () zc hS trivial ⟨(va_P.app g0 (va_P.app g1 g2)), hsz⟩ dX0_init_20
end
section
abbrev rmi_X1_init : Room := { frames := 1, cells := 3, slots := 120, locals := 20 }
abbrev zb_X1_init (E : zE) (a : Nat) : va_W := (([(a, .inr (1, [.int 0, .ref (a + 1), .ref (a + 2), .ref (a + 3)]))] : va_W) ++ (([((a + 1), .inl (E.2 1, 40, .inl (fun _ => 0)))] : va_W) ++ (([((a + 2), .inl (E.2 1, 40, .inl (fun _ => 0)))] : va_W) ++ (([((a + 3), .inl (E.2 1, 40, .inl (fun _ => 0)))] : va_W)))))
theorem zrg_X1_init {E : zE} {a : Nat} : zRg (zb_X1_init E a) a (a + 4) := by
  exact ((zRg_1).mono (by omega) (by omega)).app (((zRg_1).mono (by omega) (by omega)).app (((zRg_1).mono (by omega) (by omega)).app ((zRg_1).mono (by omega) (by omega))))
set_option maxRecDepth 40000 in
set_option maxHeartbeats 4000000 in
theorem ci_X1_init (l : Launch) {E : zE} {a : Nat} : Met l yX1_init (Cond.code yX1_init cX1_init 1 none :: zb) rmi_X1_init (va_Pc [.ref a] (zI E a 1 [.int 0, .null, .null, .null])) (zQv (S := Unit) (fun _ => True) (zJ E a 4 (zb_X1_init E a)) (fun q => a ≤ q)) 3 120 (fun q => a ≤ q) := by
  refine Met.ofW (cc := cX1_init) (maxL := 1) (ret := none) (by decide) rfl ?_
  intro p e s m args below meth c s₁ B hml hv
  obtain ⟨rfl, hsz, g0, hK, hO⟩ := hv
  have zc := zc_of B hml
  have hx := zc.1
  have hb := zc.2.1
  have hz := zc.2.2.2.2.1
  have hin : meth.name = "<init>" := (name_of_methodNamed B.named B.method).1
  have hS : va_S (fun q => a ≤ q) s.heap s.heap [] := va_S.rf
  have hl := lv_entry ([.ref a]) (n := 1) (Nat.le_of_ble_eq_true rfl)
  rw [lg_entry_eq]
  generalize (lg_sl ([.ref a]) ++ List.replicate (1 - (lg_sl ([.ref a])).length) Slot.unset).toArray = ls at hl ⊢
  have hl : lv_has ls 1 [(0, .ref a)] := hl
  refine lv_aload_n hx hb dX1_init_0 rfl (lv_at hl 0 rfl) ?_
  refine W.objInit hx hb zc.2.2.2.1 (hz _ km_1_3) (hz _ k_oi) (hz _ k_oc) rfl (by rw [zc.2.2.1]; exact hl.1) rfl dX1_init_1 (Nat.le_of_ble_eq_true rfl) (Nat.le_of_ble_eq_true rfl) ?_
  refine W.eq (g2 := F0 m 4 ls []) rfl ?_
  refine lv_aload_n hx hb dX1_init_4 rfl (lv_at hl 0 rfl) ?_
  refine lv_bipush (v := (40 : Int32)) hx hb dX1_init_5 (by decide) ?_
  refine zNewa (ws := []) (atype := .int) (t := 1) (N := 40) (a0 := (40, .inl (fun _ => 0))) zc hK (fun k q h => by simp at h) hS hsz kac_I rfl (fun _ => rfl) (by decide) (by decide) (by decide) (Nat.le_of_ble_eq_true rfl) (Nat.le_of_ble_eq_true rfl) dX1_init_7 (fun H1 hN o1 hz1 hS => ?_)
  have g0 := zkp g0 zRg_1 (fun q h1 _ _ => o1 q (Nat.lt_of_lt_of_eq h1 hsz))
  have g1 : va_P E.1 zcl [((a + 1), .inl (E.2 1, 40, .inl (fun _ => 0)))] H1 := hN
  have hsz : H1.size = a + 2 := hz1
  refine W.cs (cells' := 1) (slots' := 40) rfl rfl ?_
  refine zPut (C := RX1) (T := TX1) (N := 4) (ci := 1) (v := .ref (a + 1)) (ty := .array .int) zc hK g0 (zD1 (Nat.le_refl a)) hS uw1 tyX1 tyX1_ok nmX1 0 rfl rfl 1 (by decide) kf_1_9 (fun _ h9 => h9) (Or.inr ⟨rfl, hin, rfl⟩) (by decide +kernel) rfl rfl (Nat.le_of_ble_eq_true rfl) dX1_init_9 (fun H2 locs hN oq hz1 hS => ?_)
  have g1 := zkp g1 zRg_1 (fun q _ h2 h3 => oq q (znA (a := a) (i := 1) (p := 0) h2 (Nat.le_of_ble_eq_true rfl)))
  have g0 : va_P E.1 zcl [(a, .inr (1, [.int 0, .ref (a + 1), .null, .null]))] H2 := hN
  have hsz := hz1.trans hsz
  refine lv_aload_n hx hb dX1_init_12 rfl (lv_at hl 0 rfl) ?_
  refine lv_bipush (v := (40 : Int32)) hx hb dX1_init_13 (by decide) ?_
  refine zNewa (ws := []) (atype := .int) (t := 1) (N := 40) (a0 := (40, .inl (fun _ => 0))) zc hK (fun k q h => by simp at h) hS hsz kac_I rfl (fun _ => rfl) (by decide) (by decide) (by decide) (Nat.le_of_ble_eq_true rfl) (Nat.le_of_ble_eq_true rfl) dX1_init_15 (fun H3 hN o1 hz1 hS => ?_)
  have g0 := zkp g0 zRg_1 (fun q h1 _ _ => o1 q (Nat.lt_of_lt_of_eq h1 hsz))
  have g1 := zkp g1 zRg_1 (fun q h1 _ _ => o1 q (Nat.lt_of_lt_of_eq h1 hsz))
  have g2 : va_P E.1 zcl [((a + 2), .inl (E.2 1, 40, .inl (fun _ => 0)))] H3 := hN
  have hsz : H3.size = a + 3 := hz1
  refine W.cs (cells' := 2) (slots' := 80) rfl rfl ?_
  refine zPut (C := RX1) (T := TX1) (N := 4) (ci := 1) (v := .ref (a + 2)) (ty := .array .int) zc hK g0 (zD1 (Nat.le_refl a)) hS uw1 tyX1 tyX1_ok nmX1 0 rfl rfl 2 (by decide) kf_1_15 (fun _ h9 => h9) (Or.inr ⟨rfl, hin, rfl⟩) (by decide +kernel) rfl rfl (Nat.le_of_ble_eq_true rfl) dX1_init_17 (fun H4 locs hN oq hz1 hS => ?_)
  have g1 := zkp g1 zRg_1 (fun q _ h2 h3 => oq q (znA (a := a) (i := 1) (p := 0) h2 (Nat.le_of_ble_eq_true rfl)))
  have g2 := zkp g2 zRg_1 (fun q _ h2 h3 => oq q (znA (a := a) (i := 2) (p := 0) h2 (Nat.le_of_ble_eq_true rfl)))
  have g0 : va_P E.1 zcl [(a, .inr (1, [.int 0, .ref (a + 1), .ref (a + 2), .null]))] H4 := hN
  have hsz := hz1.trans hsz
  refine lv_aload_n hx hb dX1_init_20 rfl (lv_at hl 0 rfl) ?_
  refine lv_bipush (v := (40 : Int32)) hx hb dX1_init_21 (by decide) ?_
  refine zNewa (ws := []) (atype := .int) (t := 1) (N := 40) (a0 := (40, .inl (fun _ => 0))) zc hK (fun k q h => by simp at h) hS hsz kac_I rfl (fun _ => rfl) (by decide) (by decide) (by decide) (Nat.le_of_ble_eq_true rfl) (Nat.le_of_ble_eq_true rfl) dX1_init_23 (fun H5 hN o1 hz1 hS => ?_)
  have g0 := zkp g0 zRg_1 (fun q h1 _ _ => o1 q (Nat.lt_of_lt_of_eq h1 hsz))
  have g1 := zkp g1 zRg_1 (fun q h1 _ _ => o1 q (Nat.lt_of_lt_of_eq h1 hsz))
  have g2 := zkp g2 zRg_1 (fun q h1 _ _ => o1 q (Nat.lt_of_lt_of_eq h1 hsz))
  have g3 : va_P E.1 zcl [((a + 3), .inl (E.2 1, 40, .inl (fun _ => 0)))] H5 := hN
  have hsz : H5.size = a + 4 := hz1
  refine W.cs (cells' := 3) (slots' := 120) rfl rfl ?_
  refine zPut (C := RX1) (T := TX1) (N := 4) (ci := 1) (v := .ref (a + 3)) (ty := .array .int) zc hK g0 (zD1 (Nat.le_refl a)) hS uw1 tyX1 tyX1_ok nmX1 0 rfl rfl 3 (by decide) kf_1_18 (fun _ h9 => h9) (Or.inr ⟨rfl, hin, rfl⟩) (by decide +kernel) rfl rfl (Nat.le_of_ble_eq_true rfl) dX1_init_25 (fun H6 locs hN oq hz1 hS => ?_)
  have g1 := zkp g1 zRg_1 (fun q _ h2 h3 => oq q (znA (a := a) (i := 1) (p := 0) h2 (Nat.le_of_ble_eq_true rfl)))
  have g2 := zkp g2 zRg_1 (fun q _ h2 h3 => oq q (znA (a := a) (i := 2) (p := 0) h2 (Nat.le_of_ble_eq_true rfl)))
  have g3 := zkp g3 zRg_1 (fun q _ h2 h3 => oq q (znA (a := a) (i := 3) (p := 0) h2 (Nat.le_of_ble_eq_true rfl)))
  have g0 : va_P E.1 zcl [(a, .inr (1, [.int 0, .ref (a + 1), .ref (a + 2), .ref (a + 3)]))] H6 := hN
  have hsz := hz1.trans hsz
  exact zIret (post := fun _ => True) (B := zJ E a 4 ([(a, .inr (1, [.int 0, .ref (a + 1), .ref (a + 2), .ref (a + 3)]))] ++ ([((a + 1), .inl (E.2 1, 40, .inl (fun _ => 0)))] ++ ([((a + 2), .inl (E.2 1, 40, .inl (fun _ => 0)))] ++ ([((a + 3), .inl (E.2 1, 40, .inl (fun _ => 0)))]))))) () zc hS trivial ⟨(va_P.app g0 (va_P.app g1 (va_P.app g2 g3))), hsz⟩ dX1_init_28
end
section
abbrev rmi_X6_init : Room := { frames := 1, cells := 3, slots := 30, locals := 20 }
abbrev zb_X6_init (E : zE) (a : Nat) : va_W := (([(a, .inr (6, [.int 0, .ref (a + 1), .ref (a + 2), .ref (a + 3)]))] : va_W) ++ (([((a + 1), .inl (E.2 1, 10, .inl (fun _ => 0)))] : va_W) ++ (([((a + 2), .inl (E.2 1, 10, .inl (fun _ => 0)))] : va_W) ++ (([((a + 3), .inl (E.2 1, 10, .inl (fun _ => 0)))] : va_W)))))
theorem zrg_X6_init {E : zE} {a : Nat} : zRg (zb_X6_init E a) a (a + 4) := by
  exact ((zRg_1).mono (by omega) (by omega)).app (((zRg_1).mono (by omega) (by omega)).app (((zRg_1).mono (by omega) (by omega)).app ((zRg_1).mono (by omega) (by omega))))
set_option maxRecDepth 40000 in
set_option maxHeartbeats 4000000 in
theorem ci_X6_init (l : Launch) {E : zE} {a : Nat} : Met l yX6_init (Cond.code yX6_init cX6_init 1 none :: zb) rmi_X6_init (va_Pc [.ref a] (zI E a 6 [.int 0, .null, .null, .null])) (zQv (S := Unit) (fun _ => True) (zJ E a 4 (zb_X6_init E a)) (fun q => a ≤ q)) 3 30 (fun q => a ≤ q) := by
  refine Met.ofW (cc := cX6_init) (maxL := 1) (ret := none) (by decide) rfl ?_
  intro p e s m args below meth c s₁ B hml hv
  obtain ⟨rfl, hsz, g0, hK, hO⟩ := hv
  have zc := zc_of B hml
  have hx := zc.1
  have hb := zc.2.1
  have hz := zc.2.2.2.2.1
  have hin : meth.name = "<init>" := (name_of_methodNamed B.named B.method).1
  have hS : va_S (fun q => a ≤ q) s.heap s.heap [] := va_S.rf
  have hl := lv_entry ([.ref a]) (n := 1) (Nat.le_of_ble_eq_true rfl)
  rw [lg_entry_eq]
  generalize (lg_sl ([.ref a]) ++ List.replicate (1 - (lg_sl ([.ref a])).length) Slot.unset).toArray = ls at hl ⊢
  have hl : lv_has ls 1 [(0, .ref a)] := hl
  refine lv_aload_n hx hb dX6_init_0 rfl (lv_at hl 0 rfl) ?_
  refine W.objInit hx hb zc.2.2.2.1 (hz _ km_6_3) (hz _ k_oi) (hz _ k_oc) rfl (by rw [zc.2.2.1]; exact hl.1) rfl dX6_init_1 (Nat.le_of_ble_eq_true rfl) (Nat.le_of_ble_eq_true rfl) ?_
  refine W.eq (g2 := F0 m 4 ls []) rfl ?_
  refine lv_aload_n hx hb dX6_init_4 rfl (lv_at hl 0 rfl) ?_
  refine lv_bipush (v := (10 : Int32)) hx hb dX6_init_5 (by decide) ?_
  refine zNewa (ws := []) (atype := .int) (t := 1) (N := 10) (a0 := (10, .inl (fun _ => 0))) zc hK (fun k q h => by simp at h) hS hsz kac_I rfl (fun _ => rfl) (by decide) (by decide) (by decide) (Nat.le_of_ble_eq_true rfl) (Nat.le_of_ble_eq_true rfl) dX6_init_7 (fun H1 hN o1 hz1 hS => ?_)
  have g0 := zkp g0 zRg_1 (fun q h1 _ _ => o1 q (Nat.lt_of_lt_of_eq h1 hsz))
  have g1 : va_P E.1 zcl [((a + 1), .inl (E.2 1, 10, .inl (fun _ => 0)))] H1 := hN
  have hsz : H1.size = a + 2 := hz1
  refine W.cs (cells' := 1) (slots' := 10) rfl rfl ?_
  refine zPut (C := RX6) (T := TX6) (N := 4) (ci := 6) (v := .ref (a + 1)) (ty := .array .int) zc hK g0 (zD1 (Nat.le_refl a)) hS uw6 tyX6 tyX6_ok nmX6 0 rfl rfl 1 (by decide) kf_6_9 (fun _ h9 => h9) (Or.inr ⟨rfl, hin, rfl⟩) (by decide +kernel) rfl rfl (Nat.le_of_ble_eq_true rfl) dX6_init_9 (fun H2 locs hN oq hz1 hS => ?_)
  have g1 := zkp g1 zRg_1 (fun q _ h2 h3 => oq q (znA (a := a) (i := 1) (p := 0) h2 (Nat.le_of_ble_eq_true rfl)))
  have g0 : va_P E.1 zcl [(a, .inr (6, [.int 0, .ref (a + 1), .null, .null]))] H2 := hN
  have hsz := hz1.trans hsz
  refine lv_aload_n hx hb dX6_init_12 rfl (lv_at hl 0 rfl) ?_
  refine lv_bipush (v := (10 : Int32)) hx hb dX6_init_13 (by decide) ?_
  refine zNewa (ws := []) (atype := .int) (t := 1) (N := 10) (a0 := (10, .inl (fun _ => 0))) zc hK (fun k q h => by simp at h) hS hsz kac_I rfl (fun _ => rfl) (by decide) (by decide) (by decide) (Nat.le_of_ble_eq_true rfl) (Nat.le_of_ble_eq_true rfl) dX6_init_15 (fun H3 hN o1 hz1 hS => ?_)
  have g0 := zkp g0 zRg_1 (fun q h1 _ _ => o1 q (Nat.lt_of_lt_of_eq h1 hsz))
  have g1 := zkp g1 zRg_1 (fun q h1 _ _ => o1 q (Nat.lt_of_lt_of_eq h1 hsz))
  have g2 : va_P E.1 zcl [((a + 2), .inl (E.2 1, 10, .inl (fun _ => 0)))] H3 := hN
  have hsz : H3.size = a + 3 := hz1
  refine W.cs (cells' := 2) (slots' := 20) rfl rfl ?_
  refine zPut (C := RX6) (T := TX6) (N := 4) (ci := 6) (v := .ref (a + 2)) (ty := .array .int) zc hK g0 (zD1 (Nat.le_refl a)) hS uw6 tyX6 tyX6_ok nmX6 0 rfl rfl 2 (by decide) kf_6_15 (fun _ h9 => h9) (Or.inr ⟨rfl, hin, rfl⟩) (by decide +kernel) rfl rfl (Nat.le_of_ble_eq_true rfl) dX6_init_17 (fun H4 locs hN oq hz1 hS => ?_)
  have g1 := zkp g1 zRg_1 (fun q _ h2 h3 => oq q (znA (a := a) (i := 1) (p := 0) h2 (Nat.le_of_ble_eq_true rfl)))
  have g2 := zkp g2 zRg_1 (fun q _ h2 h3 => oq q (znA (a := a) (i := 2) (p := 0) h2 (Nat.le_of_ble_eq_true rfl)))
  have g0 : va_P E.1 zcl [(a, .inr (6, [.int 0, .ref (a + 1), .ref (a + 2), .null]))] H4 := hN
  have hsz := hz1.trans hsz
  refine lv_aload_n hx hb dX6_init_20 rfl (lv_at hl 0 rfl) ?_
  refine lv_bipush (v := (10 : Int32)) hx hb dX6_init_21 (by decide) ?_
  refine zNewa (ws := []) (atype := .int) (t := 1) (N := 10) (a0 := (10, .inl (fun _ => 0))) zc hK (fun k q h => by simp at h) hS hsz kac_I rfl (fun _ => rfl) (by decide) (by decide) (by decide) (Nat.le_of_ble_eq_true rfl) (Nat.le_of_ble_eq_true rfl) dX6_init_23 (fun H5 hN o1 hz1 hS => ?_)
  have g0 := zkp g0 zRg_1 (fun q h1 _ _ => o1 q (Nat.lt_of_lt_of_eq h1 hsz))
  have g1 := zkp g1 zRg_1 (fun q h1 _ _ => o1 q (Nat.lt_of_lt_of_eq h1 hsz))
  have g2 := zkp g2 zRg_1 (fun q h1 _ _ => o1 q (Nat.lt_of_lt_of_eq h1 hsz))
  have g3 : va_P E.1 zcl [((a + 3), .inl (E.2 1, 10, .inl (fun _ => 0)))] H5 := hN
  have hsz : H5.size = a + 4 := hz1
  refine W.cs (cells' := 3) (slots' := 30) rfl rfl ?_
  refine zPut (C := RX6) (T := TX6) (N := 4) (ci := 6) (v := .ref (a + 3)) (ty := .array .int) zc hK g0 (zD1 (Nat.le_refl a)) hS uw6 tyX6 tyX6_ok nmX6 0 rfl rfl 3 (by decide) kf_6_18 (fun _ h9 => h9) (Or.inr ⟨rfl, hin, rfl⟩) (by decide +kernel) rfl rfl (Nat.le_of_ble_eq_true rfl) dX6_init_25 (fun H6 locs hN oq hz1 hS => ?_)
  have g1 := zkp g1 zRg_1 (fun q _ h2 h3 => oq q (znA (a := a) (i := 1) (p := 0) h2 (Nat.le_of_ble_eq_true rfl)))
  have g2 := zkp g2 zRg_1 (fun q _ h2 h3 => oq q (znA (a := a) (i := 2) (p := 0) h2 (Nat.le_of_ble_eq_true rfl)))
  have g3 := zkp g3 zRg_1 (fun q _ h2 h3 => oq q (znA (a := a) (i := 3) (p := 0) h2 (Nat.le_of_ble_eq_true rfl)))
  have g0 : va_P E.1 zcl [(a, .inr (6, [.int 0, .ref (a + 1), .ref (a + 2), .ref (a + 3)]))] H6 := hN
  have hsz := hz1.trans hsz
  exact zIret (post := fun _ => True) (B := zJ E a 4 ([(a, .inr (6, [.int 0, .ref (a + 1), .ref (a + 2), .ref (a + 3)]))] ++ ([((a + 1), .inl (E.2 1, 10, .inl (fun _ => 0)))] ++ ([((a + 2), .inl (E.2 1, 10, .inl (fun _ => 0)))] ++ ([((a + 3), .inl (E.2 1, 10, .inl (fun _ => 0)))]))))) () zc hS trivial ⟨(va_P.app g0 (va_P.app g1 (va_P.app g2 g3))), hsz⟩ dX6_init_28
end
section
abbrev rmi_X2_init : Room := { frames := 1, cells := 8, slots := 125, locals := 20 }
abbrev zb_X2_init (E : zE) (a : Nat) : va_W := (([(a, .inr (2, [.int 0, .int 0, .int 0, .int 0, .int 0, .int (2 : Int32), .int (5 : Int32), .ref (a + 1), .ref (a + 2), .ref (a + 3), .ref (a + 4), .ref (a + 5), .ref (a + 6), .ref (a + 7), .ref (a + 8)]))] : va_W) ++ (([((a + 1), .inl (E.2 1, 9, .inl (fun _ => 0)))] : va_W) ++ (([((a + 2), .inl (E.2 1, 9, .inl (fun _ => 0)))] : va_W) ++ (([((a + 3), .inl (E.2 1, 81, .inl (fun _ => 0)))] : va_W) ++ (([((a + 4), .inl (E.2 1, 4, .inl (fun _ => 0)))] : va_W) ++ (([((a + 5), .inl (E.2 1, 4, .inl (fun _ => 0)))] : va_W) ++ (([((a + 6), .inl (E.2 1, 6, .inl (fun _ => 0)))] : va_W) ++ (([((a + 7), .inl (E.2 1, 6, .inl (fun _ => 0)))] : va_W) ++ (([((a + 8), .inl (E.2 1, 6, .inl (fun _ => 0)))] : va_W))))))))))
theorem zrg_X2_init {E : zE} {a : Nat} : zRg (zb_X2_init E a) a (a + 9) := by
  exact ((zRg_1).mono (by omega) (by omega)).app (((zRg_1).mono (by omega) (by omega)).app (((zRg_1).mono (by omega) (by omega)).app (((zRg_1).mono (by omega) (by omega)).app (((zRg_1).mono (by omega) (by omega)).app (((zRg_1).mono (by omega) (by omega)).app (((zRg_1).mono (by omega) (by omega)).app (((zRg_1).mono (by omega) (by omega)).app ((zRg_1).mono (by omega) (by omega)))))))))
set_option maxRecDepth 40000 in
set_option maxHeartbeats 4000000 in
theorem ci_X2_init (l : Launch) {E : zE} {a : Nat} : Met l yX2_init (Cond.code yX2_init cX2_init 1 none :: zb) rmi_X2_init (va_Pc [.ref a] (zI E a 2 [.int 0, .int 0, .int 0, .int 0, .int 0, .int 0, .int 0, .null, .null, .null, .null, .null, .null, .null, .null])) (zQv (S := Unit) (fun _ => True) (zJ E a 9 (zb_X2_init E a)) (fun q => a ≤ q)) 8 125 (fun q => a ≤ q) := by
  refine Met.ofW (cc := cX2_init) (maxL := 1) (ret := none) (by decide) rfl ?_
  intro p e s m args below meth c s₁ B hml hv
  obtain ⟨rfl, hsz, g0, hK, hO⟩ := hv
  have zc := zc_of B hml
  have hx := zc.1
  have hb := zc.2.1
  have hz := zc.2.2.2.2.1
  have hin : meth.name = "<init>" := (name_of_methodNamed B.named B.method).1
  have hS : va_S (fun q => a ≤ q) s.heap s.heap [] := va_S.rf
  have hl := lv_entry ([.ref a]) (n := 1) (Nat.le_of_ble_eq_true rfl)
  rw [lg_entry_eq]
  generalize (lg_sl ([.ref a]) ++ List.replicate (1 - (lg_sl ([.ref a])).length) Slot.unset).toArray = ls at hl ⊢
  have hl : lv_has ls 1 [(0, .ref a)] := hl
  refine lv_aload_n hx hb dX2_init_0 rfl (lv_at hl 0 rfl) ?_
  refine W.objInit hx hb zc.2.2.2.1 (hz _ km_2_3) (hz _ k_oi) (hz _ k_oc) rfl (by rw [zc.2.2.1]; exact hl.1) rfl dX2_init_1 (Nat.le_of_ble_eq_true rfl) (Nat.le_of_ble_eq_true rfl) ?_
  refine W.eq (g2 := F0 m 4 ls []) rfl ?_
  refine lv_aload_n hx hb dX2_init_4 rfl (lv_at hl 0 rfl) ?_
  refine lv_iconst (v := (2 : Int32)) hx hb dX2_init_5 (by decide) ?_
  refine zPut (C := RX2) (T := TX2) (N := 15) (ci := 2) (v := .int (2 : Int32)) (ty := .int) zc hK g0 (zD1 (Nat.le_refl a)) hS uw2 tyX2 tyX2_ok nmX2 0 rfl rfl 5 (by decide) kf_2_9 (fun _ h9 => h9) (Or.inl rfl) (by decide +kernel) rfl rfl (Nat.le_of_ble_eq_true rfl) dX2_init_6 (fun H1 locs hN oq hz1 hS => ?_)
  have g0 : va_P E.1 zcl [(a, .inr (2, [.int 0, .int 0, .int 0, .int 0, .int 0, .int (2 : Int32), .int 0, .null, .null, .null, .null, .null, .null, .null, .null]))] H1 := hN
  have hsz := hz1.trans hsz
  refine lv_aload_n hx hb dX2_init_9 rfl (lv_at hl 0 rfl) ?_
  refine lv_iconst (v := (5 : Int32)) hx hb dX2_init_10 (by decide) ?_
  refine zPut (C := RX2) (T := TX2) (N := 15) (ci := 2) (v := .int (5 : Int32)) (ty := .int) zc hK g0 (zD1 (Nat.le_refl a)) hS uw2 tyX2 tyX2_ok nmX2 0 rfl rfl 6 (by decide) kf_2_15 (fun _ h9 => h9) (Or.inl rfl) (by decide +kernel) rfl rfl (Nat.le_of_ble_eq_true rfl) dX2_init_11 (fun H2 locs hN oq hz1 hS => ?_)
  have g0 : va_P E.1 zcl [(a, .inr (2, [.int 0, .int 0, .int 0, .int 0, .int 0, .int (2 : Int32), .int (5 : Int32), .null, .null, .null, .null, .null, .null, .null, .null]))] H2 := hN
  have hsz := hz1.trans hsz
  refine lv_aload_n hx hb dX2_init_14 rfl (lv_at hl 0 rfl) ?_
  refine lv_bipush (v := (9 : Int32)) hx hb dX2_init_15 (by decide) ?_
  refine zNewa (ws := []) (atype := .int) (t := 1) (N := 9) (a0 := (9, .inl (fun _ => 0))) zc hK (fun k q h => by simp at h) hS hsz kac_I rfl (fun _ => rfl) (by decide) (by decide) (by decide) (Nat.le_of_ble_eq_true rfl) (Nat.le_of_ble_eq_true rfl) dX2_init_17 (fun H3 hN o1 hz1 hS => ?_)
  have g0 := zkp g0 zRg_1 (fun q h1 _ _ => o1 q (Nat.lt_of_lt_of_eq h1 hsz))
  have g1 : va_P E.1 zcl [((a + 1), .inl (E.2 1, 9, .inl (fun _ => 0)))] H3 := hN
  have hsz : H3.size = a + 2 := hz1
  refine W.cs (cells' := 1) (slots' := 9) rfl rfl ?_
  refine zPut (C := RX2) (T := TX2) (N := 15) (ci := 2) (v := .ref (a + 1)) (ty := .array .int) zc hK g0 (zD1 (Nat.le_refl a)) hS uw2 tyX2 tyX2_ok nmX2 0 rfl rfl 7 (by decide) kf_2_18 (fun _ h9 => h9) (Or.inr ⟨rfl, hin, rfl⟩) (by decide +kernel) rfl rfl (Nat.le_of_ble_eq_true rfl) dX2_init_19 (fun H4 locs hN oq hz1 hS => ?_)
  have g1 := zkp g1 zRg_1 (fun q _ h2 h3 => oq q (znA (a := a) (i := 1) (p := 0) h2 (Nat.le_of_ble_eq_true rfl)))
  have g0 : va_P E.1 zcl [(a, .inr (2, [.int 0, .int 0, .int 0, .int 0, .int 0, .int (2 : Int32), .int (5 : Int32), .ref (a + 1), .null, .null, .null, .null, .null, .null, .null]))] H4 := hN
  have hsz := hz1.trans hsz
  refine lv_aload_n hx hb dX2_init_22 rfl (lv_at hl 0 rfl) ?_
  refine lv_bipush (v := (9 : Int32)) hx hb dX2_init_23 (by decide) ?_
  refine zNewa (ws := []) (atype := .int) (t := 1) (N := 9) (a0 := (9, .inl (fun _ => 0))) zc hK (fun k q h => by simp at h) hS hsz kac_I rfl (fun _ => rfl) (by decide) (by decide) (by decide) (Nat.le_of_ble_eq_true rfl) (Nat.le_of_ble_eq_true rfl) dX2_init_25 (fun H5 hN o1 hz1 hS => ?_)
  have g0 := zkp g0 zRg_1 (fun q h1 _ _ => o1 q (Nat.lt_of_lt_of_eq h1 hsz))
  have g1 := zkp g1 zRg_1 (fun q h1 _ _ => o1 q (Nat.lt_of_lt_of_eq h1 hsz))
  have g2 : va_P E.1 zcl [((a + 2), .inl (E.2 1, 9, .inl (fun _ => 0)))] H5 := hN
  have hsz : H5.size = a + 3 := hz1
  refine W.cs (cells' := 2) (slots' := 18) rfl rfl ?_
  refine zPut (C := RX2) (T := TX2) (N := 15) (ci := 2) (v := .ref (a + 2)) (ty := .array .int) zc hK g0 (zD1 (Nat.le_refl a)) hS uw2 tyX2 tyX2_ok nmX2 0 rfl rfl 8 (by decide) kf_2_22 (fun _ h9 => h9) (Or.inr ⟨rfl, hin, rfl⟩) (by decide +kernel) rfl rfl (Nat.le_of_ble_eq_true rfl) dX2_init_27 (fun H6 locs hN oq hz1 hS => ?_)
  have g1 := zkp g1 zRg_1 (fun q _ h2 h3 => oq q (znA (a := a) (i := 1) (p := 0) h2 (Nat.le_of_ble_eq_true rfl)))
  have g2 := zkp g2 zRg_1 (fun q _ h2 h3 => oq q (znA (a := a) (i := 2) (p := 0) h2 (Nat.le_of_ble_eq_true rfl)))
  have g0 : va_P E.1 zcl [(a, .inr (2, [.int 0, .int 0, .int 0, .int 0, .int 0, .int (2 : Int32), .int (5 : Int32), .ref (a + 1), .ref (a + 2), .null, .null, .null, .null, .null, .null]))] H6 := hN
  have hsz := hz1.trans hsz
  refine lv_aload_n hx hb dX2_init_30 rfl (lv_at hl 0 rfl) ?_
  refine lv_bipush (v := (81 : Int32)) hx hb dX2_init_31 (by decide) ?_
  refine zNewa (ws := []) (atype := .int) (t := 1) (N := 81) (a0 := (81, .inl (fun _ => 0))) zc hK (fun k q h => by simp at h) hS hsz kac_I rfl (fun _ => rfl) (by decide) (by decide) (by decide) (Nat.le_of_ble_eq_true rfl) (Nat.le_of_ble_eq_true rfl) dX2_init_33 (fun H7 hN o1 hz1 hS => ?_)
  have g0 := zkp g0 zRg_1 (fun q h1 _ _ => o1 q (Nat.lt_of_lt_of_eq h1 hsz))
  have g1 := zkp g1 zRg_1 (fun q h1 _ _ => o1 q (Nat.lt_of_lt_of_eq h1 hsz))
  have g2 := zkp g2 zRg_1 (fun q h1 _ _ => o1 q (Nat.lt_of_lt_of_eq h1 hsz))
  have g3 : va_P E.1 zcl [((a + 3), .inl (E.2 1, 81, .inl (fun _ => 0)))] H7 := hN
  have hsz : H7.size = a + 4 := hz1
  refine W.cs (cells' := 3) (slots' := 99) rfl rfl ?_
  refine zPut (C := RX2) (T := TX2) (N := 15) (ci := 2) (v := .ref (a + 3)) (ty := .array .int) zc hK g0 (zD1 (Nat.le_refl a)) hS uw2 tyX2 tyX2_ok nmX2 0 rfl rfl 9 (by decide) kf_2_25 (fun _ h9 => h9) (Or.inr ⟨rfl, hin, rfl⟩) (by decide +kernel) rfl rfl (Nat.le_of_ble_eq_true rfl) dX2_init_35 (fun H8 locs hN oq hz1 hS => ?_)
  have g1 := zkp g1 zRg_1 (fun q _ h2 h3 => oq q (znA (a := a) (i := 1) (p := 0) h2 (Nat.le_of_ble_eq_true rfl)))
  have g2 := zkp g2 zRg_1 (fun q _ h2 h3 => oq q (znA (a := a) (i := 2) (p := 0) h2 (Nat.le_of_ble_eq_true rfl)))
  have g3 := zkp g3 zRg_1 (fun q _ h2 h3 => oq q (znA (a := a) (i := 3) (p := 0) h2 (Nat.le_of_ble_eq_true rfl)))
  have g0 : va_P E.1 zcl [(a, .inr (2, [.int 0, .int 0, .int 0, .int 0, .int 0, .int (2 : Int32), .int (5 : Int32), .ref (a + 1), .ref (a + 2), .ref (a + 3), .null, .null, .null, .null, .null]))] H8 := hN
  have hsz := hz1.trans hsz
  refine lv_aload_n hx hb dX2_init_38 rfl (lv_at hl 0 rfl) ?_
  refine lv_iconst (v := (4 : Int32)) hx hb dX2_init_39 (by decide) ?_
  refine zNewa (ws := []) (atype := .int) (t := 1) (N := 4) (a0 := (4, .inl (fun _ => 0))) zc hK (fun k q h => by simp at h) hS hsz kac_I rfl (fun _ => rfl) (by decide) (by decide) (by decide) (Nat.le_of_ble_eq_true rfl) (Nat.le_of_ble_eq_true rfl) dX2_init_40 (fun H9 hN o1 hz1 hS => ?_)
  have g0 := zkp g0 zRg_1 (fun q h1 _ _ => o1 q (Nat.lt_of_lt_of_eq h1 hsz))
  have g1 := zkp g1 zRg_1 (fun q h1 _ _ => o1 q (Nat.lt_of_lt_of_eq h1 hsz))
  have g2 := zkp g2 zRg_1 (fun q h1 _ _ => o1 q (Nat.lt_of_lt_of_eq h1 hsz))
  have g3 := zkp g3 zRg_1 (fun q h1 _ _ => o1 q (Nat.lt_of_lt_of_eq h1 hsz))
  have g4 : va_P E.1 zcl [((a + 4), .inl (E.2 1, 4, .inl (fun _ => 0)))] H9 := hN
  have hsz : H9.size = a + 5 := hz1
  refine W.cs (cells' := 4) (slots' := 103) rfl rfl ?_
  refine zPut (C := RX2) (T := TX2) (N := 15) (ci := 2) (v := .ref (a + 4)) (ty := .array .int) zc hK g0 (zD1 (Nat.le_refl a)) hS uw2 tyX2 tyX2_ok nmX2 0 rfl rfl 10 (by decide) kf_2_28 (fun _ h9 => h9) (Or.inr ⟨rfl, hin, rfl⟩) (by decide +kernel) rfl rfl (Nat.le_of_ble_eq_true rfl) dX2_init_42 (fun H10 locs hN oq hz1 hS => ?_)
  have g1 := zkp g1 zRg_1 (fun q _ h2 h3 => oq q (znA (a := a) (i := 1) (p := 0) h2 (Nat.le_of_ble_eq_true rfl)))
  have g2 := zkp g2 zRg_1 (fun q _ h2 h3 => oq q (znA (a := a) (i := 2) (p := 0) h2 (Nat.le_of_ble_eq_true rfl)))
  have g3 := zkp g3 zRg_1 (fun q _ h2 h3 => oq q (znA (a := a) (i := 3) (p := 0) h2 (Nat.le_of_ble_eq_true rfl)))
  have g4 := zkp g4 zRg_1 (fun q _ h2 h3 => oq q (znA (a := a) (i := 4) (p := 0) h2 (Nat.le_of_ble_eq_true rfl)))
  have g0 : va_P E.1 zcl [(a, .inr (2, [.int 0, .int 0, .int 0, .int 0, .int 0, .int (2 : Int32), .int (5 : Int32), .ref (a + 1), .ref (a + 2), .ref (a + 3), .ref (a + 4), .null, .null, .null, .null]))] H10 := hN
  have hsz := hz1.trans hsz
  refine lv_aload_n hx hb dX2_init_45 rfl (lv_at hl 0 rfl) ?_
  refine lv_iconst (v := (4 : Int32)) hx hb dX2_init_46 (by decide) ?_
  refine zNewa (ws := []) (atype := .int) (t := 1) (N := 4) (a0 := (4, .inl (fun _ => 0))) zc hK (fun k q h => by simp at h) hS hsz kac_I rfl (fun _ => rfl) (by decide) (by decide) (by decide) (Nat.le_of_ble_eq_true rfl) (Nat.le_of_ble_eq_true rfl) dX2_init_47 (fun H11 hN o1 hz1 hS => ?_)
  have g0 := zkp g0 zRg_1 (fun q h1 _ _ => o1 q (Nat.lt_of_lt_of_eq h1 hsz))
  have g1 := zkp g1 zRg_1 (fun q h1 _ _ => o1 q (Nat.lt_of_lt_of_eq h1 hsz))
  have g2 := zkp g2 zRg_1 (fun q h1 _ _ => o1 q (Nat.lt_of_lt_of_eq h1 hsz))
  have g3 := zkp g3 zRg_1 (fun q h1 _ _ => o1 q (Nat.lt_of_lt_of_eq h1 hsz))
  have g4 := zkp g4 zRg_1 (fun q h1 _ _ => o1 q (Nat.lt_of_lt_of_eq h1 hsz))
  have g5 : va_P E.1 zcl [((a + 5), .inl (E.2 1, 4, .inl (fun _ => 0)))] H11 := hN
  have hsz : H11.size = a + 6 := hz1
  refine W.cs (cells' := 5) (slots' := 107) rfl rfl ?_
  refine zPut (C := RX2) (T := TX2) (N := 15) (ci := 2) (v := .ref (a + 5)) (ty := .array .int) zc hK g0 (zD1 (Nat.le_refl a)) hS uw2 tyX2 tyX2_ok nmX2 0 rfl rfl 11 (by decide) kf_2_31 (fun _ h9 => h9) (Or.inr ⟨rfl, hin, rfl⟩) (by decide +kernel) rfl rfl (Nat.le_of_ble_eq_true rfl) dX2_init_49 (fun H12 locs hN oq hz1 hS => ?_)
  have g1 := zkp g1 zRg_1 (fun q _ h2 h3 => oq q (znA (a := a) (i := 1) (p := 0) h2 (Nat.le_of_ble_eq_true rfl)))
  have g2 := zkp g2 zRg_1 (fun q _ h2 h3 => oq q (znA (a := a) (i := 2) (p := 0) h2 (Nat.le_of_ble_eq_true rfl)))
  have g3 := zkp g3 zRg_1 (fun q _ h2 h3 => oq q (znA (a := a) (i := 3) (p := 0) h2 (Nat.le_of_ble_eq_true rfl)))
  have g4 := zkp g4 zRg_1 (fun q _ h2 h3 => oq q (znA (a := a) (i := 4) (p := 0) h2 (Nat.le_of_ble_eq_true rfl)))
  have g5 := zkp g5 zRg_1 (fun q _ h2 h3 => oq q (znA (a := a) (i := 5) (p := 0) h2 (Nat.le_of_ble_eq_true rfl)))
  have g0 : va_P E.1 zcl [(a, .inr (2, [.int 0, .int 0, .int 0, .int 0, .int 0, .int (2 : Int32), .int (5 : Int32), .ref (a + 1), .ref (a + 2), .ref (a + 3), .ref (a + 4), .ref (a + 5), .null, .null, .null]))] H12 := hN
  have hsz := hz1.trans hsz
  refine lv_aload_n hx hb dX2_init_52 rfl (lv_at hl 0 rfl) ?_
  refine lv_bipush (v := (6 : Int32)) hx hb dX2_init_53 (by decide) ?_
  refine zNewa (ws := []) (atype := .int) (t := 1) (N := 6) (a0 := (6, .inl (fun _ => 0))) zc hK (fun k q h => by simp at h) hS hsz kac_I rfl (fun _ => rfl) (by decide) (by decide) (by decide) (Nat.le_of_ble_eq_true rfl) (Nat.le_of_ble_eq_true rfl) dX2_init_55 (fun H13 hN o1 hz1 hS => ?_)
  have g0 := zkp g0 zRg_1 (fun q h1 _ _ => o1 q (Nat.lt_of_lt_of_eq h1 hsz))
  have g1 := zkp g1 zRg_1 (fun q h1 _ _ => o1 q (Nat.lt_of_lt_of_eq h1 hsz))
  have g2 := zkp g2 zRg_1 (fun q h1 _ _ => o1 q (Nat.lt_of_lt_of_eq h1 hsz))
  have g3 := zkp g3 zRg_1 (fun q h1 _ _ => o1 q (Nat.lt_of_lt_of_eq h1 hsz))
  have g4 := zkp g4 zRg_1 (fun q h1 _ _ => o1 q (Nat.lt_of_lt_of_eq h1 hsz))
  have g5 := zkp g5 zRg_1 (fun q h1 _ _ => o1 q (Nat.lt_of_lt_of_eq h1 hsz))
  have g6 : va_P E.1 zcl [((a + 6), .inl (E.2 1, 6, .inl (fun _ => 0)))] H13 := hN
  have hsz : H13.size = a + 7 := hz1
  refine W.cs (cells' := 6) (slots' := 113) rfl rfl ?_
  refine zPut (C := RX2) (T := TX2) (N := 15) (ci := 2) (v := .ref (a + 6)) (ty := .array .int) zc hK g0 (zD1 (Nat.le_refl a)) hS uw2 tyX2 tyX2_ok nmX2 0 rfl rfl 12 (by decide) kf_2_34 (fun _ h9 => h9) (Or.inr ⟨rfl, hin, rfl⟩) (by decide +kernel) rfl rfl (Nat.le_of_ble_eq_true rfl) dX2_init_57 (fun H14 locs hN oq hz1 hS => ?_)
  have g1 := zkp g1 zRg_1 (fun q _ h2 h3 => oq q (znA (a := a) (i := 1) (p := 0) h2 (Nat.le_of_ble_eq_true rfl)))
  have g2 := zkp g2 zRg_1 (fun q _ h2 h3 => oq q (znA (a := a) (i := 2) (p := 0) h2 (Nat.le_of_ble_eq_true rfl)))
  have g3 := zkp g3 zRg_1 (fun q _ h2 h3 => oq q (znA (a := a) (i := 3) (p := 0) h2 (Nat.le_of_ble_eq_true rfl)))
  have g4 := zkp g4 zRg_1 (fun q _ h2 h3 => oq q (znA (a := a) (i := 4) (p := 0) h2 (Nat.le_of_ble_eq_true rfl)))
  have g5 := zkp g5 zRg_1 (fun q _ h2 h3 => oq q (znA (a := a) (i := 5) (p := 0) h2 (Nat.le_of_ble_eq_true rfl)))
  have g6 := zkp g6 zRg_1 (fun q _ h2 h3 => oq q (znA (a := a) (i := 6) (p := 0) h2 (Nat.le_of_ble_eq_true rfl)))
  have g0 : va_P E.1 zcl [(a, .inr (2, [.int 0, .int 0, .int 0, .int 0, .int 0, .int (2 : Int32), .int (5 : Int32), .ref (a + 1), .ref (a + 2), .ref (a + 3), .ref (a + 4), .ref (a + 5), .ref (a + 6), .null, .null]))] H14 := hN
  have hsz := hz1.trans hsz
  refine lv_aload_n hx hb dX2_init_60 rfl (lv_at hl 0 rfl) ?_
  refine lv_bipush (v := (6 : Int32)) hx hb dX2_init_61 (by decide) ?_
  refine zNewa (ws := []) (atype := .int) (t := 1) (N := 6) (a0 := (6, .inl (fun _ => 0))) zc hK (fun k q h => by simp at h) hS hsz kac_I rfl (fun _ => rfl) (by decide) (by decide) (by decide) (Nat.le_of_ble_eq_true rfl) (Nat.le_of_ble_eq_true rfl) dX2_init_63 (fun H15 hN o1 hz1 hS => ?_)
  have g0 := zkp g0 zRg_1 (fun q h1 _ _ => o1 q (Nat.lt_of_lt_of_eq h1 hsz))
  have g1 := zkp g1 zRg_1 (fun q h1 _ _ => o1 q (Nat.lt_of_lt_of_eq h1 hsz))
  have g2 := zkp g2 zRg_1 (fun q h1 _ _ => o1 q (Nat.lt_of_lt_of_eq h1 hsz))
  have g3 := zkp g3 zRg_1 (fun q h1 _ _ => o1 q (Nat.lt_of_lt_of_eq h1 hsz))
  have g4 := zkp g4 zRg_1 (fun q h1 _ _ => o1 q (Nat.lt_of_lt_of_eq h1 hsz))
  have g5 := zkp g5 zRg_1 (fun q h1 _ _ => o1 q (Nat.lt_of_lt_of_eq h1 hsz))
  have g6 := zkp g6 zRg_1 (fun q h1 _ _ => o1 q (Nat.lt_of_lt_of_eq h1 hsz))
  have g7 : va_P E.1 zcl [((a + 7), .inl (E.2 1, 6, .inl (fun _ => 0)))] H15 := hN
  have hsz : H15.size = a + 8 := hz1
  refine W.cs (cells' := 7) (slots' := 119) rfl rfl ?_
  refine zPut (C := RX2) (T := TX2) (N := 15) (ci := 2) (v := .ref (a + 7)) (ty := .array .int) zc hK g0 (zD1 (Nat.le_refl a)) hS uw2 tyX2 tyX2_ok nmX2 0 rfl rfl 13 (by decide) kf_2_37 (fun _ h9 => h9) (Or.inr ⟨rfl, hin, rfl⟩) (by decide +kernel) rfl rfl (Nat.le_of_ble_eq_true rfl) dX2_init_65 (fun H16 locs hN oq hz1 hS => ?_)
  have g1 := zkp g1 zRg_1 (fun q _ h2 h3 => oq q (znA (a := a) (i := 1) (p := 0) h2 (Nat.le_of_ble_eq_true rfl)))
  have g2 := zkp g2 zRg_1 (fun q _ h2 h3 => oq q (znA (a := a) (i := 2) (p := 0) h2 (Nat.le_of_ble_eq_true rfl)))
  have g3 := zkp g3 zRg_1 (fun q _ h2 h3 => oq q (znA (a := a) (i := 3) (p := 0) h2 (Nat.le_of_ble_eq_true rfl)))
  have g4 := zkp g4 zRg_1 (fun q _ h2 h3 => oq q (znA (a := a) (i := 4) (p := 0) h2 (Nat.le_of_ble_eq_true rfl)))
  have g5 := zkp g5 zRg_1 (fun q _ h2 h3 => oq q (znA (a := a) (i := 5) (p := 0) h2 (Nat.le_of_ble_eq_true rfl)))
  have g6 := zkp g6 zRg_1 (fun q _ h2 h3 => oq q (znA (a := a) (i := 6) (p := 0) h2 (Nat.le_of_ble_eq_true rfl)))
  have g7 := zkp g7 zRg_1 (fun q _ h2 h3 => oq q (znA (a := a) (i := 7) (p := 0) h2 (Nat.le_of_ble_eq_true rfl)))
  have g0 : va_P E.1 zcl [(a, .inr (2, [.int 0, .int 0, .int 0, .int 0, .int 0, .int (2 : Int32), .int (5 : Int32), .ref (a + 1), .ref (a + 2), .ref (a + 3), .ref (a + 4), .ref (a + 5), .ref (a + 6), .ref (a + 7), .null]))] H16 := hN
  have hsz := hz1.trans hsz
  refine lv_aload_n hx hb dX2_init_68 rfl (lv_at hl 0 rfl) ?_
  refine lv_bipush (v := (6 : Int32)) hx hb dX2_init_69 (by decide) ?_
  refine zNewa (ws := []) (atype := .int) (t := 1) (N := 6) (a0 := (6, .inl (fun _ => 0))) zc hK (fun k q h => by simp at h) hS hsz kac_I rfl (fun _ => rfl) (by decide) (by decide) (by decide) (Nat.le_of_ble_eq_true rfl) (Nat.le_of_ble_eq_true rfl) dX2_init_71 (fun H17 hN o1 hz1 hS => ?_)
  have g0 := zkp g0 zRg_1 (fun q h1 _ _ => o1 q (Nat.lt_of_lt_of_eq h1 hsz))
  have g1 := zkp g1 zRg_1 (fun q h1 _ _ => o1 q (Nat.lt_of_lt_of_eq h1 hsz))
  have g2 := zkp g2 zRg_1 (fun q h1 _ _ => o1 q (Nat.lt_of_lt_of_eq h1 hsz))
  have g3 := zkp g3 zRg_1 (fun q h1 _ _ => o1 q (Nat.lt_of_lt_of_eq h1 hsz))
  have g4 := zkp g4 zRg_1 (fun q h1 _ _ => o1 q (Nat.lt_of_lt_of_eq h1 hsz))
  have g5 := zkp g5 zRg_1 (fun q h1 _ _ => o1 q (Nat.lt_of_lt_of_eq h1 hsz))
  have g6 := zkp g6 zRg_1 (fun q h1 _ _ => o1 q (Nat.lt_of_lt_of_eq h1 hsz))
  have g7 := zkp g7 zRg_1 (fun q h1 _ _ => o1 q (Nat.lt_of_lt_of_eq h1 hsz))
  have g8 : va_P E.1 zcl [((a + 8), .inl (E.2 1, 6, .inl (fun _ => 0)))] H17 := hN
  have hsz : H17.size = a + 9 := hz1
  refine W.cs (cells' := 8) (slots' := 125) rfl rfl ?_
  refine zPut (C := RX2) (T := TX2) (N := 15) (ci := 2) (v := .ref (a + 8)) (ty := .array .int) zc hK g0 (zD1 (Nat.le_refl a)) hS uw2 tyX2 tyX2_ok nmX2 0 rfl rfl 14 (by decide) kf_2_40 (fun _ h9 => h9) (Or.inr ⟨rfl, hin, rfl⟩) (by decide +kernel) rfl rfl (Nat.le_of_ble_eq_true rfl) dX2_init_73 (fun H18 locs hN oq hz1 hS => ?_)
  have g1 := zkp g1 zRg_1 (fun q _ h2 h3 => oq q (znA (a := a) (i := 1) (p := 0) h2 (Nat.le_of_ble_eq_true rfl)))
  have g2 := zkp g2 zRg_1 (fun q _ h2 h3 => oq q (znA (a := a) (i := 2) (p := 0) h2 (Nat.le_of_ble_eq_true rfl)))
  have g3 := zkp g3 zRg_1 (fun q _ h2 h3 => oq q (znA (a := a) (i := 3) (p := 0) h2 (Nat.le_of_ble_eq_true rfl)))
  have g4 := zkp g4 zRg_1 (fun q _ h2 h3 => oq q (znA (a := a) (i := 4) (p := 0) h2 (Nat.le_of_ble_eq_true rfl)))
  have g5 := zkp g5 zRg_1 (fun q _ h2 h3 => oq q (znA (a := a) (i := 5) (p := 0) h2 (Nat.le_of_ble_eq_true rfl)))
  have g6 := zkp g6 zRg_1 (fun q _ h2 h3 => oq q (znA (a := a) (i := 6) (p := 0) h2 (Nat.le_of_ble_eq_true rfl)))
  have g7 := zkp g7 zRg_1 (fun q _ h2 h3 => oq q (znA (a := a) (i := 7) (p := 0) h2 (Nat.le_of_ble_eq_true rfl)))
  have g8 := zkp g8 zRg_1 (fun q _ h2 h3 => oq q (znA (a := a) (i := 8) (p := 0) h2 (Nat.le_of_ble_eq_true rfl)))
  have g0 : va_P E.1 zcl [(a, .inr (2, [.int 0, .int 0, .int 0, .int 0, .int 0, .int (2 : Int32), .int (5 : Int32), .ref (a + 1), .ref (a + 2), .ref (a + 3), .ref (a + 4), .ref (a + 5), .ref (a + 6), .ref (a + 7), .ref (a + 8)]))] H18 := hN
  have hsz := hz1.trans hsz
  exact zIret (post := fun _ => True) (B := zJ E a 9 ([(a, .inr (2, [.int 0, .int 0, .int 0, .int 0, .int 0, .int (2 : Int32), .int (5 : Int32), .ref (a + 1), .ref (a + 2), .ref (a + 3), .ref (a + 4), .ref (a + 5), .ref (a + 6), .ref (a + 7), .ref (a + 8)]))] ++ ([((a + 1), .inl (E.2 1, 9, .inl (fun _ => 0)))] ++ ([((a + 2), .inl (E.2 1, 9, .inl (fun _ => 0)))] ++ ([((a + 3), .inl (E.2 1, 81, .inl (fun _ => 0)))] ++ ([((a + 4), .inl (E.2 1, 4, .inl (fun _ => 0)))] ++ ([((a + 5), .inl (E.2 1, 4, .inl (fun _ => 0)))] ++ ([((a + 6), .inl (E.2 1, 6, .inl (fun _ => 0)))] ++ ([((a + 7), .inl (E.2 1, 6, .inl (fun _ => 0)))] ++ ([((a + 8), .inl (E.2 1, 6, .inl (fun _ => 0)))])))))))))) () zc hS trivial ⟨(va_P.app g0 (va_P.app g1 (va_P.app g2 (va_P.app g3 (va_P.app g4 (va_P.app g5 (va_P.app g6 (va_P.app g7 g8)))))))), hsz⟩ dX2_init_76
end
section
abbrev rmi_X9_init : Room := { frames := 2, cells := 46, slots := 1252, locals := 40 }
abbrev zb_X9_init (E : zE) (a : Nat) : va_W := (([(a, .inr (9, [.ref (a + 1), .int 0, .int 0, .int (-1 : Int32), .ref (a + 2), .ref (a + 3), .ref (a + 22), .ref (a + 31), .ref (a + 40)]))] : va_W) ++ (([((a + 1), .inl (E.2 0, 600, .inl (fun _ => 0)))] : va_W) ++ (([((a + 2), .inl (E.2 1, 4, .inl (fun _ => 0)))] : va_W) ++ (([((a + 3), .inl (E.2 4, 2, .inr (.inr (.inr (.inr (fun k => if k = 0 then some (a + 4) else some (a + 13)))))))] : va_W) ++ ((zb_X2_init E (a + 4) : va_W) ++ ((zb_X2_init E (a + 13) : va_W) ++ (([((a + 22), .inl (E.2 5, 2, .inr (.inr (.inr (.inr (fun k => if k = 0 then some (a + 23) else some (a + 27)))))))] : va_W) ++ ((zb_X1_init E (a + 23) : va_W) ++ ((zb_X1_init E (a + 27) : va_W) ++ (([((a + 31), .inl (E.2 6, 2, .inr (.inr (.inr (.inr (fun k => if k = 0 then some (a + 32) else some (a + 36)))))))] : va_W) ++ ((zb_X6_init E (a + 32) : va_W) ++ ((zb_X6_init E (a + 36) : va_W) ++ (([((a + 40), .inl (E.2 7, 2, .inr (.inr (.inr (.inr (fun k => if k = 0 then some (a + 41) else some (a + 44)))))))] : va_W) ++ ((zb_X0_init E (a + 41) : va_W) ++ ((zb_X0_init E (a + 44) : va_W))))))))))))))))
theorem zrg_X9_init {E : zE} {a : Nat} : zRg (zb_X9_init E a) a (a + 47) := by
  exact ((zRg_1).mono (by omega) (by omega)).app (((zRg_1).mono (by omega) (by omega)).app (((zRg_1).mono (by omega) (by omega)).app (((zRg_1).mono (by omega) (by omega)).app (((zrg_X2_init).mono (by omega) (by omega)).app (((zrg_X2_init).mono (by omega) (by omega)).app (((zRg_1).mono (by omega) (by omega)).app (((zrg_X1_init).mono (by omega) (by omega)).app (((zrg_X1_init).mono (by omega) (by omega)).app (((zRg_1).mono (by omega) (by omega)).app (((zrg_X6_init).mono (by omega) (by omega)).app (((zrg_X6_init).mono (by omega) (by omega)).app (((zRg_1).mono (by omega) (by omega)).app (((zrg_X0_init).mono (by omega) (by omega)).app ((zrg_X0_init).mono (by omega) (by omega)))))))))))))))
set_option maxRecDepth 40000 in
set_option maxHeartbeats 4000000 in
theorem ci_X9_init (l : Launch) {E : zE} {a : Nat} : Met l yX9_init (Cond.code yX9_init cX9_init 1 none :: zb) rmi_X9_init (va_Pc [.ref a] (zI E a 9 [.null, .int 0, .int 0, .int 0, .null, .null, .null, .null, .null])) (zQv (S := Unit) (fun _ => True) (zJ E a 47 (zb_X9_init E a)) (fun q => a ≤ q)) 46 1252 (fun q => a ≤ q) := by
  refine Met.ofW (cc := cX9_init) (maxL := 1) (ret := none) (by decide) rfl ?_
  intro p e s m args below meth c s₁ B hml hv
  obtain ⟨rfl, hsz, g0, hK, hO⟩ := hv
  have zc := zc_of B hml
  have hx := zc.1
  have hb := zc.2.1
  have hz := zc.2.2.2.2.1
  have hin : meth.name = "<init>" := (name_of_methodNamed B.named B.method).1
  have hS : va_S (fun q => a ≤ q) s.heap s.heap [] := va_S.rf
  have hl := lv_entry ([.ref a]) (n := 1) (Nat.le_of_ble_eq_true rfl)
  rw [lg_entry_eq]
  generalize (lg_sl ([.ref a]) ++ List.replicate (1 - (lg_sl ([.ref a])).length) Slot.unset).toArray = ls at hl ⊢
  have hl : lv_has ls 1 [(0, .ref a)] := hl
  refine lv_aload_n hx hb dX9_init_0 rfl (lv_at hl 0 rfl) ?_
  refine W.objInit hx hb zc.2.2.2.1 (hz _ km_9_3) (hz _ k_oi) (hz _ k_oc) rfl (by rw [zc.2.2.1]; exact hl.1) rfl dX9_init_1 (Nat.le_of_ble_eq_true rfl) (Nat.le_of_ble_eq_true rfl) ?_
  refine W.eq (g2 := F0 m 4 ls []) rfl ?_
  refine lv_aload_n hx hb dX9_init_4 rfl (lv_at hl 0 rfl) ?_
  refine lv_sipush (v := (600 : Int32)) hx hb dX9_init_5 (by decide) ?_
  refine zNewa (ws := []) (atype := .byte) (t := 0) (N := 600) (a0 := (600, .inl (fun _ => 0))) zc hK (fun k q h => by simp at h) hS hsz kac_B rfl (fun _ => rfl) (by decide) (by decide) (by decide) (Nat.le_of_ble_eq_true rfl) (Nat.le_of_ble_eq_true rfl) dX9_init_8 (fun H1 hN o1 hz1 hS => ?_)
  have g0 := zkp g0 zRg_1 (fun q h1 _ _ => o1 q (Nat.lt_of_lt_of_eq h1 hsz))
  have g1 : va_P E.1 zcl [((a + 1), .inl (E.2 0, 600, .inl (fun _ => 0)))] H1 := hN
  have hsz : H1.size = a + 2 := hz1
  refine W.cs (cells' := 1) (slots' := 600) rfl rfl ?_
  refine zPut (C := RX9) (T := TX9) (N := 9) (ci := 9) (v := .ref (a + 1)) (ty := .array .byte) zc hK g0 (zD1 (Nat.le_refl a)) hS uw9 tyX9 tyX9_ok nmX9 0 rfl rfl 0 (by decide) kf_9_9 (fun _ h9 => h9) (Or.inr ⟨rfl, hin, rfl⟩) (by decide +kernel) rfl rfl (Nat.le_of_ble_eq_true rfl) dX9_init_10 (fun H2 locs hN oq hz1 hS => ?_)
  have g1 := zkp g1 zRg_1 (fun q _ h2 h3 => oq q (znA (a := a) (i := 1) (p := 0) h2 (Nat.le_of_ble_eq_true rfl)))
  have g0 : va_P E.1 zcl [(a, .inr (9, [.ref (a + 1), .int 0, .int 0, .int 0, .null, .null, .null, .null, .null]))] H2 := hN
  have hsz := hz1.trans hsz
  refine lv_aload_n hx hb dX9_init_13 rfl (lv_at hl 0 rfl) ?_
  refine lv_iconst (v := (-1 : Int32)) hx hb dX9_init_14 (by decide) ?_
  refine zPut (C := RX9) (T := TX9) (N := 9) (ci := 9) (v := .int (-1 : Int32)) (ty := .int) zc hK g0 (zD1 (Nat.le_refl a)) hS uw9 tyX9 tyX9_ok nmX9 0 rfl rfl 3 (by decide) kf_9_15 (fun _ h9 => h9) (Or.inl rfl) (by decide +kernel) rfl rfl (Nat.le_of_ble_eq_true rfl) dX9_init_15 (fun H3 locs hN oq hz1 hS => ?_)
  have g1 := zkp g1 zRg_1 (fun q _ h2 h3 => oq q (znA (a := a) (i := 1) (p := 0) h2 (Nat.le_of_ble_eq_true rfl)))
  have g0 : va_P E.1 zcl [(a, .inr (9, [.ref (a + 1), .int 0, .int 0, .int (-1 : Int32), .null, .null, .null, .null, .null]))] H3 := hN
  have hsz := hz1.trans hsz
  refine lv_aload_n hx hb dX9_init_18 rfl (lv_at hl 0 rfl) ?_
  refine lv_iconst (v := (4 : Int32)) hx hb dX9_init_19 (by decide) ?_
  refine zNewa (ws := []) (atype := .int) (t := 1) (N := 4) (a0 := (4, .inl (fun _ => 0))) zc hK (fun k q h => by simp at h) hS hsz kac_I rfl (fun _ => rfl) (by decide) (by decide) (by decide) (Nat.le_of_ble_eq_true rfl) (Nat.le_of_ble_eq_true rfl) dX9_init_20 (fun H4 hN o1 hz1 hS => ?_)
  have g0 := zkp g0 zRg_1 (fun q h1 _ _ => o1 q (Nat.lt_of_lt_of_eq h1 hsz))
  have g1 := zkp g1 zRg_1 (fun q h1 _ _ => o1 q (Nat.lt_of_lt_of_eq h1 hsz))
  have g2 : va_P E.1 zcl [((a + 2), .inl (E.2 1, 4, .inl (fun _ => 0)))] H4 := hN
  have hsz : H4.size = a + 3 := hz1
  refine W.cs (cells' := 2) (slots' := 604) rfl rfl ?_
  refine zPut (C := RX9) (T := TX9) (N := 9) (ci := 9) (v := .ref (a + 2)) (ty := .array .int) zc hK g0 (zD1 (Nat.le_refl a)) hS uw9 tyX9 tyX9_ok nmX9 0 rfl rfl 4 (by decide) kf_9_19 (fun _ h9 => h9) (Or.inr ⟨rfl, hin, rfl⟩) (by decide +kernel) rfl rfl (Nat.le_of_ble_eq_true rfl) dX9_init_22 (fun H5 locs hN oq hz1 hS => ?_)
  have g1 := zkp g1 zRg_1 (fun q _ h2 h3 => oq q (znA (a := a) (i := 1) (p := 0) h2 (Nat.le_of_ble_eq_true rfl)))
  have g2 := zkp g2 zRg_1 (fun q _ h2 h3 => oq q (znA (a := a) (i := 2) (p := 0) h2 (Nat.le_of_ble_eq_true rfl)))
  have g0 : va_P E.1 zcl [(a, .inr (9, [.ref (a + 1), .int 0, .int 0, .int (-1 : Int32), .ref (a + 2), .null, .null, .null, .null]))] H5 := hN
  have hsz := hz1.trans hsz
  refine lv_aload_n hx hb dX9_init_25 rfl (lv_at hl 0 rfl) ?_
  refine lv_iconst (v := (2 : Int32)) hx hb dX9_init_26 (by decide) ?_
  refine zNewq (ws := []) (t := 4) (N := 2) zc hK (hO RX2 (by simp [zover])) (fun k q h => by simp at h) hS hsz kcl_9_23 rfl (by decide) (by decide) (by decide) (Nat.le_of_ble_eq_true rfl) (Nat.le_of_ble_eq_true rfl) dX9_init_27 (fun H6 hN o1 hz1 hS => ?_)
  have g0 := zkp g0 zRg_1 (fun q h1 _ _ => o1 q (Nat.lt_of_lt_of_eq h1 hsz))
  have g1 := zkp g1 zRg_1 (fun q h1 _ _ => o1 q (Nat.lt_of_lt_of_eq h1 hsz))
  have g2 := zkp g2 zRg_1 (fun q h1 _ _ => o1 q (Nat.lt_of_lt_of_eq h1 hsz))
  have g3 : va_P E.1 zcl [((a + 3), .inl (E.2 4, 2, .inr (.inr (.inr (.inr (fun _ => none))))))] H6 := hN
  have hsz : H6.size = a + 4 := hz1
  refine W.cs (cells' := 3) (slots' := 606) rfl rfl ?_
  refine lv_dup hx hb dX9_init_30 rfl ?_
  refine lv_iconst (v := (0 : Int32)) hx hb dX9_init_31 (by decide) ?_
  refine zNew (ws := []) (C := RX2) (T := TX2) (N := 15) (ci := 2) zc hK (fun k q h => by simp at h) hS hsz uw2 tyX2 tyX2_ok kcl_9_23 kins_2 kinit_2 rfl [.int 0, .int 0, .int 0, .int 0, .int 0, .int 0, .int 0, .null, .null, .null, .null, .null, .null, .null, .null] (fun j hj => match j, hj with | 0, _ => rfl | 1, _ => rfl | 2, _ => rfl | 3, _ => rfl | 4, _ => rfl | 5, _ => rfl | 6, _ => rfl | 7, _ => rfl | 8, _ => rfl | 9, _ => rfl | 10, _ => rfl | 11, _ => rfl | 12, _ => rfl | 13, _ => rfl | 14, _ => rfl | j + 15, hj => absurd hj (by omega)) (Nat.le_of_ble_eq_true rfl) (Nat.le_of_ble_eq_true rfl) dX9_init_32 (fun H7 hN o1 hz1 hS => ?_)
  have g0 := zkp g0 zRg_1 (fun q h1 _ _ => o1 q (Nat.lt_of_lt_of_eq h1 hsz))
  have g1 := zkp g1 zRg_1 (fun q h1 _ _ => o1 q (Nat.lt_of_lt_of_eq h1 hsz))
  have g2 := zkp g2 zRg_1 (fun q h1 _ _ => o1 q (Nat.lt_of_lt_of_eq h1 hsz))
  have g3 := zkp g3 zRg_1 (fun q h1 _ _ => o1 q (Nat.lt_of_lt_of_eq h1 hsz))
  have g4 : va_P E.1 zcl [((a + 4), .inr (2, [.int 0, .int 0, .int 0, .int 0, .int 0, .int 0, .int 0, .null, .null, .null, .null, .null, .null, .null, .null]))] H7 := hN
  have hsz : H7.size = a + 5 := hz1
  refine W.cs (cells' := 4) (slots' := 621) rfl rfl ?_
  refine lv_dup hx hb dX9_init_35 rfl ?_
  refine zIc zc ky_X2_init kz_X2_init rfl km_9_25 (ci_X2_init l) (zIpre hK hO g4 hsz) hS (fun q (h : (a + 4) ≤ q) => Nat.le_trans (Nat.le_add_right a 4) h) hl.1 (Nat.le_of_ble_eq_true rfl) ⟨rfl, rfl⟩ ⟨Nat.le_of_ble_eq_true rfl, Nat.le_of_ble_eq_true rfl⟩ ⟨Nat.le_of_ble_eq_true rfl, Nat.le_of_ble_eq_true rfl⟩ dX9_init_36 (fun _ H8 locs _ hJ hk hS => ?_)
  have g0 := zkp g0 zRg_1 (fun q h1 _ h3 => hk q h1 (zge_n (a := a) (i := 1) (j := 4) h3 (Nat.le_of_ble_eq_true rfl)))
  have g1 := zkp g1 zRg_1 (fun q h1 _ h3 => hk q h1 (zge_n (a := a) (i := 2) (j := 4) h3 (Nat.le_of_ble_eq_true rfl)))
  have g2 := zkp g2 zRg_1 (fun q h1 _ h3 => hk q h1 (zge_n (a := a) (i := 3) (j := 4) h3 (Nat.le_of_ble_eq_true rfl)))
  have g3 := zkp g3 zRg_1 (fun q h1 _ h3 => hk q h1 (zge_n (a := a) (i := 4) (j := 4) h3 (Nat.le_of_ble_eq_true rfl)))
  have g4 := hJ.1
  have hsz : H8.size = a + 13 := hJ.2
  refine W.cs (cells' := 12) (slots' := 746) rfl rfl ?_
  refine zAast (t := 4) (r := (RX2, TX2, 15)) zc hK g3 (zD1 (Nat.le_add_right a 3)) hS 0 0 rfl rfl g4 rfl rfl (by unfold vp_in; decide) dX9_init_39 (fun H9 locs hN oq hz1 hS => ?_)
  have g0 := zkp g0 zRg_1 (fun q _ h2 h3 => oq q (znB (a := a) (i := 1) (p := 3) h3 (Nat.le_of_ble_eq_true rfl)))
  have g1 := zkp g1 zRg_1 (fun q _ h2 h3 => oq q (znB (a := a) (i := 2) (p := 3) h3 (Nat.le_of_ble_eq_true rfl)))
  have g2 := zkp g2 zRg_1 (fun q _ h2 h3 => oq q (znB (a := a) (i := 3) (p := 3) h3 (Nat.le_of_ble_eq_true rfl)))
  have g4 := zkp g4 zrg_X2_init (fun q _ h2 h3 => oq q (znA (a := a) (i := 4) (p := 3) h2 (Nat.le_of_ble_eq_true rfl)))
  have g3 : va_P E.1 zcl [((a + 3), .inl (E.2 4, 2, .inr (.inr (.inr (.inr (va_up (fun _ => none) (Int32.toNatClampNeg (0 : Int32)) (some (a + 4))))))))] H9 := hN
  have hsz := hz1.trans hsz
  refine lv_dup hx hb dX9_init_40 rfl ?_
  refine lv_iconst (v := (1 : Int32)) hx hb dX9_init_41 (by decide) ?_
  refine zNew (ws := []) (C := RX2) (T := TX2) (N := 15) (ci := 2) zc hK (fun k q h => by simp at h) hS hsz uw2 tyX2 tyX2_ok kcl_9_23 kins_2 kinit_2 rfl [.int 0, .int 0, .int 0, .int 0, .int 0, .int 0, .int 0, .null, .null, .null, .null, .null, .null, .null, .null] (fun j hj => match j, hj with | 0, _ => rfl | 1, _ => rfl | 2, _ => rfl | 3, _ => rfl | 4, _ => rfl | 5, _ => rfl | 6, _ => rfl | 7, _ => rfl | 8, _ => rfl | 9, _ => rfl | 10, _ => rfl | 11, _ => rfl | 12, _ => rfl | 13, _ => rfl | 14, _ => rfl | j + 15, hj => absurd hj (by omega)) (Nat.le_of_ble_eq_true rfl) (Nat.le_of_ble_eq_true rfl) dX9_init_42 (fun H10 hN o1 hz1 hS => ?_)
  have g0 := zkp g0 zRg_1 (fun q h1 _ _ => o1 q (Nat.lt_of_lt_of_eq h1 hsz))
  have g1 := zkp g1 zRg_1 (fun q h1 _ _ => o1 q (Nat.lt_of_lt_of_eq h1 hsz))
  have g2 := zkp g2 zRg_1 (fun q h1 _ _ => o1 q (Nat.lt_of_lt_of_eq h1 hsz))
  have g3 := zkp g3 zRg_1 (fun q h1 _ _ => o1 q (Nat.lt_of_lt_of_eq h1 hsz))
  have g4 := zkp g4 zrg_X2_init (fun q h1 _ _ => o1 q (Nat.lt_of_lt_of_eq h1 hsz))
  have g13 : va_P E.1 zcl [((a + 13), .inr (2, [.int 0, .int 0, .int 0, .int 0, .int 0, .int 0, .int 0, .null, .null, .null, .null, .null, .null, .null, .null]))] H10 := hN
  have hsz : H10.size = a + 14 := hz1
  refine W.cs (cells' := 13) (slots' := 761) rfl rfl ?_
  refine lv_dup hx hb dX9_init_45 rfl ?_
  refine zIc zc ky_X2_init kz_X2_init rfl km_9_25 (ci_X2_init l) (zIpre hK hO g13 hsz) hS (fun q (h : (a + 13) ≤ q) => Nat.le_trans (Nat.le_add_right a 13) h) hl.1 (Nat.le_of_ble_eq_true rfl) ⟨rfl, rfl⟩ ⟨Nat.le_of_ble_eq_true rfl, Nat.le_of_ble_eq_true rfl⟩ ⟨Nat.le_of_ble_eq_true rfl, Nat.le_of_ble_eq_true rfl⟩ dX9_init_46 (fun _ H11 locs _ hJ hk hS => ?_)
  have g0 := zkp g0 zRg_1 (fun q h1 _ h3 => hk q h1 (zge_n (a := a) (i := 1) (j := 13) h3 (Nat.le_of_ble_eq_true rfl)))
  have g1 := zkp g1 zRg_1 (fun q h1 _ h3 => hk q h1 (zge_n (a := a) (i := 2) (j := 13) h3 (Nat.le_of_ble_eq_true rfl)))
  have g2 := zkp g2 zRg_1 (fun q h1 _ h3 => hk q h1 (zge_n (a := a) (i := 3) (j := 13) h3 (Nat.le_of_ble_eq_true rfl)))
  have g3 := zkp g3 zRg_1 (fun q h1 _ h3 => hk q h1 (zge_n (a := a) (i := 4) (j := 13) h3 (Nat.le_of_ble_eq_true rfl)))
  have g4 := zkp g4 zrg_X2_init (fun q h1 _ h3 => hk q h1 (zge_n (a := a) (i := 13) (j := 13) h3 (Nat.le_of_ble_eq_true rfl)))
  have g13 := hJ.1
  have hsz : H11.size = a + 22 := hJ.2
  refine W.cs (cells' := 21) (slots' := 886) rfl rfl ?_
  refine zAast (t := 4) (r := (RX2, TX2, 15)) zc hK g3 (zD1 (Nat.le_add_right a 3)) hS 0 0 rfl rfl g13 rfl rfl (by unfold vp_in; decide) dX9_init_49 (fun H12 locs hN oq hz1 hS => ?_)
  have g0 := zkp g0 zRg_1 (fun q _ h2 h3 => oq q (znB (a := a) (i := 1) (p := 3) h3 (Nat.le_of_ble_eq_true rfl)))
  have g1 := zkp g1 zRg_1 (fun q _ h2 h3 => oq q (znB (a := a) (i := 2) (p := 3) h3 (Nat.le_of_ble_eq_true rfl)))
  have g2 := zkp g2 zRg_1 (fun q _ h2 h3 => oq q (znB (a := a) (i := 3) (p := 3) h3 (Nat.le_of_ble_eq_true rfl)))
  have g4 := zkp g4 zrg_X2_init (fun q _ h2 h3 => oq q (znA (a := a) (i := 4) (p := 3) h2 (Nat.le_of_ble_eq_true rfl)))
  have g13 := zkp g13 zrg_X2_init (fun q _ h2 h3 => oq q (znA (a := a) (i := 13) (p := 3) h2 (Nat.le_of_ble_eq_true rfl)))
  have g3 : va_P E.1 zcl [((a + 3), .inl (E.2 4, 2, .inr (.inr (.inr (.inr (va_up (va_up (fun _ => none) (Int32.toNatClampNeg (0 : Int32)) (some (a + 4))) (Int32.toNatClampNeg (1 : Int32)) (some (a + 13))))))))] H12 := hN
  have hsz := hz1.trans hsz
  refine zPut (C := RX9) (T := TX9) (N := 9) (ci := 9) (v := .ref (a + 3)) (ty := .array (.object "DownhillSong$Land")) zc hK g0 (zD1 (Nat.le_refl a)) hS uw9 tyX9 tyX9_ok nmX9 0 rfl rfl 5 (by decide) kf_9_26 (fun _ h9 => h9) (Or.inr ⟨rfl, hin, rfl⟩) (by decide +kernel) rfl rfl (Nat.le_of_ble_eq_true rfl) dX9_init_50 (fun H13 locs hN oq hz1 hS => ?_)
  have g1 := zkp g1 zRg_1 (fun q _ h2 h3 => oq q (znA (a := a) (i := 1) (p := 0) h2 (Nat.le_of_ble_eq_true rfl)))
  have g2 := zkp g2 zRg_1 (fun q _ h2 h3 => oq q (znA (a := a) (i := 2) (p := 0) h2 (Nat.le_of_ble_eq_true rfl)))
  have g3 := zkp g3 zRg_1 (fun q _ h2 h3 => oq q (znA (a := a) (i := 3) (p := 0) h2 (Nat.le_of_ble_eq_true rfl)))
  have g4 := zkp g4 zrg_X2_init (fun q _ h2 h3 => oq q (znA (a := a) (i := 4) (p := 0) h2 (Nat.le_of_ble_eq_true rfl)))
  have g13 := zkp g13 zrg_X2_init (fun q _ h2 h3 => oq q (znA (a := a) (i := 13) (p := 0) h2 (Nat.le_of_ble_eq_true rfl)))
  have g0 : va_P E.1 zcl [(a, .inr (9, [.ref (a + 1), .int 0, .int 0, .int (-1 : Int32), .ref (a + 2), .ref (a + 3), .null, .null, .null]))] H13 := hN
  have hsz := hz1.trans hsz
  refine lv_aload_n hx hb dX9_init_53 rfl (lv_at hl 0 rfl) ?_
  refine lv_iconst (v := (2 : Int32)) hx hb dX9_init_54 (by decide) ?_
  refine zNewq (ws := []) (t := 5) (N := 2) zc hK (hO RX1 (by simp [zover])) (fun k q h => by simp at h) hS hsz kcl_9_30 rfl (by decide) (by decide) (by decide) (Nat.le_of_ble_eq_true rfl) (Nat.le_of_ble_eq_true rfl) dX9_init_55 (fun H14 hN o1 hz1 hS => ?_)
  have g0 := zkp g0 zRg_1 (fun q h1 _ _ => o1 q (Nat.lt_of_lt_of_eq h1 hsz))
  have g1 := zkp g1 zRg_1 (fun q h1 _ _ => o1 q (Nat.lt_of_lt_of_eq h1 hsz))
  have g2 := zkp g2 zRg_1 (fun q h1 _ _ => o1 q (Nat.lt_of_lt_of_eq h1 hsz))
  have g3 := zkp g3 zRg_1 (fun q h1 _ _ => o1 q (Nat.lt_of_lt_of_eq h1 hsz))
  have g4 := zkp g4 zrg_X2_init (fun q h1 _ _ => o1 q (Nat.lt_of_lt_of_eq h1 hsz))
  have g13 := zkp g13 zrg_X2_init (fun q h1 _ _ => o1 q (Nat.lt_of_lt_of_eq h1 hsz))
  have g22 : va_P E.1 zcl [((a + 22), .inl (E.2 5, 2, .inr (.inr (.inr (.inr (fun _ => none))))))] H14 := hN
  have hsz : H14.size = a + 23 := hz1
  refine W.cs (cells' := 22) (slots' := 888) rfl rfl ?_
  refine lv_dup hx hb dX9_init_58 rfl ?_
  refine lv_iconst (v := (0 : Int32)) hx hb dX9_init_59 (by decide) ?_
  refine zNew (ws := []) (C := RX1) (T := TX1) (N := 4) (ci := 1) zc hK (fun k q h => by simp at h) hS hsz uw1 tyX1 tyX1_ok kcl_9_30 kins_1 kinit_1 rfl [.int 0, .null, .null, .null] (fun j hj => match j, hj with | 0, _ => rfl | 1, _ => rfl | 2, _ => rfl | 3, _ => rfl | j + 4, hj => absurd hj (by omega)) (Nat.le_of_ble_eq_true rfl) (Nat.le_of_ble_eq_true rfl) dX9_init_60 (fun H15 hN o1 hz1 hS => ?_)
  have g0 := zkp g0 zRg_1 (fun q h1 _ _ => o1 q (Nat.lt_of_lt_of_eq h1 hsz))
  have g1 := zkp g1 zRg_1 (fun q h1 _ _ => o1 q (Nat.lt_of_lt_of_eq h1 hsz))
  have g2 := zkp g2 zRg_1 (fun q h1 _ _ => o1 q (Nat.lt_of_lt_of_eq h1 hsz))
  have g3 := zkp g3 zRg_1 (fun q h1 _ _ => o1 q (Nat.lt_of_lt_of_eq h1 hsz))
  have g4 := zkp g4 zrg_X2_init (fun q h1 _ _ => o1 q (Nat.lt_of_lt_of_eq h1 hsz))
  have g13 := zkp g13 zrg_X2_init (fun q h1 _ _ => o1 q (Nat.lt_of_lt_of_eq h1 hsz))
  have g22 := zkp g22 zRg_1 (fun q h1 _ _ => o1 q (Nat.lt_of_lt_of_eq h1 hsz))
  have g23 : va_P E.1 zcl [((a + 23), .inr (1, [.int 0, .null, .null, .null]))] H15 := hN
  have hsz : H15.size = a + 24 := hz1
  refine W.cs (cells' := 23) (slots' := 892) rfl rfl ?_
  refine lv_dup hx hb dX9_init_63 rfl ?_
  refine zIc zc ky_X1_init kz_X1_init rfl km_9_32 (ci_X1_init l) (zIpre hK hO g23 hsz) hS (fun q (h : (a + 23) ≤ q) => Nat.le_trans (Nat.le_add_right a 23) h) hl.1 (Nat.le_of_ble_eq_true rfl) ⟨rfl, rfl⟩ ⟨Nat.le_of_ble_eq_true rfl, Nat.le_of_ble_eq_true rfl⟩ ⟨Nat.le_of_ble_eq_true rfl, Nat.le_of_ble_eq_true rfl⟩ dX9_init_64 (fun _ H16 locs _ hJ hk hS => ?_)
  have g0 := zkp g0 zRg_1 (fun q h1 _ h3 => hk q h1 (zge_n (a := a) (i := 1) (j := 23) h3 (Nat.le_of_ble_eq_true rfl)))
  have g1 := zkp g1 zRg_1 (fun q h1 _ h3 => hk q h1 (zge_n (a := a) (i := 2) (j := 23) h3 (Nat.le_of_ble_eq_true rfl)))
  have g2 := zkp g2 zRg_1 (fun q h1 _ h3 => hk q h1 (zge_n (a := a) (i := 3) (j := 23) h3 (Nat.le_of_ble_eq_true rfl)))
  have g3 := zkp g3 zRg_1 (fun q h1 _ h3 => hk q h1 (zge_n (a := a) (i := 4) (j := 23) h3 (Nat.le_of_ble_eq_true rfl)))
  have g4 := zkp g4 zrg_X2_init (fun q h1 _ h3 => hk q h1 (zge_n (a := a) (i := 13) (j := 23) h3 (Nat.le_of_ble_eq_true rfl)))
  have g13 := zkp g13 zrg_X2_init (fun q h1 _ h3 => hk q h1 (zge_n (a := a) (i := 22) (j := 23) h3 (Nat.le_of_ble_eq_true rfl)))
  have g22 := zkp g22 zRg_1 (fun q h1 _ h3 => hk q h1 (zge_n (a := a) (i := 23) (j := 23) h3 (Nat.le_of_ble_eq_true rfl)))
  have g23 := hJ.1
  have hsz : H16.size = a + 27 := hJ.2
  refine W.cs (cells' := 26) (slots' := 1012) rfl rfl ?_
  refine zAast (t := 5) (r := (RX1, TX1, 4)) zc hK g22 (zD1 (Nat.le_add_right a 22)) hS 0 0 rfl rfl g23 rfl rfl (by unfold vp_in; decide) dX9_init_67 (fun H17 locs hN oq hz1 hS => ?_)
  have g0 := zkp g0 zRg_1 (fun q _ h2 h3 => oq q (znB (a := a) (i := 1) (p := 22) h3 (Nat.le_of_ble_eq_true rfl)))
  have g1 := zkp g1 zRg_1 (fun q _ h2 h3 => oq q (znB (a := a) (i := 2) (p := 22) h3 (Nat.le_of_ble_eq_true rfl)))
  have g2 := zkp g2 zRg_1 (fun q _ h2 h3 => oq q (znB (a := a) (i := 3) (p := 22) h3 (Nat.le_of_ble_eq_true rfl)))
  have g3 := zkp g3 zRg_1 (fun q _ h2 h3 => oq q (znB (a := a) (i := 4) (p := 22) h3 (Nat.le_of_ble_eq_true rfl)))
  have g4 := zkp g4 zrg_X2_init (fun q _ h2 h3 => oq q (znB (a := a) (i := 13) (p := 22) h3 (Nat.le_of_ble_eq_true rfl)))
  have g13 := zkp g13 zrg_X2_init (fun q _ h2 h3 => oq q (znB (a := a) (i := 22) (p := 22) h3 (Nat.le_of_ble_eq_true rfl)))
  have g23 := zkp g23 zrg_X1_init (fun q _ h2 h3 => oq q (znA (a := a) (i := 23) (p := 22) h2 (Nat.le_of_ble_eq_true rfl)))
  have g22 : va_P E.1 zcl [((a + 22), .inl (E.2 5, 2, .inr (.inr (.inr (.inr (va_up (fun _ => none) (Int32.toNatClampNeg (0 : Int32)) (some (a + 23))))))))] H17 := hN
  have hsz := hz1.trans hsz
  refine lv_dup hx hb dX9_init_68 rfl ?_
  refine lv_iconst (v := (1 : Int32)) hx hb dX9_init_69 (by decide) ?_
  refine zNew (ws := []) (C := RX1) (T := TX1) (N := 4) (ci := 1) zc hK (fun k q h => by simp at h) hS hsz uw1 tyX1 tyX1_ok kcl_9_30 kins_1 kinit_1 rfl [.int 0, .null, .null, .null] (fun j hj => match j, hj with | 0, _ => rfl | 1, _ => rfl | 2, _ => rfl | 3, _ => rfl | j + 4, hj => absurd hj (by omega)) (Nat.le_of_ble_eq_true rfl) (Nat.le_of_ble_eq_true rfl) dX9_init_70 (fun H18 hN o1 hz1 hS => ?_)
  have g0 := zkp g0 zRg_1 (fun q h1 _ _ => o1 q (Nat.lt_of_lt_of_eq h1 hsz))
  have g1 := zkp g1 zRg_1 (fun q h1 _ _ => o1 q (Nat.lt_of_lt_of_eq h1 hsz))
  have g2 := zkp g2 zRg_1 (fun q h1 _ _ => o1 q (Nat.lt_of_lt_of_eq h1 hsz))
  have g3 := zkp g3 zRg_1 (fun q h1 _ _ => o1 q (Nat.lt_of_lt_of_eq h1 hsz))
  have g4 := zkp g4 zrg_X2_init (fun q h1 _ _ => o1 q (Nat.lt_of_lt_of_eq h1 hsz))
  have g13 := zkp g13 zrg_X2_init (fun q h1 _ _ => o1 q (Nat.lt_of_lt_of_eq h1 hsz))
  have g22 := zkp g22 zRg_1 (fun q h1 _ _ => o1 q (Nat.lt_of_lt_of_eq h1 hsz))
  have g23 := zkp g23 zrg_X1_init (fun q h1 _ _ => o1 q (Nat.lt_of_lt_of_eq h1 hsz))
  have g27 : va_P E.1 zcl [((a + 27), .inr (1, [.int 0, .null, .null, .null]))] H18 := hN
  have hsz : H18.size = a + 28 := hz1
  refine W.cs (cells' := 27) (slots' := 1016) rfl rfl ?_
  refine lv_dup hx hb dX9_init_73 rfl ?_
  refine zIc zc ky_X1_init kz_X1_init rfl km_9_32 (ci_X1_init l) (zIpre hK hO g27 hsz) hS (fun q (h : (a + 27) ≤ q) => Nat.le_trans (Nat.le_add_right a 27) h) hl.1 (Nat.le_of_ble_eq_true rfl) ⟨rfl, rfl⟩ ⟨Nat.le_of_ble_eq_true rfl, Nat.le_of_ble_eq_true rfl⟩ ⟨Nat.le_of_ble_eq_true rfl, Nat.le_of_ble_eq_true rfl⟩ dX9_init_74 (fun _ H19 locs _ hJ hk hS => ?_)
  have g0 := zkp g0 zRg_1 (fun q h1 _ h3 => hk q h1 (zge_n (a := a) (i := 1) (j := 27) h3 (Nat.le_of_ble_eq_true rfl)))
  have g1 := zkp g1 zRg_1 (fun q h1 _ h3 => hk q h1 (zge_n (a := a) (i := 2) (j := 27) h3 (Nat.le_of_ble_eq_true rfl)))
  have g2 := zkp g2 zRg_1 (fun q h1 _ h3 => hk q h1 (zge_n (a := a) (i := 3) (j := 27) h3 (Nat.le_of_ble_eq_true rfl)))
  have g3 := zkp g3 zRg_1 (fun q h1 _ h3 => hk q h1 (zge_n (a := a) (i := 4) (j := 27) h3 (Nat.le_of_ble_eq_true rfl)))
  have g4 := zkp g4 zrg_X2_init (fun q h1 _ h3 => hk q h1 (zge_n (a := a) (i := 13) (j := 27) h3 (Nat.le_of_ble_eq_true rfl)))
  have g13 := zkp g13 zrg_X2_init (fun q h1 _ h3 => hk q h1 (zge_n (a := a) (i := 22) (j := 27) h3 (Nat.le_of_ble_eq_true rfl)))
  have g22 := zkp g22 zRg_1 (fun q h1 _ h3 => hk q h1 (zge_n (a := a) (i := 23) (j := 27) h3 (Nat.le_of_ble_eq_true rfl)))
  have g23 := zkp g23 zrg_X1_init (fun q h1 _ h3 => hk q h1 (zge_n (a := a) (i := 27) (j := 27) h3 (Nat.le_of_ble_eq_true rfl)))
  have g27 := hJ.1
  have hsz : H19.size = a + 31 := hJ.2
  refine W.cs (cells' := 30) (slots' := 1136) rfl rfl ?_
  refine zAast (t := 5) (r := (RX1, TX1, 4)) zc hK g22 (zD1 (Nat.le_add_right a 22)) hS 0 0 rfl rfl g27 rfl rfl (by unfold vp_in; decide) dX9_init_77 (fun H20 locs hN oq hz1 hS => ?_)
  have g0 := zkp g0 zRg_1 (fun q _ h2 h3 => oq q (znB (a := a) (i := 1) (p := 22) h3 (Nat.le_of_ble_eq_true rfl)))
  have g1 := zkp g1 zRg_1 (fun q _ h2 h3 => oq q (znB (a := a) (i := 2) (p := 22) h3 (Nat.le_of_ble_eq_true rfl)))
  have g2 := zkp g2 zRg_1 (fun q _ h2 h3 => oq q (znB (a := a) (i := 3) (p := 22) h3 (Nat.le_of_ble_eq_true rfl)))
  have g3 := zkp g3 zRg_1 (fun q _ h2 h3 => oq q (znB (a := a) (i := 4) (p := 22) h3 (Nat.le_of_ble_eq_true rfl)))
  have g4 := zkp g4 zrg_X2_init (fun q _ h2 h3 => oq q (znB (a := a) (i := 13) (p := 22) h3 (Nat.le_of_ble_eq_true rfl)))
  have g13 := zkp g13 zrg_X2_init (fun q _ h2 h3 => oq q (znB (a := a) (i := 22) (p := 22) h3 (Nat.le_of_ble_eq_true rfl)))
  have g23 := zkp g23 zrg_X1_init (fun q _ h2 h3 => oq q (znA (a := a) (i := 23) (p := 22) h2 (Nat.le_of_ble_eq_true rfl)))
  have g27 := zkp g27 zrg_X1_init (fun q _ h2 h3 => oq q (znA (a := a) (i := 27) (p := 22) h2 (Nat.le_of_ble_eq_true rfl)))
  have g22 : va_P E.1 zcl [((a + 22), .inl (E.2 5, 2, .inr (.inr (.inr (.inr (va_up (va_up (fun _ => none) (Int32.toNatClampNeg (0 : Int32)) (some (a + 23))) (Int32.toNatClampNeg (1 : Int32)) (some (a + 27))))))))] H20 := hN
  have hsz := hz1.trans hsz
  refine zPut (C := RX9) (T := TX9) (N := 9) (ci := 9) (v := .ref (a + 22)) (ty := .array (.object "DownhillSong$Evening")) zc hK g0 (zD1 (Nat.le_refl a)) hS uw9 tyX9 tyX9_ok nmX9 0 rfl rfl 6 (by decide) kf_9_33 (fun _ h9 => h9) (Or.inr ⟨rfl, hin, rfl⟩) (by decide +kernel) rfl rfl (Nat.le_of_ble_eq_true rfl) dX9_init_78 (fun H21 locs hN oq hz1 hS => ?_)
  have g1 := zkp g1 zRg_1 (fun q _ h2 h3 => oq q (znA (a := a) (i := 1) (p := 0) h2 (Nat.le_of_ble_eq_true rfl)))
  have g2 := zkp g2 zRg_1 (fun q _ h2 h3 => oq q (znA (a := a) (i := 2) (p := 0) h2 (Nat.le_of_ble_eq_true rfl)))
  have g3 := zkp g3 zRg_1 (fun q _ h2 h3 => oq q (znA (a := a) (i := 3) (p := 0) h2 (Nat.le_of_ble_eq_true rfl)))
  have g4 := zkp g4 zrg_X2_init (fun q _ h2 h3 => oq q (znA (a := a) (i := 4) (p := 0) h2 (Nat.le_of_ble_eq_true rfl)))
  have g13 := zkp g13 zrg_X2_init (fun q _ h2 h3 => oq q (znA (a := a) (i := 13) (p := 0) h2 (Nat.le_of_ble_eq_true rfl)))
  have g22 := zkp g22 zRg_1 (fun q _ h2 h3 => oq q (znA (a := a) (i := 22) (p := 0) h2 (Nat.le_of_ble_eq_true rfl)))
  have g23 := zkp g23 zrg_X1_init (fun q _ h2 h3 => oq q (znA (a := a) (i := 23) (p := 0) h2 (Nat.le_of_ble_eq_true rfl)))
  have g27 := zkp g27 zrg_X1_init (fun q _ h2 h3 => oq q (znA (a := a) (i := 27) (p := 0) h2 (Nat.le_of_ble_eq_true rfl)))
  have g0 : va_P E.1 zcl [(a, .inr (9, [.ref (a + 1), .int 0, .int 0, .int (-1 : Int32), .ref (a + 2), .ref (a + 3), .ref (a + 22), .null, .null]))] H21 := hN
  have hsz := hz1.trans hsz
  refine lv_aload_n hx hb dX9_init_81 rfl (lv_at hl 0 rfl) ?_
  refine lv_iconst (v := (2 : Int32)) hx hb dX9_init_82 (by decide) ?_
  refine zNewq (ws := []) (t := 6) (N := 2) zc hK (hO RX6 (by simp [zover])) (fun k q h => by simp at h) hS hsz kcl_9_37 rfl (by decide) (by decide) (by decide) (Nat.le_of_ble_eq_true rfl) (Nat.le_of_ble_eq_true rfl) dX9_init_83 (fun H22 hN o1 hz1 hS => ?_)
  have g0 := zkp g0 zRg_1 (fun q h1 _ _ => o1 q (Nat.lt_of_lt_of_eq h1 hsz))
  have g1 := zkp g1 zRg_1 (fun q h1 _ _ => o1 q (Nat.lt_of_lt_of_eq h1 hsz))
  have g2 := zkp g2 zRg_1 (fun q h1 _ _ => o1 q (Nat.lt_of_lt_of_eq h1 hsz))
  have g3 := zkp g3 zRg_1 (fun q h1 _ _ => o1 q (Nat.lt_of_lt_of_eq h1 hsz))
  have g4 := zkp g4 zrg_X2_init (fun q h1 _ _ => o1 q (Nat.lt_of_lt_of_eq h1 hsz))
  have g13 := zkp g13 zrg_X2_init (fun q h1 _ _ => o1 q (Nat.lt_of_lt_of_eq h1 hsz))
  have g22 := zkp g22 zRg_1 (fun q h1 _ _ => o1 q (Nat.lt_of_lt_of_eq h1 hsz))
  have g23 := zkp g23 zrg_X1_init (fun q h1 _ _ => o1 q (Nat.lt_of_lt_of_eq h1 hsz))
  have g27 := zkp g27 zrg_X1_init (fun q h1 _ _ => o1 q (Nat.lt_of_lt_of_eq h1 hsz))
  have g31 : va_P E.1 zcl [((a + 31), .inl (E.2 6, 2, .inr (.inr (.inr (.inr (fun _ => none))))))] H22 := hN
  have hsz : H22.size = a + 32 := hz1
  refine W.cs (cells' := 31) (slots' := 1138) rfl rfl ?_
  refine lv_dup hx hb dX9_init_86 rfl ?_
  refine lv_iconst (v := (0 : Int32)) hx hb dX9_init_87 (by decide) ?_
  refine zNew (ws := []) (C := RX6) (T := TX6) (N := 4) (ci := 6) zc hK (fun k q h => by simp at h) hS hsz uw6 tyX6 tyX6_ok kcl_9_37 kins_6 kinit_6 rfl [.int 0, .null, .null, .null] (fun j hj => match j, hj with | 0, _ => rfl | 1, _ => rfl | 2, _ => rfl | 3, _ => rfl | j + 4, hj => absurd hj (by omega)) (Nat.le_of_ble_eq_true rfl) (Nat.le_of_ble_eq_true rfl) dX9_init_88 (fun H23 hN o1 hz1 hS => ?_)
  have g0 := zkp g0 zRg_1 (fun q h1 _ _ => o1 q (Nat.lt_of_lt_of_eq h1 hsz))
  have g1 := zkp g1 zRg_1 (fun q h1 _ _ => o1 q (Nat.lt_of_lt_of_eq h1 hsz))
  have g2 := zkp g2 zRg_1 (fun q h1 _ _ => o1 q (Nat.lt_of_lt_of_eq h1 hsz))
  have g3 := zkp g3 zRg_1 (fun q h1 _ _ => o1 q (Nat.lt_of_lt_of_eq h1 hsz))
  have g4 := zkp g4 zrg_X2_init (fun q h1 _ _ => o1 q (Nat.lt_of_lt_of_eq h1 hsz))
  have g13 := zkp g13 zrg_X2_init (fun q h1 _ _ => o1 q (Nat.lt_of_lt_of_eq h1 hsz))
  have g22 := zkp g22 zRg_1 (fun q h1 _ _ => o1 q (Nat.lt_of_lt_of_eq h1 hsz))
  have g23 := zkp g23 zrg_X1_init (fun q h1 _ _ => o1 q (Nat.lt_of_lt_of_eq h1 hsz))
  have g27 := zkp g27 zrg_X1_init (fun q h1 _ _ => o1 q (Nat.lt_of_lt_of_eq h1 hsz))
  have g31 := zkp g31 zRg_1 (fun q h1 _ _ => o1 q (Nat.lt_of_lt_of_eq h1 hsz))
  have g32 : va_P E.1 zcl [((a + 32), .inr (6, [.int 0, .null, .null, .null]))] H23 := hN
  have hsz : H23.size = a + 33 := hz1
  refine W.cs (cells' := 32) (slots' := 1142) rfl rfl ?_
  refine lv_dup hx hb dX9_init_91 rfl ?_
  refine zIc zc ky_X6_init kz_X6_init rfl km_9_39 (ci_X6_init l) (zIpre hK hO g32 hsz) hS (fun q (h : (a + 32) ≤ q) => Nat.le_trans (Nat.le_add_right a 32) h) hl.1 (Nat.le_of_ble_eq_true rfl) ⟨rfl, rfl⟩ ⟨Nat.le_of_ble_eq_true rfl, Nat.le_of_ble_eq_true rfl⟩ ⟨Nat.le_of_ble_eq_true rfl, Nat.le_of_ble_eq_true rfl⟩ dX9_init_92 (fun _ H24 locs _ hJ hk hS => ?_)
  have g0 := zkp g0 zRg_1 (fun q h1 _ h3 => hk q h1 (zge_n (a := a) (i := 1) (j := 32) h3 (Nat.le_of_ble_eq_true rfl)))
  have g1 := zkp g1 zRg_1 (fun q h1 _ h3 => hk q h1 (zge_n (a := a) (i := 2) (j := 32) h3 (Nat.le_of_ble_eq_true rfl)))
  have g2 := zkp g2 zRg_1 (fun q h1 _ h3 => hk q h1 (zge_n (a := a) (i := 3) (j := 32) h3 (Nat.le_of_ble_eq_true rfl)))
  have g3 := zkp g3 zRg_1 (fun q h1 _ h3 => hk q h1 (zge_n (a := a) (i := 4) (j := 32) h3 (Nat.le_of_ble_eq_true rfl)))
  have g4 := zkp g4 zrg_X2_init (fun q h1 _ h3 => hk q h1 (zge_n (a := a) (i := 13) (j := 32) h3 (Nat.le_of_ble_eq_true rfl)))
  have g13 := zkp g13 zrg_X2_init (fun q h1 _ h3 => hk q h1 (zge_n (a := a) (i := 22) (j := 32) h3 (Nat.le_of_ble_eq_true rfl)))
  have g22 := zkp g22 zRg_1 (fun q h1 _ h3 => hk q h1 (zge_n (a := a) (i := 23) (j := 32) h3 (Nat.le_of_ble_eq_true rfl)))
  have g23 := zkp g23 zrg_X1_init (fun q h1 _ h3 => hk q h1 (zge_n (a := a) (i := 27) (j := 32) h3 (Nat.le_of_ble_eq_true rfl)))
  have g27 := zkp g27 zrg_X1_init (fun q h1 _ h3 => hk q h1 (zge_n (a := a) (i := 31) (j := 32) h3 (Nat.le_of_ble_eq_true rfl)))
  have g31 := zkp g31 zRg_1 (fun q h1 _ h3 => hk q h1 (zge_n (a := a) (i := 32) (j := 32) h3 (Nat.le_of_ble_eq_true rfl)))
  have g32 := hJ.1
  have hsz : H24.size = a + 36 := hJ.2
  refine W.cs (cells' := 35) (slots' := 1172) rfl rfl ?_
  refine zAast (t := 6) (r := (RX6, TX6, 4)) zc hK g31 (zD1 (Nat.le_add_right a 31)) hS 0 0 rfl rfl g32 rfl rfl (by unfold vp_in; decide) dX9_init_95 (fun H25 locs hN oq hz1 hS => ?_)
  have g0 := zkp g0 zRg_1 (fun q _ h2 h3 => oq q (znB (a := a) (i := 1) (p := 31) h3 (Nat.le_of_ble_eq_true rfl)))
  have g1 := zkp g1 zRg_1 (fun q _ h2 h3 => oq q (znB (a := a) (i := 2) (p := 31) h3 (Nat.le_of_ble_eq_true rfl)))
  have g2 := zkp g2 zRg_1 (fun q _ h2 h3 => oq q (znB (a := a) (i := 3) (p := 31) h3 (Nat.le_of_ble_eq_true rfl)))
  have g3 := zkp g3 zRg_1 (fun q _ h2 h3 => oq q (znB (a := a) (i := 4) (p := 31) h3 (Nat.le_of_ble_eq_true rfl)))
  have g4 := zkp g4 zrg_X2_init (fun q _ h2 h3 => oq q (znB (a := a) (i := 13) (p := 31) h3 (Nat.le_of_ble_eq_true rfl)))
  have g13 := zkp g13 zrg_X2_init (fun q _ h2 h3 => oq q (znB (a := a) (i := 22) (p := 31) h3 (Nat.le_of_ble_eq_true rfl)))
  have g22 := zkp g22 zRg_1 (fun q _ h2 h3 => oq q (znB (a := a) (i := 23) (p := 31) h3 (Nat.le_of_ble_eq_true rfl)))
  have g23 := zkp g23 zrg_X1_init (fun q _ h2 h3 => oq q (znB (a := a) (i := 27) (p := 31) h3 (Nat.le_of_ble_eq_true rfl)))
  have g27 := zkp g27 zrg_X1_init (fun q _ h2 h3 => oq q (znB (a := a) (i := 31) (p := 31) h3 (Nat.le_of_ble_eq_true rfl)))
  have g32 := zkp g32 zrg_X6_init (fun q _ h2 h3 => oq q (znA (a := a) (i := 32) (p := 31) h2 (Nat.le_of_ble_eq_true rfl)))
  have g31 : va_P E.1 zcl [((a + 31), .inl (E.2 6, 2, .inr (.inr (.inr (.inr (va_up (fun _ => none) (Int32.toNatClampNeg (0 : Int32)) (some (a + 32))))))))] H25 := hN
  have hsz := hz1.trans hsz
  refine lv_dup hx hb dX9_init_96 rfl ?_
  refine lv_iconst (v := (1 : Int32)) hx hb dX9_init_97 (by decide) ?_
  refine zNew (ws := []) (C := RX6) (T := TX6) (N := 4) (ci := 6) zc hK (fun k q h => by simp at h) hS hsz uw6 tyX6 tyX6_ok kcl_9_37 kins_6 kinit_6 rfl [.int 0, .null, .null, .null] (fun j hj => match j, hj with | 0, _ => rfl | 1, _ => rfl | 2, _ => rfl | 3, _ => rfl | j + 4, hj => absurd hj (by omega)) (Nat.le_of_ble_eq_true rfl) (Nat.le_of_ble_eq_true rfl) dX9_init_98 (fun H26 hN o1 hz1 hS => ?_)
  have g0 := zkp g0 zRg_1 (fun q h1 _ _ => o1 q (Nat.lt_of_lt_of_eq h1 hsz))
  have g1 := zkp g1 zRg_1 (fun q h1 _ _ => o1 q (Nat.lt_of_lt_of_eq h1 hsz))
  have g2 := zkp g2 zRg_1 (fun q h1 _ _ => o1 q (Nat.lt_of_lt_of_eq h1 hsz))
  have g3 := zkp g3 zRg_1 (fun q h1 _ _ => o1 q (Nat.lt_of_lt_of_eq h1 hsz))
  have g4 := zkp g4 zrg_X2_init (fun q h1 _ _ => o1 q (Nat.lt_of_lt_of_eq h1 hsz))
  have g13 := zkp g13 zrg_X2_init (fun q h1 _ _ => o1 q (Nat.lt_of_lt_of_eq h1 hsz))
  have g22 := zkp g22 zRg_1 (fun q h1 _ _ => o1 q (Nat.lt_of_lt_of_eq h1 hsz))
  have g23 := zkp g23 zrg_X1_init (fun q h1 _ _ => o1 q (Nat.lt_of_lt_of_eq h1 hsz))
  have g27 := zkp g27 zrg_X1_init (fun q h1 _ _ => o1 q (Nat.lt_of_lt_of_eq h1 hsz))
  have g31 := zkp g31 zRg_1 (fun q h1 _ _ => o1 q (Nat.lt_of_lt_of_eq h1 hsz))
  have g32 := zkp g32 zrg_X6_init (fun q h1 _ _ => o1 q (Nat.lt_of_lt_of_eq h1 hsz))
  have g36 : va_P E.1 zcl [((a + 36), .inr (6, [.int 0, .null, .null, .null]))] H26 := hN
  have hsz : H26.size = a + 37 := hz1
  refine W.cs (cells' := 36) (slots' := 1176) rfl rfl ?_
  refine lv_dup hx hb dX9_init_101 rfl ?_
  refine zIc zc ky_X6_init kz_X6_init rfl km_9_39 (ci_X6_init l) (zIpre hK hO g36 hsz) hS (fun q (h : (a + 36) ≤ q) => Nat.le_trans (Nat.le_add_right a 36) h) hl.1 (Nat.le_of_ble_eq_true rfl) ⟨rfl, rfl⟩ ⟨Nat.le_of_ble_eq_true rfl, Nat.le_of_ble_eq_true rfl⟩ ⟨Nat.le_of_ble_eq_true rfl, Nat.le_of_ble_eq_true rfl⟩ dX9_init_102 (fun _ H27 locs _ hJ hk hS => ?_)
  have g0 := zkp g0 zRg_1 (fun q h1 _ h3 => hk q h1 (zge_n (a := a) (i := 1) (j := 36) h3 (Nat.le_of_ble_eq_true rfl)))
  have g1 := zkp g1 zRg_1 (fun q h1 _ h3 => hk q h1 (zge_n (a := a) (i := 2) (j := 36) h3 (Nat.le_of_ble_eq_true rfl)))
  have g2 := zkp g2 zRg_1 (fun q h1 _ h3 => hk q h1 (zge_n (a := a) (i := 3) (j := 36) h3 (Nat.le_of_ble_eq_true rfl)))
  have g3 := zkp g3 zRg_1 (fun q h1 _ h3 => hk q h1 (zge_n (a := a) (i := 4) (j := 36) h3 (Nat.le_of_ble_eq_true rfl)))
  have g4 := zkp g4 zrg_X2_init (fun q h1 _ h3 => hk q h1 (zge_n (a := a) (i := 13) (j := 36) h3 (Nat.le_of_ble_eq_true rfl)))
  have g13 := zkp g13 zrg_X2_init (fun q h1 _ h3 => hk q h1 (zge_n (a := a) (i := 22) (j := 36) h3 (Nat.le_of_ble_eq_true rfl)))
  have g22 := zkp g22 zRg_1 (fun q h1 _ h3 => hk q h1 (zge_n (a := a) (i := 23) (j := 36) h3 (Nat.le_of_ble_eq_true rfl)))
  have g23 := zkp g23 zrg_X1_init (fun q h1 _ h3 => hk q h1 (zge_n (a := a) (i := 27) (j := 36) h3 (Nat.le_of_ble_eq_true rfl)))
  have g27 := zkp g27 zrg_X1_init (fun q h1 _ h3 => hk q h1 (zge_n (a := a) (i := 31) (j := 36) h3 (Nat.le_of_ble_eq_true rfl)))
  have g31 := zkp g31 zRg_1 (fun q h1 _ h3 => hk q h1 (zge_n (a := a) (i := 32) (j := 36) h3 (Nat.le_of_ble_eq_true rfl)))
  have g32 := zkp g32 zrg_X6_init (fun q h1 _ h3 => hk q h1 (zge_n (a := a) (i := 36) (j := 36) h3 (Nat.le_of_ble_eq_true rfl)))
  have g36 := hJ.1
  have hsz : H27.size = a + 40 := hJ.2
  refine W.cs (cells' := 39) (slots' := 1206) rfl rfl ?_
  refine zAast (t := 6) (r := (RX6, TX6, 4)) zc hK g31 (zD1 (Nat.le_add_right a 31)) hS 0 0 rfl rfl g36 rfl rfl (by unfold vp_in; decide) dX9_init_105 (fun H28 locs hN oq hz1 hS => ?_)
  have g0 := zkp g0 zRg_1 (fun q _ h2 h3 => oq q (znB (a := a) (i := 1) (p := 31) h3 (Nat.le_of_ble_eq_true rfl)))
  have g1 := zkp g1 zRg_1 (fun q _ h2 h3 => oq q (znB (a := a) (i := 2) (p := 31) h3 (Nat.le_of_ble_eq_true rfl)))
  have g2 := zkp g2 zRg_1 (fun q _ h2 h3 => oq q (znB (a := a) (i := 3) (p := 31) h3 (Nat.le_of_ble_eq_true rfl)))
  have g3 := zkp g3 zRg_1 (fun q _ h2 h3 => oq q (znB (a := a) (i := 4) (p := 31) h3 (Nat.le_of_ble_eq_true rfl)))
  have g4 := zkp g4 zrg_X2_init (fun q _ h2 h3 => oq q (znB (a := a) (i := 13) (p := 31) h3 (Nat.le_of_ble_eq_true rfl)))
  have g13 := zkp g13 zrg_X2_init (fun q _ h2 h3 => oq q (znB (a := a) (i := 22) (p := 31) h3 (Nat.le_of_ble_eq_true rfl)))
  have g22 := zkp g22 zRg_1 (fun q _ h2 h3 => oq q (znB (a := a) (i := 23) (p := 31) h3 (Nat.le_of_ble_eq_true rfl)))
  have g23 := zkp g23 zrg_X1_init (fun q _ h2 h3 => oq q (znB (a := a) (i := 27) (p := 31) h3 (Nat.le_of_ble_eq_true rfl)))
  have g27 := zkp g27 zrg_X1_init (fun q _ h2 h3 => oq q (znB (a := a) (i := 31) (p := 31) h3 (Nat.le_of_ble_eq_true rfl)))
  have g32 := zkp g32 zrg_X6_init (fun q _ h2 h3 => oq q (znA (a := a) (i := 32) (p := 31) h2 (Nat.le_of_ble_eq_true rfl)))
  have g36 := zkp g36 zrg_X6_init (fun q _ h2 h3 => oq q (znA (a := a) (i := 36) (p := 31) h2 (Nat.le_of_ble_eq_true rfl)))
  have g31 : va_P E.1 zcl [((a + 31), .inl (E.2 6, 2, .inr (.inr (.inr (.inr (va_up (va_up (fun _ => none) (Int32.toNatClampNeg (0 : Int32)) (some (a + 32))) (Int32.toNatClampNeg (1 : Int32)) (some (a + 36))))))))] H28 := hN
  have hsz := hz1.trans hsz
  refine zPut (C := RX9) (T := TX9) (N := 9) (ci := 9) (v := .ref (a + 31)) (ty := .array (.object "DownhillSong$Sight")) zc hK g0 (zD1 (Nat.le_refl a)) hS uw9 tyX9 tyX9_ok nmX9 0 rfl rfl 7 (by decide) kf_9_40 (fun _ h9 => h9) (Or.inr ⟨rfl, hin, rfl⟩) (by decide +kernel) rfl rfl (Nat.le_of_ble_eq_true rfl) dX9_init_106 (fun H29 locs hN oq hz1 hS => ?_)
  have g1 := zkp g1 zRg_1 (fun q _ h2 h3 => oq q (znA (a := a) (i := 1) (p := 0) h2 (Nat.le_of_ble_eq_true rfl)))
  have g2 := zkp g2 zRg_1 (fun q _ h2 h3 => oq q (znA (a := a) (i := 2) (p := 0) h2 (Nat.le_of_ble_eq_true rfl)))
  have g3 := zkp g3 zRg_1 (fun q _ h2 h3 => oq q (znA (a := a) (i := 3) (p := 0) h2 (Nat.le_of_ble_eq_true rfl)))
  have g4 := zkp g4 zrg_X2_init (fun q _ h2 h3 => oq q (znA (a := a) (i := 4) (p := 0) h2 (Nat.le_of_ble_eq_true rfl)))
  have g13 := zkp g13 zrg_X2_init (fun q _ h2 h3 => oq q (znA (a := a) (i := 13) (p := 0) h2 (Nat.le_of_ble_eq_true rfl)))
  have g22 := zkp g22 zRg_1 (fun q _ h2 h3 => oq q (znA (a := a) (i := 22) (p := 0) h2 (Nat.le_of_ble_eq_true rfl)))
  have g23 := zkp g23 zrg_X1_init (fun q _ h2 h3 => oq q (znA (a := a) (i := 23) (p := 0) h2 (Nat.le_of_ble_eq_true rfl)))
  have g27 := zkp g27 zrg_X1_init (fun q _ h2 h3 => oq q (znA (a := a) (i := 27) (p := 0) h2 (Nat.le_of_ble_eq_true rfl)))
  have g31 := zkp g31 zRg_1 (fun q _ h2 h3 => oq q (znA (a := a) (i := 31) (p := 0) h2 (Nat.le_of_ble_eq_true rfl)))
  have g32 := zkp g32 zrg_X6_init (fun q _ h2 h3 => oq q (znA (a := a) (i := 32) (p := 0) h2 (Nat.le_of_ble_eq_true rfl)))
  have g36 := zkp g36 zrg_X6_init (fun q _ h2 h3 => oq q (znA (a := a) (i := 36) (p := 0) h2 (Nat.le_of_ble_eq_true rfl)))
  have g0 : va_P E.1 zcl [(a, .inr (9, [.ref (a + 1), .int 0, .int 0, .int (-1 : Int32), .ref (a + 2), .ref (a + 3), .ref (a + 22), .ref (a + 31), .null]))] H29 := hN
  have hsz := hz1.trans hsz
  refine lv_aload_n hx hb dX9_init_109 rfl (lv_at hl 0 rfl) ?_
  refine lv_iconst (v := (2 : Int32)) hx hb dX9_init_110 (by decide) ?_
  refine zNewq (ws := []) (t := 7) (N := 2) zc hK (hO RX0 (by simp [zover])) (fun k q h => by simp at h) hS hsz kcl_9_44 rfl (by decide) (by decide) (by decide) (Nat.le_of_ble_eq_true rfl) (Nat.le_of_ble_eq_true rfl) dX9_init_111 (fun H30 hN o1 hz1 hS => ?_)
  have g0 := zkp g0 zRg_1 (fun q h1 _ _ => o1 q (Nat.lt_of_lt_of_eq h1 hsz))
  have g1 := zkp g1 zRg_1 (fun q h1 _ _ => o1 q (Nat.lt_of_lt_of_eq h1 hsz))
  have g2 := zkp g2 zRg_1 (fun q h1 _ _ => o1 q (Nat.lt_of_lt_of_eq h1 hsz))
  have g3 := zkp g3 zRg_1 (fun q h1 _ _ => o1 q (Nat.lt_of_lt_of_eq h1 hsz))
  have g4 := zkp g4 zrg_X2_init (fun q h1 _ _ => o1 q (Nat.lt_of_lt_of_eq h1 hsz))
  have g13 := zkp g13 zrg_X2_init (fun q h1 _ _ => o1 q (Nat.lt_of_lt_of_eq h1 hsz))
  have g22 := zkp g22 zRg_1 (fun q h1 _ _ => o1 q (Nat.lt_of_lt_of_eq h1 hsz))
  have g23 := zkp g23 zrg_X1_init (fun q h1 _ _ => o1 q (Nat.lt_of_lt_of_eq h1 hsz))
  have g27 := zkp g27 zrg_X1_init (fun q h1 _ _ => o1 q (Nat.lt_of_lt_of_eq h1 hsz))
  have g31 := zkp g31 zRg_1 (fun q h1 _ _ => o1 q (Nat.lt_of_lt_of_eq h1 hsz))
  have g32 := zkp g32 zrg_X6_init (fun q h1 _ _ => o1 q (Nat.lt_of_lt_of_eq h1 hsz))
  have g36 := zkp g36 zrg_X6_init (fun q h1 _ _ => o1 q (Nat.lt_of_lt_of_eq h1 hsz))
  have g40 : va_P E.1 zcl [((a + 40), .inl (E.2 7, 2, .inr (.inr (.inr (.inr (fun _ => none))))))] H30 := hN
  have hsz : H30.size = a + 41 := hz1
  refine W.cs (cells' := 40) (slots' := 1208) rfl rfl ?_
  refine lv_dup hx hb dX9_init_114 rfl ?_
  refine lv_iconst (v := (0 : Int32)) hx hb dX9_init_115 (by decide) ?_
  refine zNew (ws := []) (C := RX0) (T := TX0) (N := 4) (ci := 0) zc hK (fun k q h => by simp at h) hS hsz uw0 tyX0 tyX0_ok kcl_9_44 kins_0 kinit_0 rfl [.int 0, .int 0, .null, .null] (fun j hj => match j, hj with | 0, _ => rfl | 1, _ => rfl | 2, _ => rfl | 3, _ => rfl | j + 4, hj => absurd hj (by omega)) (Nat.le_of_ble_eq_true rfl) (Nat.le_of_ble_eq_true rfl) dX9_init_116 (fun H31 hN o1 hz1 hS => ?_)
  have g0 := zkp g0 zRg_1 (fun q h1 _ _ => o1 q (Nat.lt_of_lt_of_eq h1 hsz))
  have g1 := zkp g1 zRg_1 (fun q h1 _ _ => o1 q (Nat.lt_of_lt_of_eq h1 hsz))
  have g2 := zkp g2 zRg_1 (fun q h1 _ _ => o1 q (Nat.lt_of_lt_of_eq h1 hsz))
  have g3 := zkp g3 zRg_1 (fun q h1 _ _ => o1 q (Nat.lt_of_lt_of_eq h1 hsz))
  have g4 := zkp g4 zrg_X2_init (fun q h1 _ _ => o1 q (Nat.lt_of_lt_of_eq h1 hsz))
  have g13 := zkp g13 zrg_X2_init (fun q h1 _ _ => o1 q (Nat.lt_of_lt_of_eq h1 hsz))
  have g22 := zkp g22 zRg_1 (fun q h1 _ _ => o1 q (Nat.lt_of_lt_of_eq h1 hsz))
  have g23 := zkp g23 zrg_X1_init (fun q h1 _ _ => o1 q (Nat.lt_of_lt_of_eq h1 hsz))
  have g27 := zkp g27 zrg_X1_init (fun q h1 _ _ => o1 q (Nat.lt_of_lt_of_eq h1 hsz))
  have g31 := zkp g31 zRg_1 (fun q h1 _ _ => o1 q (Nat.lt_of_lt_of_eq h1 hsz))
  have g32 := zkp g32 zrg_X6_init (fun q h1 _ _ => o1 q (Nat.lt_of_lt_of_eq h1 hsz))
  have g36 := zkp g36 zrg_X6_init (fun q h1 _ _ => o1 q (Nat.lt_of_lt_of_eq h1 hsz))
  have g40 := zkp g40 zRg_1 (fun q h1 _ _ => o1 q (Nat.lt_of_lt_of_eq h1 hsz))
  have g41 : va_P E.1 zcl [((a + 41), .inr (0, [.int 0, .int 0, .null, .null]))] H31 := hN
  have hsz : H31.size = a + 42 := hz1
  refine W.cs (cells' := 41) (slots' := 1212) rfl rfl ?_
  refine lv_dup hx hb dX9_init_119 rfl ?_
  refine zIc zc ky_X0_init kz_X0_init rfl km_9_46 (ci_X0_init l) (zIpre hK hO g41 hsz) hS (fun q (h : (a + 41) ≤ q) => Nat.le_trans (Nat.le_add_right a 41) h) hl.1 (Nat.le_of_ble_eq_true rfl) ⟨rfl, rfl⟩ ⟨Nat.le_of_ble_eq_true rfl, Nat.le_of_ble_eq_true rfl⟩ ⟨Nat.le_of_ble_eq_true rfl, Nat.le_of_ble_eq_true rfl⟩ dX9_init_120 (fun _ H32 locs _ hJ hk hS => ?_)
  have g0 := zkp g0 zRg_1 (fun q h1 _ h3 => hk q h1 (zge_n (a := a) (i := 1) (j := 41) h3 (Nat.le_of_ble_eq_true rfl)))
  have g1 := zkp g1 zRg_1 (fun q h1 _ h3 => hk q h1 (zge_n (a := a) (i := 2) (j := 41) h3 (Nat.le_of_ble_eq_true rfl)))
  have g2 := zkp g2 zRg_1 (fun q h1 _ h3 => hk q h1 (zge_n (a := a) (i := 3) (j := 41) h3 (Nat.le_of_ble_eq_true rfl)))
  have g3 := zkp g3 zRg_1 (fun q h1 _ h3 => hk q h1 (zge_n (a := a) (i := 4) (j := 41) h3 (Nat.le_of_ble_eq_true rfl)))
  have g4 := zkp g4 zrg_X2_init (fun q h1 _ h3 => hk q h1 (zge_n (a := a) (i := 13) (j := 41) h3 (Nat.le_of_ble_eq_true rfl)))
  have g13 := zkp g13 zrg_X2_init (fun q h1 _ h3 => hk q h1 (zge_n (a := a) (i := 22) (j := 41) h3 (Nat.le_of_ble_eq_true rfl)))
  have g22 := zkp g22 zRg_1 (fun q h1 _ h3 => hk q h1 (zge_n (a := a) (i := 23) (j := 41) h3 (Nat.le_of_ble_eq_true rfl)))
  have g23 := zkp g23 zrg_X1_init (fun q h1 _ h3 => hk q h1 (zge_n (a := a) (i := 27) (j := 41) h3 (Nat.le_of_ble_eq_true rfl)))
  have g27 := zkp g27 zrg_X1_init (fun q h1 _ h3 => hk q h1 (zge_n (a := a) (i := 31) (j := 41) h3 (Nat.le_of_ble_eq_true rfl)))
  have g31 := zkp g31 zRg_1 (fun q h1 _ h3 => hk q h1 (zge_n (a := a) (i := 32) (j := 41) h3 (Nat.le_of_ble_eq_true rfl)))
  have g32 := zkp g32 zrg_X6_init (fun q h1 _ h3 => hk q h1 (zge_n (a := a) (i := 36) (j := 41) h3 (Nat.le_of_ble_eq_true rfl)))
  have g36 := zkp g36 zrg_X6_init (fun q h1 _ h3 => hk q h1 (zge_n (a := a) (i := 40) (j := 41) h3 (Nat.le_of_ble_eq_true rfl)))
  have g40 := zkp g40 zRg_1 (fun q h1 _ h3 => hk q h1 (zge_n (a := a) (i := 41) (j := 41) h3 (Nat.le_of_ble_eq_true rfl)))
  have g41 := hJ.1
  have hsz : H32.size = a + 44 := hJ.2
  refine W.cs (cells' := 43) (slots' := 1230) rfl rfl ?_
  refine zAast (t := 7) (r := (RX0, TX0, 4)) zc hK g40 (zD1 (Nat.le_add_right a 40)) hS 0 0 rfl rfl g41 rfl rfl (by unfold vp_in; decide) dX9_init_123 (fun H33 locs hN oq hz1 hS => ?_)
  have g0 := zkp g0 zRg_1 (fun q _ h2 h3 => oq q (znB (a := a) (i := 1) (p := 40) h3 (Nat.le_of_ble_eq_true rfl)))
  have g1 := zkp g1 zRg_1 (fun q _ h2 h3 => oq q (znB (a := a) (i := 2) (p := 40) h3 (Nat.le_of_ble_eq_true rfl)))
  have g2 := zkp g2 zRg_1 (fun q _ h2 h3 => oq q (znB (a := a) (i := 3) (p := 40) h3 (Nat.le_of_ble_eq_true rfl)))
  have g3 := zkp g3 zRg_1 (fun q _ h2 h3 => oq q (znB (a := a) (i := 4) (p := 40) h3 (Nat.le_of_ble_eq_true rfl)))
  have g4 := zkp g4 zrg_X2_init (fun q _ h2 h3 => oq q (znB (a := a) (i := 13) (p := 40) h3 (Nat.le_of_ble_eq_true rfl)))
  have g13 := zkp g13 zrg_X2_init (fun q _ h2 h3 => oq q (znB (a := a) (i := 22) (p := 40) h3 (Nat.le_of_ble_eq_true rfl)))
  have g22 := zkp g22 zRg_1 (fun q _ h2 h3 => oq q (znB (a := a) (i := 23) (p := 40) h3 (Nat.le_of_ble_eq_true rfl)))
  have g23 := zkp g23 zrg_X1_init (fun q _ h2 h3 => oq q (znB (a := a) (i := 27) (p := 40) h3 (Nat.le_of_ble_eq_true rfl)))
  have g27 := zkp g27 zrg_X1_init (fun q _ h2 h3 => oq q (znB (a := a) (i := 31) (p := 40) h3 (Nat.le_of_ble_eq_true rfl)))
  have g31 := zkp g31 zRg_1 (fun q _ h2 h3 => oq q (znB (a := a) (i := 32) (p := 40) h3 (Nat.le_of_ble_eq_true rfl)))
  have g32 := zkp g32 zrg_X6_init (fun q _ h2 h3 => oq q (znB (a := a) (i := 36) (p := 40) h3 (Nat.le_of_ble_eq_true rfl)))
  have g36 := zkp g36 zrg_X6_init (fun q _ h2 h3 => oq q (znB (a := a) (i := 40) (p := 40) h3 (Nat.le_of_ble_eq_true rfl)))
  have g41 := zkp g41 zrg_X0_init (fun q _ h2 h3 => oq q (znA (a := a) (i := 41) (p := 40) h2 (Nat.le_of_ble_eq_true rfl)))
  have g40 : va_P E.1 zcl [((a + 40), .inl (E.2 7, 2, .inr (.inr (.inr (.inr (va_up (fun _ => none) (Int32.toNatClampNeg (0 : Int32)) (some (a + 41))))))))] H33 := hN
  have hsz := hz1.trans hsz
  refine lv_dup hx hb dX9_init_124 rfl ?_
  refine lv_iconst (v := (1 : Int32)) hx hb dX9_init_125 (by decide) ?_
  refine zNew (ws := []) (C := RX0) (T := TX0) (N := 4) (ci := 0) zc hK (fun k q h => by simp at h) hS hsz uw0 tyX0 tyX0_ok kcl_9_44 kins_0 kinit_0 rfl [.int 0, .int 0, .null, .null] (fun j hj => match j, hj with | 0, _ => rfl | 1, _ => rfl | 2, _ => rfl | 3, _ => rfl | j + 4, hj => absurd hj (by omega)) (Nat.le_of_ble_eq_true rfl) (Nat.le_of_ble_eq_true rfl) dX9_init_126 (fun H34 hN o1 hz1 hS => ?_)
  have g0 := zkp g0 zRg_1 (fun q h1 _ _ => o1 q (Nat.lt_of_lt_of_eq h1 hsz))
  have g1 := zkp g1 zRg_1 (fun q h1 _ _ => o1 q (Nat.lt_of_lt_of_eq h1 hsz))
  have g2 := zkp g2 zRg_1 (fun q h1 _ _ => o1 q (Nat.lt_of_lt_of_eq h1 hsz))
  have g3 := zkp g3 zRg_1 (fun q h1 _ _ => o1 q (Nat.lt_of_lt_of_eq h1 hsz))
  have g4 := zkp g4 zrg_X2_init (fun q h1 _ _ => o1 q (Nat.lt_of_lt_of_eq h1 hsz))
  have g13 := zkp g13 zrg_X2_init (fun q h1 _ _ => o1 q (Nat.lt_of_lt_of_eq h1 hsz))
  have g22 := zkp g22 zRg_1 (fun q h1 _ _ => o1 q (Nat.lt_of_lt_of_eq h1 hsz))
  have g23 := zkp g23 zrg_X1_init (fun q h1 _ _ => o1 q (Nat.lt_of_lt_of_eq h1 hsz))
  have g27 := zkp g27 zrg_X1_init (fun q h1 _ _ => o1 q (Nat.lt_of_lt_of_eq h1 hsz))
  have g31 := zkp g31 zRg_1 (fun q h1 _ _ => o1 q (Nat.lt_of_lt_of_eq h1 hsz))
  have g32 := zkp g32 zrg_X6_init (fun q h1 _ _ => o1 q (Nat.lt_of_lt_of_eq h1 hsz))
  have g36 := zkp g36 zrg_X6_init (fun q h1 _ _ => o1 q (Nat.lt_of_lt_of_eq h1 hsz))
  have g40 := zkp g40 zRg_1 (fun q h1 _ _ => o1 q (Nat.lt_of_lt_of_eq h1 hsz))
  have g41 := zkp g41 zrg_X0_init (fun q h1 _ _ => o1 q (Nat.lt_of_lt_of_eq h1 hsz))
  have g44 : va_P E.1 zcl [((a + 44), .inr (0, [.int 0, .int 0, .null, .null]))] H34 := hN
  have hsz : H34.size = a + 45 := hz1
  refine W.cs (cells' := 44) (slots' := 1234) rfl rfl ?_
  refine lv_dup hx hb dX9_init_129 rfl ?_
  refine zIc zc ky_X0_init kz_X0_init rfl km_9_46 (ci_X0_init l) (zIpre hK hO g44 hsz) hS (fun q (h : (a + 44) ≤ q) => Nat.le_trans (Nat.le_add_right a 44) h) hl.1 (Nat.le_of_ble_eq_true rfl) ⟨rfl, rfl⟩ ⟨Nat.le_of_ble_eq_true rfl, Nat.le_of_ble_eq_true rfl⟩ ⟨Nat.le_of_ble_eq_true rfl, Nat.le_of_ble_eq_true rfl⟩ dX9_init_130 (fun _ H35 locs _ hJ hk hS => ?_)
  have g0 := zkp g0 zRg_1 (fun q h1 _ h3 => hk q h1 (zge_n (a := a) (i := 1) (j := 44) h3 (Nat.le_of_ble_eq_true rfl)))
  have g1 := zkp g1 zRg_1 (fun q h1 _ h3 => hk q h1 (zge_n (a := a) (i := 2) (j := 44) h3 (Nat.le_of_ble_eq_true rfl)))
  have g2 := zkp g2 zRg_1 (fun q h1 _ h3 => hk q h1 (zge_n (a := a) (i := 3) (j := 44) h3 (Nat.le_of_ble_eq_true rfl)))
  have g3 := zkp g3 zRg_1 (fun q h1 _ h3 => hk q h1 (zge_n (a := a) (i := 4) (j := 44) h3 (Nat.le_of_ble_eq_true rfl)))
  have g4 := zkp g4 zrg_X2_init (fun q h1 _ h3 => hk q h1 (zge_n (a := a) (i := 13) (j := 44) h3 (Nat.le_of_ble_eq_true rfl)))
  have g13 := zkp g13 zrg_X2_init (fun q h1 _ h3 => hk q h1 (zge_n (a := a) (i := 22) (j := 44) h3 (Nat.le_of_ble_eq_true rfl)))
  have g22 := zkp g22 zRg_1 (fun q h1 _ h3 => hk q h1 (zge_n (a := a) (i := 23) (j := 44) h3 (Nat.le_of_ble_eq_true rfl)))
  have g23 := zkp g23 zrg_X1_init (fun q h1 _ h3 => hk q h1 (zge_n (a := a) (i := 27) (j := 44) h3 (Nat.le_of_ble_eq_true rfl)))
  have g27 := zkp g27 zrg_X1_init (fun q h1 _ h3 => hk q h1 (zge_n (a := a) (i := 31) (j := 44) h3 (Nat.le_of_ble_eq_true rfl)))
  have g31 := zkp g31 zRg_1 (fun q h1 _ h3 => hk q h1 (zge_n (a := a) (i := 32) (j := 44) h3 (Nat.le_of_ble_eq_true rfl)))
  have g32 := zkp g32 zrg_X6_init (fun q h1 _ h3 => hk q h1 (zge_n (a := a) (i := 36) (j := 44) h3 (Nat.le_of_ble_eq_true rfl)))
  have g36 := zkp g36 zrg_X6_init (fun q h1 _ h3 => hk q h1 (zge_n (a := a) (i := 40) (j := 44) h3 (Nat.le_of_ble_eq_true rfl)))
  have g40 := zkp g40 zRg_1 (fun q h1 _ h3 => hk q h1 (zge_n (a := a) (i := 41) (j := 44) h3 (Nat.le_of_ble_eq_true rfl)))
  have g41 := zkp g41 zrg_X0_init (fun q h1 _ h3 => hk q h1 (zge_n (a := a) (i := 44) (j := 44) h3 (Nat.le_of_ble_eq_true rfl)))
  have g44 := hJ.1
  have hsz : H35.size = a + 47 := hJ.2
  refine W.cs (cells' := 46) (slots' := 1252) rfl rfl ?_
  refine zAast (t := 7) (r := (RX0, TX0, 4)) zc hK g40 (zD1 (Nat.le_add_right a 40)) hS 0 0 rfl rfl g44 rfl rfl (by unfold vp_in; decide) dX9_init_133 (fun H36 locs hN oq hz1 hS => ?_)
  have g0 := zkp g0 zRg_1 (fun q _ h2 h3 => oq q (znB (a := a) (i := 1) (p := 40) h3 (Nat.le_of_ble_eq_true rfl)))
  have g1 := zkp g1 zRg_1 (fun q _ h2 h3 => oq q (znB (a := a) (i := 2) (p := 40) h3 (Nat.le_of_ble_eq_true rfl)))
  have g2 := zkp g2 zRg_1 (fun q _ h2 h3 => oq q (znB (a := a) (i := 3) (p := 40) h3 (Nat.le_of_ble_eq_true rfl)))
  have g3 := zkp g3 zRg_1 (fun q _ h2 h3 => oq q (znB (a := a) (i := 4) (p := 40) h3 (Nat.le_of_ble_eq_true rfl)))
  have g4 := zkp g4 zrg_X2_init (fun q _ h2 h3 => oq q (znB (a := a) (i := 13) (p := 40) h3 (Nat.le_of_ble_eq_true rfl)))
  have g13 := zkp g13 zrg_X2_init (fun q _ h2 h3 => oq q (znB (a := a) (i := 22) (p := 40) h3 (Nat.le_of_ble_eq_true rfl)))
  have g22 := zkp g22 zRg_1 (fun q _ h2 h3 => oq q (znB (a := a) (i := 23) (p := 40) h3 (Nat.le_of_ble_eq_true rfl)))
  have g23 := zkp g23 zrg_X1_init (fun q _ h2 h3 => oq q (znB (a := a) (i := 27) (p := 40) h3 (Nat.le_of_ble_eq_true rfl)))
  have g27 := zkp g27 zrg_X1_init (fun q _ h2 h3 => oq q (znB (a := a) (i := 31) (p := 40) h3 (Nat.le_of_ble_eq_true rfl)))
  have g31 := zkp g31 zRg_1 (fun q _ h2 h3 => oq q (znB (a := a) (i := 32) (p := 40) h3 (Nat.le_of_ble_eq_true rfl)))
  have g32 := zkp g32 zrg_X6_init (fun q _ h2 h3 => oq q (znB (a := a) (i := 36) (p := 40) h3 (Nat.le_of_ble_eq_true rfl)))
  have g36 := zkp g36 zrg_X6_init (fun q _ h2 h3 => oq q (znB (a := a) (i := 40) (p := 40) h3 (Nat.le_of_ble_eq_true rfl)))
  have g41 := zkp g41 zrg_X0_init (fun q _ h2 h3 => oq q (znA (a := a) (i := 41) (p := 40) h2 (Nat.le_of_ble_eq_true rfl)))
  have g44 := zkp g44 zrg_X0_init (fun q _ h2 h3 => oq q (znA (a := a) (i := 44) (p := 40) h2 (Nat.le_of_ble_eq_true rfl)))
  have g40 : va_P E.1 zcl [((a + 40), .inl (E.2 7, 2, .inr (.inr (.inr (.inr (va_up (va_up (fun _ => none) (Int32.toNatClampNeg (0 : Int32)) (some (a + 41))) (Int32.toNatClampNeg (1 : Int32)) (some (a + 44))))))))] H36 := hN
  have hsz := hz1.trans hsz
  refine zPut (C := RX9) (T := TX9) (N := 9) (ci := 9) (v := .ref (a + 40)) (ty := .array (.object "DownhillSong$Choir")) zc hK g0 (zD1 (Nat.le_refl a)) hS uw9 tyX9 tyX9_ok nmX9 0 rfl rfl 8 (by decide) kf_9_47 (fun _ h9 => h9) (Or.inr ⟨rfl, hin, rfl⟩) (by decide +kernel) rfl rfl (Nat.le_of_ble_eq_true rfl) dX9_init_134 (fun H37 locs hN oq hz1 hS => ?_)
  have g1 := zkp g1 zRg_1 (fun q _ h2 h3 => oq q (znA (a := a) (i := 1) (p := 0) h2 (Nat.le_of_ble_eq_true rfl)))
  have g2 := zkp g2 zRg_1 (fun q _ h2 h3 => oq q (znA (a := a) (i := 2) (p := 0) h2 (Nat.le_of_ble_eq_true rfl)))
  have g3 := zkp g3 zRg_1 (fun q _ h2 h3 => oq q (znA (a := a) (i := 3) (p := 0) h2 (Nat.le_of_ble_eq_true rfl)))
  have g4 := zkp g4 zrg_X2_init (fun q _ h2 h3 => oq q (znA (a := a) (i := 4) (p := 0) h2 (Nat.le_of_ble_eq_true rfl)))
  have g13 := zkp g13 zrg_X2_init (fun q _ h2 h3 => oq q (znA (a := a) (i := 13) (p := 0) h2 (Nat.le_of_ble_eq_true rfl)))
  have g22 := zkp g22 zRg_1 (fun q _ h2 h3 => oq q (znA (a := a) (i := 22) (p := 0) h2 (Nat.le_of_ble_eq_true rfl)))
  have g23 := zkp g23 zrg_X1_init (fun q _ h2 h3 => oq q (znA (a := a) (i := 23) (p := 0) h2 (Nat.le_of_ble_eq_true rfl)))
  have g27 := zkp g27 zrg_X1_init (fun q _ h2 h3 => oq q (znA (a := a) (i := 27) (p := 0) h2 (Nat.le_of_ble_eq_true rfl)))
  have g31 := zkp g31 zRg_1 (fun q _ h2 h3 => oq q (znA (a := a) (i := 31) (p := 0) h2 (Nat.le_of_ble_eq_true rfl)))
  have g32 := zkp g32 zrg_X6_init (fun q _ h2 h3 => oq q (znA (a := a) (i := 32) (p := 0) h2 (Nat.le_of_ble_eq_true rfl)))
  have g36 := zkp g36 zrg_X6_init (fun q _ h2 h3 => oq q (znA (a := a) (i := 36) (p := 0) h2 (Nat.le_of_ble_eq_true rfl)))
  have g40 := zkp g40 zRg_1 (fun q _ h2 h3 => oq q (znA (a := a) (i := 40) (p := 0) h2 (Nat.le_of_ble_eq_true rfl)))
  have g41 := zkp g41 zrg_X0_init (fun q _ h2 h3 => oq q (znA (a := a) (i := 41) (p := 0) h2 (Nat.le_of_ble_eq_true rfl)))
  have g44 := zkp g44 zrg_X0_init (fun q _ h2 h3 => oq q (znA (a := a) (i := 44) (p := 0) h2 (Nat.le_of_ble_eq_true rfl)))
  have g0 : va_P E.1 zcl [(a, .inr (9, [.ref (a + 1), .int 0, .int 0, .int (-1 : Int32), .ref (a + 2), .ref (a + 3), .ref (a + 22), .ref (a + 31), .ref (a + 40)]))] H37 := hN
  have hsz := hz1.trans hsz
  have g3 : va_P E.1 zcl [((a + 3), .inl (E.2 4, 2, .inr (.inr (.inr (.inr (fun k => if k = 0 then some (a + 4) else some (a + 13)))))))] H37 := by
    refine zP1 ?_
    show H37[(a + 3)]? = some (vp_cell _ _)
    refine (g3 0 _ rfl : _).trans (congrArg some (zarr_q ?_))
    intro j hj
    match j, hj with
    | 0, _ => rfl
    | 1, _ => rfl
  have g22 : va_P E.1 zcl [((a + 22), .inl (E.2 5, 2, .inr (.inr (.inr (.inr (fun k => if k = 0 then some (a + 23) else some (a + 27)))))))] H37 := by
    refine zP1 ?_
    show H37[(a + 22)]? = some (vp_cell _ _)
    refine (g22 0 _ rfl : _).trans (congrArg some (zarr_q ?_))
    intro j hj
    match j, hj with
    | 0, _ => rfl
    | 1, _ => rfl
  have g31 : va_P E.1 zcl [((a + 31), .inl (E.2 6, 2, .inr (.inr (.inr (.inr (fun k => if k = 0 then some (a + 32) else some (a + 36)))))))] H37 := by
    refine zP1 ?_
    show H37[(a + 31)]? = some (vp_cell _ _)
    refine (g31 0 _ rfl : _).trans (congrArg some (zarr_q ?_))
    intro j hj
    match j, hj with
    | 0, _ => rfl
    | 1, _ => rfl
  have g40 : va_P E.1 zcl [((a + 40), .inl (E.2 7, 2, .inr (.inr (.inr (.inr (fun k => if k = 0 then some (a + 41) else some (a + 44)))))))] H37 := by
    refine zP1 ?_
    show H37[(a + 40)]? = some (vp_cell _ _)
    refine (g40 0 _ rfl : _).trans (congrArg some (zarr_q ?_))
    intro j hj
    match j, hj with
    | 0, _ => rfl
    | 1, _ => rfl
  exact zIret (post := fun _ => True) (B := zJ E a 47 ([(a, .inr (9, [.ref (a + 1), .int 0, .int 0, .int (-1 : Int32), .ref (a + 2), .ref (a + 3), .ref (a + 22), .ref (a + 31), .ref (a + 40)]))] ++ ([((a + 1), .inl (E.2 0, 600, .inl (fun _ => 0)))] ++ ([((a + 2), .inl (E.2 1, 4, .inl (fun _ => 0)))] ++ ([((a + 3), .inl (E.2 4, 2, .inr (.inr (.inr (.inr (fun k => if k = 0 then some (a + 4) else some (a + 13)))))))] ++ (zb_X2_init E (a + 4) ++ (zb_X2_init E (a + 13) ++ ([((a + 22), .inl (E.2 5, 2, .inr (.inr (.inr (.inr (fun k => if k = 0 then some (a + 23) else some (a + 27)))))))] ++ (zb_X1_init E (a + 23) ++ (zb_X1_init E (a + 27) ++ ([((a + 31), .inl (E.2 6, 2, .inr (.inr (.inr (.inr (fun k => if k = 0 then some (a + 32) else some (a + 36)))))))] ++ (zb_X6_init E (a + 32) ++ (zb_X6_init E (a + 36) ++ ([((a + 40), .inl (E.2 7, 2, .inr (.inr (.inr (.inr (fun k => if k = 0 then some (a + 41) else some (a + 44)))))))] ++ (zb_X0_init E (a + 41) ++ (zb_X0_init E (a + 44))))))))))))))))) () zc hS trivial ⟨(va_P.app g0 (va_P.app g1 (va_P.app g2 (va_P.app g3 (va_P.app g4 (va_P.app g13 (va_P.app g22 (va_P.app g23 (va_P.app g27 (va_P.app g31 (va_P.app g32 (va_P.app g36 (va_P.app g40 (va_P.app g41 g44)))))))))))))), hsz⟩ dX9_init_137
end
section
abbrev rmi_X4_init : Room := { frames := 2, cells := 22, slots := 923, locals := 40 }
abbrev zb_X4_init (E : zE) (a : Nat) : va_W := (([(a, .inr (4, [.ref (a + 1), .ref (a + 10), .ref (a + 14), .ref (a + 18), .int 0, .int (-1 : Int32), .ref (a + 21), .ref (a + 22), .int 0, .int 0, .int 0, .int 0, .int 0, .int 0, .int 0]))] : va_W) ++ ((zb_X2_init E (a + 1) : va_W) ++ ((zb_X1_init E (a + 10) : va_W) ++ ((zb_X6_init E (a + 14) : va_W) ++ ((zb_X0_init E (a + 18) : va_W) ++ (([((a + 21), .inl (E.2 1, 3, .inl (fun _ => 0)))] : va_W) ++ (([((a + 22), .inl (E.2 0, 600, .inl (fun _ => 0)))] : va_W))))))))
theorem zrg_X4_init {E : zE} {a : Nat} : zRg (zb_X4_init E a) a (a + 23) := by
  exact ((zRg_1).mono (by omega) (by omega)).app (((zrg_X2_init).mono (by omega) (by omega)).app (((zrg_X1_init).mono (by omega) (by omega)).app (((zrg_X6_init).mono (by omega) (by omega)).app (((zrg_X0_init).mono (by omega) (by omega)).app (((zRg_1).mono (by omega) (by omega)).app ((zRg_1).mono (by omega) (by omega)))))))
set_option maxRecDepth 40000 in
set_option maxHeartbeats 4000000 in
theorem ci_X4_init (l : Launch) {E : zE} {a : Nat} : Met l yX4_init (Cond.code yX4_init cX4_init 1 none :: zb) rmi_X4_init (va_Pc [.ref a] (zI E a 4 [.null, .null, .null, .null, .int 0, .int 0, .null, .null, .int 0, .int 0, .int 0, .int 0, .int 0, .int 0, .int 0])) (zQv (S := Unit) (fun _ => True) (zJ E a 23 (zb_X4_init E a)) (fun q => a ≤ q)) 22 923 (fun q => a ≤ q) := by
  refine Met.ofW (cc := cX4_init) (maxL := 1) (ret := none) (by decide) rfl ?_
  intro p e s m args below meth c s₁ B hml hv
  obtain ⟨rfl, hsz, g0, hK, hO⟩ := hv
  have zc := zc_of B hml
  have hx := zc.1
  have hb := zc.2.1
  have hz := zc.2.2.2.2.1
  have hin : meth.name = "<init>" := (name_of_methodNamed B.named B.method).1
  have hS : va_S (fun q => a ≤ q) s.heap s.heap [] := va_S.rf
  have hl := lv_entry ([.ref a]) (n := 1) (Nat.le_of_ble_eq_true rfl)
  rw [lg_entry_eq]
  generalize (lg_sl ([.ref a]) ++ List.replicate (1 - (lg_sl ([.ref a])).length) Slot.unset).toArray = ls at hl ⊢
  have hl : lv_has ls 1 [(0, .ref a)] := hl
  refine lv_aload_n hx hb dX4_init_0 rfl (lv_at hl 0 rfl) ?_
  refine W.objInit hx hb zc.2.2.2.1 (hz _ km_4_3) (hz _ k_oi) (hz _ k_oc) rfl (by rw [zc.2.2.1]; exact hl.1) rfl dX4_init_1 (Nat.le_of_ble_eq_true rfl) (Nat.le_of_ble_eq_true rfl) ?_
  refine W.eq (g2 := F0 m 4 ls []) rfl ?_
  refine lv_aload_n hx hb dX4_init_4 rfl (lv_at hl 0 rfl) ?_
  refine zNew (ws := []) (C := RX2) (T := TX2) (N := 15) (ci := 2) zc hK (fun k q h => by simp at h) hS hsz uw2 tyX2 tyX2_ok kcl_4_9 kins_2 kinit_2 rfl [.int 0, .int 0, .int 0, .int 0, .int 0, .int 0, .int 0, .null, .null, .null, .null, .null, .null, .null, .null] (fun j hj => match j, hj with | 0, _ => rfl | 1, _ => rfl | 2, _ => rfl | 3, _ => rfl | 4, _ => rfl | 5, _ => rfl | 6, _ => rfl | 7, _ => rfl | 8, _ => rfl | 9, _ => rfl | 10, _ => rfl | 11, _ => rfl | 12, _ => rfl | 13, _ => rfl | 14, _ => rfl | j + 15, hj => absurd hj (by omega)) (Nat.le_of_ble_eq_true rfl) (Nat.le_of_ble_eq_true rfl) dX4_init_5 (fun H1 hN o1 hz1 hS => ?_)
  have g0 := zkp g0 zRg_1 (fun q h1 _ _ => o1 q (Nat.lt_of_lt_of_eq h1 hsz))
  have g1 : va_P E.1 zcl [((a + 1), .inr (2, [.int 0, .int 0, .int 0, .int 0, .int 0, .int 0, .int 0, .null, .null, .null, .null, .null, .null, .null, .null]))] H1 := hN
  have hsz : H1.size = a + 2 := hz1
  refine W.cs (cells' := 1) (slots' := 15) rfl rfl ?_
  refine lv_dup hx hb dX4_init_8 rfl ?_
  refine zIc zc ky_X2_init kz_X2_init rfl km_4_11 (ci_X2_init l) (zIpre hK hO g1 hsz) hS (fun q (h : (a + 1) ≤ q) => Nat.le_trans (Nat.le_add_right a 1) h) hl.1 (Nat.le_of_ble_eq_true rfl) ⟨rfl, rfl⟩ ⟨Nat.le_of_ble_eq_true rfl, Nat.le_of_ble_eq_true rfl⟩ ⟨Nat.le_of_ble_eq_true rfl, Nat.le_of_ble_eq_true rfl⟩ dX4_init_9 (fun _ H2 locs _ hJ hk hS => ?_)
  have g0 := zkp g0 zRg_1 (fun q h1 _ h3 => hk q h1 (zge_n (a := a) (i := 1) (j := 1) h3 (Nat.le_of_ble_eq_true rfl)))
  have g1 := hJ.1
  have hsz : H2.size = a + 10 := hJ.2
  refine W.cs (cells' := 9) (slots' := 140) rfl rfl ?_
  refine zPut (C := RX4) (T := TX4) (N := 15) (ci := 4) (v := .ref (a + 1)) (ty := .object "DownhillSong$Land") zc hK g0 (zD1 (Nat.le_refl a)) hS uw4 tyX4 tyX4_ok nmX4 0 rfl rfl 0 (by decide) kf_4_12 (fun _ h9 => h9) (Or.inr ⟨rfl, hin, rfl⟩) (by decide +kernel) rfl rfl (Nat.le_of_ble_eq_true rfl) dX4_init_12 (fun H3 locs hN oq hz1 hS => ?_)
  have g1 := zkp g1 zrg_X2_init (fun q _ h2 h3 => oq q (znA (a := a) (i := 1) (p := 0) h2 (Nat.le_of_ble_eq_true rfl)))
  have g0 : va_P E.1 zcl [(a, .inr (4, [.ref (a + 1), .null, .null, .null, .int 0, .int 0, .null, .null, .int 0, .int 0, .int 0, .int 0, .int 0, .int 0, .int 0]))] H3 := hN
  have hsz := hz1.trans hsz
  refine lv_aload_n hx hb dX4_init_15 rfl (lv_at hl 0 rfl) ?_
  refine zNew (ws := []) (C := RX1) (T := TX1) (N := 4) (ci := 1) zc hK (fun k q h => by simp at h) hS hsz uw1 tyX1 tyX1_ok kcl_4_18 kins_1 kinit_1 rfl [.int 0, .null, .null, .null] (fun j hj => match j, hj with | 0, _ => rfl | 1, _ => rfl | 2, _ => rfl | 3, _ => rfl | j + 4, hj => absurd hj (by omega)) (Nat.le_of_ble_eq_true rfl) (Nat.le_of_ble_eq_true rfl) dX4_init_16 (fun H4 hN o1 hz1 hS => ?_)
  have g0 := zkp g0 zRg_1 (fun q h1 _ _ => o1 q (Nat.lt_of_lt_of_eq h1 hsz))
  have g1 := zkp g1 zrg_X2_init (fun q h1 _ _ => o1 q (Nat.lt_of_lt_of_eq h1 hsz))
  have g10 : va_P E.1 zcl [((a + 10), .inr (1, [.int 0, .null, .null, .null]))] H4 := hN
  have hsz : H4.size = a + 11 := hz1
  refine W.cs (cells' := 10) (slots' := 144) rfl rfl ?_
  refine lv_dup hx hb dX4_init_19 rfl ?_
  refine zIc zc ky_X1_init kz_X1_init rfl km_4_20 (ci_X1_init l) (zIpre hK hO g10 hsz) hS (fun q (h : (a + 10) ≤ q) => Nat.le_trans (Nat.le_add_right a 10) h) hl.1 (Nat.le_of_ble_eq_true rfl) ⟨rfl, rfl⟩ ⟨Nat.le_of_ble_eq_true rfl, Nat.le_of_ble_eq_true rfl⟩ ⟨Nat.le_of_ble_eq_true rfl, Nat.le_of_ble_eq_true rfl⟩ dX4_init_20 (fun _ H5 locs _ hJ hk hS => ?_)
  have g0 := zkp g0 zRg_1 (fun q h1 _ h3 => hk q h1 (zge_n (a := a) (i := 1) (j := 10) h3 (Nat.le_of_ble_eq_true rfl)))
  have g1 := zkp g1 zrg_X2_init (fun q h1 _ h3 => hk q h1 (zge_n (a := a) (i := 10) (j := 10) h3 (Nat.le_of_ble_eq_true rfl)))
  have g10 := hJ.1
  have hsz : H5.size = a + 14 := hJ.2
  refine W.cs (cells' := 13) (slots' := 264) rfl rfl ?_
  refine zPut (C := RX4) (T := TX4) (N := 15) (ci := 4) (v := .ref (a + 10)) (ty := .object "DownhillSong$Evening") zc hK g0 (zD1 (Nat.le_refl a)) hS uw4 tyX4 tyX4_ok nmX4 0 rfl rfl 1 (by decide) kf_4_21 (fun _ h9 => h9) (Or.inr ⟨rfl, hin, rfl⟩) (by decide +kernel) rfl rfl (Nat.le_of_ble_eq_true rfl) dX4_init_23 (fun H6 locs hN oq hz1 hS => ?_)
  have g1 := zkp g1 zrg_X2_init (fun q _ h2 h3 => oq q (znA (a := a) (i := 1) (p := 0) h2 (Nat.le_of_ble_eq_true rfl)))
  have g10 := zkp g10 zrg_X1_init (fun q _ h2 h3 => oq q (znA (a := a) (i := 10) (p := 0) h2 (Nat.le_of_ble_eq_true rfl)))
  have g0 : va_P E.1 zcl [(a, .inr (4, [.ref (a + 1), .ref (a + 10), .null, .null, .int 0, .int 0, .null, .null, .int 0, .int 0, .int 0, .int 0, .int 0, .int 0, .int 0]))] H6 := hN
  have hsz := hz1.trans hsz
  refine lv_aload_n hx hb dX4_init_26 rfl (lv_at hl 0 rfl) ?_
  refine zNew (ws := []) (C := RX6) (T := TX6) (N := 4) (ci := 6) zc hK (fun k q h => by simp at h) hS hsz uw6 tyX6 tyX6_ok kcl_4_25 kins_6 kinit_6 rfl [.int 0, .null, .null, .null] (fun j hj => match j, hj with | 0, _ => rfl | 1, _ => rfl | 2, _ => rfl | 3, _ => rfl | j + 4, hj => absurd hj (by omega)) (Nat.le_of_ble_eq_true rfl) (Nat.le_of_ble_eq_true rfl) dX4_init_27 (fun H7 hN o1 hz1 hS => ?_)
  have g0 := zkp g0 zRg_1 (fun q h1 _ _ => o1 q (Nat.lt_of_lt_of_eq h1 hsz))
  have g1 := zkp g1 zrg_X2_init (fun q h1 _ _ => o1 q (Nat.lt_of_lt_of_eq h1 hsz))
  have g10 := zkp g10 zrg_X1_init (fun q h1 _ _ => o1 q (Nat.lt_of_lt_of_eq h1 hsz))
  have g14 : va_P E.1 zcl [((a + 14), .inr (6, [.int 0, .null, .null, .null]))] H7 := hN
  have hsz : H7.size = a + 15 := hz1
  refine W.cs (cells' := 14) (slots' := 268) rfl rfl ?_
  refine lv_dup hx hb dX4_init_30 rfl ?_
  refine zIc zc ky_X6_init kz_X6_init rfl km_4_27 (ci_X6_init l) (zIpre hK hO g14 hsz) hS (fun q (h : (a + 14) ≤ q) => Nat.le_trans (Nat.le_add_right a 14) h) hl.1 (Nat.le_of_ble_eq_true rfl) ⟨rfl, rfl⟩ ⟨Nat.le_of_ble_eq_true rfl, Nat.le_of_ble_eq_true rfl⟩ ⟨Nat.le_of_ble_eq_true rfl, Nat.le_of_ble_eq_true rfl⟩ dX4_init_31 (fun _ H8 locs _ hJ hk hS => ?_)
  have g0 := zkp g0 zRg_1 (fun q h1 _ h3 => hk q h1 (zge_n (a := a) (i := 1) (j := 14) h3 (Nat.le_of_ble_eq_true rfl)))
  have g1 := zkp g1 zrg_X2_init (fun q h1 _ h3 => hk q h1 (zge_n (a := a) (i := 10) (j := 14) h3 (Nat.le_of_ble_eq_true rfl)))
  have g10 := zkp g10 zrg_X1_init (fun q h1 _ h3 => hk q h1 (zge_n (a := a) (i := 14) (j := 14) h3 (Nat.le_of_ble_eq_true rfl)))
  have g14 := hJ.1
  have hsz : H8.size = a + 18 := hJ.2
  refine W.cs (cells' := 17) (slots' := 298) rfl rfl ?_
  refine zPut (C := RX4) (T := TX4) (N := 15) (ci := 4) (v := .ref (a + 14)) (ty := .object "DownhillSong$Sight") zc hK g0 (zD1 (Nat.le_refl a)) hS uw4 tyX4 tyX4_ok nmX4 0 rfl rfl 2 (by decide) kf_4_28 (fun _ h9 => h9) (Or.inr ⟨rfl, hin, rfl⟩) (by decide +kernel) rfl rfl (Nat.le_of_ble_eq_true rfl) dX4_init_34 (fun H9 locs hN oq hz1 hS => ?_)
  have g1 := zkp g1 zrg_X2_init (fun q _ h2 h3 => oq q (znA (a := a) (i := 1) (p := 0) h2 (Nat.le_of_ble_eq_true rfl)))
  have g10 := zkp g10 zrg_X1_init (fun q _ h2 h3 => oq q (znA (a := a) (i := 10) (p := 0) h2 (Nat.le_of_ble_eq_true rfl)))
  have g14 := zkp g14 zrg_X6_init (fun q _ h2 h3 => oq q (znA (a := a) (i := 14) (p := 0) h2 (Nat.le_of_ble_eq_true rfl)))
  have g0 : va_P E.1 zcl [(a, .inr (4, [.ref (a + 1), .ref (a + 10), .ref (a + 14), .null, .int 0, .int 0, .null, .null, .int 0, .int 0, .int 0, .int 0, .int 0, .int 0, .int 0]))] H9 := hN
  have hsz := hz1.trans hsz
  refine lv_aload_n hx hb dX4_init_37 rfl (lv_at hl 0 rfl) ?_
  refine zNew (ws := []) (C := RX0) (T := TX0) (N := 4) (ci := 0) zc hK (fun k q h => by simp at h) hS hsz uw0 tyX0 tyX0_ok kcl_4_32 kins_0 kinit_0 rfl [.int 0, .int 0, .null, .null] (fun j hj => match j, hj with | 0, _ => rfl | 1, _ => rfl | 2, _ => rfl | 3, _ => rfl | j + 4, hj => absurd hj (by omega)) (Nat.le_of_ble_eq_true rfl) (Nat.le_of_ble_eq_true rfl) dX4_init_38 (fun H10 hN o1 hz1 hS => ?_)
  have g0 := zkp g0 zRg_1 (fun q h1 _ _ => o1 q (Nat.lt_of_lt_of_eq h1 hsz))
  have g1 := zkp g1 zrg_X2_init (fun q h1 _ _ => o1 q (Nat.lt_of_lt_of_eq h1 hsz))
  have g10 := zkp g10 zrg_X1_init (fun q h1 _ _ => o1 q (Nat.lt_of_lt_of_eq h1 hsz))
  have g14 := zkp g14 zrg_X6_init (fun q h1 _ _ => o1 q (Nat.lt_of_lt_of_eq h1 hsz))
  have g18 : va_P E.1 zcl [((a + 18), .inr (0, [.int 0, .int 0, .null, .null]))] H10 := hN
  have hsz : H10.size = a + 19 := hz1
  refine W.cs (cells' := 18) (slots' := 302) rfl rfl ?_
  refine lv_dup hx hb dX4_init_41 rfl ?_
  refine zIc zc ky_X0_init kz_X0_init rfl km_4_34 (ci_X0_init l) (zIpre hK hO g18 hsz) hS (fun q (h : (a + 18) ≤ q) => Nat.le_trans (Nat.le_add_right a 18) h) hl.1 (Nat.le_of_ble_eq_true rfl) ⟨rfl, rfl⟩ ⟨Nat.le_of_ble_eq_true rfl, Nat.le_of_ble_eq_true rfl⟩ ⟨Nat.le_of_ble_eq_true rfl, Nat.le_of_ble_eq_true rfl⟩ dX4_init_42 (fun _ H11 locs _ hJ hk hS => ?_)
  have g0 := zkp g0 zRg_1 (fun q h1 _ h3 => hk q h1 (zge_n (a := a) (i := 1) (j := 18) h3 (Nat.le_of_ble_eq_true rfl)))
  have g1 := zkp g1 zrg_X2_init (fun q h1 _ h3 => hk q h1 (zge_n (a := a) (i := 10) (j := 18) h3 (Nat.le_of_ble_eq_true rfl)))
  have g10 := zkp g10 zrg_X1_init (fun q h1 _ h3 => hk q h1 (zge_n (a := a) (i := 14) (j := 18) h3 (Nat.le_of_ble_eq_true rfl)))
  have g14 := zkp g14 zrg_X6_init (fun q h1 _ h3 => hk q h1 (zge_n (a := a) (i := 18) (j := 18) h3 (Nat.le_of_ble_eq_true rfl)))
  have g18 := hJ.1
  have hsz : H11.size = a + 21 := hJ.2
  refine W.cs (cells' := 20) (slots' := 320) rfl rfl ?_
  refine zPut (C := RX4) (T := TX4) (N := 15) (ci := 4) (v := .ref (a + 18)) (ty := .object "DownhillSong$Choir") zc hK g0 (zD1 (Nat.le_refl a)) hS uw4 tyX4 tyX4_ok nmX4 0 rfl rfl 3 (by decide) kf_4_35 (fun _ h9 => h9) (Or.inr ⟨rfl, hin, rfl⟩) (by decide +kernel) rfl rfl (Nat.le_of_ble_eq_true rfl) dX4_init_45 (fun H12 locs hN oq hz1 hS => ?_)
  have g1 := zkp g1 zrg_X2_init (fun q _ h2 h3 => oq q (znA (a := a) (i := 1) (p := 0) h2 (Nat.le_of_ble_eq_true rfl)))
  have g10 := zkp g10 zrg_X1_init (fun q _ h2 h3 => oq q (znA (a := a) (i := 10) (p := 0) h2 (Nat.le_of_ble_eq_true rfl)))
  have g14 := zkp g14 zrg_X6_init (fun q _ h2 h3 => oq q (znA (a := a) (i := 14) (p := 0) h2 (Nat.le_of_ble_eq_true rfl)))
  have g18 := zkp g18 zrg_X0_init (fun q _ h2 h3 => oq q (znA (a := a) (i := 18) (p := 0) h2 (Nat.le_of_ble_eq_true rfl)))
  have g0 : va_P E.1 zcl [(a, .inr (4, [.ref (a + 1), .ref (a + 10), .ref (a + 14), .ref (a + 18), .int 0, .int 0, .null, .null, .int 0, .int 0, .int 0, .int 0, .int 0, .int 0, .int 0]))] H12 := hN
  have hsz := hz1.trans hsz
  refine lv_aload_n hx hb dX4_init_48 rfl (lv_at hl 0 rfl) ?_
  refine lv_iconst (v := (-1 : Int32)) hx hb dX4_init_49 (by decide) ?_
  refine zPut (C := RX4) (T := TX4) (N := 15) (ci := 4) (v := .int (-1 : Int32)) (ty := .int) zc hK g0 (zD1 (Nat.le_refl a)) hS uw4 tyX4 tyX4_ok nmX4 0 rfl rfl 5 (by decide) kf_4_39 (fun _ h9 => h9) (Or.inl rfl) (by decide +kernel) rfl rfl (Nat.le_of_ble_eq_true rfl) dX4_init_50 (fun H13 locs hN oq hz1 hS => ?_)
  have g1 := zkp g1 zrg_X2_init (fun q _ h2 h3 => oq q (znA (a := a) (i := 1) (p := 0) h2 (Nat.le_of_ble_eq_true rfl)))
  have g10 := zkp g10 zrg_X1_init (fun q _ h2 h3 => oq q (znA (a := a) (i := 10) (p := 0) h2 (Nat.le_of_ble_eq_true rfl)))
  have g14 := zkp g14 zrg_X6_init (fun q _ h2 h3 => oq q (znA (a := a) (i := 14) (p := 0) h2 (Nat.le_of_ble_eq_true rfl)))
  have g18 := zkp g18 zrg_X0_init (fun q _ h2 h3 => oq q (znA (a := a) (i := 18) (p := 0) h2 (Nat.le_of_ble_eq_true rfl)))
  have g0 : va_P E.1 zcl [(a, .inr (4, [.ref (a + 1), .ref (a + 10), .ref (a + 14), .ref (a + 18), .int 0, .int (-1 : Int32), .null, .null, .int 0, .int 0, .int 0, .int 0, .int 0, .int 0, .int 0]))] H13 := hN
  have hsz := hz1.trans hsz
  refine lv_aload_n hx hb dX4_init_53 rfl (lv_at hl 0 rfl) ?_
  refine lv_iconst (v := (3 : Int32)) hx hb dX4_init_54 (by decide) ?_
  refine zNewa (ws := []) (atype := .int) (t := 1) (N := 3) (a0 := (3, .inl (fun _ => 0))) zc hK (fun k q h => by simp at h) hS hsz kac_I rfl (fun _ => rfl) (by decide) (by decide) (by decide) (Nat.le_of_ble_eq_true rfl) (Nat.le_of_ble_eq_true rfl) dX4_init_55 (fun H14 hN o1 hz1 hS => ?_)
  have g0 := zkp g0 zRg_1 (fun q h1 _ _ => o1 q (Nat.lt_of_lt_of_eq h1 hsz))
  have g1 := zkp g1 zrg_X2_init (fun q h1 _ _ => o1 q (Nat.lt_of_lt_of_eq h1 hsz))
  have g10 := zkp g10 zrg_X1_init (fun q h1 _ _ => o1 q (Nat.lt_of_lt_of_eq h1 hsz))
  have g14 := zkp g14 zrg_X6_init (fun q h1 _ _ => o1 q (Nat.lt_of_lt_of_eq h1 hsz))
  have g18 := zkp g18 zrg_X0_init (fun q h1 _ _ => o1 q (Nat.lt_of_lt_of_eq h1 hsz))
  have g21 : va_P E.1 zcl [((a + 21), .inl (E.2 1, 3, .inl (fun _ => 0)))] H14 := hN
  have hsz : H14.size = a + 22 := hz1
  refine W.cs (cells' := 21) (slots' := 323) rfl rfl ?_
  refine zPut (C := RX4) (T := TX4) (N := 15) (ci := 4) (v := .ref (a + 21)) (ty := .array .int) zc hK g0 (zD1 (Nat.le_refl a)) hS uw4 tyX4 tyX4_ok nmX4 0 rfl rfl 6 (by decide) kf_4_43 (fun _ h9 => h9) (Or.inr ⟨rfl, hin, rfl⟩) (by decide +kernel) rfl rfl (Nat.le_of_ble_eq_true rfl) dX4_init_57 (fun H15 locs hN oq hz1 hS => ?_)
  have g1 := zkp g1 zrg_X2_init (fun q _ h2 h3 => oq q (znA (a := a) (i := 1) (p := 0) h2 (Nat.le_of_ble_eq_true rfl)))
  have g10 := zkp g10 zrg_X1_init (fun q _ h2 h3 => oq q (znA (a := a) (i := 10) (p := 0) h2 (Nat.le_of_ble_eq_true rfl)))
  have g14 := zkp g14 zrg_X6_init (fun q _ h2 h3 => oq q (znA (a := a) (i := 14) (p := 0) h2 (Nat.le_of_ble_eq_true rfl)))
  have g18 := zkp g18 zrg_X0_init (fun q _ h2 h3 => oq q (znA (a := a) (i := 18) (p := 0) h2 (Nat.le_of_ble_eq_true rfl)))
  have g21 := zkp g21 zRg_1 (fun q _ h2 h3 => oq q (znA (a := a) (i := 21) (p := 0) h2 (Nat.le_of_ble_eq_true rfl)))
  have g0 : va_P E.1 zcl [(a, .inr (4, [.ref (a + 1), .ref (a + 10), .ref (a + 14), .ref (a + 18), .int 0, .int (-1 : Int32), .ref (a + 21), .null, .int 0, .int 0, .int 0, .int 0, .int 0, .int 0, .int 0]))] H15 := hN
  have hsz := hz1.trans hsz
  refine lv_aload_n hx hb dX4_init_60 rfl (lv_at hl 0 rfl) ?_
  refine lv_sipush (v := (600 : Int32)) hx hb dX4_init_61 (by decide) ?_
  refine zNewa (ws := []) (atype := .byte) (t := 0) (N := 600) (a0 := (600, .inl (fun _ => 0))) zc hK (fun k q h => by simp at h) hS hsz kac_B rfl (fun _ => rfl) (by decide) (by decide) (by decide) (Nat.le_of_ble_eq_true rfl) (Nat.le_of_ble_eq_true rfl) dX4_init_64 (fun H16 hN o1 hz1 hS => ?_)
  have g0 := zkp g0 zRg_1 (fun q h1 _ _ => o1 q (Nat.lt_of_lt_of_eq h1 hsz))
  have g1 := zkp g1 zrg_X2_init (fun q h1 _ _ => o1 q (Nat.lt_of_lt_of_eq h1 hsz))
  have g10 := zkp g10 zrg_X1_init (fun q h1 _ _ => o1 q (Nat.lt_of_lt_of_eq h1 hsz))
  have g14 := zkp g14 zrg_X6_init (fun q h1 _ _ => o1 q (Nat.lt_of_lt_of_eq h1 hsz))
  have g18 := zkp g18 zrg_X0_init (fun q h1 _ _ => o1 q (Nat.lt_of_lt_of_eq h1 hsz))
  have g21 := zkp g21 zRg_1 (fun q h1 _ _ => o1 q (Nat.lt_of_lt_of_eq h1 hsz))
  have g22 : va_P E.1 zcl [((a + 22), .inl (E.2 0, 600, .inl (fun _ => 0)))] H16 := hN
  have hsz : H16.size = a + 23 := hz1
  refine W.cs (cells' := 22) (slots' := 923) rfl rfl ?_
  refine zPut (C := RX4) (T := TX4) (N := 15) (ci := 4) (v := .ref (a + 22)) (ty := .array .byte) zc hK g0 (zD1 (Nat.le_refl a)) hS uw4 tyX4 tyX4_ok nmX4 0 rfl rfl 7 (by decide) kf_4_47 (fun _ h9 => h9) (Or.inr ⟨rfl, hin, rfl⟩) (by decide +kernel) rfl rfl (Nat.le_of_ble_eq_true rfl) dX4_init_66 (fun H17 locs hN oq hz1 hS => ?_)
  have g1 := zkp g1 zrg_X2_init (fun q _ h2 h3 => oq q (znA (a := a) (i := 1) (p := 0) h2 (Nat.le_of_ble_eq_true rfl)))
  have g10 := zkp g10 zrg_X1_init (fun q _ h2 h3 => oq q (znA (a := a) (i := 10) (p := 0) h2 (Nat.le_of_ble_eq_true rfl)))
  have g14 := zkp g14 zrg_X6_init (fun q _ h2 h3 => oq q (znA (a := a) (i := 14) (p := 0) h2 (Nat.le_of_ble_eq_true rfl)))
  have g18 := zkp g18 zrg_X0_init (fun q _ h2 h3 => oq q (znA (a := a) (i := 18) (p := 0) h2 (Nat.le_of_ble_eq_true rfl)))
  have g21 := zkp g21 zRg_1 (fun q _ h2 h3 => oq q (znA (a := a) (i := 21) (p := 0) h2 (Nat.le_of_ble_eq_true rfl)))
  have g22 := zkp g22 zRg_1 (fun q _ h2 h3 => oq q (znA (a := a) (i := 22) (p := 0) h2 (Nat.le_of_ble_eq_true rfl)))
  have g0 : va_P E.1 zcl [(a, .inr (4, [.ref (a + 1), .ref (a + 10), .ref (a + 14), .ref (a + 18), .int 0, .int (-1 : Int32), .ref (a + 21), .ref (a + 22), .int 0, .int 0, .int 0, .int 0, .int 0, .int 0, .int 0]))] H17 := hN
  have hsz := hz1.trans hsz
  exact zIret (post := fun _ => True) (B := zJ E a 23 ([(a, .inr (4, [.ref (a + 1), .ref (a + 10), .ref (a + 14), .ref (a + 18), .int 0, .int (-1 : Int32), .ref (a + 21), .ref (a + 22), .int 0, .int 0, .int 0, .int 0, .int 0, .int 0, .int 0]))] ++ (zb_X2_init E (a + 1) ++ (zb_X1_init E (a + 10) ++ (zb_X6_init E (a + 14) ++ (zb_X0_init E (a + 18) ++ ([((a + 21), .inl (E.2 1, 3, .inl (fun _ => 0)))] ++ ([((a + 22), .inl (E.2 0, 600, .inl (fun _ => 0)))])))))))) () zc hS trivial ⟨(va_P.app g0 (va_P.app g1 (va_P.app g10 (va_P.app g14 (va_P.app g18 (va_P.app g21 g22)))))), hsz⟩ dX4_init_69
end
section
abbrev rmi_X3_init : Room := { frames := 1, cells := 5, slots := 35, locals := 20 }
abbrev zb_X3_init (E : zE) (a : Nat) : va_W := (([(a, .inr (3, [.int 0, .int 0, .int 0, .int 0, .int 0, .ref (a + 1), .ref (a + 2), .ref (a + 3), .ref (a + 4), .ref (a + 5)]))] : va_W) ++ (([((a + 1), .inl (E.2 1, 6, .inl (fun _ => 0)))] : va_W) ++ (([((a + 2), .inl (E.2 1, 6, .inl (fun _ => 0)))] : va_W) ++ (([((a + 3), .inl (E.2 1, 5, .inl (fun _ => 0)))] : va_W) ++ (([((a + 4), .inl (E.2 1, 9, .inl (fun _ => 0)))] : va_W) ++ (([((a + 5), .inl (E.2 1, 9, .inl (fun _ => 0)))] : va_W)))))))
theorem zrg_X3_init {E : zE} {a : Nat} : zRg (zb_X3_init E a) a (a + 6) := by
  exact ((zRg_1).mono (by omega) (by omega)).app (((zRg_1).mono (by omega) (by omega)).app (((zRg_1).mono (by omega) (by omega)).app (((zRg_1).mono (by omega) (by omega)).app (((zRg_1).mono (by omega) (by omega)).app ((zRg_1).mono (by omega) (by omega))))))
set_option maxRecDepth 40000 in
set_option maxHeartbeats 4000000 in
theorem ci_X3_init (l : Launch) {E : zE} {a : Nat} : Met l yX3_init (Cond.code yX3_init cX3_init 1 none :: zb) rmi_X3_init (va_Pc [.ref a] (zI E a 3 [.int 0, .int 0, .int 0, .int 0, .int 0, .null, .null, .null, .null, .null])) (zQv (S := Unit) (fun _ => True) (zJ E a 6 (zb_X3_init E a)) (fun q => a ≤ q)) 5 35 (fun q => a ≤ q) := by
  refine Met.ofW (cc := cX3_init) (maxL := 1) (ret := none) (by decide) rfl ?_
  intro p e s m args below meth c s₁ B hml hv
  obtain ⟨rfl, hsz, g0, hK, hO⟩ := hv
  have zc := zc_of B hml
  have hx := zc.1
  have hb := zc.2.1
  have hz := zc.2.2.2.2.1
  have hin : meth.name = "<init>" := (name_of_methodNamed B.named B.method).1
  have hS : va_S (fun q => a ≤ q) s.heap s.heap [] := va_S.rf
  have hl := lv_entry ([.ref a]) (n := 1) (Nat.le_of_ble_eq_true rfl)
  rw [lg_entry_eq]
  generalize (lg_sl ([.ref a]) ++ List.replicate (1 - (lg_sl ([.ref a])).length) Slot.unset).toArray = ls at hl ⊢
  have hl : lv_has ls 1 [(0, .ref a)] := hl
  refine lv_aload_n hx hb dX3_init_0 rfl (lv_at hl 0 rfl) ?_
  refine W.objInit hx hb zc.2.2.2.1 (hz _ km_3_3) (hz _ k_oi) (hz _ k_oc) rfl (by rw [zc.2.2.1]; exact hl.1) rfl dX3_init_1 (Nat.le_of_ble_eq_true rfl) (Nat.le_of_ble_eq_true rfl) ?_
  refine W.eq (g2 := F0 m 4 ls []) rfl ?_
  refine lv_aload_n hx hb dX3_init_4 rfl (lv_at hl 0 rfl) ?_
  refine lv_bipush (v := (6 : Int32)) hx hb dX3_init_5 (by decide) ?_
  refine zNewa (ws := []) (atype := .int) (t := 1) (N := 6) (a0 := (6, .inl (fun _ => 0))) zc hK (fun k q h => by simp at h) hS hsz kac_I rfl (fun _ => rfl) (by decide) (by decide) (by decide) (Nat.le_of_ble_eq_true rfl) (Nat.le_of_ble_eq_true rfl) dX3_init_7 (fun H1 hN o1 hz1 hS => ?_)
  have g0 := zkp g0 zRg_1 (fun q h1 _ _ => o1 q (Nat.lt_of_lt_of_eq h1 hsz))
  have g1 : va_P E.1 zcl [((a + 1), .inl (E.2 1, 6, .inl (fun _ => 0)))] H1 := hN
  have hsz : H1.size = a + 2 := hz1
  refine W.cs (cells' := 1) (slots' := 6) rfl rfl ?_
  refine zPut (C := RX3) (T := TX3) (N := 10) (ci := 3) (v := .ref (a + 1)) (ty := .array .int) zc hK g0 (zD1 (Nat.le_refl a)) hS uw3 tyX3 tyX3_ok nmX3 0 rfl rfl 5 (by decide) kf_3_9 (fun _ h9 => h9) (Or.inr ⟨rfl, hin, rfl⟩) (by decide +kernel) rfl rfl (Nat.le_of_ble_eq_true rfl) dX3_init_9 (fun H2 locs hN oq hz1 hS => ?_)
  have g1 := zkp g1 zRg_1 (fun q _ h2 h3 => oq q (znA (a := a) (i := 1) (p := 0) h2 (Nat.le_of_ble_eq_true rfl)))
  have g0 : va_P E.1 zcl [(a, .inr (3, [.int 0, .int 0, .int 0, .int 0, .int 0, .ref (a + 1), .null, .null, .null, .null]))] H2 := hN
  have hsz := hz1.trans hsz
  refine lv_aload_n hx hb dX3_init_12 rfl (lv_at hl 0 rfl) ?_
  refine lv_bipush (v := (6 : Int32)) hx hb dX3_init_13 (by decide) ?_
  refine zNewa (ws := []) (atype := .int) (t := 1) (N := 6) (a0 := (6, .inl (fun _ => 0))) zc hK (fun k q h => by simp at h) hS hsz kac_I rfl (fun _ => rfl) (by decide) (by decide) (by decide) (Nat.le_of_ble_eq_true rfl) (Nat.le_of_ble_eq_true rfl) dX3_init_15 (fun H3 hN o1 hz1 hS => ?_)
  have g0 := zkp g0 zRg_1 (fun q h1 _ _ => o1 q (Nat.lt_of_lt_of_eq h1 hsz))
  have g1 := zkp g1 zRg_1 (fun q h1 _ _ => o1 q (Nat.lt_of_lt_of_eq h1 hsz))
  have g2 : va_P E.1 zcl [((a + 2), .inl (E.2 1, 6, .inl (fun _ => 0)))] H3 := hN
  have hsz : H3.size = a + 3 := hz1
  refine W.cs (cells' := 2) (slots' := 12) rfl rfl ?_
  refine zPut (C := RX3) (T := TX3) (N := 10) (ci := 3) (v := .ref (a + 2)) (ty := .array .int) zc hK g0 (zD1 (Nat.le_refl a)) hS uw3 tyX3 tyX3_ok nmX3 0 rfl rfl 6 (by decide) kf_3_15 (fun _ h9 => h9) (Or.inr ⟨rfl, hin, rfl⟩) (by decide +kernel) rfl rfl (Nat.le_of_ble_eq_true rfl) dX3_init_17 (fun H4 locs hN oq hz1 hS => ?_)
  have g1 := zkp g1 zRg_1 (fun q _ h2 h3 => oq q (znA (a := a) (i := 1) (p := 0) h2 (Nat.le_of_ble_eq_true rfl)))
  have g2 := zkp g2 zRg_1 (fun q _ h2 h3 => oq q (znA (a := a) (i := 2) (p := 0) h2 (Nat.le_of_ble_eq_true rfl)))
  have g0 : va_P E.1 zcl [(a, .inr (3, [.int 0, .int 0, .int 0, .int 0, .int 0, .ref (a + 1), .ref (a + 2), .null, .null, .null]))] H4 := hN
  have hsz := hz1.trans hsz
  refine lv_aload_n hx hb dX3_init_20 rfl (lv_at hl 0 rfl) ?_
  refine lv_iconst (v := (5 : Int32)) hx hb dX3_init_21 (by decide) ?_
  refine zNewa (ws := []) (atype := .int) (t := 1) (N := 5) (a0 := (5, .inl (fun _ => 0))) zc hK (fun k q h => by simp at h) hS hsz kac_I rfl (fun _ => rfl) (by decide) (by decide) (by decide) (Nat.le_of_ble_eq_true rfl) (Nat.le_of_ble_eq_true rfl) dX3_init_22 (fun H5 hN o1 hz1 hS => ?_)
  have g0 := zkp g0 zRg_1 (fun q h1 _ _ => o1 q (Nat.lt_of_lt_of_eq h1 hsz))
  have g1 := zkp g1 zRg_1 (fun q h1 _ _ => o1 q (Nat.lt_of_lt_of_eq h1 hsz))
  have g2 := zkp g2 zRg_1 (fun q h1 _ _ => o1 q (Nat.lt_of_lt_of_eq h1 hsz))
  have g3 : va_P E.1 zcl [((a + 3), .inl (E.2 1, 5, .inl (fun _ => 0)))] H5 := hN
  have hsz : H5.size = a + 4 := hz1
  refine W.cs (cells' := 3) (slots' := 17) rfl rfl ?_
  refine zPut (C := RX3) (T := TX3) (N := 10) (ci := 3) (v := .ref (a + 3)) (ty := .array .int) zc hK g0 (zD1 (Nat.le_refl a)) hS uw3 tyX3 tyX3_ok nmX3 0 rfl rfl 7 (by decide) kf_3_18 (fun _ h9 => h9) (Or.inr ⟨rfl, hin, rfl⟩) (by decide +kernel) rfl rfl (Nat.le_of_ble_eq_true rfl) dX3_init_24 (fun H6 locs hN oq hz1 hS => ?_)
  have g1 := zkp g1 zRg_1 (fun q _ h2 h3 => oq q (znA (a := a) (i := 1) (p := 0) h2 (Nat.le_of_ble_eq_true rfl)))
  have g2 := zkp g2 zRg_1 (fun q _ h2 h3 => oq q (znA (a := a) (i := 2) (p := 0) h2 (Nat.le_of_ble_eq_true rfl)))
  have g3 := zkp g3 zRg_1 (fun q _ h2 h3 => oq q (znA (a := a) (i := 3) (p := 0) h2 (Nat.le_of_ble_eq_true rfl)))
  have g0 : va_P E.1 zcl [(a, .inr (3, [.int 0, .int 0, .int 0, .int 0, .int 0, .ref (a + 1), .ref (a + 2), .ref (a + 3), .null, .null]))] H6 := hN
  have hsz := hz1.trans hsz
  refine lv_aload_n hx hb dX3_init_27 rfl (lv_at hl 0 rfl) ?_
  refine lv_bipush (v := (9 : Int32)) hx hb dX3_init_28 (by decide) ?_
  refine zNewa (ws := []) (atype := .int) (t := 1) (N := 9) (a0 := (9, .inl (fun _ => 0))) zc hK (fun k q h => by simp at h) hS hsz kac_I rfl (fun _ => rfl) (by decide) (by decide) (by decide) (Nat.le_of_ble_eq_true rfl) (Nat.le_of_ble_eq_true rfl) dX3_init_30 (fun H7 hN o1 hz1 hS => ?_)
  have g0 := zkp g0 zRg_1 (fun q h1 _ _ => o1 q (Nat.lt_of_lt_of_eq h1 hsz))
  have g1 := zkp g1 zRg_1 (fun q h1 _ _ => o1 q (Nat.lt_of_lt_of_eq h1 hsz))
  have g2 := zkp g2 zRg_1 (fun q h1 _ _ => o1 q (Nat.lt_of_lt_of_eq h1 hsz))
  have g3 := zkp g3 zRg_1 (fun q h1 _ _ => o1 q (Nat.lt_of_lt_of_eq h1 hsz))
  have g4 : va_P E.1 zcl [((a + 4), .inl (E.2 1, 9, .inl (fun _ => 0)))] H7 := hN
  have hsz : H7.size = a + 5 := hz1
  refine W.cs (cells' := 4) (slots' := 26) rfl rfl ?_
  refine zPut (C := RX3) (T := TX3) (N := 10) (ci := 3) (v := .ref (a + 4)) (ty := .array .int) zc hK g0 (zD1 (Nat.le_refl a)) hS uw3 tyX3 tyX3_ok nmX3 0 rfl rfl 8 (by decide) kf_3_21 (fun _ h9 => h9) (Or.inr ⟨rfl, hin, rfl⟩) (by decide +kernel) rfl rfl (Nat.le_of_ble_eq_true rfl) dX3_init_32 (fun H8 locs hN oq hz1 hS => ?_)
  have g1 := zkp g1 zRg_1 (fun q _ h2 h3 => oq q (znA (a := a) (i := 1) (p := 0) h2 (Nat.le_of_ble_eq_true rfl)))
  have g2 := zkp g2 zRg_1 (fun q _ h2 h3 => oq q (znA (a := a) (i := 2) (p := 0) h2 (Nat.le_of_ble_eq_true rfl)))
  have g3 := zkp g3 zRg_1 (fun q _ h2 h3 => oq q (znA (a := a) (i := 3) (p := 0) h2 (Nat.le_of_ble_eq_true rfl)))
  have g4 := zkp g4 zRg_1 (fun q _ h2 h3 => oq q (znA (a := a) (i := 4) (p := 0) h2 (Nat.le_of_ble_eq_true rfl)))
  have g0 : va_P E.1 zcl [(a, .inr (3, [.int 0, .int 0, .int 0, .int 0, .int 0, .ref (a + 1), .ref (a + 2), .ref (a + 3), .ref (a + 4), .null]))] H8 := hN
  have hsz := hz1.trans hsz
  refine lv_aload_n hx hb dX3_init_35 rfl (lv_at hl 0 rfl) ?_
  refine lv_bipush (v := (9 : Int32)) hx hb dX3_init_36 (by decide) ?_
  refine zNewa (ws := []) (atype := .int) (t := 1) (N := 9) (a0 := (9, .inl (fun _ => 0))) zc hK (fun k q h => by simp at h) hS hsz kac_I rfl (fun _ => rfl) (by decide) (by decide) (by decide) (Nat.le_of_ble_eq_true rfl) (Nat.le_of_ble_eq_true rfl) dX3_init_38 (fun H9 hN o1 hz1 hS => ?_)
  have g0 := zkp g0 zRg_1 (fun q h1 _ _ => o1 q (Nat.lt_of_lt_of_eq h1 hsz))
  have g1 := zkp g1 zRg_1 (fun q h1 _ _ => o1 q (Nat.lt_of_lt_of_eq h1 hsz))
  have g2 := zkp g2 zRg_1 (fun q h1 _ _ => o1 q (Nat.lt_of_lt_of_eq h1 hsz))
  have g3 := zkp g3 zRg_1 (fun q h1 _ _ => o1 q (Nat.lt_of_lt_of_eq h1 hsz))
  have g4 := zkp g4 zRg_1 (fun q h1 _ _ => o1 q (Nat.lt_of_lt_of_eq h1 hsz))
  have g5 : va_P E.1 zcl [((a + 5), .inl (E.2 1, 9, .inl (fun _ => 0)))] H9 := hN
  have hsz : H9.size = a + 6 := hz1
  refine W.cs (cells' := 5) (slots' := 35) rfl rfl ?_
  refine zPut (C := RX3) (T := TX3) (N := 10) (ci := 3) (v := .ref (a + 5)) (ty := .array .int) zc hK g0 (zD1 (Nat.le_refl a)) hS uw3 tyX3 tyX3_ok nmX3 0 rfl rfl 9 (by decide) kf_3_24 (fun _ h9 => h9) (Or.inr ⟨rfl, hin, rfl⟩) (by decide +kernel) rfl rfl (Nat.le_of_ble_eq_true rfl) dX3_init_40 (fun H10 locs hN oq hz1 hS => ?_)
  have g1 := zkp g1 zRg_1 (fun q _ h2 h3 => oq q (znA (a := a) (i := 1) (p := 0) h2 (Nat.le_of_ble_eq_true rfl)))
  have g2 := zkp g2 zRg_1 (fun q _ h2 h3 => oq q (znA (a := a) (i := 2) (p := 0) h2 (Nat.le_of_ble_eq_true rfl)))
  have g3 := zkp g3 zRg_1 (fun q _ h2 h3 => oq q (znA (a := a) (i := 3) (p := 0) h2 (Nat.le_of_ble_eq_true rfl)))
  have g4 := zkp g4 zRg_1 (fun q _ h2 h3 => oq q (znA (a := a) (i := 4) (p := 0) h2 (Nat.le_of_ble_eq_true rfl)))
  have g5 := zkp g5 zRg_1 (fun q _ h2 h3 => oq q (znA (a := a) (i := 5) (p := 0) h2 (Nat.le_of_ble_eq_true rfl)))
  have g0 : va_P E.1 zcl [(a, .inr (3, [.int 0, .int 0, .int 0, .int 0, .int 0, .ref (a + 1), .ref (a + 2), .ref (a + 3), .ref (a + 4), .ref (a + 5)]))] H10 := hN
  have hsz := hz1.trans hsz
  exact zIret (post := fun _ => True) (B := zJ E a 6 ([(a, .inr (3, [.int 0, .int 0, .int 0, .int 0, .int 0, .ref (a + 1), .ref (a + 2), .ref (a + 3), .ref (a + 4), .ref (a + 5)]))] ++ ([((a + 1), .inl (E.2 1, 6, .inl (fun _ => 0)))] ++ ([((a + 2), .inl (E.2 1, 6, .inl (fun _ => 0)))] ++ ([((a + 3), .inl (E.2 1, 5, .inl (fun _ => 0)))] ++ ([((a + 4), .inl (E.2 1, 9, .inl (fun _ => 0)))] ++ ([((a + 5), .inl (E.2 1, 9, .inl (fun _ => 0)))]))))))) () zc hS trivial ⟨(va_P.app g0 (va_P.app g1 (va_P.app g2 (va_P.app g3 (va_P.app g4 g5))))), hsz⟩ dX3_init_43
end
section
abbrev rmi_X7_init : Room := { frames := 1, cells := 8, slots := 216, locals := 20 }
abbrev zb_X7_init (E : zE) (a : Nat) : va_W := (([(a, .inr (7, [.ref (a + 1), .ref (a + 2), .ref (a + 3), .ref (a + 4), .ref (a + 5), .ref (a + 6), .ref (a + 7), .ref (a + 8)]))] : va_W) ++ (([((a + 1), .inl (E.2 1, 81, .inl (fun _ => 0)))] : va_W) ++ (([((a + 2), .inl (E.2 1, 81, .inl (fun _ => 0)))] : va_W) ++ (([((a + 3), .inl (E.2 1, 9, .inl (fun _ => 0)))] : va_W) ++ (([((a + 4), .inl (E.2 1, 9, .inl (fun _ => 0)))] : va_W) ++ (([((a + 5), .inl (E.2 1, 9, .inl (fun _ => 0)))] : va_W) ++ (([((a + 6), .inl (E.2 1, 9, .inl (fun _ => 0)))] : va_W) ++ (([((a + 7), .inl (E.2 1, 9, .inl (fun _ => 0)))] : va_W) ++ (([((a + 8), .inl (E.2 1, 9, .inl (fun _ => 0)))] : va_W))))))))))
theorem zrg_X7_init {E : zE} {a : Nat} : zRg (zb_X7_init E a) a (a + 9) := by
  exact ((zRg_1).mono (by omega) (by omega)).app (((zRg_1).mono (by omega) (by omega)).app (((zRg_1).mono (by omega) (by omega)).app (((zRg_1).mono (by omega) (by omega)).app (((zRg_1).mono (by omega) (by omega)).app (((zRg_1).mono (by omega) (by omega)).app (((zRg_1).mono (by omega) (by omega)).app (((zRg_1).mono (by omega) (by omega)).app ((zRg_1).mono (by omega) (by omega)))))))))
set_option maxRecDepth 40000 in
set_option maxHeartbeats 4000000 in
theorem ci_X7_init (l : Launch) {E : zE} {a : Nat} : Met l yX7_init (Cond.code yX7_init cX7_init 1 none :: zb) rmi_X7_init (va_Pc [.ref a] (zI E a 7 [.null, .null, .null, .null, .null, .null, .null, .null])) (zQv (S := Unit) (fun _ => True) (zJ E a 9 (zb_X7_init E a)) (fun q => a ≤ q)) 8 216 (fun q => a ≤ q) := by
  refine Met.ofW (cc := cX7_init) (maxL := 1) (ret := none) (by decide) rfl ?_
  intro p e s m args below meth c s₁ B hml hv
  obtain ⟨rfl, hsz, g0, hK, hO⟩ := hv
  have zc := zc_of B hml
  have hx := zc.1
  have hb := zc.2.1
  have hz := zc.2.2.2.2.1
  have hin : meth.name = "<init>" := (name_of_methodNamed B.named B.method).1
  have hS : va_S (fun q => a ≤ q) s.heap s.heap [] := va_S.rf
  have hl := lv_entry ([.ref a]) (n := 1) (Nat.le_of_ble_eq_true rfl)
  rw [lg_entry_eq]
  generalize (lg_sl ([.ref a]) ++ List.replicate (1 - (lg_sl ([.ref a])).length) Slot.unset).toArray = ls at hl ⊢
  have hl : lv_has ls 1 [(0, .ref a)] := hl
  refine lv_aload_n hx hb dX7_init_0 rfl (lv_at hl 0 rfl) ?_
  refine W.objInit hx hb zc.2.2.2.1 (hz _ km_7_3) (hz _ k_oi) (hz _ k_oc) rfl (by rw [zc.2.2.1]; exact hl.1) rfl dX7_init_1 (Nat.le_of_ble_eq_true rfl) (Nat.le_of_ble_eq_true rfl) ?_
  refine W.eq (g2 := F0 m 4 ls []) rfl ?_
  refine lv_aload_n hx hb dX7_init_4 rfl (lv_at hl 0 rfl) ?_
  refine lv_bipush (v := (81 : Int32)) hx hb dX7_init_5 (by decide) ?_
  refine zNewa (ws := []) (atype := .int) (t := 1) (N := 81) (a0 := (81, .inl (fun _ => 0))) zc hK (fun k q h => by simp at h) hS hsz kac_I rfl (fun _ => rfl) (by decide) (by decide) (by decide) (Nat.le_of_ble_eq_true rfl) (Nat.le_of_ble_eq_true rfl) dX7_init_7 (fun H1 hN o1 hz1 hS => ?_)
  have g0 := zkp g0 zRg_1 (fun q h1 _ _ => o1 q (Nat.lt_of_lt_of_eq h1 hsz))
  have g1 : va_P E.1 zcl [((a + 1), .inl (E.2 1, 81, .inl (fun _ => 0)))] H1 := hN
  have hsz : H1.size = a + 2 := hz1
  refine W.cs (cells' := 1) (slots' := 81) rfl rfl ?_
  refine zPut (C := RX7) (T := TX7) (N := 8) (ci := 7) (v := .ref (a + 1)) (ty := .array .int) zc hK g0 (zD1 (Nat.le_refl a)) hS uw7 tyX7 tyX7_ok nmX7 0 rfl rfl 0 (by decide) kf_7_9 (fun _ h9 => h9) (Or.inr ⟨rfl, hin, rfl⟩) (by decide +kernel) rfl rfl (Nat.le_of_ble_eq_true rfl) dX7_init_9 (fun H2 locs hN oq hz1 hS => ?_)
  have g1 := zkp g1 zRg_1 (fun q _ h2 h3 => oq q (znA (a := a) (i := 1) (p := 0) h2 (Nat.le_of_ble_eq_true rfl)))
  have g0 : va_P E.1 zcl [(a, .inr (7, [.ref (a + 1), .null, .null, .null, .null, .null, .null, .null]))] H2 := hN
  have hsz := hz1.trans hsz
  refine lv_aload_n hx hb dX7_init_12 rfl (lv_at hl 0 rfl) ?_
  refine lv_bipush (v := (81 : Int32)) hx hb dX7_init_13 (by decide) ?_
  refine zNewa (ws := []) (atype := .int) (t := 1) (N := 81) (a0 := (81, .inl (fun _ => 0))) zc hK (fun k q h => by simp at h) hS hsz kac_I rfl (fun _ => rfl) (by decide) (by decide) (by decide) (Nat.le_of_ble_eq_true rfl) (Nat.le_of_ble_eq_true rfl) dX7_init_15 (fun H3 hN o1 hz1 hS => ?_)
  have g0 := zkp g0 zRg_1 (fun q h1 _ _ => o1 q (Nat.lt_of_lt_of_eq h1 hsz))
  have g1 := zkp g1 zRg_1 (fun q h1 _ _ => o1 q (Nat.lt_of_lt_of_eq h1 hsz))
  have g2 : va_P E.1 zcl [((a + 2), .inl (E.2 1, 81, .inl (fun _ => 0)))] H3 := hN
  have hsz : H3.size = a + 3 := hz1
  refine W.cs (cells' := 2) (slots' := 162) rfl rfl ?_
  refine zPut (C := RX7) (T := TX7) (N := 8) (ci := 7) (v := .ref (a + 2)) (ty := .array .int) zc hK g0 (zD1 (Nat.le_refl a)) hS uw7 tyX7 tyX7_ok nmX7 0 rfl rfl 1 (by decide) kf_7_15 (fun _ h9 => h9) (Or.inr ⟨rfl, hin, rfl⟩) (by decide +kernel) rfl rfl (Nat.le_of_ble_eq_true rfl) dX7_init_17 (fun H4 locs hN oq hz1 hS => ?_)
  have g1 := zkp g1 zRg_1 (fun q _ h2 h3 => oq q (znA (a := a) (i := 1) (p := 0) h2 (Nat.le_of_ble_eq_true rfl)))
  have g2 := zkp g2 zRg_1 (fun q _ h2 h3 => oq q (znA (a := a) (i := 2) (p := 0) h2 (Nat.le_of_ble_eq_true rfl)))
  have g0 : va_P E.1 zcl [(a, .inr (7, [.ref (a + 1), .ref (a + 2), .null, .null, .null, .null, .null, .null]))] H4 := hN
  have hsz := hz1.trans hsz
  refine lv_aload_n hx hb dX7_init_20 rfl (lv_at hl 0 rfl) ?_
  refine lv_bipush (v := (9 : Int32)) hx hb dX7_init_21 (by decide) ?_
  refine zNewa (ws := []) (atype := .int) (t := 1) (N := 9) (a0 := (9, .inl (fun _ => 0))) zc hK (fun k q h => by simp at h) hS hsz kac_I rfl (fun _ => rfl) (by decide) (by decide) (by decide) (Nat.le_of_ble_eq_true rfl) (Nat.le_of_ble_eq_true rfl) dX7_init_23 (fun H5 hN o1 hz1 hS => ?_)
  have g0 := zkp g0 zRg_1 (fun q h1 _ _ => o1 q (Nat.lt_of_lt_of_eq h1 hsz))
  have g1 := zkp g1 zRg_1 (fun q h1 _ _ => o1 q (Nat.lt_of_lt_of_eq h1 hsz))
  have g2 := zkp g2 zRg_1 (fun q h1 _ _ => o1 q (Nat.lt_of_lt_of_eq h1 hsz))
  have g3 : va_P E.1 zcl [((a + 3), .inl (E.2 1, 9, .inl (fun _ => 0)))] H5 := hN
  have hsz : H5.size = a + 4 := hz1
  refine W.cs (cells' := 3) (slots' := 171) rfl rfl ?_
  refine zPut (C := RX7) (T := TX7) (N := 8) (ci := 7) (v := .ref (a + 3)) (ty := .array .int) zc hK g0 (zD1 (Nat.le_refl a)) hS uw7 tyX7 tyX7_ok nmX7 0 rfl rfl 2 (by decide) kf_7_18 (fun _ h9 => h9) (Or.inr ⟨rfl, hin, rfl⟩) (by decide +kernel) rfl rfl (Nat.le_of_ble_eq_true rfl) dX7_init_25 (fun H6 locs hN oq hz1 hS => ?_)
  have g1 := zkp g1 zRg_1 (fun q _ h2 h3 => oq q (znA (a := a) (i := 1) (p := 0) h2 (Nat.le_of_ble_eq_true rfl)))
  have g2 := zkp g2 zRg_1 (fun q _ h2 h3 => oq q (znA (a := a) (i := 2) (p := 0) h2 (Nat.le_of_ble_eq_true rfl)))
  have g3 := zkp g3 zRg_1 (fun q _ h2 h3 => oq q (znA (a := a) (i := 3) (p := 0) h2 (Nat.le_of_ble_eq_true rfl)))
  have g0 : va_P E.1 zcl [(a, .inr (7, [.ref (a + 1), .ref (a + 2), .ref (a + 3), .null, .null, .null, .null, .null]))] H6 := hN
  have hsz := hz1.trans hsz
  refine lv_aload_n hx hb dX7_init_28 rfl (lv_at hl 0 rfl) ?_
  refine lv_bipush (v := (9 : Int32)) hx hb dX7_init_29 (by decide) ?_
  refine zNewa (ws := []) (atype := .int) (t := 1) (N := 9) (a0 := (9, .inl (fun _ => 0))) zc hK (fun k q h => by simp at h) hS hsz kac_I rfl (fun _ => rfl) (by decide) (by decide) (by decide) (Nat.le_of_ble_eq_true rfl) (Nat.le_of_ble_eq_true rfl) dX7_init_31 (fun H7 hN o1 hz1 hS => ?_)
  have g0 := zkp g0 zRg_1 (fun q h1 _ _ => o1 q (Nat.lt_of_lt_of_eq h1 hsz))
  have g1 := zkp g1 zRg_1 (fun q h1 _ _ => o1 q (Nat.lt_of_lt_of_eq h1 hsz))
  have g2 := zkp g2 zRg_1 (fun q h1 _ _ => o1 q (Nat.lt_of_lt_of_eq h1 hsz))
  have g3 := zkp g3 zRg_1 (fun q h1 _ _ => o1 q (Nat.lt_of_lt_of_eq h1 hsz))
  have g4 : va_P E.1 zcl [((a + 4), .inl (E.2 1, 9, .inl (fun _ => 0)))] H7 := hN
  have hsz : H7.size = a + 5 := hz1
  refine W.cs (cells' := 4) (slots' := 180) rfl rfl ?_
  refine zPut (C := RX7) (T := TX7) (N := 8) (ci := 7) (v := .ref (a + 4)) (ty := .array .int) zc hK g0 (zD1 (Nat.le_refl a)) hS uw7 tyX7 tyX7_ok nmX7 0 rfl rfl 3 (by decide) kf_7_21 (fun _ h9 => h9) (Or.inr ⟨rfl, hin, rfl⟩) (by decide +kernel) rfl rfl (Nat.le_of_ble_eq_true rfl) dX7_init_33 (fun H8 locs hN oq hz1 hS => ?_)
  have g1 := zkp g1 zRg_1 (fun q _ h2 h3 => oq q (znA (a := a) (i := 1) (p := 0) h2 (Nat.le_of_ble_eq_true rfl)))
  have g2 := zkp g2 zRg_1 (fun q _ h2 h3 => oq q (znA (a := a) (i := 2) (p := 0) h2 (Nat.le_of_ble_eq_true rfl)))
  have g3 := zkp g3 zRg_1 (fun q _ h2 h3 => oq q (znA (a := a) (i := 3) (p := 0) h2 (Nat.le_of_ble_eq_true rfl)))
  have g4 := zkp g4 zRg_1 (fun q _ h2 h3 => oq q (znA (a := a) (i := 4) (p := 0) h2 (Nat.le_of_ble_eq_true rfl)))
  have g0 : va_P E.1 zcl [(a, .inr (7, [.ref (a + 1), .ref (a + 2), .ref (a + 3), .ref (a + 4), .null, .null, .null, .null]))] H8 := hN
  have hsz := hz1.trans hsz
  refine lv_aload_n hx hb dX7_init_36 rfl (lv_at hl 0 rfl) ?_
  refine lv_bipush (v := (9 : Int32)) hx hb dX7_init_37 (by decide) ?_
  refine zNewa (ws := []) (atype := .int) (t := 1) (N := 9) (a0 := (9, .inl (fun _ => 0))) zc hK (fun k q h => by simp at h) hS hsz kac_I rfl (fun _ => rfl) (by decide) (by decide) (by decide) (Nat.le_of_ble_eq_true rfl) (Nat.le_of_ble_eq_true rfl) dX7_init_39 (fun H9 hN o1 hz1 hS => ?_)
  have g0 := zkp g0 zRg_1 (fun q h1 _ _ => o1 q (Nat.lt_of_lt_of_eq h1 hsz))
  have g1 := zkp g1 zRg_1 (fun q h1 _ _ => o1 q (Nat.lt_of_lt_of_eq h1 hsz))
  have g2 := zkp g2 zRg_1 (fun q h1 _ _ => o1 q (Nat.lt_of_lt_of_eq h1 hsz))
  have g3 := zkp g3 zRg_1 (fun q h1 _ _ => o1 q (Nat.lt_of_lt_of_eq h1 hsz))
  have g4 := zkp g4 zRg_1 (fun q h1 _ _ => o1 q (Nat.lt_of_lt_of_eq h1 hsz))
  have g5 : va_P E.1 zcl [((a + 5), .inl (E.2 1, 9, .inl (fun _ => 0)))] H9 := hN
  have hsz : H9.size = a + 6 := hz1
  refine W.cs (cells' := 5) (slots' := 189) rfl rfl ?_
  refine zPut (C := RX7) (T := TX7) (N := 8) (ci := 7) (v := .ref (a + 5)) (ty := .array .int) zc hK g0 (zD1 (Nat.le_refl a)) hS uw7 tyX7 tyX7_ok nmX7 0 rfl rfl 4 (by decide) kf_7_24 (fun _ h9 => h9) (Or.inr ⟨rfl, hin, rfl⟩) (by decide +kernel) rfl rfl (Nat.le_of_ble_eq_true rfl) dX7_init_41 (fun H10 locs hN oq hz1 hS => ?_)
  have g1 := zkp g1 zRg_1 (fun q _ h2 h3 => oq q (znA (a := a) (i := 1) (p := 0) h2 (Nat.le_of_ble_eq_true rfl)))
  have g2 := zkp g2 zRg_1 (fun q _ h2 h3 => oq q (znA (a := a) (i := 2) (p := 0) h2 (Nat.le_of_ble_eq_true rfl)))
  have g3 := zkp g3 zRg_1 (fun q _ h2 h3 => oq q (znA (a := a) (i := 3) (p := 0) h2 (Nat.le_of_ble_eq_true rfl)))
  have g4 := zkp g4 zRg_1 (fun q _ h2 h3 => oq q (znA (a := a) (i := 4) (p := 0) h2 (Nat.le_of_ble_eq_true rfl)))
  have g5 := zkp g5 zRg_1 (fun q _ h2 h3 => oq q (znA (a := a) (i := 5) (p := 0) h2 (Nat.le_of_ble_eq_true rfl)))
  have g0 : va_P E.1 zcl [(a, .inr (7, [.ref (a + 1), .ref (a + 2), .ref (a + 3), .ref (a + 4), .ref (a + 5), .null, .null, .null]))] H10 := hN
  have hsz := hz1.trans hsz
  refine lv_aload_n hx hb dX7_init_44 rfl (lv_at hl 0 rfl) ?_
  refine lv_bipush (v := (9 : Int32)) hx hb dX7_init_45 (by decide) ?_
  refine zNewa (ws := []) (atype := .int) (t := 1) (N := 9) (a0 := (9, .inl (fun _ => 0))) zc hK (fun k q h => by simp at h) hS hsz kac_I rfl (fun _ => rfl) (by decide) (by decide) (by decide) (Nat.le_of_ble_eq_true rfl) (Nat.le_of_ble_eq_true rfl) dX7_init_47 (fun H11 hN o1 hz1 hS => ?_)
  have g0 := zkp g0 zRg_1 (fun q h1 _ _ => o1 q (Nat.lt_of_lt_of_eq h1 hsz))
  have g1 := zkp g1 zRg_1 (fun q h1 _ _ => o1 q (Nat.lt_of_lt_of_eq h1 hsz))
  have g2 := zkp g2 zRg_1 (fun q h1 _ _ => o1 q (Nat.lt_of_lt_of_eq h1 hsz))
  have g3 := zkp g3 zRg_1 (fun q h1 _ _ => o1 q (Nat.lt_of_lt_of_eq h1 hsz))
  have g4 := zkp g4 zRg_1 (fun q h1 _ _ => o1 q (Nat.lt_of_lt_of_eq h1 hsz))
  have g5 := zkp g5 zRg_1 (fun q h1 _ _ => o1 q (Nat.lt_of_lt_of_eq h1 hsz))
  have g6 : va_P E.1 zcl [((a + 6), .inl (E.2 1, 9, .inl (fun _ => 0)))] H11 := hN
  have hsz : H11.size = a + 7 := hz1
  refine W.cs (cells' := 6) (slots' := 198) rfl rfl ?_
  refine zPut (C := RX7) (T := TX7) (N := 8) (ci := 7) (v := .ref (a + 6)) (ty := .array .int) zc hK g0 (zD1 (Nat.le_refl a)) hS uw7 tyX7 tyX7_ok nmX7 0 rfl rfl 5 (by decide) kf_7_27 (fun _ h9 => h9) (Or.inr ⟨rfl, hin, rfl⟩) (by decide +kernel) rfl rfl (Nat.le_of_ble_eq_true rfl) dX7_init_49 (fun H12 locs hN oq hz1 hS => ?_)
  have g1 := zkp g1 zRg_1 (fun q _ h2 h3 => oq q (znA (a := a) (i := 1) (p := 0) h2 (Nat.le_of_ble_eq_true rfl)))
  have g2 := zkp g2 zRg_1 (fun q _ h2 h3 => oq q (znA (a := a) (i := 2) (p := 0) h2 (Nat.le_of_ble_eq_true rfl)))
  have g3 := zkp g3 zRg_1 (fun q _ h2 h3 => oq q (znA (a := a) (i := 3) (p := 0) h2 (Nat.le_of_ble_eq_true rfl)))
  have g4 := zkp g4 zRg_1 (fun q _ h2 h3 => oq q (znA (a := a) (i := 4) (p := 0) h2 (Nat.le_of_ble_eq_true rfl)))
  have g5 := zkp g5 zRg_1 (fun q _ h2 h3 => oq q (znA (a := a) (i := 5) (p := 0) h2 (Nat.le_of_ble_eq_true rfl)))
  have g6 := zkp g6 zRg_1 (fun q _ h2 h3 => oq q (znA (a := a) (i := 6) (p := 0) h2 (Nat.le_of_ble_eq_true rfl)))
  have g0 : va_P E.1 zcl [(a, .inr (7, [.ref (a + 1), .ref (a + 2), .ref (a + 3), .ref (a + 4), .ref (a + 5), .ref (a + 6), .null, .null]))] H12 := hN
  have hsz := hz1.trans hsz
  refine lv_aload_n hx hb dX7_init_52 rfl (lv_at hl 0 rfl) ?_
  refine lv_bipush (v := (9 : Int32)) hx hb dX7_init_53 (by decide) ?_
  refine zNewa (ws := []) (atype := .int) (t := 1) (N := 9) (a0 := (9, .inl (fun _ => 0))) zc hK (fun k q h => by simp at h) hS hsz kac_I rfl (fun _ => rfl) (by decide) (by decide) (by decide) (Nat.le_of_ble_eq_true rfl) (Nat.le_of_ble_eq_true rfl) dX7_init_55 (fun H13 hN o1 hz1 hS => ?_)
  have g0 := zkp g0 zRg_1 (fun q h1 _ _ => o1 q (Nat.lt_of_lt_of_eq h1 hsz))
  have g1 := zkp g1 zRg_1 (fun q h1 _ _ => o1 q (Nat.lt_of_lt_of_eq h1 hsz))
  have g2 := zkp g2 zRg_1 (fun q h1 _ _ => o1 q (Nat.lt_of_lt_of_eq h1 hsz))
  have g3 := zkp g3 zRg_1 (fun q h1 _ _ => o1 q (Nat.lt_of_lt_of_eq h1 hsz))
  have g4 := zkp g4 zRg_1 (fun q h1 _ _ => o1 q (Nat.lt_of_lt_of_eq h1 hsz))
  have g5 := zkp g5 zRg_1 (fun q h1 _ _ => o1 q (Nat.lt_of_lt_of_eq h1 hsz))
  have g6 := zkp g6 zRg_1 (fun q h1 _ _ => o1 q (Nat.lt_of_lt_of_eq h1 hsz))
  have g7 : va_P E.1 zcl [((a + 7), .inl (E.2 1, 9, .inl (fun _ => 0)))] H13 := hN
  have hsz : H13.size = a + 8 := hz1
  refine W.cs (cells' := 7) (slots' := 207) rfl rfl ?_
  refine zPut (C := RX7) (T := TX7) (N := 8) (ci := 7) (v := .ref (a + 7)) (ty := .array .int) zc hK g0 (zD1 (Nat.le_refl a)) hS uw7 tyX7 tyX7_ok nmX7 0 rfl rfl 6 (by decide) kf_7_30 (fun _ h9 => h9) (Or.inr ⟨rfl, hin, rfl⟩) (by decide +kernel) rfl rfl (Nat.le_of_ble_eq_true rfl) dX7_init_57 (fun H14 locs hN oq hz1 hS => ?_)
  have g1 := zkp g1 zRg_1 (fun q _ h2 h3 => oq q (znA (a := a) (i := 1) (p := 0) h2 (Nat.le_of_ble_eq_true rfl)))
  have g2 := zkp g2 zRg_1 (fun q _ h2 h3 => oq q (znA (a := a) (i := 2) (p := 0) h2 (Nat.le_of_ble_eq_true rfl)))
  have g3 := zkp g3 zRg_1 (fun q _ h2 h3 => oq q (znA (a := a) (i := 3) (p := 0) h2 (Nat.le_of_ble_eq_true rfl)))
  have g4 := zkp g4 zRg_1 (fun q _ h2 h3 => oq q (znA (a := a) (i := 4) (p := 0) h2 (Nat.le_of_ble_eq_true rfl)))
  have g5 := zkp g5 zRg_1 (fun q _ h2 h3 => oq q (znA (a := a) (i := 5) (p := 0) h2 (Nat.le_of_ble_eq_true rfl)))
  have g6 := zkp g6 zRg_1 (fun q _ h2 h3 => oq q (znA (a := a) (i := 6) (p := 0) h2 (Nat.le_of_ble_eq_true rfl)))
  have g7 := zkp g7 zRg_1 (fun q _ h2 h3 => oq q (znA (a := a) (i := 7) (p := 0) h2 (Nat.le_of_ble_eq_true rfl)))
  have g0 : va_P E.1 zcl [(a, .inr (7, [.ref (a + 1), .ref (a + 2), .ref (a + 3), .ref (a + 4), .ref (a + 5), .ref (a + 6), .ref (a + 7), .null]))] H14 := hN
  have hsz := hz1.trans hsz
  refine lv_aload_n hx hb dX7_init_60 rfl (lv_at hl 0 rfl) ?_
  refine lv_bipush (v := (9 : Int32)) hx hb dX7_init_61 (by decide) ?_
  refine zNewa (ws := []) (atype := .int) (t := 1) (N := 9) (a0 := (9, .inl (fun _ => 0))) zc hK (fun k q h => by simp at h) hS hsz kac_I rfl (fun _ => rfl) (by decide) (by decide) (by decide) (Nat.le_of_ble_eq_true rfl) (Nat.le_of_ble_eq_true rfl) dX7_init_63 (fun H15 hN o1 hz1 hS => ?_)
  have g0 := zkp g0 zRg_1 (fun q h1 _ _ => o1 q (Nat.lt_of_lt_of_eq h1 hsz))
  have g1 := zkp g1 zRg_1 (fun q h1 _ _ => o1 q (Nat.lt_of_lt_of_eq h1 hsz))
  have g2 := zkp g2 zRg_1 (fun q h1 _ _ => o1 q (Nat.lt_of_lt_of_eq h1 hsz))
  have g3 := zkp g3 zRg_1 (fun q h1 _ _ => o1 q (Nat.lt_of_lt_of_eq h1 hsz))
  have g4 := zkp g4 zRg_1 (fun q h1 _ _ => o1 q (Nat.lt_of_lt_of_eq h1 hsz))
  have g5 := zkp g5 zRg_1 (fun q h1 _ _ => o1 q (Nat.lt_of_lt_of_eq h1 hsz))
  have g6 := zkp g6 zRg_1 (fun q h1 _ _ => o1 q (Nat.lt_of_lt_of_eq h1 hsz))
  have g7 := zkp g7 zRg_1 (fun q h1 _ _ => o1 q (Nat.lt_of_lt_of_eq h1 hsz))
  have g8 : va_P E.1 zcl [((a + 8), .inl (E.2 1, 9, .inl (fun _ => 0)))] H15 := hN
  have hsz : H15.size = a + 9 := hz1
  refine W.cs (cells' := 8) (slots' := 216) rfl rfl ?_
  refine zPut (C := RX7) (T := TX7) (N := 8) (ci := 7) (v := .ref (a + 8)) (ty := .array .int) zc hK g0 (zD1 (Nat.le_refl a)) hS uw7 tyX7 tyX7_ok nmX7 0 rfl rfl 7 (by decide) kf_7_33 (fun _ h9 => h9) (Or.inr ⟨rfl, hin, rfl⟩) (by decide +kernel) rfl rfl (Nat.le_of_ble_eq_true rfl) dX7_init_65 (fun H16 locs hN oq hz1 hS => ?_)
  have g1 := zkp g1 zRg_1 (fun q _ h2 h3 => oq q (znA (a := a) (i := 1) (p := 0) h2 (Nat.le_of_ble_eq_true rfl)))
  have g2 := zkp g2 zRg_1 (fun q _ h2 h3 => oq q (znA (a := a) (i := 2) (p := 0) h2 (Nat.le_of_ble_eq_true rfl)))
  have g3 := zkp g3 zRg_1 (fun q _ h2 h3 => oq q (znA (a := a) (i := 3) (p := 0) h2 (Nat.le_of_ble_eq_true rfl)))
  have g4 := zkp g4 zRg_1 (fun q _ h2 h3 => oq q (znA (a := a) (i := 4) (p := 0) h2 (Nat.le_of_ble_eq_true rfl)))
  have g5 := zkp g5 zRg_1 (fun q _ h2 h3 => oq q (znA (a := a) (i := 5) (p := 0) h2 (Nat.le_of_ble_eq_true rfl)))
  have g6 := zkp g6 zRg_1 (fun q _ h2 h3 => oq q (znA (a := a) (i := 6) (p := 0) h2 (Nat.le_of_ble_eq_true rfl)))
  have g7 := zkp g7 zRg_1 (fun q _ h2 h3 => oq q (znA (a := a) (i := 7) (p := 0) h2 (Nat.le_of_ble_eq_true rfl)))
  have g8 := zkp g8 zRg_1 (fun q _ h2 h3 => oq q (znA (a := a) (i := 8) (p := 0) h2 (Nat.le_of_ble_eq_true rfl)))
  have g0 : va_P E.1 zcl [(a, .inr (7, [.ref (a + 1), .ref (a + 2), .ref (a + 3), .ref (a + 4), .ref (a + 5), .ref (a + 6), .ref (a + 7), .ref (a + 8)]))] H16 := hN
  have hsz := hz1.trans hsz
  exact zIret (post := fun _ => True) (B := zJ E a 9 ([(a, .inr (7, [.ref (a + 1), .ref (a + 2), .ref (a + 3), .ref (a + 4), .ref (a + 5), .ref (a + 6), .ref (a + 7), .ref (a + 8)]))] ++ ([((a + 1), .inl (E.2 1, 81, .inl (fun _ => 0)))] ++ ([((a + 2), .inl (E.2 1, 81, .inl (fun _ => 0)))] ++ ([((a + 3), .inl (E.2 1, 9, .inl (fun _ => 0)))] ++ ([((a + 4), .inl (E.2 1, 9, .inl (fun _ => 0)))] ++ ([((a + 5), .inl (E.2 1, 9, .inl (fun _ => 0)))] ++ ([((a + 6), .inl (E.2 1, 9, .inl (fun _ => 0)))] ++ ([((a + 7), .inl (E.2 1, 9, .inl (fun _ => 0)))] ++ ([((a + 8), .inl (E.2 1, 9, .inl (fun _ => 0)))])))))))))) () zc hS trivial ⟨(va_P.app g0 (va_P.app g1 (va_P.app g2 (va_P.app g3 (va_P.app g4 (va_P.app g5 (va_P.app g6 (va_P.app g7 g8)))))))), hsz⟩ dX7_init_68
end
section
abbrev rmi_X5_init : Room := { frames := 1, cells := 2, slots := 90, locals := 20 }
abbrev zb_X5_init (E : zE) (a : Nat) : va_W := (([(a, .inr (5, [.null, .ref (a + 1), .ref (a + 2)]))] : va_W) ++ (([((a + 1), .inl (E.2 1, 81, .inl (fun _ => 0)))] : va_W) ++ (([((a + 2), .inl (E.2 1, 9, .inl (fun _ => 0)))] : va_W))))
theorem zrg_X5_init {E : zE} {a : Nat} : zRg (zb_X5_init E a) a (a + 3) := by
  exact ((zRg_1).mono (by omega) (by omega)).app (((zRg_1).mono (by omega) (by omega)).app ((zRg_1).mono (by omega) (by omega)))
set_option maxRecDepth 40000 in
set_option maxHeartbeats 4000000 in
theorem ci_X5_init (l : Launch) {E : zE} {a : Nat} : Met l yX5_init (Cond.code yX5_init cX5_init 1 none :: zb) rmi_X5_init (va_Pc [.ref a] (zI E a 5 [.null, .null, .null])) (zQv (S := Unit) (fun _ => True) (zJ E a 3 (zb_X5_init E a)) (fun q => a ≤ q)) 2 90 (fun q => a ≤ q) := by
  refine Met.ofW (cc := cX5_init) (maxL := 1) (ret := none) (by decide) rfl ?_
  intro p e s m args below meth c s₁ B hml hv
  obtain ⟨rfl, hsz, g0, hK, hO⟩ := hv
  have zc := zc_of B hml
  have hx := zc.1
  have hb := zc.2.1
  have hz := zc.2.2.2.2.1
  have hin : meth.name = "<init>" := (name_of_methodNamed B.named B.method).1
  have hS : va_S (fun q => a ≤ q) s.heap s.heap [] := va_S.rf
  have hl := lv_entry ([.ref a]) (n := 1) (Nat.le_of_ble_eq_true rfl)
  rw [lg_entry_eq]
  generalize (lg_sl ([.ref a]) ++ List.replicate (1 - (lg_sl ([.ref a])).length) Slot.unset).toArray = ls at hl ⊢
  have hl : lv_has ls 1 [(0, .ref a)] := hl
  refine lv_aload_n hx hb dX5_init_0 rfl (lv_at hl 0 rfl) ?_
  refine W.objInit hx hb zc.2.2.2.1 (hz _ km_5_3) (hz _ k_oi) (hz _ k_oc) rfl (by rw [zc.2.2.1]; exact hl.1) rfl dX5_init_1 (Nat.le_of_ble_eq_true rfl) (Nat.le_of_ble_eq_true rfl) ?_
  refine W.eq (g2 := F0 m 4 ls []) rfl ?_
  refine lv_aload_n hx hb dX5_init_4 rfl (lv_at hl 0 rfl) ?_
  refine lv_bipush (v := (81 : Int32)) hx hb dX5_init_5 (by decide) ?_
  refine zNewa (ws := []) (atype := .int) (t := 1) (N := 81) (a0 := (81, .inl (fun _ => 0))) zc hK (fun k q h => by simp at h) hS hsz kac_I rfl (fun _ => rfl) (by decide) (by decide) (by decide) (Nat.le_of_ble_eq_true rfl) (Nat.le_of_ble_eq_true rfl) dX5_init_7 (fun H1 hN o1 hz1 hS => ?_)
  have g0 := zkp g0 zRg_1 (fun q h1 _ _ => o1 q (Nat.lt_of_lt_of_eq h1 hsz))
  have g1 : va_P E.1 zcl [((a + 1), .inl (E.2 1, 81, .inl (fun _ => 0)))] H1 := hN
  have hsz : H1.size = a + 2 := hz1
  refine W.cs (cells' := 1) (slots' := 81) rfl rfl ?_
  refine zPut (C := RX5) (T := TX5) (N := 3) (ci := 5) (v := .ref (a + 1)) (ty := .array .int) zc hK g0 (zD1 (Nat.le_refl a)) hS uw5 tyX5 tyX5_ok nmX5 0 rfl rfl 1 (by decide) kf_5_9 (fun _ h9 => h9) (Or.inr ⟨rfl, hin, rfl⟩) (by decide +kernel) rfl rfl (Nat.le_of_ble_eq_true rfl) dX5_init_9 (fun H2 locs hN oq hz1 hS => ?_)
  have g1 := zkp g1 zRg_1 (fun q _ h2 h3 => oq q (znA (a := a) (i := 1) (p := 0) h2 (Nat.le_of_ble_eq_true rfl)))
  have g0 : va_P E.1 zcl [(a, .inr (5, [.null, .ref (a + 1), .null]))] H2 := hN
  have hsz := hz1.trans hsz
  refine lv_aload_n hx hb dX5_init_12 rfl (lv_at hl 0 rfl) ?_
  refine lv_bipush (v := (9 : Int32)) hx hb dX5_init_13 (by decide) ?_
  refine zNewa (ws := []) (atype := .int) (t := 1) (N := 9) (a0 := (9, .inl (fun _ => 0))) zc hK (fun k q h => by simp at h) hS hsz kac_I rfl (fun _ => rfl) (by decide) (by decide) (by decide) (Nat.le_of_ble_eq_true rfl) (Nat.le_of_ble_eq_true rfl) dX5_init_15 (fun H3 hN o1 hz1 hS => ?_)
  have g0 := zkp g0 zRg_1 (fun q h1 _ _ => o1 q (Nat.lt_of_lt_of_eq h1 hsz))
  have g1 := zkp g1 zRg_1 (fun q h1 _ _ => o1 q (Nat.lt_of_lt_of_eq h1 hsz))
  have g2 : va_P E.1 zcl [((a + 2), .inl (E.2 1, 9, .inl (fun _ => 0)))] H3 := hN
  have hsz : H3.size = a + 3 := hz1
  refine W.cs (cells' := 2) (slots' := 90) rfl rfl ?_
  refine zPut (C := RX5) (T := TX5) (N := 3) (ci := 5) (v := .ref (a + 2)) (ty := .array .int) zc hK g0 (zD1 (Nat.le_refl a)) hS uw5 tyX5 tyX5_ok nmX5 0 rfl rfl 2 (by decide) kf_5_15 (fun _ h9 => h9) (Or.inr ⟨rfl, hin, rfl⟩) (by decide +kernel) rfl rfl (Nat.le_of_ble_eq_true rfl) dX5_init_17 (fun H4 locs hN oq hz1 hS => ?_)
  have g1 := zkp g1 zRg_1 (fun q _ h2 h3 => oq q (znA (a := a) (i := 1) (p := 0) h2 (Nat.le_of_ble_eq_true rfl)))
  have g2 := zkp g2 zRg_1 (fun q _ h2 h3 => oq q (znA (a := a) (i := 2) (p := 0) h2 (Nat.le_of_ble_eq_true rfl)))
  have g0 : va_P E.1 zcl [(a, .inr (5, [.null, .ref (a + 1), .ref (a + 2)]))] H4 := hN
  have hsz := hz1.trans hsz
  exact zIret (post := fun _ => True) (B := zJ E a 3 ([(a, .inr (5, [.null, .ref (a + 1), .ref (a + 2)]))] ++ ([((a + 1), .inl (E.2 1, 81, .inl (fun _ => 0)))] ++ ([((a + 2), .inl (E.2 1, 9, .inl (fun _ => 0)))])))) () zc hS trivial ⟨(va_P.app g0 (va_P.app g1 g2)), hsz⟩ dX5_init_20
end
section
abbrev rmi_X8_init : Room := { frames := 1, cells := 2, slots := 122, locals := 20 }
abbrev zb_X8_init (E : zE) (a : Nat) : va_W := (([(a, .inr (8, [.ref (a + 1), .ref (a + 2)]))] : va_W) ++ (([((a + 1), .inl (E.2 1, 61, .inl (fun _ => 0)))] : va_W) ++ (([((a + 2), .inl (E.2 1, 61, .inl (fun _ => 0)))] : va_W))))
theorem zrg_X8_init {E : zE} {a : Nat} : zRg (zb_X8_init E a) a (a + 3) := by
  exact ((zRg_1).mono (by omega) (by omega)).app (((zRg_1).mono (by omega) (by omega)).app ((zRg_1).mono (by omega) (by omega)))
set_option maxRecDepth 40000 in
set_option maxHeartbeats 4000000 in
theorem ci_X8_init (l : Launch) {E : zE} {a : Nat} : Met l yX8_init (Cond.code yX8_init cX8_init 1 none :: zb) rmi_X8_init (va_Pc [.ref a] (zI E a 8 [.null, .null])) (zQv (S := Unit) (fun _ => True) (zJ E a 3 (zb_X8_init E a)) (fun q => a ≤ q)) 2 122 (fun q => a ≤ q) := by
  refine Met.ofW (cc := cX8_init) (maxL := 1) (ret := none) (by decide) rfl ?_
  intro p e s m args below meth c s₁ B hml hv
  obtain ⟨rfl, hsz, g0, hK, hO⟩ := hv
  have zc := zc_of B hml
  have hx := zc.1
  have hb := zc.2.1
  have hz := zc.2.2.2.2.1
  have hin : meth.name = "<init>" := (name_of_methodNamed B.named B.method).1
  have hS : va_S (fun q => a ≤ q) s.heap s.heap [] := va_S.rf
  have hl := lv_entry ([.ref a]) (n := 1) (Nat.le_of_ble_eq_true rfl)
  rw [lg_entry_eq]
  generalize (lg_sl ([.ref a]) ++ List.replicate (1 - (lg_sl ([.ref a])).length) Slot.unset).toArray = ls at hl ⊢
  have hl : lv_has ls 1 [(0, .ref a)] := hl
  refine lv_aload_n hx hb dX8_init_0 rfl (lv_at hl 0 rfl) ?_
  refine W.objInit hx hb zc.2.2.2.1 (hz _ km_8_3) (hz _ k_oi) (hz _ k_oc) rfl (by rw [zc.2.2.1]; exact hl.1) rfl dX8_init_1 (Nat.le_of_ble_eq_true rfl) (Nat.le_of_ble_eq_true rfl) ?_
  refine W.eq (g2 := F0 m 4 ls []) rfl ?_
  refine lv_aload_n hx hb dX8_init_4 rfl (lv_at hl 0 rfl) ?_
  refine lv_bipush (v := (61 : Int32)) hx hb dX8_init_5 (by decide) ?_
  refine zNewa (ws := []) (atype := .int) (t := 1) (N := 61) (a0 := (61, .inl (fun _ => 0))) zc hK (fun k q h => by simp at h) hS hsz kac_I rfl (fun _ => rfl) (by decide) (by decide) (by decide) (Nat.le_of_ble_eq_true rfl) (Nat.le_of_ble_eq_true rfl) dX8_init_7 (fun H1 hN o1 hz1 hS => ?_)
  have g0 := zkp g0 zRg_1 (fun q h1 _ _ => o1 q (Nat.lt_of_lt_of_eq h1 hsz))
  have g1 : va_P E.1 zcl [((a + 1), .inl (E.2 1, 61, .inl (fun _ => 0)))] H1 := hN
  have hsz : H1.size = a + 2 := hz1
  refine W.cs (cells' := 1) (slots' := 61) rfl rfl ?_
  refine zPut (C := RX8) (T := TX8) (N := 2) (ci := 8) (v := .ref (a + 1)) (ty := .array .int) zc hK g0 (zD1 (Nat.le_refl a)) hS uw8 tyX8 tyX8_ok nmX8 0 rfl rfl 0 (by decide) kf_8_9 (fun _ h9 => h9) (Or.inr ⟨rfl, hin, rfl⟩) (by decide +kernel) rfl rfl (Nat.le_of_ble_eq_true rfl) dX8_init_9 (fun H2 locs hN oq hz1 hS => ?_)
  have g1 := zkp g1 zRg_1 (fun q _ h2 h3 => oq q (znA (a := a) (i := 1) (p := 0) h2 (Nat.le_of_ble_eq_true rfl)))
  have g0 : va_P E.1 zcl [(a, .inr (8, [.ref (a + 1), .null]))] H2 := hN
  have hsz := hz1.trans hsz
  refine lv_aload_n hx hb dX8_init_12 rfl (lv_at hl 0 rfl) ?_
  refine lv_bipush (v := (61 : Int32)) hx hb dX8_init_13 (by decide) ?_
  refine zNewa (ws := []) (atype := .int) (t := 1) (N := 61) (a0 := (61, .inl (fun _ => 0))) zc hK (fun k q h => by simp at h) hS hsz kac_I rfl (fun _ => rfl) (by decide) (by decide) (by decide) (Nat.le_of_ble_eq_true rfl) (Nat.le_of_ble_eq_true rfl) dX8_init_15 (fun H3 hN o1 hz1 hS => ?_)
  have g0 := zkp g0 zRg_1 (fun q h1 _ _ => o1 q (Nat.lt_of_lt_of_eq h1 hsz))
  have g1 := zkp g1 zRg_1 (fun q h1 _ _ => o1 q (Nat.lt_of_lt_of_eq h1 hsz))
  have g2 : va_P E.1 zcl [((a + 2), .inl (E.2 1, 61, .inl (fun _ => 0)))] H3 := hN
  have hsz : H3.size = a + 3 := hz1
  refine W.cs (cells' := 2) (slots' := 122) rfl rfl ?_
  refine zPut (C := RX8) (T := TX8) (N := 2) (ci := 8) (v := .ref (a + 2)) (ty := .array .int) zc hK g0 (zD1 (Nat.le_refl a)) hS uw8 tyX8 tyX8_ok nmX8 0 rfl rfl 1 (by decide) kf_8_15 (fun _ h9 => h9) (Or.inr ⟨rfl, hin, rfl⟩) (by decide +kernel) rfl rfl (Nat.le_of_ble_eq_true rfl) dX8_init_17 (fun H4 locs hN oq hz1 hS => ?_)
  have g1 := zkp g1 zRg_1 (fun q _ h2 h3 => oq q (znA (a := a) (i := 1) (p := 0) h2 (Nat.le_of_ble_eq_true rfl)))
  have g2 := zkp g2 zRg_1 (fun q _ h2 h3 => oq q (znA (a := a) (i := 2) (p := 0) h2 (Nat.le_of_ble_eq_true rfl)))
  have g0 : va_P E.1 zcl [(a, .inr (8, [.ref (a + 1), .ref (a + 2)]))] H4 := hN
  have hsz := hz1.trans hsz
  exact zIret (post := fun _ => True) (B := zJ E a 3 ([(a, .inr (8, [.ref (a + 1), .ref (a + 2)]))] ++ ([((a + 1), .inl (E.2 1, 61, .inl (fun _ => 0)))] ++ ([((a + 2), .inl (E.2 1, 61, .inl (fun _ => 0)))])))) () zc hS trivial ⟨(va_P.app g0 (va_P.app g1 g2)), hsz⟩ dX8_init_20
end
section
abbrev rmi_X10_init : Room := { frames := 3, cells := 92, slots := 2688, locals := 60 }
abbrev zb_X10_init (E : zE) (a : Nat) : va_W := (([(a, .inr (10, [.ref (a + 1), .ref (a + 48), .ref (a + 49), .ref (a + 72), .ref (a + 78), .ref (a + 87), .ref (a + 90)]))] : va_W) ++ ((zb_X9_init E (a + 1) : va_W) ++ (([((a + 48), .inl (E.2 8, 3, .inr (.inr (.inr (.inr (fun _ => none))))))] : va_W) ++ ((zb_X4_init E (a + 49) : va_W) ++ ((zb_X3_init E (a + 72) : va_W) ++ ((zb_X7_init E (a + 78) : va_W) ++ ((zb_X5_init E (a + 87) : va_W) ++ ((zb_X8_init E (a + 90) : va_W)))))))))
theorem zrg_X10_init {E : zE} {a : Nat} : zRg (zb_X10_init E a) a (a + 93) := by
  exact ((zRg_1).mono (by omega) (by omega)).app (((zrg_X9_init).mono (by omega) (by omega)).app (((zRg_1).mono (by omega) (by omega)).app (((zrg_X4_init).mono (by omega) (by omega)).app (((zrg_X3_init).mono (by omega) (by omega)).app (((zrg_X7_init).mono (by omega) (by omega)).app (((zrg_X5_init).mono (by omega) (by omega)).app ((zrg_X8_init).mono (by omega) (by omega))))))))
set_option maxRecDepth 40000 in
set_option maxHeartbeats 4000000 in
theorem ci_X10_init (l : Launch) {E : zE} {a : Nat} : Met l yX10_init (Cond.code yX10_init cX10_init 1 none :: zb) rmi_X10_init (va_Pc [.ref a] (zI E a 10 [.null, .null, .null, .null, .null, .null, .null])) (zQv (S := Unit) (fun _ => True) (zJ E a 93 (zb_X10_init E a)) (fun q => a ≤ q)) 92 2688 (fun q => a ≤ q) := by
  refine Met.ofW (cc := cX10_init) (maxL := 1) (ret := none) (by decide) rfl ?_
  intro p e s m args below meth c s₁ B hml hv
  obtain ⟨rfl, hsz, g0, hK, hO⟩ := hv
  have zc := zc_of B hml
  have hx := zc.1
  have hb := zc.2.1
  have hz := zc.2.2.2.2.1
  have hin : meth.name = "<init>" := (name_of_methodNamed B.named B.method).1
  have hS : va_S (fun q => a ≤ q) s.heap s.heap [] := va_S.rf
  have hl := lv_entry ([.ref a]) (n := 1) (Nat.le_of_ble_eq_true rfl)
  rw [lg_entry_eq]
  generalize (lg_sl ([.ref a]) ++ List.replicate (1 - (lg_sl ([.ref a])).length) Slot.unset).toArray = ls at hl ⊢
  have hl : lv_has ls 1 [(0, .ref a)] := hl
  refine lv_aload_n hx hb dX10_init_0 rfl (lv_at hl 0 rfl) ?_
  refine W.objInit hx hb zc.2.2.2.1 (hz _ km_10_1) (hz _ k_oi) (hz _ k_oc) rfl (by rw [zc.2.2.1]; exact hl.1) rfl dX10_init_1 (Nat.le_of_ble_eq_true rfl) (Nat.le_of_ble_eq_true rfl) ?_
  refine W.eq (g2 := F0 m 4 ls []) rfl ?_
  refine lv_aload_n hx hb dX10_init_4 rfl (lv_at hl 0 rfl) ?_
  refine zNew (ws := []) (C := RX9) (T := TX9) (N := 9) (ci := 9) zc hK (fun k q h => by simp at h) hS hsz uw9 tyX9 tyX9_ok kcl_10_7 kins_9 kinit_9 rfl [.null, .int 0, .int 0, .int 0, .null, .null, .null, .null, .null] (fun j hj => match j, hj with | 0, _ => rfl | 1, _ => rfl | 2, _ => rfl | 3, _ => rfl | 4, _ => rfl | 5, _ => rfl | 6, _ => rfl | 7, _ => rfl | 8, _ => rfl | j + 9, hj => absurd hj (by omega)) (Nat.le_of_ble_eq_true rfl) (Nat.le_of_ble_eq_true rfl) dX10_init_5 (fun H1 hN o1 hz1 hS => ?_)
  have g0 := zkp g0 zRg_1 (fun q h1 _ _ => o1 q (Nat.lt_of_lt_of_eq h1 hsz))
  have g1 : va_P E.1 zcl [((a + 1), .inr (9, [.null, .int 0, .int 0, .int 0, .null, .null, .null, .null, .null]))] H1 := hN
  have hsz : H1.size = a + 2 := hz1
  refine W.cs (cells' := 1) (slots' := 9) rfl rfl ?_
  refine lv_dup hx hb dX10_init_8 rfl ?_
  refine zIc zc ky_X9_init kz_X9_init rfl km_10_9 (ci_X9_init l) (zIpre hK hO g1 hsz) hS (fun q (h : (a + 1) ≤ q) => Nat.le_trans (Nat.le_add_right a 1) h) hl.1 (Nat.le_of_ble_eq_true rfl) ⟨rfl, rfl⟩ ⟨Nat.le_of_ble_eq_true rfl, Nat.le_of_ble_eq_true rfl⟩ ⟨Nat.le_of_ble_eq_true rfl, Nat.le_of_ble_eq_true rfl⟩ dX10_init_9 (fun _ H2 locs _ hJ hk hS => ?_)
  have g0 := zkp g0 zRg_1 (fun q h1 _ h3 => hk q h1 (zge_n (a := a) (i := 1) (j := 1) h3 (Nat.le_of_ble_eq_true rfl)))
  have g1 := hJ.1
  have hsz : H2.size = a + 48 := hJ.2
  refine W.cs (cells' := 47) (slots' := 1261) rfl rfl ?_
  refine zPut (C := RX10) (T := TX10) (N := 7) (ci := 10) (v := .ref (a + 1)) (ty := .object "DownhillSong$Told") zc hK g0 (zD1 (Nat.le_refl a)) hS uw10 tyX10 tyX10_ok nmX10 0 rfl rfl 0 (by decide) kf_10_10 (fun _ h9 => h9) (Or.inr ⟨rfl, hin, rfl⟩) (by decide +kernel) rfl rfl (Nat.le_of_ble_eq_true rfl) dX10_init_12 (fun H3 locs hN oq hz1 hS => ?_)
  have g1 := zkp g1 zrg_X9_init (fun q _ h2 h3 => oq q (znA (a := a) (i := 1) (p := 0) h2 (Nat.le_of_ble_eq_true rfl)))
  have g0 : va_P E.1 zcl [(a, .inr (10, [.ref (a + 1), .null, .null, .null, .null, .null, .null]))] H3 := hN
  have hsz := hz1.trans hsz
  refine lv_aload_n hx hb dX10_init_15 rfl (lv_at hl 0 rfl) ?_
  refine lv_iconst (v := (3 : Int32)) hx hb dX10_init_16 (by decide) ?_
  refine zNewq (ws := []) (t := 8) (N := 3) zc hK (hO RX9 (by simp [zover])) (fun k q h => by simp at h) hS hsz kcl_10_7 rfl (by decide) (by decide) (by decide) (Nat.le_of_ble_eq_true rfl) (Nat.le_of_ble_eq_true rfl) dX10_init_17 (fun H4 hN o1 hz1 hS => ?_)
  have g0 := zkp g0 zRg_1 (fun q h1 _ _ => o1 q (Nat.lt_of_lt_of_eq h1 hsz))
  have g1 := zkp g1 zrg_X9_init (fun q h1 _ _ => o1 q (Nat.lt_of_lt_of_eq h1 hsz))
  have g48 : va_P E.1 zcl [((a + 48), .inl (E.2 8, 3, .inr (.inr (.inr (.inr (fun _ => none))))))] H4 := hN
  have hsz : H4.size = a + 49 := hz1
  refine W.cs (cells' := 48) (slots' := 1264) rfl rfl ?_
  refine zPut (C := RX10) (T := TX10) (N := 7) (ci := 10) (v := .ref (a + 48)) (ty := .array (.object "DownhillSong$Told")) zc hK g0 (zD1 (Nat.le_refl a)) hS uw10 tyX10 tyX10_ok nmX10 0 rfl rfl 1 (by decide) kf_10_16 (fun _ h9 => h9) (Or.inr ⟨rfl, hin, rfl⟩) (by decide +kernel) rfl rfl (Nat.le_of_ble_eq_true rfl) dX10_init_20 (fun H5 locs hN oq hz1 hS => ?_)
  have g1 := zkp g1 zrg_X9_init (fun q _ h2 h3 => oq q (znA (a := a) (i := 1) (p := 0) h2 (Nat.le_of_ble_eq_true rfl)))
  have g48 := zkp g48 zRg_1 (fun q _ h2 h3 => oq q (znA (a := a) (i := 48) (p := 0) h2 (Nat.le_of_ble_eq_true rfl)))
  have g0 : va_P E.1 zcl [(a, .inr (10, [.ref (a + 1), .ref (a + 48), .null, .null, .null, .null, .null]))] H5 := hN
  have hsz := hz1.trans hsz
  refine lv_aload_n hx hb dX10_init_23 rfl (lv_at hl 0 rfl) ?_
  refine zNew (ws := []) (C := RX4) (T := TX4) (N := 15) (ci := 4) zc hK (fun k q h => by simp at h) hS hsz uw4 tyX4 tyX4_ok kcl_10_20 kins_4 kinit_4 rfl [.null, .null, .null, .null, .int 0, .int 0, .null, .null, .int 0, .int 0, .int 0, .int 0, .int 0, .int 0, .int 0] (fun j hj => match j, hj with | 0, _ => rfl | 1, _ => rfl | 2, _ => rfl | 3, _ => rfl | 4, _ => rfl | 5, _ => rfl | 6, _ => rfl | 7, _ => rfl | 8, _ => rfl | 9, _ => rfl | 10, _ => rfl | 11, _ => rfl | 12, _ => rfl | 13, _ => rfl | 14, _ => rfl | j + 15, hj => absurd hj (by omega)) (Nat.le_of_ble_eq_true rfl) (Nat.le_of_ble_eq_true rfl) dX10_init_24 (fun H6 hN o1 hz1 hS => ?_)
  have g0 := zkp g0 zRg_1 (fun q h1 _ _ => o1 q (Nat.lt_of_lt_of_eq h1 hsz))
  have g1 := zkp g1 zrg_X9_init (fun q h1 _ _ => o1 q (Nat.lt_of_lt_of_eq h1 hsz))
  have g48 := zkp g48 zRg_1 (fun q h1 _ _ => o1 q (Nat.lt_of_lt_of_eq h1 hsz))
  have g49 : va_P E.1 zcl [((a + 49), .inr (4, [.null, .null, .null, .null, .int 0, .int 0, .null, .null, .int 0, .int 0, .int 0, .int 0, .int 0, .int 0, .int 0]))] H6 := hN
  have hsz : H6.size = a + 50 := hz1
  refine W.cs (cells' := 49) (slots' := 1279) rfl rfl ?_
  refine lv_dup hx hb dX10_init_27 rfl ?_
  refine zIc zc ky_X4_init kz_X4_init rfl km_10_22 (ci_X4_init l) (zIpre hK hO g49 hsz) hS (fun q (h : (a + 49) ≤ q) => Nat.le_trans (Nat.le_add_right a 49) h) hl.1 (Nat.le_of_ble_eq_true rfl) ⟨rfl, rfl⟩ ⟨Nat.le_of_ble_eq_true rfl, Nat.le_of_ble_eq_true rfl⟩ ⟨Nat.le_of_ble_eq_true rfl, Nat.le_of_ble_eq_true rfl⟩ dX10_init_28 (fun _ H7 locs _ hJ hk hS => ?_)
  have g0 := zkp g0 zRg_1 (fun q h1 _ h3 => hk q h1 (zge_n (a := a) (i := 1) (j := 49) h3 (Nat.le_of_ble_eq_true rfl)))
  have g1 := zkp g1 zrg_X9_init (fun q h1 _ h3 => hk q h1 (zge_n (a := a) (i := 48) (j := 49) h3 (Nat.le_of_ble_eq_true rfl)))
  have g48 := zkp g48 zRg_1 (fun q h1 _ h3 => hk q h1 (zge_n (a := a) (i := 49) (j := 49) h3 (Nat.le_of_ble_eq_true rfl)))
  have g49 := hJ.1
  have hsz : H7.size = a + 72 := hJ.2
  refine W.cs (cells' := 71) (slots' := 2202) rfl rfl ?_
  refine zPut (C := RX10) (T := TX10) (N := 7) (ci := 10) (v := .ref (a + 49)) (ty := .object "DownhillSong$Reader") zc hK g0 (zD1 (Nat.le_refl a)) hS uw10 tyX10 tyX10_ok nmX10 0 rfl rfl 2 (by decide) kf_10_23 (fun _ h9 => h9) (Or.inr ⟨rfl, hin, rfl⟩) (by decide +kernel) rfl rfl (Nat.le_of_ble_eq_true rfl) dX10_init_31 (fun H8 locs hN oq hz1 hS => ?_)
  have g1 := zkp g1 zrg_X9_init (fun q _ h2 h3 => oq q (znA (a := a) (i := 1) (p := 0) h2 (Nat.le_of_ble_eq_true rfl)))
  have g48 := zkp g48 zRg_1 (fun q _ h2 h3 => oq q (znA (a := a) (i := 48) (p := 0) h2 (Nat.le_of_ble_eq_true rfl)))
  have g49 := zkp g49 zrg_X4_init (fun q _ h2 h3 => oq q (znA (a := a) (i := 49) (p := 0) h2 (Nat.le_of_ble_eq_true rfl)))
  have g0 : va_P E.1 zcl [(a, .inr (10, [.ref (a + 1), .ref (a + 48), .ref (a + 49), .null, .null, .null, .null]))] H8 := hN
  have hsz := hz1.trans hsz
  refine lv_aload_n hx hb dX10_init_34 rfl (lv_at hl 0 rfl) ?_
  refine zNew (ws := []) (C := RX3) (T := TX3) (N := 10) (ci := 3) zc hK (fun k q h => by simp at h) hS hsz uw3 tyX3 tyX3_ok kcl_10_27 kins_3 kinit_3 rfl [.int 0, .int 0, .int 0, .int 0, .int 0, .null, .null, .null, .null, .null] (fun j hj => match j, hj with | 0, _ => rfl | 1, _ => rfl | 2, _ => rfl | 3, _ => rfl | 4, _ => rfl | 5, _ => rfl | 6, _ => rfl | 7, _ => rfl | 8, _ => rfl | 9, _ => rfl | j + 10, hj => absurd hj (by omega)) (Nat.le_of_ble_eq_true rfl) (Nat.le_of_ble_eq_true rfl) dX10_init_35 (fun H9 hN o1 hz1 hS => ?_)
  have g0 := zkp g0 zRg_1 (fun q h1 _ _ => o1 q (Nat.lt_of_lt_of_eq h1 hsz))
  have g1 := zkp g1 zrg_X9_init (fun q h1 _ _ => o1 q (Nat.lt_of_lt_of_eq h1 hsz))
  have g48 := zkp g48 zRg_1 (fun q h1 _ _ => o1 q (Nat.lt_of_lt_of_eq h1 hsz))
  have g49 := zkp g49 zrg_X4_init (fun q h1 _ _ => o1 q (Nat.lt_of_lt_of_eq h1 hsz))
  have g72 : va_P E.1 zcl [((a + 72), .inr (3, [.int 0, .int 0, .int 0, .int 0, .int 0, .null, .null, .null, .null, .null]))] H9 := hN
  have hsz : H9.size = a + 73 := hz1
  refine W.cs (cells' := 72) (slots' := 2212) rfl rfl ?_
  refine lv_dup hx hb dX10_init_38 rfl ?_
  refine zIc zc ky_X3_init kz_X3_init rfl km_10_29 (ci_X3_init l) (zIpre hK hO g72 hsz) hS (fun q (h : (a + 72) ≤ q) => Nat.le_trans (Nat.le_add_right a 72) h) hl.1 (Nat.le_of_ble_eq_true rfl) ⟨rfl, rfl⟩ ⟨Nat.le_of_ble_eq_true rfl, Nat.le_of_ble_eq_true rfl⟩ ⟨Nat.le_of_ble_eq_true rfl, Nat.le_of_ble_eq_true rfl⟩ dX10_init_39 (fun _ H10 locs _ hJ hk hS => ?_)
  have g0 := zkp g0 zRg_1 (fun q h1 _ h3 => hk q h1 (zge_n (a := a) (i := 1) (j := 72) h3 (Nat.le_of_ble_eq_true rfl)))
  have g1 := zkp g1 zrg_X9_init (fun q h1 _ h3 => hk q h1 (zge_n (a := a) (i := 48) (j := 72) h3 (Nat.le_of_ble_eq_true rfl)))
  have g48 := zkp g48 zRg_1 (fun q h1 _ h3 => hk q h1 (zge_n (a := a) (i := 49) (j := 72) h3 (Nat.le_of_ble_eq_true rfl)))
  have g49 := zkp g49 zrg_X4_init (fun q h1 _ h3 => hk q h1 (zge_n (a := a) (i := 72) (j := 72) h3 (Nat.le_of_ble_eq_true rfl)))
  have g72 := hJ.1
  have hsz : H10.size = a + 78 := hJ.2
  refine W.cs (cells' := 77) (slots' := 2247) rfl rfl ?_
  refine zPut (C := RX10) (T := TX10) (N := 7) (ci := 10) (v := .ref (a + 72)) (ty := .object "DownhillSong$Night") zc hK g0 (zD1 (Nat.le_refl a)) hS uw10 tyX10 tyX10_ok nmX10 0 rfl rfl 3 (by decide) kf_10_30 (fun _ h9 => h9) (Or.inr ⟨rfl, hin, rfl⟩) (by decide +kernel) rfl rfl (Nat.le_of_ble_eq_true rfl) dX10_init_42 (fun H11 locs hN oq hz1 hS => ?_)
  have g1 := zkp g1 zrg_X9_init (fun q _ h2 h3 => oq q (znA (a := a) (i := 1) (p := 0) h2 (Nat.le_of_ble_eq_true rfl)))
  have g48 := zkp g48 zRg_1 (fun q _ h2 h3 => oq q (znA (a := a) (i := 48) (p := 0) h2 (Nat.le_of_ble_eq_true rfl)))
  have g49 := zkp g49 zrg_X4_init (fun q _ h2 h3 => oq q (znA (a := a) (i := 49) (p := 0) h2 (Nat.le_of_ble_eq_true rfl)))
  have g72 := zkp g72 zrg_X3_init (fun q _ h2 h3 => oq q (znA (a := a) (i := 72) (p := 0) h2 (Nat.le_of_ble_eq_true rfl)))
  have g0 : va_P E.1 zcl [(a, .inr (10, [.ref (a + 1), .ref (a + 48), .ref (a + 49), .ref (a + 72), .null, .null, .null]))] H11 := hN
  have hsz := hz1.trans hsz
  refine lv_aload_n hx hb dX10_init_45 rfl (lv_at hl 0 rfl) ?_
  refine zNew (ws := []) (C := RX7) (T := TX7) (N := 8) (ci := 7) zc hK (fun k q h => by simp at h) hS hsz uw7 tyX7 tyX7_ok kcl_10_34 kins_7 kinit_7 rfl [.null, .null, .null, .null, .null, .null, .null, .null] (fun j hj => match j, hj with | 0, _ => rfl | 1, _ => rfl | 2, _ => rfl | 3, _ => rfl | 4, _ => rfl | 5, _ => rfl | 6, _ => rfl | 7, _ => rfl | j + 8, hj => absurd hj (by omega)) (Nat.le_of_ble_eq_true rfl) (Nat.le_of_ble_eq_true rfl) dX10_init_46 (fun H12 hN o1 hz1 hS => ?_)
  have g0 := zkp g0 zRg_1 (fun q h1 _ _ => o1 q (Nat.lt_of_lt_of_eq h1 hsz))
  have g1 := zkp g1 zrg_X9_init (fun q h1 _ _ => o1 q (Nat.lt_of_lt_of_eq h1 hsz))
  have g48 := zkp g48 zRg_1 (fun q h1 _ _ => o1 q (Nat.lt_of_lt_of_eq h1 hsz))
  have g49 := zkp g49 zrg_X4_init (fun q h1 _ _ => o1 q (Nat.lt_of_lt_of_eq h1 hsz))
  have g72 := zkp g72 zrg_X3_init (fun q h1 _ _ => o1 q (Nat.lt_of_lt_of_eq h1 hsz))
  have g78 : va_P E.1 zcl [((a + 78), .inr (7, [.null, .null, .null, .null, .null, .null, .null, .null]))] H12 := hN
  have hsz : H12.size = a + 79 := hz1
  refine W.cs (cells' := 78) (slots' := 2255) rfl rfl ?_
  refine lv_dup hx hb dX10_init_49 rfl ?_
  refine zIc zc ky_X7_init kz_X7_init rfl km_10_36 (ci_X7_init l) (zIpre hK hO g78 hsz) hS (fun q (h : (a + 78) ≤ q) => Nat.le_trans (Nat.le_add_right a 78) h) hl.1 (Nat.le_of_ble_eq_true rfl) ⟨rfl, rfl⟩ ⟨Nat.le_of_ble_eq_true rfl, Nat.le_of_ble_eq_true rfl⟩ ⟨Nat.le_of_ble_eq_true rfl, Nat.le_of_ble_eq_true rfl⟩ dX10_init_50 (fun _ H13 locs _ hJ hk hS => ?_)
  have g0 := zkp g0 zRg_1 (fun q h1 _ h3 => hk q h1 (zge_n (a := a) (i := 1) (j := 78) h3 (Nat.le_of_ble_eq_true rfl)))
  have g1 := zkp g1 zrg_X9_init (fun q h1 _ h3 => hk q h1 (zge_n (a := a) (i := 48) (j := 78) h3 (Nat.le_of_ble_eq_true rfl)))
  have g48 := zkp g48 zRg_1 (fun q h1 _ h3 => hk q h1 (zge_n (a := a) (i := 49) (j := 78) h3 (Nat.le_of_ble_eq_true rfl)))
  have g49 := zkp g49 zrg_X4_init (fun q h1 _ h3 => hk q h1 (zge_n (a := a) (i := 72) (j := 78) h3 (Nat.le_of_ble_eq_true rfl)))
  have g72 := zkp g72 zrg_X3_init (fun q h1 _ h3 => hk q h1 (zge_n (a := a) (i := 78) (j := 78) h3 (Nat.le_of_ble_eq_true rfl)))
  have g78 := hJ.1
  have hsz : H13.size = a + 87 := hJ.2
  refine W.cs (cells' := 86) (slots' := 2471) rfl rfl ?_
  refine zPut (C := RX10) (T := TX10) (N := 7) (ci := 10) (v := .ref (a + 78)) (ty := .object "DownhillSong$Slope") zc hK g0 (zD1 (Nat.le_refl a)) hS uw10 tyX10 tyX10_ok nmX10 0 rfl rfl 4 (by decide) kf_10_37 (fun _ h9 => h9) (Or.inr ⟨rfl, hin, rfl⟩) (by decide +kernel) rfl rfl (Nat.le_of_ble_eq_true rfl) dX10_init_53 (fun H14 locs hN oq hz1 hS => ?_)
  have g1 := zkp g1 zrg_X9_init (fun q _ h2 h3 => oq q (znA (a := a) (i := 1) (p := 0) h2 (Nat.le_of_ble_eq_true rfl)))
  have g48 := zkp g48 zRg_1 (fun q _ h2 h3 => oq q (znA (a := a) (i := 48) (p := 0) h2 (Nat.le_of_ble_eq_true rfl)))
  have g49 := zkp g49 zrg_X4_init (fun q _ h2 h3 => oq q (znA (a := a) (i := 49) (p := 0) h2 (Nat.le_of_ble_eq_true rfl)))
  have g72 := zkp g72 zrg_X3_init (fun q _ h2 h3 => oq q (znA (a := a) (i := 72) (p := 0) h2 (Nat.le_of_ble_eq_true rfl)))
  have g78 := zkp g78 zrg_X7_init (fun q _ h2 h3 => oq q (znA (a := a) (i := 78) (p := 0) h2 (Nat.le_of_ble_eq_true rfl)))
  have g0 : va_P E.1 zcl [(a, .inr (10, [.ref (a + 1), .ref (a + 48), .ref (a + 49), .ref (a + 72), .ref (a + 78), .null, .null]))] H14 := hN
  have hsz := hz1.trans hsz
  refine lv_aload_n hx hb dX10_init_56 rfl (lv_at hl 0 rfl) ?_
  refine zNew (ws := []) (C := RX5) (T := TX5) (N := 3) (ci := 5) zc hK (fun k q h => by simp at h) hS hsz uw5 tyX5 tyX5_ok kcl_10_41 kins_5 kinit_5 rfl [.null, .null, .null] (fun j hj => match j, hj with | 0, _ => rfl | 1, _ => rfl | 2, _ => rfl | j + 3, hj => absurd hj (by omega)) (Nat.le_of_ble_eq_true rfl) (Nat.le_of_ble_eq_true rfl) dX10_init_57 (fun H15 hN o1 hz1 hS => ?_)
  have g0 := zkp g0 zRg_1 (fun q h1 _ _ => o1 q (Nat.lt_of_lt_of_eq h1 hsz))
  have g1 := zkp g1 zrg_X9_init (fun q h1 _ _ => o1 q (Nat.lt_of_lt_of_eq h1 hsz))
  have g48 := zkp g48 zRg_1 (fun q h1 _ _ => o1 q (Nat.lt_of_lt_of_eq h1 hsz))
  have g49 := zkp g49 zrg_X4_init (fun q h1 _ _ => o1 q (Nat.lt_of_lt_of_eq h1 hsz))
  have g72 := zkp g72 zrg_X3_init (fun q h1 _ _ => o1 q (Nat.lt_of_lt_of_eq h1 hsz))
  have g78 := zkp g78 zrg_X7_init (fun q h1 _ _ => o1 q (Nat.lt_of_lt_of_eq h1 hsz))
  have g87 : va_P E.1 zcl [((a + 87), .inr (5, [.null, .null, .null]))] H15 := hN
  have hsz : H15.size = a + 88 := hz1
  refine W.cs (cells' := 87) (slots' := 2474) rfl rfl ?_
  refine lv_dup hx hb dX10_init_60 rfl ?_
  refine zIc zc ky_X5_init kz_X5_init rfl km_10_43 (ci_X5_init l) (zIpre hK hO g87 hsz) hS (fun q (h : (a + 87) ≤ q) => Nat.le_trans (Nat.le_add_right a 87) h) hl.1 (Nat.le_of_ble_eq_true rfl) ⟨rfl, rfl⟩ ⟨Nat.le_of_ble_eq_true rfl, Nat.le_of_ble_eq_true rfl⟩ ⟨Nat.le_of_ble_eq_true rfl, Nat.le_of_ble_eq_true rfl⟩ dX10_init_61 (fun _ H16 locs _ hJ hk hS => ?_)
  have g0 := zkp g0 zRg_1 (fun q h1 _ h3 => hk q h1 (zge_n (a := a) (i := 1) (j := 87) h3 (Nat.le_of_ble_eq_true rfl)))
  have g1 := zkp g1 zrg_X9_init (fun q h1 _ h3 => hk q h1 (zge_n (a := a) (i := 48) (j := 87) h3 (Nat.le_of_ble_eq_true rfl)))
  have g48 := zkp g48 zRg_1 (fun q h1 _ h3 => hk q h1 (zge_n (a := a) (i := 49) (j := 87) h3 (Nat.le_of_ble_eq_true rfl)))
  have g49 := zkp g49 zrg_X4_init (fun q h1 _ h3 => hk q h1 (zge_n (a := a) (i := 72) (j := 87) h3 (Nat.le_of_ble_eq_true rfl)))
  have g72 := zkp g72 zrg_X3_init (fun q h1 _ h3 => hk q h1 (zge_n (a := a) (i := 78) (j := 87) h3 (Nat.le_of_ble_eq_true rfl)))
  have g78 := zkp g78 zrg_X7_init (fun q h1 _ h3 => hk q h1 (zge_n (a := a) (i := 87) (j := 87) h3 (Nat.le_of_ble_eq_true rfl)))
  have g87 := hJ.1
  have hsz : H16.size = a + 90 := hJ.2
  refine W.cs (cells' := 89) (slots' := 2564) rfl rfl ?_
  refine zPut (C := RX10) (T := TX10) (N := 7) (ci := 10) (v := .ref (a + 87)) (ty := .object "DownhillSong$Rows") zc hK g0 (zD1 (Nat.le_refl a)) hS uw10 tyX10 tyX10_ok nmX10 0 rfl rfl 5 (by decide) kf_10_44 (fun _ h9 => h9) (Or.inr ⟨rfl, hin, rfl⟩) (by decide +kernel) rfl rfl (Nat.le_of_ble_eq_true rfl) dX10_init_64 (fun H17 locs hN oq hz1 hS => ?_)
  have g1 := zkp g1 zrg_X9_init (fun q _ h2 h3 => oq q (znA (a := a) (i := 1) (p := 0) h2 (Nat.le_of_ble_eq_true rfl)))
  have g48 := zkp g48 zRg_1 (fun q _ h2 h3 => oq q (znA (a := a) (i := 48) (p := 0) h2 (Nat.le_of_ble_eq_true rfl)))
  have g49 := zkp g49 zrg_X4_init (fun q _ h2 h3 => oq q (znA (a := a) (i := 49) (p := 0) h2 (Nat.le_of_ble_eq_true rfl)))
  have g72 := zkp g72 zrg_X3_init (fun q _ h2 h3 => oq q (znA (a := a) (i := 72) (p := 0) h2 (Nat.le_of_ble_eq_true rfl)))
  have g78 := zkp g78 zrg_X7_init (fun q _ h2 h3 => oq q (znA (a := a) (i := 78) (p := 0) h2 (Nat.le_of_ble_eq_true rfl)))
  have g87 := zkp g87 zrg_X5_init (fun q _ h2 h3 => oq q (znA (a := a) (i := 87) (p := 0) h2 (Nat.le_of_ble_eq_true rfl)))
  have g0 : va_P E.1 zcl [(a, .inr (10, [.ref (a + 1), .ref (a + 48), .ref (a + 49), .ref (a + 72), .ref (a + 78), .ref (a + 87), .null]))] H17 := hN
  have hsz := hz1.trans hsz
  refine lv_aload_n hx hb dX10_init_67 rfl (lv_at hl 0 rfl) ?_
  refine zNew (ws := []) (C := RX8) (T := TX8) (N := 2) (ci := 8) zc hK (fun k q h => by simp at h) hS hsz uw8 tyX8 tyX8_ok kcl_10_48 kins_8 kinit_8 rfl [.null, .null] (fun j hj => match j, hj with | 0, _ => rfl | 1, _ => rfl | j + 2, hj => absurd hj (by omega)) (Nat.le_of_ble_eq_true rfl) (Nat.le_of_ble_eq_true rfl) dX10_init_68 (fun H18 hN o1 hz1 hS => ?_)
  have g0 := zkp g0 zRg_1 (fun q h1 _ _ => o1 q (Nat.lt_of_lt_of_eq h1 hsz))
  have g1 := zkp g1 zrg_X9_init (fun q h1 _ _ => o1 q (Nat.lt_of_lt_of_eq h1 hsz))
  have g48 := zkp g48 zRg_1 (fun q h1 _ _ => o1 q (Nat.lt_of_lt_of_eq h1 hsz))
  have g49 := zkp g49 zrg_X4_init (fun q h1 _ _ => o1 q (Nat.lt_of_lt_of_eq h1 hsz))
  have g72 := zkp g72 zrg_X3_init (fun q h1 _ _ => o1 q (Nat.lt_of_lt_of_eq h1 hsz))
  have g78 := zkp g78 zrg_X7_init (fun q h1 _ _ => o1 q (Nat.lt_of_lt_of_eq h1 hsz))
  have g87 := zkp g87 zrg_X5_init (fun q h1 _ _ => o1 q (Nat.lt_of_lt_of_eq h1 hsz))
  have g90 : va_P E.1 zcl [((a + 90), .inr (8, [.null, .null]))] H18 := hN
  have hsz : H18.size = a + 91 := hz1
  refine W.cs (cells' := 90) (slots' := 2566) rfl rfl ?_
  refine lv_dup hx hb dX10_init_71 rfl ?_
  refine zIc zc ky_X8_init kz_X8_init rfl km_10_50 (ci_X8_init l) (zIpre hK hO g90 hsz) hS (fun q (h : (a + 90) ≤ q) => Nat.le_trans (Nat.le_add_right a 90) h) hl.1 (Nat.le_of_ble_eq_true rfl) ⟨rfl, rfl⟩ ⟨Nat.le_of_ble_eq_true rfl, Nat.le_of_ble_eq_true rfl⟩ ⟨Nat.le_of_ble_eq_true rfl, Nat.le_of_ble_eq_true rfl⟩ dX10_init_72 (fun _ H19 locs _ hJ hk hS => ?_)
  have g0 := zkp g0 zRg_1 (fun q h1 _ h3 => hk q h1 (zge_n (a := a) (i := 1) (j := 90) h3 (Nat.le_of_ble_eq_true rfl)))
  have g1 := zkp g1 zrg_X9_init (fun q h1 _ h3 => hk q h1 (zge_n (a := a) (i := 48) (j := 90) h3 (Nat.le_of_ble_eq_true rfl)))
  have g48 := zkp g48 zRg_1 (fun q h1 _ h3 => hk q h1 (zge_n (a := a) (i := 49) (j := 90) h3 (Nat.le_of_ble_eq_true rfl)))
  have g49 := zkp g49 zrg_X4_init (fun q h1 _ h3 => hk q h1 (zge_n (a := a) (i := 72) (j := 90) h3 (Nat.le_of_ble_eq_true rfl)))
  have g72 := zkp g72 zrg_X3_init (fun q h1 _ h3 => hk q h1 (zge_n (a := a) (i := 78) (j := 90) h3 (Nat.le_of_ble_eq_true rfl)))
  have g78 := zkp g78 zrg_X7_init (fun q h1 _ h3 => hk q h1 (zge_n (a := a) (i := 87) (j := 90) h3 (Nat.le_of_ble_eq_true rfl)))
  have g87 := zkp g87 zrg_X5_init (fun q h1 _ h3 => hk q h1 (zge_n (a := a) (i := 90) (j := 90) h3 (Nat.le_of_ble_eq_true rfl)))
  have g90 := hJ.1
  have hsz : H19.size = a + 93 := hJ.2
  refine W.cs (cells' := 92) (slots' := 2688) rfl rfl ?_
  refine zPut (C := RX10) (T := TX10) (N := 7) (ci := 10) (v := .ref (a + 90)) (ty := .object "DownhillSong$Table") zc hK g0 (zD1 (Nat.le_refl a)) hS uw10 tyX10 tyX10_ok nmX10 0 rfl rfl 6 (by decide) kf_10_51 (fun _ h9 => h9) (Or.inr ⟨rfl, hin, rfl⟩) (by decide +kernel) rfl rfl (Nat.le_of_ble_eq_true rfl) dX10_init_75 (fun H20 locs hN oq hz1 hS => ?_)
  have g1 := zkp g1 zrg_X9_init (fun q _ h2 h3 => oq q (znA (a := a) (i := 1) (p := 0) h2 (Nat.le_of_ble_eq_true rfl)))
  have g48 := zkp g48 zRg_1 (fun q _ h2 h3 => oq q (znA (a := a) (i := 48) (p := 0) h2 (Nat.le_of_ble_eq_true rfl)))
  have g49 := zkp g49 zrg_X4_init (fun q _ h2 h3 => oq q (znA (a := a) (i := 49) (p := 0) h2 (Nat.le_of_ble_eq_true rfl)))
  have g72 := zkp g72 zrg_X3_init (fun q _ h2 h3 => oq q (znA (a := a) (i := 72) (p := 0) h2 (Nat.le_of_ble_eq_true rfl)))
  have g78 := zkp g78 zrg_X7_init (fun q _ h2 h3 => oq q (znA (a := a) (i := 78) (p := 0) h2 (Nat.le_of_ble_eq_true rfl)))
  have g87 := zkp g87 zrg_X5_init (fun q _ h2 h3 => oq q (znA (a := a) (i := 87) (p := 0) h2 (Nat.le_of_ble_eq_true rfl)))
  have g90 := zkp g90 zrg_X8_init (fun q _ h2 h3 => oq q (znA (a := a) (i := 90) (p := 0) h2 (Nat.le_of_ble_eq_true rfl)))
  have g0 : va_P E.1 zcl [(a, .inr (10, [.ref (a + 1), .ref (a + 48), .ref (a + 49), .ref (a + 72), .ref (a + 78), .ref (a + 87), .ref (a + 90)]))] H20 := hN
  have hsz := hz1.trans hsz
  exact zIret (post := fun _ => True) (B := zJ E a 93 ([(a, .inr (10, [.ref (a + 1), .ref (a + 48), .ref (a + 49), .ref (a + 72), .ref (a + 78), .ref (a + 87), .ref (a + 90)]))] ++ (zb_X9_init E (a + 1) ++ ([((a + 48), .inl (E.2 8, 3, .inr (.inr (.inr (.inr (fun _ => none))))))] ++ (zb_X4_init E (a + 49) ++ (zb_X3_init E (a + 72) ++ (zb_X7_init E (a + 78) ++ (zb_X5_init E (a + 87) ++ (zb_X8_init E (a + 90)))))))))) () zc hS trivial ⟨(va_P.app g0 (va_P.app g1 (va_P.app g48 (va_P.app g49 (va_P.app g72 (va_P.app g78 (va_P.app g87 g90))))))), hsz⟩ dX10_init_78
end
section
abbrev rmi_X11_init : Room := { frames := 1, cells := 28, slots := 13584, locals := 20 }
abbrev zb_X11_init (E : zE) (a : Nat) : va_W := (([(a, .inr (11, [.int 0, .ref (a + 1), .ref (a + 2), .ref (a + 3), .ref (a + 4), .ref (a + 5), .ref (a + 6), .ref (a + 7), .ref (a + 8), .ref (a + 9), .int 0, .int 0, .int 0, .int 0, .int 0, .long 0, .int 0, .int 0, .int 0, .ref (a + 10), .ref (a + 11), .int 0, .int 0, .int 0, .int 0, .int 0, .int 0, .int 0, .ref (a + 12), .ref (a + 13), .ref (a + 14), .ref (a + 15), .ref (a + 16), .int 0, .int 0, .int 0, .ref (a + 17), .ref (a + 18), .ref (a + 19), .ref (a + 20), .ref (a + 21), .ref (a + 22), .ref (a + 23), .int 0, .ref (a + 24), .int 0, .int 0, .ref (a + 25), .ref (a + 26), .int 0, .ref (a + 27), .ref (a + 28)]))] : va_W) ++ (([((a + 1), .inl (E.2 0, 2400, .inl (fun _ => 0)))] : va_W) ++ (([((a + 2), .inl (E.2 1, 4, .inl (fun _ => 0)))] : va_W) ++ (([((a + 3), .inl (E.2 1, 4, .inl (fun _ => 0)))] : va_W) ++ (([((a + 4), .inl (E.2 1, 4, .inl (upd (fun _ => 0) (Int32.toNatClampNeg (0 : Int32)) (-1 : Int32))))] : va_W) ++ (([((a + 5), .inl (E.2 1, 16, .inl (fun _ => 0)))] : va_W) ++ (([((a + 6), .inl (E.2 1, 1056, .inl (fun _ => 0)))] : va_W) ++ (([((a + 7), .inl (E.2 1, 968, .inl (fun _ => 0)))] : va_W) ++ (([((a + 8), .inl (E.2 1, 248, .inl (fun _ => 0)))] : va_W) ++ (([((a + 9), .inl (E.2 1, 160, .inl (fun _ => 0)))] : va_W) ++ (([((a + 10), .inl (E.2 1, 132, .inl (fun _ => 0)))] : va_W) ++ (([((a + 11), .inl (E.2 1, 3, .inl (fun _ => 0)))] : va_W) ++ (([((a + 12), .inl (E.2 1, 6, .inl (fun _ => 0)))] : va_W) ++ (([((a + 13), .inl (E.2 1, 6, .inl (fun _ => 0)))] : va_W) ++ (([((a + 14), .inl (E.2 1, 6, .inl (fun _ => 0)))] : va_W) ++ (([((a + 15), .inl (E.2 1, 9, .inl (fun _ => 0)))] : va_W) ++ (([((a + 16), .inl (E.2 1, 5, .inl (fun _ => 0)))] : va_W) ++ (([((a + 17), .inl (E.2 1, 9, .inl (fun _ => 0)))] : va_W) ++ (([((a + 18), .inl (E.2 1, 9, .inl (fun _ => 0)))] : va_W) ++ (([((a + 19), .inl (E.2 1, 9, .inl (fun _ => 0)))] : va_W) ++ (([((a + 20), .inl (E.2 1, 9, .inl (fun _ => 0)))] : va_W) ++ (([((a + 21), .inl (E.2 1, 9, .inl (fun _ => 0)))] : va_W) ++ (([((a + 22), .inl (E.2 3, 9, .inl (fun _ => 0)))] : va_W) ++ (([((a + 23), .inl (E.2 1, 81, .inl (fun _ => 0)))] : va_W) ++ (([((a + 24), .inl (E.2 1, 81, .inl (fun _ => 0)))] : va_W) ++ (([((a + 25), .inl (E.2 2, 4608, .inr (.inl (fun _ => 0))))] : va_W) ++ (([((a + 26), .inl (E.2 3, 3721, .inl (fun _ => 0)))] : va_W) ++ (([((a + 27), .inl (E.2 1, 9, .inl (fun _ => 0)))] : va_W) ++ (([((a + 28), .inl (E.2 3, 3, .inl (fun _ => 0)))] : va_W))))))))))))))))))))))))))))))
theorem zrg_X11_init {E : zE} {a : Nat} : zRg (zb_X11_init E a) a (a + 29) := by
  exact ((zRg_1).mono (by omega) (by omega)).app (((zRg_1).mono (by omega) (by omega)).app (((zRg_1).mono (by omega) (by omega)).app (((zRg_1).mono (by omega) (by omega)).app (((zRg_1).mono (by omega) (by omega)).app (((zRg_1).mono (by omega) (by omega)).app (((zRg_1).mono (by omega) (by omega)).app (((zRg_1).mono (by omega) (by omega)).app (((zRg_1).mono (by omega) (by omega)).app (((zRg_1).mono (by omega) (by omega)).app (((zRg_1).mono (by omega) (by omega)).app (((zRg_1).mono (by omega) (by omega)).app (((zRg_1).mono (by omega) (by omega)).app (((zRg_1).mono (by omega) (by omega)).app (((zRg_1).mono (by omega) (by omega)).app (((zRg_1).mono (by omega) (by omega)).app (((zRg_1).mono (by omega) (by omega)).app (((zRg_1).mono (by omega) (by omega)).app (((zRg_1).mono (by omega) (by omega)).app (((zRg_1).mono (by omega) (by omega)).app (((zRg_1).mono (by omega) (by omega)).app (((zRg_1).mono (by omega) (by omega)).app (((zRg_1).mono (by omega) (by omega)).app (((zRg_1).mono (by omega) (by omega)).app (((zRg_1).mono (by omega) (by omega)).app (((zRg_1).mono (by omega) (by omega)).app (((zRg_1).mono (by omega) (by omega)).app (((zRg_1).mono (by omega) (by omega)).app ((zRg_1).mono (by omega) (by omega)))))))))))))))))))))))))))))
set_option maxRecDepth 40000 in
set_option maxHeartbeats 4000000 in
theorem ci_X11_init (l : Launch) {E : zE} {a : Nat} : Met l yX11_init (Cond.code yX11_init cX11_init 1 none :: zb) rmi_X11_init (va_Pc [.ref a] (zI E a 11 [.int 0, .null, .null, .null, .null, .null, .null, .null, .null, .null, .int 0, .int 0, .int 0, .int 0, .int 0, .long 0, .int 0, .int 0, .int 0, .null, .null, .int 0, .int 0, .int 0, .int 0, .int 0, .int 0, .int 0, .null, .null, .null, .null, .null, .int 0, .int 0, .int 0, .null, .null, .null, .null, .null, .null, .null, .int 0, .null, .int 0, .int 0, .null, .null, .int 0, .null, .null])) (zQv (S := Unit) (fun _ => True) (zJ E a 29 (zb_X11_init E a)) (fun q => a ≤ q)) 28 13584 (fun q => a ≤ q) := by
  refine Met.ofW (cc := cX11_init) (maxL := 1) (ret := none) (by decide) rfl ?_
  intro p e s m args below meth c s₁ B hml hv
  obtain ⟨rfl, hsz, g0, hK, hO⟩ := hv
  have zc := zc_of B hml
  have hx := zc.1
  have hb := zc.2.1
  have hz := zc.2.2.2.2.1
  have hin : meth.name = "<init>" := (name_of_methodNamed B.named B.method).1
  have hS : va_S (fun q => a ≤ q) s.heap s.heap [] := va_S.rf
  have hl := lv_entry ([.ref a]) (n := 1) (Nat.le_of_ble_eq_true rfl)
  rw [lg_entry_eq]
  generalize (lg_sl ([.ref a]) ++ List.replicate (1 - (lg_sl ([.ref a])).length) Slot.unset).toArray = ls at hl ⊢
  have hl : lv_has ls 1 [(0, .ref a)] := hl
  refine lv_aload_n hx hb dX11_init_0 rfl (lv_at hl 0 rfl) ?_
  refine W.objInit hx hb zc.2.2.2.1 (hz _ km_11_1) (hz _ k_oi) (hz _ k_oc) rfl (by rw [zc.2.2.1]; exact hl.1) rfl dX11_init_1 (Nat.le_of_ble_eq_true rfl) (Nat.le_of_ble_eq_true rfl) ?_
  refine W.eq (g2 := F0 m 4 ls []) rfl ?_
  refine lv_aload_n hx hb dX11_init_4 rfl (lv_at hl 0 rfl) ?_
  refine lv_sipush (v := (2400 : Int32)) hx hb dX11_init_5 (by decide) ?_
  refine zNewa (ws := []) (atype := .byte) (t := 0) (N := 2400) (a0 := (2400, .inl (fun _ => 0))) zc hK (fun k q h => by simp at h) hS hsz kac_B rfl (fun _ => rfl) (by decide) (by decide) (by decide) (Nat.le_of_ble_eq_true rfl) (Nat.le_of_ble_eq_true rfl) dX11_init_8 (fun H1 hN o1 hz1 hS => ?_)
  have g0 := zkp g0 zRg_1 (fun q h1 _ _ => o1 q (Nat.lt_of_lt_of_eq h1 hsz))
  have g1 : va_P E.1 zcl [((a + 1), .inl (E.2 0, 2400, .inl (fun _ => 0)))] H1 := hN
  have hsz : H1.size = a + 2 := hz1
  refine W.cs (cells' := 1) (slots' := 2400) rfl rfl ?_
  refine zPut (C := RX11) (T := TX11) (N := 52) (ci := 11) (v := .ref (a + 1)) (ty := .array .byte) zc hK g0 (zD1 (Nat.le_refl a)) hS uw11 tyX11 tyX11_ok nmX11 0 rfl rfl 1 (by decide) kf_11_7 (fun _ h9 => h9) (Or.inr ⟨rfl, hin, rfl⟩) (by decide +kernel) rfl rfl (Nat.le_of_ble_eq_true rfl) dX11_init_10 (fun H2 locs hN oq hz1 hS => ?_)
  have g1 := zkp g1 zRg_1 (fun q _ h2 h3 => oq q (znA (a := a) (i := 1) (p := 0) h2 (Nat.le_of_ble_eq_true rfl)))
  have g0 : va_P E.1 zcl [(a, .inr (11, [.int 0, .ref (a + 1), .null, .null, .null, .null, .null, .null, .null, .null, .int 0, .int 0, .int 0, .int 0, .int 0, .long 0, .int 0, .int 0, .int 0, .null, .null, .int 0, .int 0, .int 0, .int 0, .int 0, .int 0, .int 0, .null, .null, .null, .null, .null, .int 0, .int 0, .int 0, .null, .null, .null, .null, .null, .null, .null, .int 0, .null, .int 0, .int 0, .null, .null, .int 0, .null, .null]))] H2 := hN
  have hsz := hz1.trans hsz
  refine lv_aload_n hx hb dX11_init_13 rfl (lv_at hl 0 rfl) ?_
  refine lv_iconst (v := (4 : Int32)) hx hb dX11_init_14 (by decide) ?_
  refine zNewa (ws := []) (atype := .int) (t := 1) (N := 4) (a0 := (4, .inl (fun _ => 0))) zc hK (fun k q h => by simp at h) hS hsz kac_I rfl (fun _ => rfl) (by decide) (by decide) (by decide) (Nat.le_of_ble_eq_true rfl) (Nat.le_of_ble_eq_true rfl) dX11_init_15 (fun H3 hN o1 hz1 hS => ?_)
  have g0 := zkp g0 zRg_1 (fun q h1 _ _ => o1 q (Nat.lt_of_lt_of_eq h1 hsz))
  have g1 := zkp g1 zRg_1 (fun q h1 _ _ => o1 q (Nat.lt_of_lt_of_eq h1 hsz))
  have g2 : va_P E.1 zcl [((a + 2), .inl (E.2 1, 4, .inl (fun _ => 0)))] H3 := hN
  have hsz : H3.size = a + 3 := hz1
  refine W.cs (cells' := 2) (slots' := 2404) rfl rfl ?_
  refine zPut (C := RX11) (T := TX11) (N := 52) (ci := 11) (v := .ref (a + 2)) (ty := .array .int) zc hK g0 (zD1 (Nat.le_refl a)) hS uw11 tyX11 tyX11_ok nmX11 0 rfl rfl 2 (by decide) kf_11_13 (fun _ h9 => h9) (Or.inr ⟨rfl, hin, rfl⟩) (by decide +kernel) rfl rfl (Nat.le_of_ble_eq_true rfl) dX11_init_17 (fun H4 locs hN oq hz1 hS => ?_)
  have g1 := zkp g1 zRg_1 (fun q _ h2 h3 => oq q (znA (a := a) (i := 1) (p := 0) h2 (Nat.le_of_ble_eq_true rfl)))
  have g2 := zkp g2 zRg_1 (fun q _ h2 h3 => oq q (znA (a := a) (i := 2) (p := 0) h2 (Nat.le_of_ble_eq_true rfl)))
  have g0 : va_P E.1 zcl [(a, .inr (11, [.int 0, .ref (a + 1), .ref (a + 2), .null, .null, .null, .null, .null, .null, .null, .int 0, .int 0, .int 0, .int 0, .int 0, .long 0, .int 0, .int 0, .int 0, .null, .null, .int 0, .int 0, .int 0, .int 0, .int 0, .int 0, .int 0, .null, .null, .null, .null, .null, .int 0, .int 0, .int 0, .null, .null, .null, .null, .null, .null, .null, .int 0, .null, .int 0, .int 0, .null, .null, .int 0, .null, .null]))] H4 := hN
  have hsz := hz1.trans hsz
  refine lv_aload_n hx hb dX11_init_20 rfl (lv_at hl 0 rfl) ?_
  refine lv_iconst (v := (4 : Int32)) hx hb dX11_init_21 (by decide) ?_
  refine zNewa (ws := []) (atype := .int) (t := 1) (N := 4) (a0 := (4, .inl (fun _ => 0))) zc hK (fun k q h => by simp at h) hS hsz kac_I rfl (fun _ => rfl) (by decide) (by decide) (by decide) (Nat.le_of_ble_eq_true rfl) (Nat.le_of_ble_eq_true rfl) dX11_init_22 (fun H5 hN o1 hz1 hS => ?_)
  have g0 := zkp g0 zRg_1 (fun q h1 _ _ => o1 q (Nat.lt_of_lt_of_eq h1 hsz))
  have g1 := zkp g1 zRg_1 (fun q h1 _ _ => o1 q (Nat.lt_of_lt_of_eq h1 hsz))
  have g2 := zkp g2 zRg_1 (fun q h1 _ _ => o1 q (Nat.lt_of_lt_of_eq h1 hsz))
  have g3 : va_P E.1 zcl [((a + 3), .inl (E.2 1, 4, .inl (fun _ => 0)))] H5 := hN
  have hsz : H5.size = a + 4 := hz1
  refine W.cs (cells' := 3) (slots' := 2408) rfl rfl ?_
  refine zPut (C := RX11) (T := TX11) (N := 52) (ci := 11) (v := .ref (a + 3)) (ty := .array .int) zc hK g0 (zD1 (Nat.le_refl a)) hS uw11 tyX11 tyX11_ok nmX11 0 rfl rfl 3 (by decide) kf_11_17 (fun _ h9 => h9) (Or.inr ⟨rfl, hin, rfl⟩) (by decide +kernel) rfl rfl (Nat.le_of_ble_eq_true rfl) dX11_init_24 (fun H6 locs hN oq hz1 hS => ?_)
  have g1 := zkp g1 zRg_1 (fun q _ h2 h3 => oq q (znA (a := a) (i := 1) (p := 0) h2 (Nat.le_of_ble_eq_true rfl)))
  have g2 := zkp g2 zRg_1 (fun q _ h2 h3 => oq q (znA (a := a) (i := 2) (p := 0) h2 (Nat.le_of_ble_eq_true rfl)))
  have g3 := zkp g3 zRg_1 (fun q _ h2 h3 => oq q (znA (a := a) (i := 3) (p := 0) h2 (Nat.le_of_ble_eq_true rfl)))
  have g0 : va_P E.1 zcl [(a, .inr (11, [.int 0, .ref (a + 1), .ref (a + 2), .ref (a + 3), .null, .null, .null, .null, .null, .null, .int 0, .int 0, .int 0, .int 0, .int 0, .long 0, .int 0, .int 0, .int 0, .null, .null, .int 0, .int 0, .int 0, .int 0, .int 0, .int 0, .int 0, .null, .null, .null, .null, .null, .int 0, .int 0, .int 0, .null, .null, .null, .null, .null, .null, .null, .int 0, .null, .int 0, .int 0, .null, .null, .int 0, .null, .null]))] H6 := hN
  have hsz := hz1.trans hsz
  refine lv_aload_n hx hb dX11_init_27 rfl (lv_at hl 0 rfl) ?_
  refine lv_iconst (v := (4 : Int32)) hx hb dX11_init_28 (by decide) ?_
  refine zNewa (ws := []) (atype := .int) (t := 1) (N := 4) (a0 := (4, .inl (fun _ => 0))) zc hK (fun k q h => by simp at h) hS hsz kac_I rfl (fun _ => rfl) (by decide) (by decide) (by decide) (Nat.le_of_ble_eq_true rfl) (Nat.le_of_ble_eq_true rfl) dX11_init_29 (fun H7 hN o1 hz1 hS => ?_)
  have g0 := zkp g0 zRg_1 (fun q h1 _ _ => o1 q (Nat.lt_of_lt_of_eq h1 hsz))
  have g1 := zkp g1 zRg_1 (fun q h1 _ _ => o1 q (Nat.lt_of_lt_of_eq h1 hsz))
  have g2 := zkp g2 zRg_1 (fun q h1 _ _ => o1 q (Nat.lt_of_lt_of_eq h1 hsz))
  have g3 := zkp g3 zRg_1 (fun q h1 _ _ => o1 q (Nat.lt_of_lt_of_eq h1 hsz))
  have g4 : va_P E.1 zcl [((a + 4), .inl (E.2 1, 4, .inl (fun _ => 0)))] H7 := hN
  have hsz : H7.size = a + 5 := hz1
  refine W.cs (cells' := 4) (slots' := 2412) rfl rfl ?_
  refine zPut (C := RX11) (T := TX11) (N := 52) (ci := 11) (v := .ref (a + 4)) (ty := .array .int) zc hK g0 (zD1 (Nat.le_refl a)) hS uw11 tyX11 tyX11_ok nmX11 0 rfl rfl 4 (by decide) kf_11_20 (fun _ h9 => h9) (Or.inr ⟨rfl, hin, rfl⟩) (by decide +kernel) rfl rfl (Nat.le_of_ble_eq_true rfl) dX11_init_31 (fun H8 locs hN oq hz1 hS => ?_)
  have g1 := zkp g1 zRg_1 (fun q _ h2 h3 => oq q (znA (a := a) (i := 1) (p := 0) h2 (Nat.le_of_ble_eq_true rfl)))
  have g2 := zkp g2 zRg_1 (fun q _ h2 h3 => oq q (znA (a := a) (i := 2) (p := 0) h2 (Nat.le_of_ble_eq_true rfl)))
  have g3 := zkp g3 zRg_1 (fun q _ h2 h3 => oq q (znA (a := a) (i := 3) (p := 0) h2 (Nat.le_of_ble_eq_true rfl)))
  have g4 := zkp g4 zRg_1 (fun q _ h2 h3 => oq q (znA (a := a) (i := 4) (p := 0) h2 (Nat.le_of_ble_eq_true rfl)))
  have g0 : va_P E.1 zcl [(a, .inr (11, [.int 0, .ref (a + 1), .ref (a + 2), .ref (a + 3), .ref (a + 4), .null, .null, .null, .null, .null, .int 0, .int 0, .int 0, .int 0, .int 0, .long 0, .int 0, .int 0, .int 0, .null, .null, .int 0, .int 0, .int 0, .int 0, .int 0, .int 0, .int 0, .null, .null, .null, .null, .null, .int 0, .int 0, .int 0, .null, .null, .null, .null, .null, .null, .null, .int 0, .null, .int 0, .int 0, .null, .null, .int 0, .null, .null]))] H8 := hN
  have hsz := hz1.trans hsz
  refine lv_aload_n hx hb dX11_init_34 rfl (lv_at hl 0 rfl) ?_
  refine lv_bipush (v := (16 : Int32)) hx hb dX11_init_35 (by decide) ?_
  refine zNewa (ws := []) (atype := .int) (t := 1) (N := 16) (a0 := (16, .inl (fun _ => 0))) zc hK (fun k q h => by simp at h) hS hsz kac_I rfl (fun _ => rfl) (by decide) (by decide) (by decide) (Nat.le_of_ble_eq_true rfl) (Nat.le_of_ble_eq_true rfl) dX11_init_37 (fun H9 hN o1 hz1 hS => ?_)
  have g0 := zkp g0 zRg_1 (fun q h1 _ _ => o1 q (Nat.lt_of_lt_of_eq h1 hsz))
  have g1 := zkp g1 zRg_1 (fun q h1 _ _ => o1 q (Nat.lt_of_lt_of_eq h1 hsz))
  have g2 := zkp g2 zRg_1 (fun q h1 _ _ => o1 q (Nat.lt_of_lt_of_eq h1 hsz))
  have g3 := zkp g3 zRg_1 (fun q h1 _ _ => o1 q (Nat.lt_of_lt_of_eq h1 hsz))
  have g4 := zkp g4 zRg_1 (fun q h1 _ _ => o1 q (Nat.lt_of_lt_of_eq h1 hsz))
  have g5 : va_P E.1 zcl [((a + 5), .inl (E.2 1, 16, .inl (fun _ => 0)))] H9 := hN
  have hsz : H9.size = a + 6 := hz1
  refine W.cs (cells' := 5) (slots' := 2428) rfl rfl ?_
  refine zPut (C := RX11) (T := TX11) (N := 52) (ci := 11) (v := .ref (a + 5)) (ty := .array .int) zc hK g0 (zD1 (Nat.le_refl a)) hS uw11 tyX11 tyX11_ok nmX11 0 rfl rfl 5 (by decide) kf_11_23 (fun _ h9 => h9) (Or.inr ⟨rfl, hin, rfl⟩) (by decide +kernel) rfl rfl (Nat.le_of_ble_eq_true rfl) dX11_init_39 (fun H10 locs hN oq hz1 hS => ?_)
  have g1 := zkp g1 zRg_1 (fun q _ h2 h3 => oq q (znA (a := a) (i := 1) (p := 0) h2 (Nat.le_of_ble_eq_true rfl)))
  have g2 := zkp g2 zRg_1 (fun q _ h2 h3 => oq q (znA (a := a) (i := 2) (p := 0) h2 (Nat.le_of_ble_eq_true rfl)))
  have g3 := zkp g3 zRg_1 (fun q _ h2 h3 => oq q (znA (a := a) (i := 3) (p := 0) h2 (Nat.le_of_ble_eq_true rfl)))
  have g4 := zkp g4 zRg_1 (fun q _ h2 h3 => oq q (znA (a := a) (i := 4) (p := 0) h2 (Nat.le_of_ble_eq_true rfl)))
  have g5 := zkp g5 zRg_1 (fun q _ h2 h3 => oq q (znA (a := a) (i := 5) (p := 0) h2 (Nat.le_of_ble_eq_true rfl)))
  have g0 : va_P E.1 zcl [(a, .inr (11, [.int 0, .ref (a + 1), .ref (a + 2), .ref (a + 3), .ref (a + 4), .ref (a + 5), .null, .null, .null, .null, .int 0, .int 0, .int 0, .int 0, .int 0, .long 0, .int 0, .int 0, .int 0, .null, .null, .int 0, .int 0, .int 0, .int 0, .int 0, .int 0, .int 0, .null, .null, .null, .null, .null, .int 0, .int 0, .int 0, .null, .null, .null, .null, .null, .null, .null, .int 0, .null, .int 0, .int 0, .null, .null, .int 0, .null, .null]))] H10 := hN
  have hsz := hz1.trans hsz
  refine lv_aload_n hx hb dX11_init_42 rfl (lv_at hl 0 rfl) ?_
  refine lv_sipush (v := (1056 : Int32)) hx hb dX11_init_43 (by decide) ?_
  refine zNewa (ws := []) (atype := .int) (t := 1) (N := 1056) (a0 := (1056, .inl (fun _ => 0))) zc hK (fun k q h => by simp at h) hS hsz kac_I rfl (fun _ => rfl) (by decide) (by decide) (by decide) (Nat.le_of_ble_eq_true rfl) (Nat.le_of_ble_eq_true rfl) dX11_init_46 (fun H11 hN o1 hz1 hS => ?_)
  have g0 := zkp g0 zRg_1 (fun q h1 _ _ => o1 q (Nat.lt_of_lt_of_eq h1 hsz))
  have g1 := zkp g1 zRg_1 (fun q h1 _ _ => o1 q (Nat.lt_of_lt_of_eq h1 hsz))
  have g2 := zkp g2 zRg_1 (fun q h1 _ _ => o1 q (Nat.lt_of_lt_of_eq h1 hsz))
  have g3 := zkp g3 zRg_1 (fun q h1 _ _ => o1 q (Nat.lt_of_lt_of_eq h1 hsz))
  have g4 := zkp g4 zRg_1 (fun q h1 _ _ => o1 q (Nat.lt_of_lt_of_eq h1 hsz))
  have g5 := zkp g5 zRg_1 (fun q h1 _ _ => o1 q (Nat.lt_of_lt_of_eq h1 hsz))
  have g6 : va_P E.1 zcl [((a + 6), .inl (E.2 1, 1056, .inl (fun _ => 0)))] H11 := hN
  have hsz : H11.size = a + 7 := hz1
  refine W.cs (cells' := 6) (slots' := 3484) rfl rfl ?_
  refine zPut (C := RX11) (T := TX11) (N := 52) (ci := 11) (v := .ref (a + 6)) (ty := .array .int) zc hK g0 (zD1 (Nat.le_refl a)) hS uw11 tyX11 tyX11_ok nmX11 0 rfl rfl 6 (by decide) kf_11_26 (fun _ h9 => h9) (Or.inr ⟨rfl, hin, rfl⟩) (by decide +kernel) rfl rfl (Nat.le_of_ble_eq_true rfl) dX11_init_48 (fun H12 locs hN oq hz1 hS => ?_)
  have g1 := zkp g1 zRg_1 (fun q _ h2 h3 => oq q (znA (a := a) (i := 1) (p := 0) h2 (Nat.le_of_ble_eq_true rfl)))
  have g2 := zkp g2 zRg_1 (fun q _ h2 h3 => oq q (znA (a := a) (i := 2) (p := 0) h2 (Nat.le_of_ble_eq_true rfl)))
  have g3 := zkp g3 zRg_1 (fun q _ h2 h3 => oq q (znA (a := a) (i := 3) (p := 0) h2 (Nat.le_of_ble_eq_true rfl)))
  have g4 := zkp g4 zRg_1 (fun q _ h2 h3 => oq q (znA (a := a) (i := 4) (p := 0) h2 (Nat.le_of_ble_eq_true rfl)))
  have g5 := zkp g5 zRg_1 (fun q _ h2 h3 => oq q (znA (a := a) (i := 5) (p := 0) h2 (Nat.le_of_ble_eq_true rfl)))
  have g6 := zkp g6 zRg_1 (fun q _ h2 h3 => oq q (znA (a := a) (i := 6) (p := 0) h2 (Nat.le_of_ble_eq_true rfl)))
  have g0 : va_P E.1 zcl [(a, .inr (11, [.int 0, .ref (a + 1), .ref (a + 2), .ref (a + 3), .ref (a + 4), .ref (a + 5), .ref (a + 6), .null, .null, .null, .int 0, .int 0, .int 0, .int 0, .int 0, .long 0, .int 0, .int 0, .int 0, .null, .null, .int 0, .int 0, .int 0, .int 0, .int 0, .int 0, .int 0, .null, .null, .null, .null, .null, .int 0, .int 0, .int 0, .null, .null, .null, .null, .null, .null, .null, .int 0, .null, .int 0, .int 0, .null, .null, .int 0, .null, .null]))] H12 := hN
  have hsz := hz1.trans hsz
  refine lv_aload_n hx hb dX11_init_51 rfl (lv_at hl 0 rfl) ?_
  refine lv_sipush (v := (968 : Int32)) hx hb dX11_init_52 (by decide) ?_
  refine zNewa (ws := []) (atype := .int) (t := 1) (N := 968) (a0 := (968, .inl (fun _ => 0))) zc hK (fun k q h => by simp at h) hS hsz kac_I rfl (fun _ => rfl) (by decide) (by decide) (by decide) (Nat.le_of_ble_eq_true rfl) (Nat.le_of_ble_eq_true rfl) dX11_init_55 (fun H13 hN o1 hz1 hS => ?_)
  have g0 := zkp g0 zRg_1 (fun q h1 _ _ => o1 q (Nat.lt_of_lt_of_eq h1 hsz))
  have g1 := zkp g1 zRg_1 (fun q h1 _ _ => o1 q (Nat.lt_of_lt_of_eq h1 hsz))
  have g2 := zkp g2 zRg_1 (fun q h1 _ _ => o1 q (Nat.lt_of_lt_of_eq h1 hsz))
  have g3 := zkp g3 zRg_1 (fun q h1 _ _ => o1 q (Nat.lt_of_lt_of_eq h1 hsz))
  have g4 := zkp g4 zRg_1 (fun q h1 _ _ => o1 q (Nat.lt_of_lt_of_eq h1 hsz))
  have g5 := zkp g5 zRg_1 (fun q h1 _ _ => o1 q (Nat.lt_of_lt_of_eq h1 hsz))
  have g6 := zkp g6 zRg_1 (fun q h1 _ _ => o1 q (Nat.lt_of_lt_of_eq h1 hsz))
  have g7 : va_P E.1 zcl [((a + 7), .inl (E.2 1, 968, .inl (fun _ => 0)))] H13 := hN
  have hsz : H13.size = a + 8 := hz1
  refine W.cs (cells' := 7) (slots' := 4452) rfl rfl ?_
  refine zPut (C := RX11) (T := TX11) (N := 52) (ci := 11) (v := .ref (a + 7)) (ty := .array .int) zc hK g0 (zD1 (Nat.le_refl a)) hS uw11 tyX11 tyX11_ok nmX11 0 rfl rfl 7 (by decide) kf_11_29 (fun _ h9 => h9) (Or.inr ⟨rfl, hin, rfl⟩) (by decide +kernel) rfl rfl (Nat.le_of_ble_eq_true rfl) dX11_init_57 (fun H14 locs hN oq hz1 hS => ?_)
  have g1 := zkp g1 zRg_1 (fun q _ h2 h3 => oq q (znA (a := a) (i := 1) (p := 0) h2 (Nat.le_of_ble_eq_true rfl)))
  have g2 := zkp g2 zRg_1 (fun q _ h2 h3 => oq q (znA (a := a) (i := 2) (p := 0) h2 (Nat.le_of_ble_eq_true rfl)))
  have g3 := zkp g3 zRg_1 (fun q _ h2 h3 => oq q (znA (a := a) (i := 3) (p := 0) h2 (Nat.le_of_ble_eq_true rfl)))
  have g4 := zkp g4 zRg_1 (fun q _ h2 h3 => oq q (znA (a := a) (i := 4) (p := 0) h2 (Nat.le_of_ble_eq_true rfl)))
  have g5 := zkp g5 zRg_1 (fun q _ h2 h3 => oq q (znA (a := a) (i := 5) (p := 0) h2 (Nat.le_of_ble_eq_true rfl)))
  have g6 := zkp g6 zRg_1 (fun q _ h2 h3 => oq q (znA (a := a) (i := 6) (p := 0) h2 (Nat.le_of_ble_eq_true rfl)))
  have g7 := zkp g7 zRg_1 (fun q _ h2 h3 => oq q (znA (a := a) (i := 7) (p := 0) h2 (Nat.le_of_ble_eq_true rfl)))
  have g0 : va_P E.1 zcl [(a, .inr (11, [.int 0, .ref (a + 1), .ref (a + 2), .ref (a + 3), .ref (a + 4), .ref (a + 5), .ref (a + 6), .ref (a + 7), .null, .null, .int 0, .int 0, .int 0, .int 0, .int 0, .long 0, .int 0, .int 0, .int 0, .null, .null, .int 0, .int 0, .int 0, .int 0, .int 0, .int 0, .int 0, .null, .null, .null, .null, .null, .int 0, .int 0, .int 0, .null, .null, .null, .null, .null, .null, .null, .int 0, .null, .int 0, .int 0, .null, .null, .int 0, .null, .null]))] H14 := hN
  have hsz := hz1.trans hsz
  refine lv_aload_n hx hb dX11_init_60 rfl (lv_at hl 0 rfl) ?_
  refine lv_sipush (v := (248 : Int32)) hx hb dX11_init_61 (by decide) ?_
  refine zNewa (ws := []) (atype := .int) (t := 1) (N := 248) (a0 := (248, .inl (fun _ => 0))) zc hK (fun k q h => by simp at h) hS hsz kac_I rfl (fun _ => rfl) (by decide) (by decide) (by decide) (Nat.le_of_ble_eq_true rfl) (Nat.le_of_ble_eq_true rfl) dX11_init_64 (fun H15 hN o1 hz1 hS => ?_)
  have g0 := zkp g0 zRg_1 (fun q h1 _ _ => o1 q (Nat.lt_of_lt_of_eq h1 hsz))
  have g1 := zkp g1 zRg_1 (fun q h1 _ _ => o1 q (Nat.lt_of_lt_of_eq h1 hsz))
  have g2 := zkp g2 zRg_1 (fun q h1 _ _ => o1 q (Nat.lt_of_lt_of_eq h1 hsz))
  have g3 := zkp g3 zRg_1 (fun q h1 _ _ => o1 q (Nat.lt_of_lt_of_eq h1 hsz))
  have g4 := zkp g4 zRg_1 (fun q h1 _ _ => o1 q (Nat.lt_of_lt_of_eq h1 hsz))
  have g5 := zkp g5 zRg_1 (fun q h1 _ _ => o1 q (Nat.lt_of_lt_of_eq h1 hsz))
  have g6 := zkp g6 zRg_1 (fun q h1 _ _ => o1 q (Nat.lt_of_lt_of_eq h1 hsz))
  have g7 := zkp g7 zRg_1 (fun q h1 _ _ => o1 q (Nat.lt_of_lt_of_eq h1 hsz))
  have g8 : va_P E.1 zcl [((a + 8), .inl (E.2 1, 248, .inl (fun _ => 0)))] H15 := hN
  have hsz : H15.size = a + 9 := hz1
  refine W.cs (cells' := 8) (slots' := 4700) rfl rfl ?_
  refine zPut (C := RX11) (T := TX11) (N := 52) (ci := 11) (v := .ref (a + 8)) (ty := .array .int) zc hK g0 (zD1 (Nat.le_refl a)) hS uw11 tyX11 tyX11_ok nmX11 0 rfl rfl 8 (by decide) kf_11_32 (fun _ h9 => h9) (Or.inr ⟨rfl, hin, rfl⟩) (by decide +kernel) rfl rfl (Nat.le_of_ble_eq_true rfl) dX11_init_66 (fun H16 locs hN oq hz1 hS => ?_)
  have g1 := zkp g1 zRg_1 (fun q _ h2 h3 => oq q (znA (a := a) (i := 1) (p := 0) h2 (Nat.le_of_ble_eq_true rfl)))
  have g2 := zkp g2 zRg_1 (fun q _ h2 h3 => oq q (znA (a := a) (i := 2) (p := 0) h2 (Nat.le_of_ble_eq_true rfl)))
  have g3 := zkp g3 zRg_1 (fun q _ h2 h3 => oq q (znA (a := a) (i := 3) (p := 0) h2 (Nat.le_of_ble_eq_true rfl)))
  have g4 := zkp g4 zRg_1 (fun q _ h2 h3 => oq q (znA (a := a) (i := 4) (p := 0) h2 (Nat.le_of_ble_eq_true rfl)))
  have g5 := zkp g5 zRg_1 (fun q _ h2 h3 => oq q (znA (a := a) (i := 5) (p := 0) h2 (Nat.le_of_ble_eq_true rfl)))
  have g6 := zkp g6 zRg_1 (fun q _ h2 h3 => oq q (znA (a := a) (i := 6) (p := 0) h2 (Nat.le_of_ble_eq_true rfl)))
  have g7 := zkp g7 zRg_1 (fun q _ h2 h3 => oq q (znA (a := a) (i := 7) (p := 0) h2 (Nat.le_of_ble_eq_true rfl)))
  have g8 := zkp g8 zRg_1 (fun q _ h2 h3 => oq q (znA (a := a) (i := 8) (p := 0) h2 (Nat.le_of_ble_eq_true rfl)))
  have g0 : va_P E.1 zcl [(a, .inr (11, [.int 0, .ref (a + 1), .ref (a + 2), .ref (a + 3), .ref (a + 4), .ref (a + 5), .ref (a + 6), .ref (a + 7), .ref (a + 8), .null, .int 0, .int 0, .int 0, .int 0, .int 0, .long 0, .int 0, .int 0, .int 0, .null, .null, .int 0, .int 0, .int 0, .int 0, .int 0, .int 0, .int 0, .null, .null, .null, .null, .null, .int 0, .int 0, .int 0, .null, .null, .null, .null, .null, .null, .null, .int 0, .null, .int 0, .int 0, .null, .null, .int 0, .null, .null]))] H16 := hN
  have hsz := hz1.trans hsz
  refine lv_aload_n hx hb dX11_init_69 rfl (lv_at hl 0 rfl) ?_
  refine lv_sipush (v := (160 : Int32)) hx hb dX11_init_70 (by decide) ?_
  refine zNewa (ws := []) (atype := .int) (t := 1) (N := 160) (a0 := (160, .inl (fun _ => 0))) zc hK (fun k q h => by simp at h) hS hsz kac_I rfl (fun _ => rfl) (by decide) (by decide) (by decide) (Nat.le_of_ble_eq_true rfl) (Nat.le_of_ble_eq_true rfl) dX11_init_73 (fun H17 hN o1 hz1 hS => ?_)
  have g0 := zkp g0 zRg_1 (fun q h1 _ _ => o1 q (Nat.lt_of_lt_of_eq h1 hsz))
  have g1 := zkp g1 zRg_1 (fun q h1 _ _ => o1 q (Nat.lt_of_lt_of_eq h1 hsz))
  have g2 := zkp g2 zRg_1 (fun q h1 _ _ => o1 q (Nat.lt_of_lt_of_eq h1 hsz))
  have g3 := zkp g3 zRg_1 (fun q h1 _ _ => o1 q (Nat.lt_of_lt_of_eq h1 hsz))
  have g4 := zkp g4 zRg_1 (fun q h1 _ _ => o1 q (Nat.lt_of_lt_of_eq h1 hsz))
  have g5 := zkp g5 zRg_1 (fun q h1 _ _ => o1 q (Nat.lt_of_lt_of_eq h1 hsz))
  have g6 := zkp g6 zRg_1 (fun q h1 _ _ => o1 q (Nat.lt_of_lt_of_eq h1 hsz))
  have g7 := zkp g7 zRg_1 (fun q h1 _ _ => o1 q (Nat.lt_of_lt_of_eq h1 hsz))
  have g8 := zkp g8 zRg_1 (fun q h1 _ _ => o1 q (Nat.lt_of_lt_of_eq h1 hsz))
  have g9 : va_P E.1 zcl [((a + 9), .inl (E.2 1, 160, .inl (fun _ => 0)))] H17 := hN
  have hsz : H17.size = a + 10 := hz1
  refine W.cs (cells' := 9) (slots' := 4860) rfl rfl ?_
  refine zPut (C := RX11) (T := TX11) (N := 52) (ci := 11) (v := .ref (a + 9)) (ty := .array .int) zc hK g0 (zD1 (Nat.le_refl a)) hS uw11 tyX11 tyX11_ok nmX11 0 rfl rfl 9 (by decide) kf_11_35 (fun _ h9 => h9) (Or.inr ⟨rfl, hin, rfl⟩) (by decide +kernel) rfl rfl (Nat.le_of_ble_eq_true rfl) dX11_init_75 (fun H18 locs hN oq hz1 hS => ?_)
  have g1 := zkp g1 zRg_1 (fun q _ h2 h3 => oq q (znA (a := a) (i := 1) (p := 0) h2 (Nat.le_of_ble_eq_true rfl)))
  have g2 := zkp g2 zRg_1 (fun q _ h2 h3 => oq q (znA (a := a) (i := 2) (p := 0) h2 (Nat.le_of_ble_eq_true rfl)))
  have g3 := zkp g3 zRg_1 (fun q _ h2 h3 => oq q (znA (a := a) (i := 3) (p := 0) h2 (Nat.le_of_ble_eq_true rfl)))
  have g4 := zkp g4 zRg_1 (fun q _ h2 h3 => oq q (znA (a := a) (i := 4) (p := 0) h2 (Nat.le_of_ble_eq_true rfl)))
  have g5 := zkp g5 zRg_1 (fun q _ h2 h3 => oq q (znA (a := a) (i := 5) (p := 0) h2 (Nat.le_of_ble_eq_true rfl)))
  have g6 := zkp g6 zRg_1 (fun q _ h2 h3 => oq q (znA (a := a) (i := 6) (p := 0) h2 (Nat.le_of_ble_eq_true rfl)))
  have g7 := zkp g7 zRg_1 (fun q _ h2 h3 => oq q (znA (a := a) (i := 7) (p := 0) h2 (Nat.le_of_ble_eq_true rfl)))
  have g8 := zkp g8 zRg_1 (fun q _ h2 h3 => oq q (znA (a := a) (i := 8) (p := 0) h2 (Nat.le_of_ble_eq_true rfl)))
  have g9 := zkp g9 zRg_1 (fun q _ h2 h3 => oq q (znA (a := a) (i := 9) (p := 0) h2 (Nat.le_of_ble_eq_true rfl)))
  have g0 : va_P E.1 zcl [(a, .inr (11, [.int 0, .ref (a + 1), .ref (a + 2), .ref (a + 3), .ref (a + 4), .ref (a + 5), .ref (a + 6), .ref (a + 7), .ref (a + 8), .ref (a + 9), .int 0, .int 0, .int 0, .int 0, .int 0, .long 0, .int 0, .int 0, .int 0, .null, .null, .int 0, .int 0, .int 0, .int 0, .int 0, .int 0, .int 0, .null, .null, .null, .null, .null, .int 0, .int 0, .int 0, .null, .null, .null, .null, .null, .null, .null, .int 0, .null, .int 0, .int 0, .null, .null, .int 0, .null, .null]))] H18 := hN
  have hsz := hz1.trans hsz
  refine lv_aload_n hx hb dX11_init_78 rfl (lv_at hl 0 rfl) ?_
  refine lv_sipush (v := (132 : Int32)) hx hb dX11_init_79 (by decide) ?_
  refine zNewa (ws := []) (atype := .int) (t := 1) (N := 132) (a0 := (132, .inl (fun _ => 0))) zc hK (fun k q h => by simp at h) hS hsz kac_I rfl (fun _ => rfl) (by decide) (by decide) (by decide) (Nat.le_of_ble_eq_true rfl) (Nat.le_of_ble_eq_true rfl) dX11_init_82 (fun H19 hN o1 hz1 hS => ?_)
  have g0 := zkp g0 zRg_1 (fun q h1 _ _ => o1 q (Nat.lt_of_lt_of_eq h1 hsz))
  have g1 := zkp g1 zRg_1 (fun q h1 _ _ => o1 q (Nat.lt_of_lt_of_eq h1 hsz))
  have g2 := zkp g2 zRg_1 (fun q h1 _ _ => o1 q (Nat.lt_of_lt_of_eq h1 hsz))
  have g3 := zkp g3 zRg_1 (fun q h1 _ _ => o1 q (Nat.lt_of_lt_of_eq h1 hsz))
  have g4 := zkp g4 zRg_1 (fun q h1 _ _ => o1 q (Nat.lt_of_lt_of_eq h1 hsz))
  have g5 := zkp g5 zRg_1 (fun q h1 _ _ => o1 q (Nat.lt_of_lt_of_eq h1 hsz))
  have g6 := zkp g6 zRg_1 (fun q h1 _ _ => o1 q (Nat.lt_of_lt_of_eq h1 hsz))
  have g7 := zkp g7 zRg_1 (fun q h1 _ _ => o1 q (Nat.lt_of_lt_of_eq h1 hsz))
  have g8 := zkp g8 zRg_1 (fun q h1 _ _ => o1 q (Nat.lt_of_lt_of_eq h1 hsz))
  have g9 := zkp g9 zRg_1 (fun q h1 _ _ => o1 q (Nat.lt_of_lt_of_eq h1 hsz))
  have g10 : va_P E.1 zcl [((a + 10), .inl (E.2 1, 132, .inl (fun _ => 0)))] H19 := hN
  have hsz : H19.size = a + 11 := hz1
  refine W.cs (cells' := 10) (slots' := 4992) rfl rfl ?_
  refine zPut (C := RX11) (T := TX11) (N := 52) (ci := 11) (v := .ref (a + 10)) (ty := .array .int) zc hK g0 (zD1 (Nat.le_refl a)) hS uw11 tyX11 tyX11_ok nmX11 0 rfl rfl 19 (by decide) kf_11_38 (fun _ h9 => h9) (Or.inr ⟨rfl, hin, rfl⟩) (by decide +kernel) rfl rfl (Nat.le_of_ble_eq_true rfl) dX11_init_84 (fun H20 locs hN oq hz1 hS => ?_)
  have g1 := zkp g1 zRg_1 (fun q _ h2 h3 => oq q (znA (a := a) (i := 1) (p := 0) h2 (Nat.le_of_ble_eq_true rfl)))
  have g2 := zkp g2 zRg_1 (fun q _ h2 h3 => oq q (znA (a := a) (i := 2) (p := 0) h2 (Nat.le_of_ble_eq_true rfl)))
  have g3 := zkp g3 zRg_1 (fun q _ h2 h3 => oq q (znA (a := a) (i := 3) (p := 0) h2 (Nat.le_of_ble_eq_true rfl)))
  have g4 := zkp g4 zRg_1 (fun q _ h2 h3 => oq q (znA (a := a) (i := 4) (p := 0) h2 (Nat.le_of_ble_eq_true rfl)))
  have g5 := zkp g5 zRg_1 (fun q _ h2 h3 => oq q (znA (a := a) (i := 5) (p := 0) h2 (Nat.le_of_ble_eq_true rfl)))
  have g6 := zkp g6 zRg_1 (fun q _ h2 h3 => oq q (znA (a := a) (i := 6) (p := 0) h2 (Nat.le_of_ble_eq_true rfl)))
  have g7 := zkp g7 zRg_1 (fun q _ h2 h3 => oq q (znA (a := a) (i := 7) (p := 0) h2 (Nat.le_of_ble_eq_true rfl)))
  have g8 := zkp g8 zRg_1 (fun q _ h2 h3 => oq q (znA (a := a) (i := 8) (p := 0) h2 (Nat.le_of_ble_eq_true rfl)))
  have g9 := zkp g9 zRg_1 (fun q _ h2 h3 => oq q (znA (a := a) (i := 9) (p := 0) h2 (Nat.le_of_ble_eq_true rfl)))
  have g10 := zkp g10 zRg_1 (fun q _ h2 h3 => oq q (znA (a := a) (i := 10) (p := 0) h2 (Nat.le_of_ble_eq_true rfl)))
  have g0 : va_P E.1 zcl [(a, .inr (11, [.int 0, .ref (a + 1), .ref (a + 2), .ref (a + 3), .ref (a + 4), .ref (a + 5), .ref (a + 6), .ref (a + 7), .ref (a + 8), .ref (a + 9), .int 0, .int 0, .int 0, .int 0, .int 0, .long 0, .int 0, .int 0, .int 0, .ref (a + 10), .null, .int 0, .int 0, .int 0, .int 0, .int 0, .int 0, .int 0, .null, .null, .null, .null, .null, .int 0, .int 0, .int 0, .null, .null, .null, .null, .null, .null, .null, .int 0, .null, .int 0, .int 0, .null, .null, .int 0, .null, .null]))] H20 := hN
  have hsz := hz1.trans hsz
  refine lv_aload_n hx hb dX11_init_87 rfl (lv_at hl 0 rfl) ?_
  refine lv_iconst (v := (3 : Int32)) hx hb dX11_init_88 (by decide) ?_
  refine zNewa (ws := []) (atype := .int) (t := 1) (N := 3) (a0 := (3, .inl (fun _ => 0))) zc hK (fun k q h => by simp at h) hS hsz kac_I rfl (fun _ => rfl) (by decide) (by decide) (by decide) (Nat.le_of_ble_eq_true rfl) (Nat.le_of_ble_eq_true rfl) dX11_init_89 (fun H21 hN o1 hz1 hS => ?_)
  have g0 := zkp g0 zRg_1 (fun q h1 _ _ => o1 q (Nat.lt_of_lt_of_eq h1 hsz))
  have g1 := zkp g1 zRg_1 (fun q h1 _ _ => o1 q (Nat.lt_of_lt_of_eq h1 hsz))
  have g2 := zkp g2 zRg_1 (fun q h1 _ _ => o1 q (Nat.lt_of_lt_of_eq h1 hsz))
  have g3 := zkp g3 zRg_1 (fun q h1 _ _ => o1 q (Nat.lt_of_lt_of_eq h1 hsz))
  have g4 := zkp g4 zRg_1 (fun q h1 _ _ => o1 q (Nat.lt_of_lt_of_eq h1 hsz))
  have g5 := zkp g5 zRg_1 (fun q h1 _ _ => o1 q (Nat.lt_of_lt_of_eq h1 hsz))
  have g6 := zkp g6 zRg_1 (fun q h1 _ _ => o1 q (Nat.lt_of_lt_of_eq h1 hsz))
  have g7 := zkp g7 zRg_1 (fun q h1 _ _ => o1 q (Nat.lt_of_lt_of_eq h1 hsz))
  have g8 := zkp g8 zRg_1 (fun q h1 _ _ => o1 q (Nat.lt_of_lt_of_eq h1 hsz))
  have g9 := zkp g9 zRg_1 (fun q h1 _ _ => o1 q (Nat.lt_of_lt_of_eq h1 hsz))
  have g10 := zkp g10 zRg_1 (fun q h1 _ _ => o1 q (Nat.lt_of_lt_of_eq h1 hsz))
  have g11 : va_P E.1 zcl [((a + 11), .inl (E.2 1, 3, .inl (fun _ => 0)))] H21 := hN
  have hsz : H21.size = a + 12 := hz1
  refine W.cs (cells' := 11) (slots' := 4995) rfl rfl ?_
  refine zPut (C := RX11) (T := TX11) (N := 52) (ci := 11) (v := .ref (a + 11)) (ty := .array .int) zc hK g0 (zD1 (Nat.le_refl a)) hS uw11 tyX11 tyX11_ok nmX11 0 rfl rfl 20 (by decide) kf_11_41 (fun _ h9 => h9) (Or.inr ⟨rfl, hin, rfl⟩) (by decide +kernel) rfl rfl (Nat.le_of_ble_eq_true rfl) dX11_init_91 (fun H22 locs hN oq hz1 hS => ?_)
  have g1 := zkp g1 zRg_1 (fun q _ h2 h3 => oq q (znA (a := a) (i := 1) (p := 0) h2 (Nat.le_of_ble_eq_true rfl)))
  have g2 := zkp g2 zRg_1 (fun q _ h2 h3 => oq q (znA (a := a) (i := 2) (p := 0) h2 (Nat.le_of_ble_eq_true rfl)))
  have g3 := zkp g3 zRg_1 (fun q _ h2 h3 => oq q (znA (a := a) (i := 3) (p := 0) h2 (Nat.le_of_ble_eq_true rfl)))
  have g4 := zkp g4 zRg_1 (fun q _ h2 h3 => oq q (znA (a := a) (i := 4) (p := 0) h2 (Nat.le_of_ble_eq_true rfl)))
  have g5 := zkp g5 zRg_1 (fun q _ h2 h3 => oq q (znA (a := a) (i := 5) (p := 0) h2 (Nat.le_of_ble_eq_true rfl)))
  have g6 := zkp g6 zRg_1 (fun q _ h2 h3 => oq q (znA (a := a) (i := 6) (p := 0) h2 (Nat.le_of_ble_eq_true rfl)))
  have g7 := zkp g7 zRg_1 (fun q _ h2 h3 => oq q (znA (a := a) (i := 7) (p := 0) h2 (Nat.le_of_ble_eq_true rfl)))
  have g8 := zkp g8 zRg_1 (fun q _ h2 h3 => oq q (znA (a := a) (i := 8) (p := 0) h2 (Nat.le_of_ble_eq_true rfl)))
  have g9 := zkp g9 zRg_1 (fun q _ h2 h3 => oq q (znA (a := a) (i := 9) (p := 0) h2 (Nat.le_of_ble_eq_true rfl)))
  have g10 := zkp g10 zRg_1 (fun q _ h2 h3 => oq q (znA (a := a) (i := 10) (p := 0) h2 (Nat.le_of_ble_eq_true rfl)))
  have g11 := zkp g11 zRg_1 (fun q _ h2 h3 => oq q (znA (a := a) (i := 11) (p := 0) h2 (Nat.le_of_ble_eq_true rfl)))
  have g0 : va_P E.1 zcl [(a, .inr (11, [.int 0, .ref (a + 1), .ref (a + 2), .ref (a + 3), .ref (a + 4), .ref (a + 5), .ref (a + 6), .ref (a + 7), .ref (a + 8), .ref (a + 9), .int 0, .int 0, .int 0, .int 0, .int 0, .long 0, .int 0, .int 0, .int 0, .ref (a + 10), .ref (a + 11), .int 0, .int 0, .int 0, .int 0, .int 0, .int 0, .int 0, .null, .null, .null, .null, .null, .int 0, .int 0, .int 0, .null, .null, .null, .null, .null, .null, .null, .int 0, .null, .int 0, .int 0, .null, .null, .int 0, .null, .null]))] H22 := hN
  have hsz := hz1.trans hsz
  refine lv_aload_n hx hb dX11_init_94 rfl (lv_at hl 0 rfl) ?_
  refine lv_bipush (v := (6 : Int32)) hx hb dX11_init_95 (by decide) ?_
  refine zNewa (ws := []) (atype := .int) (t := 1) (N := 6) (a0 := (6, .inl (fun _ => 0))) zc hK (fun k q h => by simp at h) hS hsz kac_I rfl (fun _ => rfl) (by decide) (by decide) (by decide) (Nat.le_of_ble_eq_true rfl) (Nat.le_of_ble_eq_true rfl) dX11_init_97 (fun H23 hN o1 hz1 hS => ?_)
  have g0 := zkp g0 zRg_1 (fun q h1 _ _ => o1 q (Nat.lt_of_lt_of_eq h1 hsz))
  have g1 := zkp g1 zRg_1 (fun q h1 _ _ => o1 q (Nat.lt_of_lt_of_eq h1 hsz))
  have g2 := zkp g2 zRg_1 (fun q h1 _ _ => o1 q (Nat.lt_of_lt_of_eq h1 hsz))
  have g3 := zkp g3 zRg_1 (fun q h1 _ _ => o1 q (Nat.lt_of_lt_of_eq h1 hsz))
  have g4 := zkp g4 zRg_1 (fun q h1 _ _ => o1 q (Nat.lt_of_lt_of_eq h1 hsz))
  have g5 := zkp g5 zRg_1 (fun q h1 _ _ => o1 q (Nat.lt_of_lt_of_eq h1 hsz))
  have g6 := zkp g6 zRg_1 (fun q h1 _ _ => o1 q (Nat.lt_of_lt_of_eq h1 hsz))
  have g7 := zkp g7 zRg_1 (fun q h1 _ _ => o1 q (Nat.lt_of_lt_of_eq h1 hsz))
  have g8 := zkp g8 zRg_1 (fun q h1 _ _ => o1 q (Nat.lt_of_lt_of_eq h1 hsz))
  have g9 := zkp g9 zRg_1 (fun q h1 _ _ => o1 q (Nat.lt_of_lt_of_eq h1 hsz))
  have g10 := zkp g10 zRg_1 (fun q h1 _ _ => o1 q (Nat.lt_of_lt_of_eq h1 hsz))
  have g11 := zkp g11 zRg_1 (fun q h1 _ _ => o1 q (Nat.lt_of_lt_of_eq h1 hsz))
  have g12 : va_P E.1 zcl [((a + 12), .inl (E.2 1, 6, .inl (fun _ => 0)))] H23 := hN
  have hsz : H23.size = a + 13 := hz1
  refine W.cs (cells' := 12) (slots' := 5001) rfl rfl ?_
  refine zPut (C := RX11) (T := TX11) (N := 52) (ci := 11) (v := .ref (a + 12)) (ty := .array .int) zc hK g0 (zD1 (Nat.le_refl a)) hS uw11 tyX11 tyX11_ok nmX11 0 rfl rfl 28 (by decide) kf_11_44 (fun _ h9 => h9) (Or.inr ⟨rfl, hin, rfl⟩) (by decide +kernel) rfl rfl (Nat.le_of_ble_eq_true rfl) dX11_init_99 (fun H24 locs hN oq hz1 hS => ?_)
  have g1 := zkp g1 zRg_1 (fun q _ h2 h3 => oq q (znA (a := a) (i := 1) (p := 0) h2 (Nat.le_of_ble_eq_true rfl)))
  have g2 := zkp g2 zRg_1 (fun q _ h2 h3 => oq q (znA (a := a) (i := 2) (p := 0) h2 (Nat.le_of_ble_eq_true rfl)))
  have g3 := zkp g3 zRg_1 (fun q _ h2 h3 => oq q (znA (a := a) (i := 3) (p := 0) h2 (Nat.le_of_ble_eq_true rfl)))
  have g4 := zkp g4 zRg_1 (fun q _ h2 h3 => oq q (znA (a := a) (i := 4) (p := 0) h2 (Nat.le_of_ble_eq_true rfl)))
  have g5 := zkp g5 zRg_1 (fun q _ h2 h3 => oq q (znA (a := a) (i := 5) (p := 0) h2 (Nat.le_of_ble_eq_true rfl)))
  have g6 := zkp g6 zRg_1 (fun q _ h2 h3 => oq q (znA (a := a) (i := 6) (p := 0) h2 (Nat.le_of_ble_eq_true rfl)))
  have g7 := zkp g7 zRg_1 (fun q _ h2 h3 => oq q (znA (a := a) (i := 7) (p := 0) h2 (Nat.le_of_ble_eq_true rfl)))
  have g8 := zkp g8 zRg_1 (fun q _ h2 h3 => oq q (znA (a := a) (i := 8) (p := 0) h2 (Nat.le_of_ble_eq_true rfl)))
  have g9 := zkp g9 zRg_1 (fun q _ h2 h3 => oq q (znA (a := a) (i := 9) (p := 0) h2 (Nat.le_of_ble_eq_true rfl)))
  have g10 := zkp g10 zRg_1 (fun q _ h2 h3 => oq q (znA (a := a) (i := 10) (p := 0) h2 (Nat.le_of_ble_eq_true rfl)))
  have g11 := zkp g11 zRg_1 (fun q _ h2 h3 => oq q (znA (a := a) (i := 11) (p := 0) h2 (Nat.le_of_ble_eq_true rfl)))
  have g12 := zkp g12 zRg_1 (fun q _ h2 h3 => oq q (znA (a := a) (i := 12) (p := 0) h2 (Nat.le_of_ble_eq_true rfl)))
  have g0 : va_P E.1 zcl [(a, .inr (11, [.int 0, .ref (a + 1), .ref (a + 2), .ref (a + 3), .ref (a + 4), .ref (a + 5), .ref (a + 6), .ref (a + 7), .ref (a + 8), .ref (a + 9), .int 0, .int 0, .int 0, .int 0, .int 0, .long 0, .int 0, .int 0, .int 0, .ref (a + 10), .ref (a + 11), .int 0, .int 0, .int 0, .int 0, .int 0, .int 0, .int 0, .ref (a + 12), .null, .null, .null, .null, .int 0, .int 0, .int 0, .null, .null, .null, .null, .null, .null, .null, .int 0, .null, .int 0, .int 0, .null, .null, .int 0, .null, .null]))] H24 := hN
  have hsz := hz1.trans hsz
  refine lv_aload_n hx hb dX11_init_102 rfl (lv_at hl 0 rfl) ?_
  refine lv_bipush (v := (6 : Int32)) hx hb dX11_init_103 (by decide) ?_
  refine zNewa (ws := []) (atype := .int) (t := 1) (N := 6) (a0 := (6, .inl (fun _ => 0))) zc hK (fun k q h => by simp at h) hS hsz kac_I rfl (fun _ => rfl) (by decide) (by decide) (by decide) (Nat.le_of_ble_eq_true rfl) (Nat.le_of_ble_eq_true rfl) dX11_init_105 (fun H25 hN o1 hz1 hS => ?_)
  have g0 := zkp g0 zRg_1 (fun q h1 _ _ => o1 q (Nat.lt_of_lt_of_eq h1 hsz))
  have g1 := zkp g1 zRg_1 (fun q h1 _ _ => o1 q (Nat.lt_of_lt_of_eq h1 hsz))
  have g2 := zkp g2 zRg_1 (fun q h1 _ _ => o1 q (Nat.lt_of_lt_of_eq h1 hsz))
  have g3 := zkp g3 zRg_1 (fun q h1 _ _ => o1 q (Nat.lt_of_lt_of_eq h1 hsz))
  have g4 := zkp g4 zRg_1 (fun q h1 _ _ => o1 q (Nat.lt_of_lt_of_eq h1 hsz))
  have g5 := zkp g5 zRg_1 (fun q h1 _ _ => o1 q (Nat.lt_of_lt_of_eq h1 hsz))
  have g6 := zkp g6 zRg_1 (fun q h1 _ _ => o1 q (Nat.lt_of_lt_of_eq h1 hsz))
  have g7 := zkp g7 zRg_1 (fun q h1 _ _ => o1 q (Nat.lt_of_lt_of_eq h1 hsz))
  have g8 := zkp g8 zRg_1 (fun q h1 _ _ => o1 q (Nat.lt_of_lt_of_eq h1 hsz))
  have g9 := zkp g9 zRg_1 (fun q h1 _ _ => o1 q (Nat.lt_of_lt_of_eq h1 hsz))
  have g10 := zkp g10 zRg_1 (fun q h1 _ _ => o1 q (Nat.lt_of_lt_of_eq h1 hsz))
  have g11 := zkp g11 zRg_1 (fun q h1 _ _ => o1 q (Nat.lt_of_lt_of_eq h1 hsz))
  have g12 := zkp g12 zRg_1 (fun q h1 _ _ => o1 q (Nat.lt_of_lt_of_eq h1 hsz))
  have g13 : va_P E.1 zcl [((a + 13), .inl (E.2 1, 6, .inl (fun _ => 0)))] H25 := hN
  have hsz : H25.size = a + 14 := hz1
  refine W.cs (cells' := 13) (slots' := 5007) rfl rfl ?_
  refine zPut (C := RX11) (T := TX11) (N := 52) (ci := 11) (v := .ref (a + 13)) (ty := .array .int) zc hK g0 (zD1 (Nat.le_refl a)) hS uw11 tyX11 tyX11_ok nmX11 0 rfl rfl 29 (by decide) kf_11_47 (fun _ h9 => h9) (Or.inr ⟨rfl, hin, rfl⟩) (by decide +kernel) rfl rfl (Nat.le_of_ble_eq_true rfl) dX11_init_107 (fun H26 locs hN oq hz1 hS => ?_)
  have g1 := zkp g1 zRg_1 (fun q _ h2 h3 => oq q (znA (a := a) (i := 1) (p := 0) h2 (Nat.le_of_ble_eq_true rfl)))
  have g2 := zkp g2 zRg_1 (fun q _ h2 h3 => oq q (znA (a := a) (i := 2) (p := 0) h2 (Nat.le_of_ble_eq_true rfl)))
  have g3 := zkp g3 zRg_1 (fun q _ h2 h3 => oq q (znA (a := a) (i := 3) (p := 0) h2 (Nat.le_of_ble_eq_true rfl)))
  have g4 := zkp g4 zRg_1 (fun q _ h2 h3 => oq q (znA (a := a) (i := 4) (p := 0) h2 (Nat.le_of_ble_eq_true rfl)))
  have g5 := zkp g5 zRg_1 (fun q _ h2 h3 => oq q (znA (a := a) (i := 5) (p := 0) h2 (Nat.le_of_ble_eq_true rfl)))
  have g6 := zkp g6 zRg_1 (fun q _ h2 h3 => oq q (znA (a := a) (i := 6) (p := 0) h2 (Nat.le_of_ble_eq_true rfl)))
  have g7 := zkp g7 zRg_1 (fun q _ h2 h3 => oq q (znA (a := a) (i := 7) (p := 0) h2 (Nat.le_of_ble_eq_true rfl)))
  have g8 := zkp g8 zRg_1 (fun q _ h2 h3 => oq q (znA (a := a) (i := 8) (p := 0) h2 (Nat.le_of_ble_eq_true rfl)))
  have g9 := zkp g9 zRg_1 (fun q _ h2 h3 => oq q (znA (a := a) (i := 9) (p := 0) h2 (Nat.le_of_ble_eq_true rfl)))
  have g10 := zkp g10 zRg_1 (fun q _ h2 h3 => oq q (znA (a := a) (i := 10) (p := 0) h2 (Nat.le_of_ble_eq_true rfl)))
  have g11 := zkp g11 zRg_1 (fun q _ h2 h3 => oq q (znA (a := a) (i := 11) (p := 0) h2 (Nat.le_of_ble_eq_true rfl)))
  have g12 := zkp g12 zRg_1 (fun q _ h2 h3 => oq q (znA (a := a) (i := 12) (p := 0) h2 (Nat.le_of_ble_eq_true rfl)))
  have g13 := zkp g13 zRg_1 (fun q _ h2 h3 => oq q (znA (a := a) (i := 13) (p := 0) h2 (Nat.le_of_ble_eq_true rfl)))
  have g0 : va_P E.1 zcl [(a, .inr (11, [.int 0, .ref (a + 1), .ref (a + 2), .ref (a + 3), .ref (a + 4), .ref (a + 5), .ref (a + 6), .ref (a + 7), .ref (a + 8), .ref (a + 9), .int 0, .int 0, .int 0, .int 0, .int 0, .long 0, .int 0, .int 0, .int 0, .ref (a + 10), .ref (a + 11), .int 0, .int 0, .int 0, .int 0, .int 0, .int 0, .int 0, .ref (a + 12), .ref (a + 13), .null, .null, .null, .int 0, .int 0, .int 0, .null, .null, .null, .null, .null, .null, .null, .int 0, .null, .int 0, .int 0, .null, .null, .int 0, .null, .null]))] H26 := hN
  have hsz := hz1.trans hsz
  refine lv_aload_n hx hb dX11_init_110 rfl (lv_at hl 0 rfl) ?_
  refine lv_bipush (v := (6 : Int32)) hx hb dX11_init_111 (by decide) ?_
  refine zNewa (ws := []) (atype := .int) (t := 1) (N := 6) (a0 := (6, .inl (fun _ => 0))) zc hK (fun k q h => by simp at h) hS hsz kac_I rfl (fun _ => rfl) (by decide) (by decide) (by decide) (Nat.le_of_ble_eq_true rfl) (Nat.le_of_ble_eq_true rfl) dX11_init_113 (fun H27 hN o1 hz1 hS => ?_)
  have g0 := zkp g0 zRg_1 (fun q h1 _ _ => o1 q (Nat.lt_of_lt_of_eq h1 hsz))
  have g1 := zkp g1 zRg_1 (fun q h1 _ _ => o1 q (Nat.lt_of_lt_of_eq h1 hsz))
  have g2 := zkp g2 zRg_1 (fun q h1 _ _ => o1 q (Nat.lt_of_lt_of_eq h1 hsz))
  have g3 := zkp g3 zRg_1 (fun q h1 _ _ => o1 q (Nat.lt_of_lt_of_eq h1 hsz))
  have g4 := zkp g4 zRg_1 (fun q h1 _ _ => o1 q (Nat.lt_of_lt_of_eq h1 hsz))
  have g5 := zkp g5 zRg_1 (fun q h1 _ _ => o1 q (Nat.lt_of_lt_of_eq h1 hsz))
  have g6 := zkp g6 zRg_1 (fun q h1 _ _ => o1 q (Nat.lt_of_lt_of_eq h1 hsz))
  have g7 := zkp g7 zRg_1 (fun q h1 _ _ => o1 q (Nat.lt_of_lt_of_eq h1 hsz))
  have g8 := zkp g8 zRg_1 (fun q h1 _ _ => o1 q (Nat.lt_of_lt_of_eq h1 hsz))
  have g9 := zkp g9 zRg_1 (fun q h1 _ _ => o1 q (Nat.lt_of_lt_of_eq h1 hsz))
  have g10 := zkp g10 zRg_1 (fun q h1 _ _ => o1 q (Nat.lt_of_lt_of_eq h1 hsz))
  have g11 := zkp g11 zRg_1 (fun q h1 _ _ => o1 q (Nat.lt_of_lt_of_eq h1 hsz))
  have g12 := zkp g12 zRg_1 (fun q h1 _ _ => o1 q (Nat.lt_of_lt_of_eq h1 hsz))
  have g13 := zkp g13 zRg_1 (fun q h1 _ _ => o1 q (Nat.lt_of_lt_of_eq h1 hsz))
  have g14 : va_P E.1 zcl [((a + 14), .inl (E.2 1, 6, .inl (fun _ => 0)))] H27 := hN
  have hsz : H27.size = a + 15 := hz1
  refine W.cs (cells' := 14) (slots' := 5013) rfl rfl ?_
  refine zPut (C := RX11) (T := TX11) (N := 52) (ci := 11) (v := .ref (a + 14)) (ty := .array .int) zc hK g0 (zD1 (Nat.le_refl a)) hS uw11 tyX11 tyX11_ok nmX11 0 rfl rfl 30 (by decide) kf_11_50 (fun _ h9 => h9) (Or.inr ⟨rfl, hin, rfl⟩) (by decide +kernel) rfl rfl (Nat.le_of_ble_eq_true rfl) dX11_init_115 (fun H28 locs hN oq hz1 hS => ?_)
  have g1 := zkp g1 zRg_1 (fun q _ h2 h3 => oq q (znA (a := a) (i := 1) (p := 0) h2 (Nat.le_of_ble_eq_true rfl)))
  have g2 := zkp g2 zRg_1 (fun q _ h2 h3 => oq q (znA (a := a) (i := 2) (p := 0) h2 (Nat.le_of_ble_eq_true rfl)))
  have g3 := zkp g3 zRg_1 (fun q _ h2 h3 => oq q (znA (a := a) (i := 3) (p := 0) h2 (Nat.le_of_ble_eq_true rfl)))
  have g4 := zkp g4 zRg_1 (fun q _ h2 h3 => oq q (znA (a := a) (i := 4) (p := 0) h2 (Nat.le_of_ble_eq_true rfl)))
  have g5 := zkp g5 zRg_1 (fun q _ h2 h3 => oq q (znA (a := a) (i := 5) (p := 0) h2 (Nat.le_of_ble_eq_true rfl)))
  have g6 := zkp g6 zRg_1 (fun q _ h2 h3 => oq q (znA (a := a) (i := 6) (p := 0) h2 (Nat.le_of_ble_eq_true rfl)))
  have g7 := zkp g7 zRg_1 (fun q _ h2 h3 => oq q (znA (a := a) (i := 7) (p := 0) h2 (Nat.le_of_ble_eq_true rfl)))
  have g8 := zkp g8 zRg_1 (fun q _ h2 h3 => oq q (znA (a := a) (i := 8) (p := 0) h2 (Nat.le_of_ble_eq_true rfl)))
  have g9 := zkp g9 zRg_1 (fun q _ h2 h3 => oq q (znA (a := a) (i := 9) (p := 0) h2 (Nat.le_of_ble_eq_true rfl)))
  have g10 := zkp g10 zRg_1 (fun q _ h2 h3 => oq q (znA (a := a) (i := 10) (p := 0) h2 (Nat.le_of_ble_eq_true rfl)))
  have g11 := zkp g11 zRg_1 (fun q _ h2 h3 => oq q (znA (a := a) (i := 11) (p := 0) h2 (Nat.le_of_ble_eq_true rfl)))
  have g12 := zkp g12 zRg_1 (fun q _ h2 h3 => oq q (znA (a := a) (i := 12) (p := 0) h2 (Nat.le_of_ble_eq_true rfl)))
  have g13 := zkp g13 zRg_1 (fun q _ h2 h3 => oq q (znA (a := a) (i := 13) (p := 0) h2 (Nat.le_of_ble_eq_true rfl)))
  have g14 := zkp g14 zRg_1 (fun q _ h2 h3 => oq q (znA (a := a) (i := 14) (p := 0) h2 (Nat.le_of_ble_eq_true rfl)))
  have g0 : va_P E.1 zcl [(a, .inr (11, [.int 0, .ref (a + 1), .ref (a + 2), .ref (a + 3), .ref (a + 4), .ref (a + 5), .ref (a + 6), .ref (a + 7), .ref (a + 8), .ref (a + 9), .int 0, .int 0, .int 0, .int 0, .int 0, .long 0, .int 0, .int 0, .int 0, .ref (a + 10), .ref (a + 11), .int 0, .int 0, .int 0, .int 0, .int 0, .int 0, .int 0, .ref (a + 12), .ref (a + 13), .ref (a + 14), .null, .null, .int 0, .int 0, .int 0, .null, .null, .null, .null, .null, .null, .null, .int 0, .null, .int 0, .int 0, .null, .null, .int 0, .null, .null]))] H28 := hN
  have hsz := hz1.trans hsz
  refine lv_aload_n hx hb dX11_init_118 rfl (lv_at hl 0 rfl) ?_
  refine lv_bipush (v := (9 : Int32)) hx hb dX11_init_119 (by decide) ?_
  refine zNewa (ws := []) (atype := .int) (t := 1) (N := 9) (a0 := (9, .inl (fun _ => 0))) zc hK (fun k q h => by simp at h) hS hsz kac_I rfl (fun _ => rfl) (by decide) (by decide) (by decide) (Nat.le_of_ble_eq_true rfl) (Nat.le_of_ble_eq_true rfl) dX11_init_121 (fun H29 hN o1 hz1 hS => ?_)
  have g0 := zkp g0 zRg_1 (fun q h1 _ _ => o1 q (Nat.lt_of_lt_of_eq h1 hsz))
  have g1 := zkp g1 zRg_1 (fun q h1 _ _ => o1 q (Nat.lt_of_lt_of_eq h1 hsz))
  have g2 := zkp g2 zRg_1 (fun q h1 _ _ => o1 q (Nat.lt_of_lt_of_eq h1 hsz))
  have g3 := zkp g3 zRg_1 (fun q h1 _ _ => o1 q (Nat.lt_of_lt_of_eq h1 hsz))
  have g4 := zkp g4 zRg_1 (fun q h1 _ _ => o1 q (Nat.lt_of_lt_of_eq h1 hsz))
  have g5 := zkp g5 zRg_1 (fun q h1 _ _ => o1 q (Nat.lt_of_lt_of_eq h1 hsz))
  have g6 := zkp g6 zRg_1 (fun q h1 _ _ => o1 q (Nat.lt_of_lt_of_eq h1 hsz))
  have g7 := zkp g7 zRg_1 (fun q h1 _ _ => o1 q (Nat.lt_of_lt_of_eq h1 hsz))
  have g8 := zkp g8 zRg_1 (fun q h1 _ _ => o1 q (Nat.lt_of_lt_of_eq h1 hsz))
  have g9 := zkp g9 zRg_1 (fun q h1 _ _ => o1 q (Nat.lt_of_lt_of_eq h1 hsz))
  have g10 := zkp g10 zRg_1 (fun q h1 _ _ => o1 q (Nat.lt_of_lt_of_eq h1 hsz))
  have g11 := zkp g11 zRg_1 (fun q h1 _ _ => o1 q (Nat.lt_of_lt_of_eq h1 hsz))
  have g12 := zkp g12 zRg_1 (fun q h1 _ _ => o1 q (Nat.lt_of_lt_of_eq h1 hsz))
  have g13 := zkp g13 zRg_1 (fun q h1 _ _ => o1 q (Nat.lt_of_lt_of_eq h1 hsz))
  have g14 := zkp g14 zRg_1 (fun q h1 _ _ => o1 q (Nat.lt_of_lt_of_eq h1 hsz))
  have g15 : va_P E.1 zcl [((a + 15), .inl (E.2 1, 9, .inl (fun _ => 0)))] H29 := hN
  have hsz : H29.size = a + 16 := hz1
  refine W.cs (cells' := 15) (slots' := 5022) rfl rfl ?_
  refine zPut (C := RX11) (T := TX11) (N := 52) (ci := 11) (v := .ref (a + 15)) (ty := .array .int) zc hK g0 (zD1 (Nat.le_refl a)) hS uw11 tyX11 tyX11_ok nmX11 0 rfl rfl 31 (by decide) kf_11_53 (fun _ h9 => h9) (Or.inr ⟨rfl, hin, rfl⟩) (by decide +kernel) rfl rfl (Nat.le_of_ble_eq_true rfl) dX11_init_123 (fun H30 locs hN oq hz1 hS => ?_)
  have g1 := zkp g1 zRg_1 (fun q _ h2 h3 => oq q (znA (a := a) (i := 1) (p := 0) h2 (Nat.le_of_ble_eq_true rfl)))
  have g2 := zkp g2 zRg_1 (fun q _ h2 h3 => oq q (znA (a := a) (i := 2) (p := 0) h2 (Nat.le_of_ble_eq_true rfl)))
  have g3 := zkp g3 zRg_1 (fun q _ h2 h3 => oq q (znA (a := a) (i := 3) (p := 0) h2 (Nat.le_of_ble_eq_true rfl)))
  have g4 := zkp g4 zRg_1 (fun q _ h2 h3 => oq q (znA (a := a) (i := 4) (p := 0) h2 (Nat.le_of_ble_eq_true rfl)))
  have g5 := zkp g5 zRg_1 (fun q _ h2 h3 => oq q (znA (a := a) (i := 5) (p := 0) h2 (Nat.le_of_ble_eq_true rfl)))
  have g6 := zkp g6 zRg_1 (fun q _ h2 h3 => oq q (znA (a := a) (i := 6) (p := 0) h2 (Nat.le_of_ble_eq_true rfl)))
  have g7 := zkp g7 zRg_1 (fun q _ h2 h3 => oq q (znA (a := a) (i := 7) (p := 0) h2 (Nat.le_of_ble_eq_true rfl)))
  have g8 := zkp g8 zRg_1 (fun q _ h2 h3 => oq q (znA (a := a) (i := 8) (p := 0) h2 (Nat.le_of_ble_eq_true rfl)))
  have g9 := zkp g9 zRg_1 (fun q _ h2 h3 => oq q (znA (a := a) (i := 9) (p := 0) h2 (Nat.le_of_ble_eq_true rfl)))
  have g10 := zkp g10 zRg_1 (fun q _ h2 h3 => oq q (znA (a := a) (i := 10) (p := 0) h2 (Nat.le_of_ble_eq_true rfl)))
  have g11 := zkp g11 zRg_1 (fun q _ h2 h3 => oq q (znA (a := a) (i := 11) (p := 0) h2 (Nat.le_of_ble_eq_true rfl)))
  have g12 := zkp g12 zRg_1 (fun q _ h2 h3 => oq q (znA (a := a) (i := 12) (p := 0) h2 (Nat.le_of_ble_eq_true rfl)))
  have g13 := zkp g13 zRg_1 (fun q _ h2 h3 => oq q (znA (a := a) (i := 13) (p := 0) h2 (Nat.le_of_ble_eq_true rfl)))
  have g14 := zkp g14 zRg_1 (fun q _ h2 h3 => oq q (znA (a := a) (i := 14) (p := 0) h2 (Nat.le_of_ble_eq_true rfl)))
  have g15 := zkp g15 zRg_1 (fun q _ h2 h3 => oq q (znA (a := a) (i := 15) (p := 0) h2 (Nat.le_of_ble_eq_true rfl)))
  have g0 : va_P E.1 zcl [(a, .inr (11, [.int 0, .ref (a + 1), .ref (a + 2), .ref (a + 3), .ref (a + 4), .ref (a + 5), .ref (a + 6), .ref (a + 7), .ref (a + 8), .ref (a + 9), .int 0, .int 0, .int 0, .int 0, .int 0, .long 0, .int 0, .int 0, .int 0, .ref (a + 10), .ref (a + 11), .int 0, .int 0, .int 0, .int 0, .int 0, .int 0, .int 0, .ref (a + 12), .ref (a + 13), .ref (a + 14), .ref (a + 15), .null, .int 0, .int 0, .int 0, .null, .null, .null, .null, .null, .null, .null, .int 0, .null, .int 0, .int 0, .null, .null, .int 0, .null, .null]))] H30 := hN
  have hsz := hz1.trans hsz
  refine lv_aload_n hx hb dX11_init_126 rfl (lv_at hl 0 rfl) ?_
  refine lv_iconst (v := (5 : Int32)) hx hb dX11_init_127 (by decide) ?_
  refine zNewa (ws := []) (atype := .int) (t := 1) (N := 5) (a0 := (5, .inl (fun _ => 0))) zc hK (fun k q h => by simp at h) hS hsz kac_I rfl (fun _ => rfl) (by decide) (by decide) (by decide) (Nat.le_of_ble_eq_true rfl) (Nat.le_of_ble_eq_true rfl) dX11_init_128 (fun H31 hN o1 hz1 hS => ?_)
  have g0 := zkp g0 zRg_1 (fun q h1 _ _ => o1 q (Nat.lt_of_lt_of_eq h1 hsz))
  have g1 := zkp g1 zRg_1 (fun q h1 _ _ => o1 q (Nat.lt_of_lt_of_eq h1 hsz))
  have g2 := zkp g2 zRg_1 (fun q h1 _ _ => o1 q (Nat.lt_of_lt_of_eq h1 hsz))
  have g3 := zkp g3 zRg_1 (fun q h1 _ _ => o1 q (Nat.lt_of_lt_of_eq h1 hsz))
  have g4 := zkp g4 zRg_1 (fun q h1 _ _ => o1 q (Nat.lt_of_lt_of_eq h1 hsz))
  have g5 := zkp g5 zRg_1 (fun q h1 _ _ => o1 q (Nat.lt_of_lt_of_eq h1 hsz))
  have g6 := zkp g6 zRg_1 (fun q h1 _ _ => o1 q (Nat.lt_of_lt_of_eq h1 hsz))
  have g7 := zkp g7 zRg_1 (fun q h1 _ _ => o1 q (Nat.lt_of_lt_of_eq h1 hsz))
  have g8 := zkp g8 zRg_1 (fun q h1 _ _ => o1 q (Nat.lt_of_lt_of_eq h1 hsz))
  have g9 := zkp g9 zRg_1 (fun q h1 _ _ => o1 q (Nat.lt_of_lt_of_eq h1 hsz))
  have g10 := zkp g10 zRg_1 (fun q h1 _ _ => o1 q (Nat.lt_of_lt_of_eq h1 hsz))
  have g11 := zkp g11 zRg_1 (fun q h1 _ _ => o1 q (Nat.lt_of_lt_of_eq h1 hsz))
  have g12 := zkp g12 zRg_1 (fun q h1 _ _ => o1 q (Nat.lt_of_lt_of_eq h1 hsz))
  have g13 := zkp g13 zRg_1 (fun q h1 _ _ => o1 q (Nat.lt_of_lt_of_eq h1 hsz))
  have g14 := zkp g14 zRg_1 (fun q h1 _ _ => o1 q (Nat.lt_of_lt_of_eq h1 hsz))
  have g15 := zkp g15 zRg_1 (fun q h1 _ _ => o1 q (Nat.lt_of_lt_of_eq h1 hsz))
  have g16 : va_P E.1 zcl [((a + 16), .inl (E.2 1, 5, .inl (fun _ => 0)))] H31 := hN
  have hsz : H31.size = a + 17 := hz1
  refine W.cs (cells' := 16) (slots' := 5027) rfl rfl ?_
  refine zPut (C := RX11) (T := TX11) (N := 52) (ci := 11) (v := .ref (a + 16)) (ty := .array .int) zc hK g0 (zD1 (Nat.le_refl a)) hS uw11 tyX11 tyX11_ok nmX11 0 rfl rfl 32 (by decide) kf_11_56 (fun _ h9 => h9) (Or.inr ⟨rfl, hin, rfl⟩) (by decide +kernel) rfl rfl (Nat.le_of_ble_eq_true rfl) dX11_init_130 (fun H32 locs hN oq hz1 hS => ?_)
  have g1 := zkp g1 zRg_1 (fun q _ h2 h3 => oq q (znA (a := a) (i := 1) (p := 0) h2 (Nat.le_of_ble_eq_true rfl)))
  have g2 := zkp g2 zRg_1 (fun q _ h2 h3 => oq q (znA (a := a) (i := 2) (p := 0) h2 (Nat.le_of_ble_eq_true rfl)))
  have g3 := zkp g3 zRg_1 (fun q _ h2 h3 => oq q (znA (a := a) (i := 3) (p := 0) h2 (Nat.le_of_ble_eq_true rfl)))
  have g4 := zkp g4 zRg_1 (fun q _ h2 h3 => oq q (znA (a := a) (i := 4) (p := 0) h2 (Nat.le_of_ble_eq_true rfl)))
  have g5 := zkp g5 zRg_1 (fun q _ h2 h3 => oq q (znA (a := a) (i := 5) (p := 0) h2 (Nat.le_of_ble_eq_true rfl)))
  have g6 := zkp g6 zRg_1 (fun q _ h2 h3 => oq q (znA (a := a) (i := 6) (p := 0) h2 (Nat.le_of_ble_eq_true rfl)))
  have g7 := zkp g7 zRg_1 (fun q _ h2 h3 => oq q (znA (a := a) (i := 7) (p := 0) h2 (Nat.le_of_ble_eq_true rfl)))
  have g8 := zkp g8 zRg_1 (fun q _ h2 h3 => oq q (znA (a := a) (i := 8) (p := 0) h2 (Nat.le_of_ble_eq_true rfl)))
  have g9 := zkp g9 zRg_1 (fun q _ h2 h3 => oq q (znA (a := a) (i := 9) (p := 0) h2 (Nat.le_of_ble_eq_true rfl)))
  have g10 := zkp g10 zRg_1 (fun q _ h2 h3 => oq q (znA (a := a) (i := 10) (p := 0) h2 (Nat.le_of_ble_eq_true rfl)))
  have g11 := zkp g11 zRg_1 (fun q _ h2 h3 => oq q (znA (a := a) (i := 11) (p := 0) h2 (Nat.le_of_ble_eq_true rfl)))
  have g12 := zkp g12 zRg_1 (fun q _ h2 h3 => oq q (znA (a := a) (i := 12) (p := 0) h2 (Nat.le_of_ble_eq_true rfl)))
  have g13 := zkp g13 zRg_1 (fun q _ h2 h3 => oq q (znA (a := a) (i := 13) (p := 0) h2 (Nat.le_of_ble_eq_true rfl)))
  have g14 := zkp g14 zRg_1 (fun q _ h2 h3 => oq q (znA (a := a) (i := 14) (p := 0) h2 (Nat.le_of_ble_eq_true rfl)))
  have g15 := zkp g15 zRg_1 (fun q _ h2 h3 => oq q (znA (a := a) (i := 15) (p := 0) h2 (Nat.le_of_ble_eq_true rfl)))
  have g16 := zkp g16 zRg_1 (fun q _ h2 h3 => oq q (znA (a := a) (i := 16) (p := 0) h2 (Nat.le_of_ble_eq_true rfl)))
  have g0 : va_P E.1 zcl [(a, .inr (11, [.int 0, .ref (a + 1), .ref (a + 2), .ref (a + 3), .ref (a + 4), .ref (a + 5), .ref (a + 6), .ref (a + 7), .ref (a + 8), .ref (a + 9), .int 0, .int 0, .int 0, .int 0, .int 0, .long 0, .int 0, .int 0, .int 0, .ref (a + 10), .ref (a + 11), .int 0, .int 0, .int 0, .int 0, .int 0, .int 0, .int 0, .ref (a + 12), .ref (a + 13), .ref (a + 14), .ref (a + 15), .ref (a + 16), .int 0, .int 0, .int 0, .null, .null, .null, .null, .null, .null, .null, .int 0, .null, .int 0, .int 0, .null, .null, .int 0, .null, .null]))] H32 := hN
  have hsz := hz1.trans hsz
  refine lv_aload_n hx hb dX11_init_133 rfl (lv_at hl 0 rfl) ?_
  refine lv_bipush (v := (9 : Int32)) hx hb dX11_init_134 (by decide) ?_
  refine zNewa (ws := []) (atype := .int) (t := 1) (N := 9) (a0 := (9, .inl (fun _ => 0))) zc hK (fun k q h => by simp at h) hS hsz kac_I rfl (fun _ => rfl) (by decide) (by decide) (by decide) (Nat.le_of_ble_eq_true rfl) (Nat.le_of_ble_eq_true rfl) dX11_init_136 (fun H33 hN o1 hz1 hS => ?_)
  have g0 := zkp g0 zRg_1 (fun q h1 _ _ => o1 q (Nat.lt_of_lt_of_eq h1 hsz))
  have g1 := zkp g1 zRg_1 (fun q h1 _ _ => o1 q (Nat.lt_of_lt_of_eq h1 hsz))
  have g2 := zkp g2 zRg_1 (fun q h1 _ _ => o1 q (Nat.lt_of_lt_of_eq h1 hsz))
  have g3 := zkp g3 zRg_1 (fun q h1 _ _ => o1 q (Nat.lt_of_lt_of_eq h1 hsz))
  have g4 := zkp g4 zRg_1 (fun q h1 _ _ => o1 q (Nat.lt_of_lt_of_eq h1 hsz))
  have g5 := zkp g5 zRg_1 (fun q h1 _ _ => o1 q (Nat.lt_of_lt_of_eq h1 hsz))
  have g6 := zkp g6 zRg_1 (fun q h1 _ _ => o1 q (Nat.lt_of_lt_of_eq h1 hsz))
  have g7 := zkp g7 zRg_1 (fun q h1 _ _ => o1 q (Nat.lt_of_lt_of_eq h1 hsz))
  have g8 := zkp g8 zRg_1 (fun q h1 _ _ => o1 q (Nat.lt_of_lt_of_eq h1 hsz))
  have g9 := zkp g9 zRg_1 (fun q h1 _ _ => o1 q (Nat.lt_of_lt_of_eq h1 hsz))
  have g10 := zkp g10 zRg_1 (fun q h1 _ _ => o1 q (Nat.lt_of_lt_of_eq h1 hsz))
  have g11 := zkp g11 zRg_1 (fun q h1 _ _ => o1 q (Nat.lt_of_lt_of_eq h1 hsz))
  have g12 := zkp g12 zRg_1 (fun q h1 _ _ => o1 q (Nat.lt_of_lt_of_eq h1 hsz))
  have g13 := zkp g13 zRg_1 (fun q h1 _ _ => o1 q (Nat.lt_of_lt_of_eq h1 hsz))
  have g14 := zkp g14 zRg_1 (fun q h1 _ _ => o1 q (Nat.lt_of_lt_of_eq h1 hsz))
  have g15 := zkp g15 zRg_1 (fun q h1 _ _ => o1 q (Nat.lt_of_lt_of_eq h1 hsz))
  have g16 := zkp g16 zRg_1 (fun q h1 _ _ => o1 q (Nat.lt_of_lt_of_eq h1 hsz))
  have g17 : va_P E.1 zcl [((a + 17), .inl (E.2 1, 9, .inl (fun _ => 0)))] H33 := hN
  have hsz : H33.size = a + 18 := hz1
  refine W.cs (cells' := 17) (slots' := 5036) rfl rfl ?_
  refine zPut (C := RX11) (T := TX11) (N := 52) (ci := 11) (v := .ref (a + 17)) (ty := .array .int) zc hK g0 (zD1 (Nat.le_refl a)) hS uw11 tyX11 tyX11_ok nmX11 0 rfl rfl 36 (by decide) kf_11_59 (fun _ h9 => h9) (Or.inr ⟨rfl, hin, rfl⟩) (by decide +kernel) rfl rfl (Nat.le_of_ble_eq_true rfl) dX11_init_138 (fun H34 locs hN oq hz1 hS => ?_)
  have g1 := zkp g1 zRg_1 (fun q _ h2 h3 => oq q (znA (a := a) (i := 1) (p := 0) h2 (Nat.le_of_ble_eq_true rfl)))
  have g2 := zkp g2 zRg_1 (fun q _ h2 h3 => oq q (znA (a := a) (i := 2) (p := 0) h2 (Nat.le_of_ble_eq_true rfl)))
  have g3 := zkp g3 zRg_1 (fun q _ h2 h3 => oq q (znA (a := a) (i := 3) (p := 0) h2 (Nat.le_of_ble_eq_true rfl)))
  have g4 := zkp g4 zRg_1 (fun q _ h2 h3 => oq q (znA (a := a) (i := 4) (p := 0) h2 (Nat.le_of_ble_eq_true rfl)))
  have g5 := zkp g5 zRg_1 (fun q _ h2 h3 => oq q (znA (a := a) (i := 5) (p := 0) h2 (Nat.le_of_ble_eq_true rfl)))
  have g6 := zkp g6 zRg_1 (fun q _ h2 h3 => oq q (znA (a := a) (i := 6) (p := 0) h2 (Nat.le_of_ble_eq_true rfl)))
  have g7 := zkp g7 zRg_1 (fun q _ h2 h3 => oq q (znA (a := a) (i := 7) (p := 0) h2 (Nat.le_of_ble_eq_true rfl)))
  have g8 := zkp g8 zRg_1 (fun q _ h2 h3 => oq q (znA (a := a) (i := 8) (p := 0) h2 (Nat.le_of_ble_eq_true rfl)))
  have g9 := zkp g9 zRg_1 (fun q _ h2 h3 => oq q (znA (a := a) (i := 9) (p := 0) h2 (Nat.le_of_ble_eq_true rfl)))
  have g10 := zkp g10 zRg_1 (fun q _ h2 h3 => oq q (znA (a := a) (i := 10) (p := 0) h2 (Nat.le_of_ble_eq_true rfl)))
  have g11 := zkp g11 zRg_1 (fun q _ h2 h3 => oq q (znA (a := a) (i := 11) (p := 0) h2 (Nat.le_of_ble_eq_true rfl)))
  have g12 := zkp g12 zRg_1 (fun q _ h2 h3 => oq q (znA (a := a) (i := 12) (p := 0) h2 (Nat.le_of_ble_eq_true rfl)))
  have g13 := zkp g13 zRg_1 (fun q _ h2 h3 => oq q (znA (a := a) (i := 13) (p := 0) h2 (Nat.le_of_ble_eq_true rfl)))
  have g14 := zkp g14 zRg_1 (fun q _ h2 h3 => oq q (znA (a := a) (i := 14) (p := 0) h2 (Nat.le_of_ble_eq_true rfl)))
  have g15 := zkp g15 zRg_1 (fun q _ h2 h3 => oq q (znA (a := a) (i := 15) (p := 0) h2 (Nat.le_of_ble_eq_true rfl)))
  have g16 := zkp g16 zRg_1 (fun q _ h2 h3 => oq q (znA (a := a) (i := 16) (p := 0) h2 (Nat.le_of_ble_eq_true rfl)))
  have g17 := zkp g17 zRg_1 (fun q _ h2 h3 => oq q (znA (a := a) (i := 17) (p := 0) h2 (Nat.le_of_ble_eq_true rfl)))
  have g0 : va_P E.1 zcl [(a, .inr (11, [.int 0, .ref (a + 1), .ref (a + 2), .ref (a + 3), .ref (a + 4), .ref (a + 5), .ref (a + 6), .ref (a + 7), .ref (a + 8), .ref (a + 9), .int 0, .int 0, .int 0, .int 0, .int 0, .long 0, .int 0, .int 0, .int 0, .ref (a + 10), .ref (a + 11), .int 0, .int 0, .int 0, .int 0, .int 0, .int 0, .int 0, .ref (a + 12), .ref (a + 13), .ref (a + 14), .ref (a + 15), .ref (a + 16), .int 0, .int 0, .int 0, .ref (a + 17), .null, .null, .null, .null, .null, .null, .int 0, .null, .int 0, .int 0, .null, .null, .int 0, .null, .null]))] H34 := hN
  have hsz := hz1.trans hsz
  refine lv_aload_n hx hb dX11_init_141 rfl (lv_at hl 0 rfl) ?_
  refine lv_bipush (v := (9 : Int32)) hx hb dX11_init_142 (by decide) ?_
  refine zNewa (ws := []) (atype := .int) (t := 1) (N := 9) (a0 := (9, .inl (fun _ => 0))) zc hK (fun k q h => by simp at h) hS hsz kac_I rfl (fun _ => rfl) (by decide) (by decide) (by decide) (Nat.le_of_ble_eq_true rfl) (Nat.le_of_ble_eq_true rfl) dX11_init_144 (fun H35 hN o1 hz1 hS => ?_)
  have g0 := zkp g0 zRg_1 (fun q h1 _ _ => o1 q (Nat.lt_of_lt_of_eq h1 hsz))
  have g1 := zkp g1 zRg_1 (fun q h1 _ _ => o1 q (Nat.lt_of_lt_of_eq h1 hsz))
  have g2 := zkp g2 zRg_1 (fun q h1 _ _ => o1 q (Nat.lt_of_lt_of_eq h1 hsz))
  have g3 := zkp g3 zRg_1 (fun q h1 _ _ => o1 q (Nat.lt_of_lt_of_eq h1 hsz))
  have g4 := zkp g4 zRg_1 (fun q h1 _ _ => o1 q (Nat.lt_of_lt_of_eq h1 hsz))
  have g5 := zkp g5 zRg_1 (fun q h1 _ _ => o1 q (Nat.lt_of_lt_of_eq h1 hsz))
  have g6 := zkp g6 zRg_1 (fun q h1 _ _ => o1 q (Nat.lt_of_lt_of_eq h1 hsz))
  have g7 := zkp g7 zRg_1 (fun q h1 _ _ => o1 q (Nat.lt_of_lt_of_eq h1 hsz))
  have g8 := zkp g8 zRg_1 (fun q h1 _ _ => o1 q (Nat.lt_of_lt_of_eq h1 hsz))
  have g9 := zkp g9 zRg_1 (fun q h1 _ _ => o1 q (Nat.lt_of_lt_of_eq h1 hsz))
  have g10 := zkp g10 zRg_1 (fun q h1 _ _ => o1 q (Nat.lt_of_lt_of_eq h1 hsz))
  have g11 := zkp g11 zRg_1 (fun q h1 _ _ => o1 q (Nat.lt_of_lt_of_eq h1 hsz))
  have g12 := zkp g12 zRg_1 (fun q h1 _ _ => o1 q (Nat.lt_of_lt_of_eq h1 hsz))
  have g13 := zkp g13 zRg_1 (fun q h1 _ _ => o1 q (Nat.lt_of_lt_of_eq h1 hsz))
  have g14 := zkp g14 zRg_1 (fun q h1 _ _ => o1 q (Nat.lt_of_lt_of_eq h1 hsz))
  have g15 := zkp g15 zRg_1 (fun q h1 _ _ => o1 q (Nat.lt_of_lt_of_eq h1 hsz))
  have g16 := zkp g16 zRg_1 (fun q h1 _ _ => o1 q (Nat.lt_of_lt_of_eq h1 hsz))
  have g17 := zkp g17 zRg_1 (fun q h1 _ _ => o1 q (Nat.lt_of_lt_of_eq h1 hsz))
  have g18 : va_P E.1 zcl [((a + 18), .inl (E.2 1, 9, .inl (fun _ => 0)))] H35 := hN
  have hsz : H35.size = a + 19 := hz1
  refine W.cs (cells' := 18) (slots' := 5045) rfl rfl ?_
  refine zPut (C := RX11) (T := TX11) (N := 52) (ci := 11) (v := .ref (a + 18)) (ty := .array .int) zc hK g0 (zD1 (Nat.le_refl a)) hS uw11 tyX11 tyX11_ok nmX11 0 rfl rfl 37 (by decide) kf_11_62 (fun _ h9 => h9) (Or.inr ⟨rfl, hin, rfl⟩) (by decide +kernel) rfl rfl (Nat.le_of_ble_eq_true rfl) dX11_init_146 (fun H36 locs hN oq hz1 hS => ?_)
  have g1 := zkp g1 zRg_1 (fun q _ h2 h3 => oq q (znA (a := a) (i := 1) (p := 0) h2 (Nat.le_of_ble_eq_true rfl)))
  have g2 := zkp g2 zRg_1 (fun q _ h2 h3 => oq q (znA (a := a) (i := 2) (p := 0) h2 (Nat.le_of_ble_eq_true rfl)))
  have g3 := zkp g3 zRg_1 (fun q _ h2 h3 => oq q (znA (a := a) (i := 3) (p := 0) h2 (Nat.le_of_ble_eq_true rfl)))
  have g4 := zkp g4 zRg_1 (fun q _ h2 h3 => oq q (znA (a := a) (i := 4) (p := 0) h2 (Nat.le_of_ble_eq_true rfl)))
  have g5 := zkp g5 zRg_1 (fun q _ h2 h3 => oq q (znA (a := a) (i := 5) (p := 0) h2 (Nat.le_of_ble_eq_true rfl)))
  have g6 := zkp g6 zRg_1 (fun q _ h2 h3 => oq q (znA (a := a) (i := 6) (p := 0) h2 (Nat.le_of_ble_eq_true rfl)))
  have g7 := zkp g7 zRg_1 (fun q _ h2 h3 => oq q (znA (a := a) (i := 7) (p := 0) h2 (Nat.le_of_ble_eq_true rfl)))
  have g8 := zkp g8 zRg_1 (fun q _ h2 h3 => oq q (znA (a := a) (i := 8) (p := 0) h2 (Nat.le_of_ble_eq_true rfl)))
  have g9 := zkp g9 zRg_1 (fun q _ h2 h3 => oq q (znA (a := a) (i := 9) (p := 0) h2 (Nat.le_of_ble_eq_true rfl)))
  have g10 := zkp g10 zRg_1 (fun q _ h2 h3 => oq q (znA (a := a) (i := 10) (p := 0) h2 (Nat.le_of_ble_eq_true rfl)))
  have g11 := zkp g11 zRg_1 (fun q _ h2 h3 => oq q (znA (a := a) (i := 11) (p := 0) h2 (Nat.le_of_ble_eq_true rfl)))
  have g12 := zkp g12 zRg_1 (fun q _ h2 h3 => oq q (znA (a := a) (i := 12) (p := 0) h2 (Nat.le_of_ble_eq_true rfl)))
  have g13 := zkp g13 zRg_1 (fun q _ h2 h3 => oq q (znA (a := a) (i := 13) (p := 0) h2 (Nat.le_of_ble_eq_true rfl)))
  have g14 := zkp g14 zRg_1 (fun q _ h2 h3 => oq q (znA (a := a) (i := 14) (p := 0) h2 (Nat.le_of_ble_eq_true rfl)))
  have g15 := zkp g15 zRg_1 (fun q _ h2 h3 => oq q (znA (a := a) (i := 15) (p := 0) h2 (Nat.le_of_ble_eq_true rfl)))
  have g16 := zkp g16 zRg_1 (fun q _ h2 h3 => oq q (znA (a := a) (i := 16) (p := 0) h2 (Nat.le_of_ble_eq_true rfl)))
  have g17 := zkp g17 zRg_1 (fun q _ h2 h3 => oq q (znA (a := a) (i := 17) (p := 0) h2 (Nat.le_of_ble_eq_true rfl)))
  have g18 := zkp g18 zRg_1 (fun q _ h2 h3 => oq q (znA (a := a) (i := 18) (p := 0) h2 (Nat.le_of_ble_eq_true rfl)))
  have g0 : va_P E.1 zcl [(a, .inr (11, [.int 0, .ref (a + 1), .ref (a + 2), .ref (a + 3), .ref (a + 4), .ref (a + 5), .ref (a + 6), .ref (a + 7), .ref (a + 8), .ref (a + 9), .int 0, .int 0, .int 0, .int 0, .int 0, .long 0, .int 0, .int 0, .int 0, .ref (a + 10), .ref (a + 11), .int 0, .int 0, .int 0, .int 0, .int 0, .int 0, .int 0, .ref (a + 12), .ref (a + 13), .ref (a + 14), .ref (a + 15), .ref (a + 16), .int 0, .int 0, .int 0, .ref (a + 17), .ref (a + 18), .null, .null, .null, .null, .null, .int 0, .null, .int 0, .int 0, .null, .null, .int 0, .null, .null]))] H36 := hN
  have hsz := hz1.trans hsz
  refine lv_aload_n hx hb dX11_init_149 rfl (lv_at hl 0 rfl) ?_
  refine lv_bipush (v := (9 : Int32)) hx hb dX11_init_150 (by decide) ?_
  refine zNewa (ws := []) (atype := .int) (t := 1) (N := 9) (a0 := (9, .inl (fun _ => 0))) zc hK (fun k q h => by simp at h) hS hsz kac_I rfl (fun _ => rfl) (by decide) (by decide) (by decide) (Nat.le_of_ble_eq_true rfl) (Nat.le_of_ble_eq_true rfl) dX11_init_152 (fun H37 hN o1 hz1 hS => ?_)
  have g0 := zkp g0 zRg_1 (fun q h1 _ _ => o1 q (Nat.lt_of_lt_of_eq h1 hsz))
  have g1 := zkp g1 zRg_1 (fun q h1 _ _ => o1 q (Nat.lt_of_lt_of_eq h1 hsz))
  have g2 := zkp g2 zRg_1 (fun q h1 _ _ => o1 q (Nat.lt_of_lt_of_eq h1 hsz))
  have g3 := zkp g3 zRg_1 (fun q h1 _ _ => o1 q (Nat.lt_of_lt_of_eq h1 hsz))
  have g4 := zkp g4 zRg_1 (fun q h1 _ _ => o1 q (Nat.lt_of_lt_of_eq h1 hsz))
  have g5 := zkp g5 zRg_1 (fun q h1 _ _ => o1 q (Nat.lt_of_lt_of_eq h1 hsz))
  have g6 := zkp g6 zRg_1 (fun q h1 _ _ => o1 q (Nat.lt_of_lt_of_eq h1 hsz))
  have g7 := zkp g7 zRg_1 (fun q h1 _ _ => o1 q (Nat.lt_of_lt_of_eq h1 hsz))
  have g8 := zkp g8 zRg_1 (fun q h1 _ _ => o1 q (Nat.lt_of_lt_of_eq h1 hsz))
  have g9 := zkp g9 zRg_1 (fun q h1 _ _ => o1 q (Nat.lt_of_lt_of_eq h1 hsz))
  have g10 := zkp g10 zRg_1 (fun q h1 _ _ => o1 q (Nat.lt_of_lt_of_eq h1 hsz))
  have g11 := zkp g11 zRg_1 (fun q h1 _ _ => o1 q (Nat.lt_of_lt_of_eq h1 hsz))
  have g12 := zkp g12 zRg_1 (fun q h1 _ _ => o1 q (Nat.lt_of_lt_of_eq h1 hsz))
  have g13 := zkp g13 zRg_1 (fun q h1 _ _ => o1 q (Nat.lt_of_lt_of_eq h1 hsz))
  have g14 := zkp g14 zRg_1 (fun q h1 _ _ => o1 q (Nat.lt_of_lt_of_eq h1 hsz))
  have g15 := zkp g15 zRg_1 (fun q h1 _ _ => o1 q (Nat.lt_of_lt_of_eq h1 hsz))
  have g16 := zkp g16 zRg_1 (fun q h1 _ _ => o1 q (Nat.lt_of_lt_of_eq h1 hsz))
  have g17 := zkp g17 zRg_1 (fun q h1 _ _ => o1 q (Nat.lt_of_lt_of_eq h1 hsz))
  have g18 := zkp g18 zRg_1 (fun q h1 _ _ => o1 q (Nat.lt_of_lt_of_eq h1 hsz))
  have g19 : va_P E.1 zcl [((a + 19), .inl (E.2 1, 9, .inl (fun _ => 0)))] H37 := hN
  have hsz : H37.size = a + 20 := hz1
  refine W.cs (cells' := 19) (slots' := 5054) rfl rfl ?_
  refine zPut (C := RX11) (T := TX11) (N := 52) (ci := 11) (v := .ref (a + 19)) (ty := .array .int) zc hK g0 (zD1 (Nat.le_refl a)) hS uw11 tyX11 tyX11_ok nmX11 0 rfl rfl 38 (by decide) kf_11_65 (fun _ h9 => h9) (Or.inr ⟨rfl, hin, rfl⟩) (by decide +kernel) rfl rfl (Nat.le_of_ble_eq_true rfl) dX11_init_154 (fun H38 locs hN oq hz1 hS => ?_)
  have g1 := zkp g1 zRg_1 (fun q _ h2 h3 => oq q (znA (a := a) (i := 1) (p := 0) h2 (Nat.le_of_ble_eq_true rfl)))
  have g2 := zkp g2 zRg_1 (fun q _ h2 h3 => oq q (znA (a := a) (i := 2) (p := 0) h2 (Nat.le_of_ble_eq_true rfl)))
  have g3 := zkp g3 zRg_1 (fun q _ h2 h3 => oq q (znA (a := a) (i := 3) (p := 0) h2 (Nat.le_of_ble_eq_true rfl)))
  have g4 := zkp g4 zRg_1 (fun q _ h2 h3 => oq q (znA (a := a) (i := 4) (p := 0) h2 (Nat.le_of_ble_eq_true rfl)))
  have g5 := zkp g5 zRg_1 (fun q _ h2 h3 => oq q (znA (a := a) (i := 5) (p := 0) h2 (Nat.le_of_ble_eq_true rfl)))
  have g6 := zkp g6 zRg_1 (fun q _ h2 h3 => oq q (znA (a := a) (i := 6) (p := 0) h2 (Nat.le_of_ble_eq_true rfl)))
  have g7 := zkp g7 zRg_1 (fun q _ h2 h3 => oq q (znA (a := a) (i := 7) (p := 0) h2 (Nat.le_of_ble_eq_true rfl)))
  have g8 := zkp g8 zRg_1 (fun q _ h2 h3 => oq q (znA (a := a) (i := 8) (p := 0) h2 (Nat.le_of_ble_eq_true rfl)))
  have g9 := zkp g9 zRg_1 (fun q _ h2 h3 => oq q (znA (a := a) (i := 9) (p := 0) h2 (Nat.le_of_ble_eq_true rfl)))
  have g10 := zkp g10 zRg_1 (fun q _ h2 h3 => oq q (znA (a := a) (i := 10) (p := 0) h2 (Nat.le_of_ble_eq_true rfl)))
  have g11 := zkp g11 zRg_1 (fun q _ h2 h3 => oq q (znA (a := a) (i := 11) (p := 0) h2 (Nat.le_of_ble_eq_true rfl)))
  have g12 := zkp g12 zRg_1 (fun q _ h2 h3 => oq q (znA (a := a) (i := 12) (p := 0) h2 (Nat.le_of_ble_eq_true rfl)))
  have g13 := zkp g13 zRg_1 (fun q _ h2 h3 => oq q (znA (a := a) (i := 13) (p := 0) h2 (Nat.le_of_ble_eq_true rfl)))
  have g14 := zkp g14 zRg_1 (fun q _ h2 h3 => oq q (znA (a := a) (i := 14) (p := 0) h2 (Nat.le_of_ble_eq_true rfl)))
  have g15 := zkp g15 zRg_1 (fun q _ h2 h3 => oq q (znA (a := a) (i := 15) (p := 0) h2 (Nat.le_of_ble_eq_true rfl)))
  have g16 := zkp g16 zRg_1 (fun q _ h2 h3 => oq q (znA (a := a) (i := 16) (p := 0) h2 (Nat.le_of_ble_eq_true rfl)))
  have g17 := zkp g17 zRg_1 (fun q _ h2 h3 => oq q (znA (a := a) (i := 17) (p := 0) h2 (Nat.le_of_ble_eq_true rfl)))
  have g18 := zkp g18 zRg_1 (fun q _ h2 h3 => oq q (znA (a := a) (i := 18) (p := 0) h2 (Nat.le_of_ble_eq_true rfl)))
  have g19 := zkp g19 zRg_1 (fun q _ h2 h3 => oq q (znA (a := a) (i := 19) (p := 0) h2 (Nat.le_of_ble_eq_true rfl)))
  have g0 : va_P E.1 zcl [(a, .inr (11, [.int 0, .ref (a + 1), .ref (a + 2), .ref (a + 3), .ref (a + 4), .ref (a + 5), .ref (a + 6), .ref (a + 7), .ref (a + 8), .ref (a + 9), .int 0, .int 0, .int 0, .int 0, .int 0, .long 0, .int 0, .int 0, .int 0, .ref (a + 10), .ref (a + 11), .int 0, .int 0, .int 0, .int 0, .int 0, .int 0, .int 0, .ref (a + 12), .ref (a + 13), .ref (a + 14), .ref (a + 15), .ref (a + 16), .int 0, .int 0, .int 0, .ref (a + 17), .ref (a + 18), .ref (a + 19), .null, .null, .null, .null, .int 0, .null, .int 0, .int 0, .null, .null, .int 0, .null, .null]))] H38 := hN
  have hsz := hz1.trans hsz
  refine lv_aload_n hx hb dX11_init_157 rfl (lv_at hl 0 rfl) ?_
  refine lv_bipush (v := (9 : Int32)) hx hb dX11_init_158 (by decide) ?_
  refine zNewa (ws := []) (atype := .int) (t := 1) (N := 9) (a0 := (9, .inl (fun _ => 0))) zc hK (fun k q h => by simp at h) hS hsz kac_I rfl (fun _ => rfl) (by decide) (by decide) (by decide) (Nat.le_of_ble_eq_true rfl) (Nat.le_of_ble_eq_true rfl) dX11_init_160 (fun H39 hN o1 hz1 hS => ?_)
  have g0 := zkp g0 zRg_1 (fun q h1 _ _ => o1 q (Nat.lt_of_lt_of_eq h1 hsz))
  have g1 := zkp g1 zRg_1 (fun q h1 _ _ => o1 q (Nat.lt_of_lt_of_eq h1 hsz))
  have g2 := zkp g2 zRg_1 (fun q h1 _ _ => o1 q (Nat.lt_of_lt_of_eq h1 hsz))
  have g3 := zkp g3 zRg_1 (fun q h1 _ _ => o1 q (Nat.lt_of_lt_of_eq h1 hsz))
  have g4 := zkp g4 zRg_1 (fun q h1 _ _ => o1 q (Nat.lt_of_lt_of_eq h1 hsz))
  have g5 := zkp g5 zRg_1 (fun q h1 _ _ => o1 q (Nat.lt_of_lt_of_eq h1 hsz))
  have g6 := zkp g6 zRg_1 (fun q h1 _ _ => o1 q (Nat.lt_of_lt_of_eq h1 hsz))
  have g7 := zkp g7 zRg_1 (fun q h1 _ _ => o1 q (Nat.lt_of_lt_of_eq h1 hsz))
  have g8 := zkp g8 zRg_1 (fun q h1 _ _ => o1 q (Nat.lt_of_lt_of_eq h1 hsz))
  have g9 := zkp g9 zRg_1 (fun q h1 _ _ => o1 q (Nat.lt_of_lt_of_eq h1 hsz))
  have g10 := zkp g10 zRg_1 (fun q h1 _ _ => o1 q (Nat.lt_of_lt_of_eq h1 hsz))
  have g11 := zkp g11 zRg_1 (fun q h1 _ _ => o1 q (Nat.lt_of_lt_of_eq h1 hsz))
  have g12 := zkp g12 zRg_1 (fun q h1 _ _ => o1 q (Nat.lt_of_lt_of_eq h1 hsz))
  have g13 := zkp g13 zRg_1 (fun q h1 _ _ => o1 q (Nat.lt_of_lt_of_eq h1 hsz))
  have g14 := zkp g14 zRg_1 (fun q h1 _ _ => o1 q (Nat.lt_of_lt_of_eq h1 hsz))
  have g15 := zkp g15 zRg_1 (fun q h1 _ _ => o1 q (Nat.lt_of_lt_of_eq h1 hsz))
  have g16 := zkp g16 zRg_1 (fun q h1 _ _ => o1 q (Nat.lt_of_lt_of_eq h1 hsz))
  have g17 := zkp g17 zRg_1 (fun q h1 _ _ => o1 q (Nat.lt_of_lt_of_eq h1 hsz))
  have g18 := zkp g18 zRg_1 (fun q h1 _ _ => o1 q (Nat.lt_of_lt_of_eq h1 hsz))
  have g19 := zkp g19 zRg_1 (fun q h1 _ _ => o1 q (Nat.lt_of_lt_of_eq h1 hsz))
  have g20 : va_P E.1 zcl [((a + 20), .inl (E.2 1, 9, .inl (fun _ => 0)))] H39 := hN
  have hsz : H39.size = a + 21 := hz1
  refine W.cs (cells' := 20) (slots' := 5063) rfl rfl ?_
  refine zPut (C := RX11) (T := TX11) (N := 52) (ci := 11) (v := .ref (a + 20)) (ty := .array .int) zc hK g0 (zD1 (Nat.le_refl a)) hS uw11 tyX11 tyX11_ok nmX11 0 rfl rfl 39 (by decide) kf_11_68 (fun _ h9 => h9) (Or.inr ⟨rfl, hin, rfl⟩) (by decide +kernel) rfl rfl (Nat.le_of_ble_eq_true rfl) dX11_init_162 (fun H40 locs hN oq hz1 hS => ?_)
  have g1 := zkp g1 zRg_1 (fun q _ h2 h3 => oq q (znA (a := a) (i := 1) (p := 0) h2 (Nat.le_of_ble_eq_true rfl)))
  have g2 := zkp g2 zRg_1 (fun q _ h2 h3 => oq q (znA (a := a) (i := 2) (p := 0) h2 (Nat.le_of_ble_eq_true rfl)))
  have g3 := zkp g3 zRg_1 (fun q _ h2 h3 => oq q (znA (a := a) (i := 3) (p := 0) h2 (Nat.le_of_ble_eq_true rfl)))
  have g4 := zkp g4 zRg_1 (fun q _ h2 h3 => oq q (znA (a := a) (i := 4) (p := 0) h2 (Nat.le_of_ble_eq_true rfl)))
  have g5 := zkp g5 zRg_1 (fun q _ h2 h3 => oq q (znA (a := a) (i := 5) (p := 0) h2 (Nat.le_of_ble_eq_true rfl)))
  have g6 := zkp g6 zRg_1 (fun q _ h2 h3 => oq q (znA (a := a) (i := 6) (p := 0) h2 (Nat.le_of_ble_eq_true rfl)))
  have g7 := zkp g7 zRg_1 (fun q _ h2 h3 => oq q (znA (a := a) (i := 7) (p := 0) h2 (Nat.le_of_ble_eq_true rfl)))
  have g8 := zkp g8 zRg_1 (fun q _ h2 h3 => oq q (znA (a := a) (i := 8) (p := 0) h2 (Nat.le_of_ble_eq_true rfl)))
  have g9 := zkp g9 zRg_1 (fun q _ h2 h3 => oq q (znA (a := a) (i := 9) (p := 0) h2 (Nat.le_of_ble_eq_true rfl)))
  have g10 := zkp g10 zRg_1 (fun q _ h2 h3 => oq q (znA (a := a) (i := 10) (p := 0) h2 (Nat.le_of_ble_eq_true rfl)))
  have g11 := zkp g11 zRg_1 (fun q _ h2 h3 => oq q (znA (a := a) (i := 11) (p := 0) h2 (Nat.le_of_ble_eq_true rfl)))
  have g12 := zkp g12 zRg_1 (fun q _ h2 h3 => oq q (znA (a := a) (i := 12) (p := 0) h2 (Nat.le_of_ble_eq_true rfl)))
  have g13 := zkp g13 zRg_1 (fun q _ h2 h3 => oq q (znA (a := a) (i := 13) (p := 0) h2 (Nat.le_of_ble_eq_true rfl)))
  have g14 := zkp g14 zRg_1 (fun q _ h2 h3 => oq q (znA (a := a) (i := 14) (p := 0) h2 (Nat.le_of_ble_eq_true rfl)))
  have g15 := zkp g15 zRg_1 (fun q _ h2 h3 => oq q (znA (a := a) (i := 15) (p := 0) h2 (Nat.le_of_ble_eq_true rfl)))
  have g16 := zkp g16 zRg_1 (fun q _ h2 h3 => oq q (znA (a := a) (i := 16) (p := 0) h2 (Nat.le_of_ble_eq_true rfl)))
  have g17 := zkp g17 zRg_1 (fun q _ h2 h3 => oq q (znA (a := a) (i := 17) (p := 0) h2 (Nat.le_of_ble_eq_true rfl)))
  have g18 := zkp g18 zRg_1 (fun q _ h2 h3 => oq q (znA (a := a) (i := 18) (p := 0) h2 (Nat.le_of_ble_eq_true rfl)))
  have g19 := zkp g19 zRg_1 (fun q _ h2 h3 => oq q (znA (a := a) (i := 19) (p := 0) h2 (Nat.le_of_ble_eq_true rfl)))
  have g20 := zkp g20 zRg_1 (fun q _ h2 h3 => oq q (znA (a := a) (i := 20) (p := 0) h2 (Nat.le_of_ble_eq_true rfl)))
  have g0 : va_P E.1 zcl [(a, .inr (11, [.int 0, .ref (a + 1), .ref (a + 2), .ref (a + 3), .ref (a + 4), .ref (a + 5), .ref (a + 6), .ref (a + 7), .ref (a + 8), .ref (a + 9), .int 0, .int 0, .int 0, .int 0, .int 0, .long 0, .int 0, .int 0, .int 0, .ref (a + 10), .ref (a + 11), .int 0, .int 0, .int 0, .int 0, .int 0, .int 0, .int 0, .ref (a + 12), .ref (a + 13), .ref (a + 14), .ref (a + 15), .ref (a + 16), .int 0, .int 0, .int 0, .ref (a + 17), .ref (a + 18), .ref (a + 19), .ref (a + 20), .null, .null, .null, .int 0, .null, .int 0, .int 0, .null, .null, .int 0, .null, .null]))] H40 := hN
  have hsz := hz1.trans hsz
  refine lv_aload_n hx hb dX11_init_165 rfl (lv_at hl 0 rfl) ?_
  refine lv_bipush (v := (9 : Int32)) hx hb dX11_init_166 (by decide) ?_
  refine zNewa (ws := []) (atype := .int) (t := 1) (N := 9) (a0 := (9, .inl (fun _ => 0))) zc hK (fun k q h => by simp at h) hS hsz kac_I rfl (fun _ => rfl) (by decide) (by decide) (by decide) (Nat.le_of_ble_eq_true rfl) (Nat.le_of_ble_eq_true rfl) dX11_init_168 (fun H41 hN o1 hz1 hS => ?_)
  have g0 := zkp g0 zRg_1 (fun q h1 _ _ => o1 q (Nat.lt_of_lt_of_eq h1 hsz))
  have g1 := zkp g1 zRg_1 (fun q h1 _ _ => o1 q (Nat.lt_of_lt_of_eq h1 hsz))
  have g2 := zkp g2 zRg_1 (fun q h1 _ _ => o1 q (Nat.lt_of_lt_of_eq h1 hsz))
  have g3 := zkp g3 zRg_1 (fun q h1 _ _ => o1 q (Nat.lt_of_lt_of_eq h1 hsz))
  have g4 := zkp g4 zRg_1 (fun q h1 _ _ => o1 q (Nat.lt_of_lt_of_eq h1 hsz))
  have g5 := zkp g5 zRg_1 (fun q h1 _ _ => o1 q (Nat.lt_of_lt_of_eq h1 hsz))
  have g6 := zkp g6 zRg_1 (fun q h1 _ _ => o1 q (Nat.lt_of_lt_of_eq h1 hsz))
  have g7 := zkp g7 zRg_1 (fun q h1 _ _ => o1 q (Nat.lt_of_lt_of_eq h1 hsz))
  have g8 := zkp g8 zRg_1 (fun q h1 _ _ => o1 q (Nat.lt_of_lt_of_eq h1 hsz))
  have g9 := zkp g9 zRg_1 (fun q h1 _ _ => o1 q (Nat.lt_of_lt_of_eq h1 hsz))
  have g10 := zkp g10 zRg_1 (fun q h1 _ _ => o1 q (Nat.lt_of_lt_of_eq h1 hsz))
  have g11 := zkp g11 zRg_1 (fun q h1 _ _ => o1 q (Nat.lt_of_lt_of_eq h1 hsz))
  have g12 := zkp g12 zRg_1 (fun q h1 _ _ => o1 q (Nat.lt_of_lt_of_eq h1 hsz))
  have g13 := zkp g13 zRg_1 (fun q h1 _ _ => o1 q (Nat.lt_of_lt_of_eq h1 hsz))
  have g14 := zkp g14 zRg_1 (fun q h1 _ _ => o1 q (Nat.lt_of_lt_of_eq h1 hsz))
  have g15 := zkp g15 zRg_1 (fun q h1 _ _ => o1 q (Nat.lt_of_lt_of_eq h1 hsz))
  have g16 := zkp g16 zRg_1 (fun q h1 _ _ => o1 q (Nat.lt_of_lt_of_eq h1 hsz))
  have g17 := zkp g17 zRg_1 (fun q h1 _ _ => o1 q (Nat.lt_of_lt_of_eq h1 hsz))
  have g18 := zkp g18 zRg_1 (fun q h1 _ _ => o1 q (Nat.lt_of_lt_of_eq h1 hsz))
  have g19 := zkp g19 zRg_1 (fun q h1 _ _ => o1 q (Nat.lt_of_lt_of_eq h1 hsz))
  have g20 := zkp g20 zRg_1 (fun q h1 _ _ => o1 q (Nat.lt_of_lt_of_eq h1 hsz))
  have g21 : va_P E.1 zcl [((a + 21), .inl (E.2 1, 9, .inl (fun _ => 0)))] H41 := hN
  have hsz : H41.size = a + 22 := hz1
  refine W.cs (cells' := 21) (slots' := 5072) rfl rfl ?_
  refine zPut (C := RX11) (T := TX11) (N := 52) (ci := 11) (v := .ref (a + 21)) (ty := .array .int) zc hK g0 (zD1 (Nat.le_refl a)) hS uw11 tyX11 tyX11_ok nmX11 0 rfl rfl 40 (by decide) kf_11_71 (fun _ h9 => h9) (Or.inr ⟨rfl, hin, rfl⟩) (by decide +kernel) rfl rfl (Nat.le_of_ble_eq_true rfl) dX11_init_170 (fun H42 locs hN oq hz1 hS => ?_)
  have g1 := zkp g1 zRg_1 (fun q _ h2 h3 => oq q (znA (a := a) (i := 1) (p := 0) h2 (Nat.le_of_ble_eq_true rfl)))
  have g2 := zkp g2 zRg_1 (fun q _ h2 h3 => oq q (znA (a := a) (i := 2) (p := 0) h2 (Nat.le_of_ble_eq_true rfl)))
  have g3 := zkp g3 zRg_1 (fun q _ h2 h3 => oq q (znA (a := a) (i := 3) (p := 0) h2 (Nat.le_of_ble_eq_true rfl)))
  have g4 := zkp g4 zRg_1 (fun q _ h2 h3 => oq q (znA (a := a) (i := 4) (p := 0) h2 (Nat.le_of_ble_eq_true rfl)))
  have g5 := zkp g5 zRg_1 (fun q _ h2 h3 => oq q (znA (a := a) (i := 5) (p := 0) h2 (Nat.le_of_ble_eq_true rfl)))
  have g6 := zkp g6 zRg_1 (fun q _ h2 h3 => oq q (znA (a := a) (i := 6) (p := 0) h2 (Nat.le_of_ble_eq_true rfl)))
  have g7 := zkp g7 zRg_1 (fun q _ h2 h3 => oq q (znA (a := a) (i := 7) (p := 0) h2 (Nat.le_of_ble_eq_true rfl)))
  have g8 := zkp g8 zRg_1 (fun q _ h2 h3 => oq q (znA (a := a) (i := 8) (p := 0) h2 (Nat.le_of_ble_eq_true rfl)))
  have g9 := zkp g9 zRg_1 (fun q _ h2 h3 => oq q (znA (a := a) (i := 9) (p := 0) h2 (Nat.le_of_ble_eq_true rfl)))
  have g10 := zkp g10 zRg_1 (fun q _ h2 h3 => oq q (znA (a := a) (i := 10) (p := 0) h2 (Nat.le_of_ble_eq_true rfl)))
  have g11 := zkp g11 zRg_1 (fun q _ h2 h3 => oq q (znA (a := a) (i := 11) (p := 0) h2 (Nat.le_of_ble_eq_true rfl)))
  have g12 := zkp g12 zRg_1 (fun q _ h2 h3 => oq q (znA (a := a) (i := 12) (p := 0) h2 (Nat.le_of_ble_eq_true rfl)))
  have g13 := zkp g13 zRg_1 (fun q _ h2 h3 => oq q (znA (a := a) (i := 13) (p := 0) h2 (Nat.le_of_ble_eq_true rfl)))
  have g14 := zkp g14 zRg_1 (fun q _ h2 h3 => oq q (znA (a := a) (i := 14) (p := 0) h2 (Nat.le_of_ble_eq_true rfl)))
  have g15 := zkp g15 zRg_1 (fun q _ h2 h3 => oq q (znA (a := a) (i := 15) (p := 0) h2 (Nat.le_of_ble_eq_true rfl)))
  have g16 := zkp g16 zRg_1 (fun q _ h2 h3 => oq q (znA (a := a) (i := 16) (p := 0) h2 (Nat.le_of_ble_eq_true rfl)))
  have g17 := zkp g17 zRg_1 (fun q _ h2 h3 => oq q (znA (a := a) (i := 17) (p := 0) h2 (Nat.le_of_ble_eq_true rfl)))
  have g18 := zkp g18 zRg_1 (fun q _ h2 h3 => oq q (znA (a := a) (i := 18) (p := 0) h2 (Nat.le_of_ble_eq_true rfl)))
  have g19 := zkp g19 zRg_1 (fun q _ h2 h3 => oq q (znA (a := a) (i := 19) (p := 0) h2 (Nat.le_of_ble_eq_true rfl)))
  have g20 := zkp g20 zRg_1 (fun q _ h2 h3 => oq q (znA (a := a) (i := 20) (p := 0) h2 (Nat.le_of_ble_eq_true rfl)))
  have g21 := zkp g21 zRg_1 (fun q _ h2 h3 => oq q (znA (a := a) (i := 21) (p := 0) h2 (Nat.le_of_ble_eq_true rfl)))
  have g0 : va_P E.1 zcl [(a, .inr (11, [.int 0, .ref (a + 1), .ref (a + 2), .ref (a + 3), .ref (a + 4), .ref (a + 5), .ref (a + 6), .ref (a + 7), .ref (a + 8), .ref (a + 9), .int 0, .int 0, .int 0, .int 0, .int 0, .long 0, .int 0, .int 0, .int 0, .ref (a + 10), .ref (a + 11), .int 0, .int 0, .int 0, .int 0, .int 0, .int 0, .int 0, .ref (a + 12), .ref (a + 13), .ref (a + 14), .ref (a + 15), .ref (a + 16), .int 0, .int 0, .int 0, .ref (a + 17), .ref (a + 18), .ref (a + 19), .ref (a + 20), .ref (a + 21), .null, .null, .int 0, .null, .int 0, .int 0, .null, .null, .int 0, .null, .null]))] H42 := hN
  have hsz := hz1.trans hsz
  refine lv_aload_n hx hb dX11_init_173 rfl (lv_at hl 0 rfl) ?_
  refine lv_bipush (v := (9 : Int32)) hx hb dX11_init_174 (by decide) ?_
  refine zNewa (ws := []) (atype := .boolean) (t := 3) (N := 9) (a0 := (9, .inl (fun _ => 0))) zc hK (fun k q h => by simp at h) hS hsz kac_Z rfl (fun _ => rfl) (by decide) (by decide) (by decide) (Nat.le_of_ble_eq_true rfl) (Nat.le_of_ble_eq_true rfl) dX11_init_176 (fun H43 hN o1 hz1 hS => ?_)
  have g0 := zkp g0 zRg_1 (fun q h1 _ _ => o1 q (Nat.lt_of_lt_of_eq h1 hsz))
  have g1 := zkp g1 zRg_1 (fun q h1 _ _ => o1 q (Nat.lt_of_lt_of_eq h1 hsz))
  have g2 := zkp g2 zRg_1 (fun q h1 _ _ => o1 q (Nat.lt_of_lt_of_eq h1 hsz))
  have g3 := zkp g3 zRg_1 (fun q h1 _ _ => o1 q (Nat.lt_of_lt_of_eq h1 hsz))
  have g4 := zkp g4 zRg_1 (fun q h1 _ _ => o1 q (Nat.lt_of_lt_of_eq h1 hsz))
  have g5 := zkp g5 zRg_1 (fun q h1 _ _ => o1 q (Nat.lt_of_lt_of_eq h1 hsz))
  have g6 := zkp g6 zRg_1 (fun q h1 _ _ => o1 q (Nat.lt_of_lt_of_eq h1 hsz))
  have g7 := zkp g7 zRg_1 (fun q h1 _ _ => o1 q (Nat.lt_of_lt_of_eq h1 hsz))
  have g8 := zkp g8 zRg_1 (fun q h1 _ _ => o1 q (Nat.lt_of_lt_of_eq h1 hsz))
  have g9 := zkp g9 zRg_1 (fun q h1 _ _ => o1 q (Nat.lt_of_lt_of_eq h1 hsz))
  have g10 := zkp g10 zRg_1 (fun q h1 _ _ => o1 q (Nat.lt_of_lt_of_eq h1 hsz))
  have g11 := zkp g11 zRg_1 (fun q h1 _ _ => o1 q (Nat.lt_of_lt_of_eq h1 hsz))
  have g12 := zkp g12 zRg_1 (fun q h1 _ _ => o1 q (Nat.lt_of_lt_of_eq h1 hsz))
  have g13 := zkp g13 zRg_1 (fun q h1 _ _ => o1 q (Nat.lt_of_lt_of_eq h1 hsz))
  have g14 := zkp g14 zRg_1 (fun q h1 _ _ => o1 q (Nat.lt_of_lt_of_eq h1 hsz))
  have g15 := zkp g15 zRg_1 (fun q h1 _ _ => o1 q (Nat.lt_of_lt_of_eq h1 hsz))
  have g16 := zkp g16 zRg_1 (fun q h1 _ _ => o1 q (Nat.lt_of_lt_of_eq h1 hsz))
  have g17 := zkp g17 zRg_1 (fun q h1 _ _ => o1 q (Nat.lt_of_lt_of_eq h1 hsz))
  have g18 := zkp g18 zRg_1 (fun q h1 _ _ => o1 q (Nat.lt_of_lt_of_eq h1 hsz))
  have g19 := zkp g19 zRg_1 (fun q h1 _ _ => o1 q (Nat.lt_of_lt_of_eq h1 hsz))
  have g20 := zkp g20 zRg_1 (fun q h1 _ _ => o1 q (Nat.lt_of_lt_of_eq h1 hsz))
  have g21 := zkp g21 zRg_1 (fun q h1 _ _ => o1 q (Nat.lt_of_lt_of_eq h1 hsz))
  have g22 : va_P E.1 zcl [((a + 22), .inl (E.2 3, 9, .inl (fun _ => 0)))] H43 := hN
  have hsz : H43.size = a + 23 := hz1
  refine W.cs (cells' := 22) (slots' := 5081) rfl rfl ?_
  refine zPut (C := RX11) (T := TX11) (N := 52) (ci := 11) (v := .ref (a + 22)) (ty := .array .boolean) zc hK g0 (zD1 (Nat.le_refl a)) hS uw11 tyX11 tyX11_ok nmX11 0 rfl rfl 41 (by decide) kf_11_74 (fun _ h9 => h9) (Or.inr ⟨rfl, hin, rfl⟩) (by decide +kernel) rfl rfl (Nat.le_of_ble_eq_true rfl) dX11_init_178 (fun H44 locs hN oq hz1 hS => ?_)
  have g1 := zkp g1 zRg_1 (fun q _ h2 h3 => oq q (znA (a := a) (i := 1) (p := 0) h2 (Nat.le_of_ble_eq_true rfl)))
  have g2 := zkp g2 zRg_1 (fun q _ h2 h3 => oq q (znA (a := a) (i := 2) (p := 0) h2 (Nat.le_of_ble_eq_true rfl)))
  have g3 := zkp g3 zRg_1 (fun q _ h2 h3 => oq q (znA (a := a) (i := 3) (p := 0) h2 (Nat.le_of_ble_eq_true rfl)))
  have g4 := zkp g4 zRg_1 (fun q _ h2 h3 => oq q (znA (a := a) (i := 4) (p := 0) h2 (Nat.le_of_ble_eq_true rfl)))
  have g5 := zkp g5 zRg_1 (fun q _ h2 h3 => oq q (znA (a := a) (i := 5) (p := 0) h2 (Nat.le_of_ble_eq_true rfl)))
  have g6 := zkp g6 zRg_1 (fun q _ h2 h3 => oq q (znA (a := a) (i := 6) (p := 0) h2 (Nat.le_of_ble_eq_true rfl)))
  have g7 := zkp g7 zRg_1 (fun q _ h2 h3 => oq q (znA (a := a) (i := 7) (p := 0) h2 (Nat.le_of_ble_eq_true rfl)))
  have g8 := zkp g8 zRg_1 (fun q _ h2 h3 => oq q (znA (a := a) (i := 8) (p := 0) h2 (Nat.le_of_ble_eq_true rfl)))
  have g9 := zkp g9 zRg_1 (fun q _ h2 h3 => oq q (znA (a := a) (i := 9) (p := 0) h2 (Nat.le_of_ble_eq_true rfl)))
  have g10 := zkp g10 zRg_1 (fun q _ h2 h3 => oq q (znA (a := a) (i := 10) (p := 0) h2 (Nat.le_of_ble_eq_true rfl)))
  have g11 := zkp g11 zRg_1 (fun q _ h2 h3 => oq q (znA (a := a) (i := 11) (p := 0) h2 (Nat.le_of_ble_eq_true rfl)))
  have g12 := zkp g12 zRg_1 (fun q _ h2 h3 => oq q (znA (a := a) (i := 12) (p := 0) h2 (Nat.le_of_ble_eq_true rfl)))
  have g13 := zkp g13 zRg_1 (fun q _ h2 h3 => oq q (znA (a := a) (i := 13) (p := 0) h2 (Nat.le_of_ble_eq_true rfl)))
  have g14 := zkp g14 zRg_1 (fun q _ h2 h3 => oq q (znA (a := a) (i := 14) (p := 0) h2 (Nat.le_of_ble_eq_true rfl)))
  have g15 := zkp g15 zRg_1 (fun q _ h2 h3 => oq q (znA (a := a) (i := 15) (p := 0) h2 (Nat.le_of_ble_eq_true rfl)))
  have g16 := zkp g16 zRg_1 (fun q _ h2 h3 => oq q (znA (a := a) (i := 16) (p := 0) h2 (Nat.le_of_ble_eq_true rfl)))
  have g17 := zkp g17 zRg_1 (fun q _ h2 h3 => oq q (znA (a := a) (i := 17) (p := 0) h2 (Nat.le_of_ble_eq_true rfl)))
  have g18 := zkp g18 zRg_1 (fun q _ h2 h3 => oq q (znA (a := a) (i := 18) (p := 0) h2 (Nat.le_of_ble_eq_true rfl)))
  have g19 := zkp g19 zRg_1 (fun q _ h2 h3 => oq q (znA (a := a) (i := 19) (p := 0) h2 (Nat.le_of_ble_eq_true rfl)))
  have g20 := zkp g20 zRg_1 (fun q _ h2 h3 => oq q (znA (a := a) (i := 20) (p := 0) h2 (Nat.le_of_ble_eq_true rfl)))
  have g21 := zkp g21 zRg_1 (fun q _ h2 h3 => oq q (znA (a := a) (i := 21) (p := 0) h2 (Nat.le_of_ble_eq_true rfl)))
  have g22 := zkp g22 zRg_1 (fun q _ h2 h3 => oq q (znA (a := a) (i := 22) (p := 0) h2 (Nat.le_of_ble_eq_true rfl)))
  have g0 : va_P E.1 zcl [(a, .inr (11, [.int 0, .ref (a + 1), .ref (a + 2), .ref (a + 3), .ref (a + 4), .ref (a + 5), .ref (a + 6), .ref (a + 7), .ref (a + 8), .ref (a + 9), .int 0, .int 0, .int 0, .int 0, .int 0, .long 0, .int 0, .int 0, .int 0, .ref (a + 10), .ref (a + 11), .int 0, .int 0, .int 0, .int 0, .int 0, .int 0, .int 0, .ref (a + 12), .ref (a + 13), .ref (a + 14), .ref (a + 15), .ref (a + 16), .int 0, .int 0, .int 0, .ref (a + 17), .ref (a + 18), .ref (a + 19), .ref (a + 20), .ref (a + 21), .ref (a + 22), .null, .int 0, .null, .int 0, .int 0, .null, .null, .int 0, .null, .null]))] H44 := hN
  have hsz := hz1.trans hsz
  refine lv_aload_n hx hb dX11_init_181 rfl (lv_at hl 0 rfl) ?_
  refine lv_bipush (v := (81 : Int32)) hx hb dX11_init_182 (by decide) ?_
  refine zNewa (ws := []) (atype := .int) (t := 1) (N := 81) (a0 := (81, .inl (fun _ => 0))) zc hK (fun k q h => by simp at h) hS hsz kac_I rfl (fun _ => rfl) (by decide) (by decide) (by decide) (Nat.le_of_ble_eq_true rfl) (Nat.le_of_ble_eq_true rfl) dX11_init_184 (fun H45 hN o1 hz1 hS => ?_)
  have g0 := zkp g0 zRg_1 (fun q h1 _ _ => o1 q (Nat.lt_of_lt_of_eq h1 hsz))
  have g1 := zkp g1 zRg_1 (fun q h1 _ _ => o1 q (Nat.lt_of_lt_of_eq h1 hsz))
  have g2 := zkp g2 zRg_1 (fun q h1 _ _ => o1 q (Nat.lt_of_lt_of_eq h1 hsz))
  have g3 := zkp g3 zRg_1 (fun q h1 _ _ => o1 q (Nat.lt_of_lt_of_eq h1 hsz))
  have g4 := zkp g4 zRg_1 (fun q h1 _ _ => o1 q (Nat.lt_of_lt_of_eq h1 hsz))
  have g5 := zkp g5 zRg_1 (fun q h1 _ _ => o1 q (Nat.lt_of_lt_of_eq h1 hsz))
  have g6 := zkp g6 zRg_1 (fun q h1 _ _ => o1 q (Nat.lt_of_lt_of_eq h1 hsz))
  have g7 := zkp g7 zRg_1 (fun q h1 _ _ => o1 q (Nat.lt_of_lt_of_eq h1 hsz))
  have g8 := zkp g8 zRg_1 (fun q h1 _ _ => o1 q (Nat.lt_of_lt_of_eq h1 hsz))
  have g9 := zkp g9 zRg_1 (fun q h1 _ _ => o1 q (Nat.lt_of_lt_of_eq h1 hsz))
  have g10 := zkp g10 zRg_1 (fun q h1 _ _ => o1 q (Nat.lt_of_lt_of_eq h1 hsz))
  have g11 := zkp g11 zRg_1 (fun q h1 _ _ => o1 q (Nat.lt_of_lt_of_eq h1 hsz))
  have g12 := zkp g12 zRg_1 (fun q h1 _ _ => o1 q (Nat.lt_of_lt_of_eq h1 hsz))
  have g13 := zkp g13 zRg_1 (fun q h1 _ _ => o1 q (Nat.lt_of_lt_of_eq h1 hsz))
  have g14 := zkp g14 zRg_1 (fun q h1 _ _ => o1 q (Nat.lt_of_lt_of_eq h1 hsz))
  have g15 := zkp g15 zRg_1 (fun q h1 _ _ => o1 q (Nat.lt_of_lt_of_eq h1 hsz))
  have g16 := zkp g16 zRg_1 (fun q h1 _ _ => o1 q (Nat.lt_of_lt_of_eq h1 hsz))
  have g17 := zkp g17 zRg_1 (fun q h1 _ _ => o1 q (Nat.lt_of_lt_of_eq h1 hsz))
  have g18 := zkp g18 zRg_1 (fun q h1 _ _ => o1 q (Nat.lt_of_lt_of_eq h1 hsz))
  have g19 := zkp g19 zRg_1 (fun q h1 _ _ => o1 q (Nat.lt_of_lt_of_eq h1 hsz))
  have g20 := zkp g20 zRg_1 (fun q h1 _ _ => o1 q (Nat.lt_of_lt_of_eq h1 hsz))
  have g21 := zkp g21 zRg_1 (fun q h1 _ _ => o1 q (Nat.lt_of_lt_of_eq h1 hsz))
  have g22 := zkp g22 zRg_1 (fun q h1 _ _ => o1 q (Nat.lt_of_lt_of_eq h1 hsz))
  have g23 : va_P E.1 zcl [((a + 23), .inl (E.2 1, 81, .inl (fun _ => 0)))] H45 := hN
  have hsz : H45.size = a + 24 := hz1
  refine W.cs (cells' := 23) (slots' := 5162) rfl rfl ?_
  refine zPut (C := RX11) (T := TX11) (N := 52) (ci := 11) (v := .ref (a + 23)) (ty := .array .int) zc hK g0 (zD1 (Nat.le_refl a)) hS uw11 tyX11 tyX11_ok nmX11 0 rfl rfl 42 (by decide) kf_11_78 (fun _ h9 => h9) (Or.inr ⟨rfl, hin, rfl⟩) (by decide +kernel) rfl rfl (Nat.le_of_ble_eq_true rfl) dX11_init_186 (fun H46 locs hN oq hz1 hS => ?_)
  have g1 := zkp g1 zRg_1 (fun q _ h2 h3 => oq q (znA (a := a) (i := 1) (p := 0) h2 (Nat.le_of_ble_eq_true rfl)))
  have g2 := zkp g2 zRg_1 (fun q _ h2 h3 => oq q (znA (a := a) (i := 2) (p := 0) h2 (Nat.le_of_ble_eq_true rfl)))
  have g3 := zkp g3 zRg_1 (fun q _ h2 h3 => oq q (znA (a := a) (i := 3) (p := 0) h2 (Nat.le_of_ble_eq_true rfl)))
  have g4 := zkp g4 zRg_1 (fun q _ h2 h3 => oq q (znA (a := a) (i := 4) (p := 0) h2 (Nat.le_of_ble_eq_true rfl)))
  have g5 := zkp g5 zRg_1 (fun q _ h2 h3 => oq q (znA (a := a) (i := 5) (p := 0) h2 (Nat.le_of_ble_eq_true rfl)))
  have g6 := zkp g6 zRg_1 (fun q _ h2 h3 => oq q (znA (a := a) (i := 6) (p := 0) h2 (Nat.le_of_ble_eq_true rfl)))
  have g7 := zkp g7 zRg_1 (fun q _ h2 h3 => oq q (znA (a := a) (i := 7) (p := 0) h2 (Nat.le_of_ble_eq_true rfl)))
  have g8 := zkp g8 zRg_1 (fun q _ h2 h3 => oq q (znA (a := a) (i := 8) (p := 0) h2 (Nat.le_of_ble_eq_true rfl)))
  have g9 := zkp g9 zRg_1 (fun q _ h2 h3 => oq q (znA (a := a) (i := 9) (p := 0) h2 (Nat.le_of_ble_eq_true rfl)))
  have g10 := zkp g10 zRg_1 (fun q _ h2 h3 => oq q (znA (a := a) (i := 10) (p := 0) h2 (Nat.le_of_ble_eq_true rfl)))
  have g11 := zkp g11 zRg_1 (fun q _ h2 h3 => oq q (znA (a := a) (i := 11) (p := 0) h2 (Nat.le_of_ble_eq_true rfl)))
  have g12 := zkp g12 zRg_1 (fun q _ h2 h3 => oq q (znA (a := a) (i := 12) (p := 0) h2 (Nat.le_of_ble_eq_true rfl)))
  have g13 := zkp g13 zRg_1 (fun q _ h2 h3 => oq q (znA (a := a) (i := 13) (p := 0) h2 (Nat.le_of_ble_eq_true rfl)))
  have g14 := zkp g14 zRg_1 (fun q _ h2 h3 => oq q (znA (a := a) (i := 14) (p := 0) h2 (Nat.le_of_ble_eq_true rfl)))
  have g15 := zkp g15 zRg_1 (fun q _ h2 h3 => oq q (znA (a := a) (i := 15) (p := 0) h2 (Nat.le_of_ble_eq_true rfl)))
  have g16 := zkp g16 zRg_1 (fun q _ h2 h3 => oq q (znA (a := a) (i := 16) (p := 0) h2 (Nat.le_of_ble_eq_true rfl)))
  have g17 := zkp g17 zRg_1 (fun q _ h2 h3 => oq q (znA (a := a) (i := 17) (p := 0) h2 (Nat.le_of_ble_eq_true rfl)))
  have g18 := zkp g18 zRg_1 (fun q _ h2 h3 => oq q (znA (a := a) (i := 18) (p := 0) h2 (Nat.le_of_ble_eq_true rfl)))
  have g19 := zkp g19 zRg_1 (fun q _ h2 h3 => oq q (znA (a := a) (i := 19) (p := 0) h2 (Nat.le_of_ble_eq_true rfl)))
  have g20 := zkp g20 zRg_1 (fun q _ h2 h3 => oq q (znA (a := a) (i := 20) (p := 0) h2 (Nat.le_of_ble_eq_true rfl)))
  have g21 := zkp g21 zRg_1 (fun q _ h2 h3 => oq q (znA (a := a) (i := 21) (p := 0) h2 (Nat.le_of_ble_eq_true rfl)))
  have g22 := zkp g22 zRg_1 (fun q _ h2 h3 => oq q (znA (a := a) (i := 22) (p := 0) h2 (Nat.le_of_ble_eq_true rfl)))
  have g23 := zkp g23 zRg_1 (fun q _ h2 h3 => oq q (znA (a := a) (i := 23) (p := 0) h2 (Nat.le_of_ble_eq_true rfl)))
  have g0 : va_P E.1 zcl [(a, .inr (11, [.int 0, .ref (a + 1), .ref (a + 2), .ref (a + 3), .ref (a + 4), .ref (a + 5), .ref (a + 6), .ref (a + 7), .ref (a + 8), .ref (a + 9), .int 0, .int 0, .int 0, .int 0, .int 0, .long 0, .int 0, .int 0, .int 0, .ref (a + 10), .ref (a + 11), .int 0, .int 0, .int 0, .int 0, .int 0, .int 0, .int 0, .ref (a + 12), .ref (a + 13), .ref (a + 14), .ref (a + 15), .ref (a + 16), .int 0, .int 0, .int 0, .ref (a + 17), .ref (a + 18), .ref (a + 19), .ref (a + 20), .ref (a + 21), .ref (a + 22), .ref (a + 23), .int 0, .null, .int 0, .int 0, .null, .null, .int 0, .null, .null]))] H46 := hN
  have hsz := hz1.trans hsz
  refine lv_aload_n hx hb dX11_init_189 rfl (lv_at hl 0 rfl) ?_
  refine lv_bipush (v := (81 : Int32)) hx hb dX11_init_190 (by decide) ?_
  refine zNewa (ws := []) (atype := .int) (t := 1) (N := 81) (a0 := (81, .inl (fun _ => 0))) zc hK (fun k q h => by simp at h) hS hsz kac_I rfl (fun _ => rfl) (by decide) (by decide) (by decide) (Nat.le_of_ble_eq_true rfl) (Nat.le_of_ble_eq_true rfl) dX11_init_192 (fun H47 hN o1 hz1 hS => ?_)
  have g0 := zkp g0 zRg_1 (fun q h1 _ _ => o1 q (Nat.lt_of_lt_of_eq h1 hsz))
  have g1 := zkp g1 zRg_1 (fun q h1 _ _ => o1 q (Nat.lt_of_lt_of_eq h1 hsz))
  have g2 := zkp g2 zRg_1 (fun q h1 _ _ => o1 q (Nat.lt_of_lt_of_eq h1 hsz))
  have g3 := zkp g3 zRg_1 (fun q h1 _ _ => o1 q (Nat.lt_of_lt_of_eq h1 hsz))
  have g4 := zkp g4 zRg_1 (fun q h1 _ _ => o1 q (Nat.lt_of_lt_of_eq h1 hsz))
  have g5 := zkp g5 zRg_1 (fun q h1 _ _ => o1 q (Nat.lt_of_lt_of_eq h1 hsz))
  have g6 := zkp g6 zRg_1 (fun q h1 _ _ => o1 q (Nat.lt_of_lt_of_eq h1 hsz))
  have g7 := zkp g7 zRg_1 (fun q h1 _ _ => o1 q (Nat.lt_of_lt_of_eq h1 hsz))
  have g8 := zkp g8 zRg_1 (fun q h1 _ _ => o1 q (Nat.lt_of_lt_of_eq h1 hsz))
  have g9 := zkp g9 zRg_1 (fun q h1 _ _ => o1 q (Nat.lt_of_lt_of_eq h1 hsz))
  have g10 := zkp g10 zRg_1 (fun q h1 _ _ => o1 q (Nat.lt_of_lt_of_eq h1 hsz))
  have g11 := zkp g11 zRg_1 (fun q h1 _ _ => o1 q (Nat.lt_of_lt_of_eq h1 hsz))
  have g12 := zkp g12 zRg_1 (fun q h1 _ _ => o1 q (Nat.lt_of_lt_of_eq h1 hsz))
  have g13 := zkp g13 zRg_1 (fun q h1 _ _ => o1 q (Nat.lt_of_lt_of_eq h1 hsz))
  have g14 := zkp g14 zRg_1 (fun q h1 _ _ => o1 q (Nat.lt_of_lt_of_eq h1 hsz))
  have g15 := zkp g15 zRg_1 (fun q h1 _ _ => o1 q (Nat.lt_of_lt_of_eq h1 hsz))
  have g16 := zkp g16 zRg_1 (fun q h1 _ _ => o1 q (Nat.lt_of_lt_of_eq h1 hsz))
  have g17 := zkp g17 zRg_1 (fun q h1 _ _ => o1 q (Nat.lt_of_lt_of_eq h1 hsz))
  have g18 := zkp g18 zRg_1 (fun q h1 _ _ => o1 q (Nat.lt_of_lt_of_eq h1 hsz))
  have g19 := zkp g19 zRg_1 (fun q h1 _ _ => o1 q (Nat.lt_of_lt_of_eq h1 hsz))
  have g20 := zkp g20 zRg_1 (fun q h1 _ _ => o1 q (Nat.lt_of_lt_of_eq h1 hsz))
  have g21 := zkp g21 zRg_1 (fun q h1 _ _ => o1 q (Nat.lt_of_lt_of_eq h1 hsz))
  have g22 := zkp g22 zRg_1 (fun q h1 _ _ => o1 q (Nat.lt_of_lt_of_eq h1 hsz))
  have g23 := zkp g23 zRg_1 (fun q h1 _ _ => o1 q (Nat.lt_of_lt_of_eq h1 hsz))
  have g24 : va_P E.1 zcl [((a + 24), .inl (E.2 1, 81, .inl (fun _ => 0)))] H47 := hN
  have hsz : H47.size = a + 25 := hz1
  refine W.cs (cells' := 24) (slots' := 5243) rfl rfl ?_
  refine zPut (C := RX11) (T := TX11) (N := 52) (ci := 11) (v := .ref (a + 24)) (ty := .array .int) zc hK g0 (zD1 (Nat.le_refl a)) hS uw11 tyX11 tyX11_ok nmX11 0 rfl rfl 44 (by decide) kf_11_81 (fun _ h9 => h9) (Or.inr ⟨rfl, hin, rfl⟩) (by decide +kernel) rfl rfl (Nat.le_of_ble_eq_true rfl) dX11_init_194 (fun H48 locs hN oq hz1 hS => ?_)
  have g1 := zkp g1 zRg_1 (fun q _ h2 h3 => oq q (znA (a := a) (i := 1) (p := 0) h2 (Nat.le_of_ble_eq_true rfl)))
  have g2 := zkp g2 zRg_1 (fun q _ h2 h3 => oq q (znA (a := a) (i := 2) (p := 0) h2 (Nat.le_of_ble_eq_true rfl)))
  have g3 := zkp g3 zRg_1 (fun q _ h2 h3 => oq q (znA (a := a) (i := 3) (p := 0) h2 (Nat.le_of_ble_eq_true rfl)))
  have g4 := zkp g4 zRg_1 (fun q _ h2 h3 => oq q (znA (a := a) (i := 4) (p := 0) h2 (Nat.le_of_ble_eq_true rfl)))
  have g5 := zkp g5 zRg_1 (fun q _ h2 h3 => oq q (znA (a := a) (i := 5) (p := 0) h2 (Nat.le_of_ble_eq_true rfl)))
  have g6 := zkp g6 zRg_1 (fun q _ h2 h3 => oq q (znA (a := a) (i := 6) (p := 0) h2 (Nat.le_of_ble_eq_true rfl)))
  have g7 := zkp g7 zRg_1 (fun q _ h2 h3 => oq q (znA (a := a) (i := 7) (p := 0) h2 (Nat.le_of_ble_eq_true rfl)))
  have g8 := zkp g8 zRg_1 (fun q _ h2 h3 => oq q (znA (a := a) (i := 8) (p := 0) h2 (Nat.le_of_ble_eq_true rfl)))
  have g9 := zkp g9 zRg_1 (fun q _ h2 h3 => oq q (znA (a := a) (i := 9) (p := 0) h2 (Nat.le_of_ble_eq_true rfl)))
  have g10 := zkp g10 zRg_1 (fun q _ h2 h3 => oq q (znA (a := a) (i := 10) (p := 0) h2 (Nat.le_of_ble_eq_true rfl)))
  have g11 := zkp g11 zRg_1 (fun q _ h2 h3 => oq q (znA (a := a) (i := 11) (p := 0) h2 (Nat.le_of_ble_eq_true rfl)))
  have g12 := zkp g12 zRg_1 (fun q _ h2 h3 => oq q (znA (a := a) (i := 12) (p := 0) h2 (Nat.le_of_ble_eq_true rfl)))
  have g13 := zkp g13 zRg_1 (fun q _ h2 h3 => oq q (znA (a := a) (i := 13) (p := 0) h2 (Nat.le_of_ble_eq_true rfl)))
  have g14 := zkp g14 zRg_1 (fun q _ h2 h3 => oq q (znA (a := a) (i := 14) (p := 0) h2 (Nat.le_of_ble_eq_true rfl)))
  have g15 := zkp g15 zRg_1 (fun q _ h2 h3 => oq q (znA (a := a) (i := 15) (p := 0) h2 (Nat.le_of_ble_eq_true rfl)))
  have g16 := zkp g16 zRg_1 (fun q _ h2 h3 => oq q (znA (a := a) (i := 16) (p := 0) h2 (Nat.le_of_ble_eq_true rfl)))
  have g17 := zkp g17 zRg_1 (fun q _ h2 h3 => oq q (znA (a := a) (i := 17) (p := 0) h2 (Nat.le_of_ble_eq_true rfl)))
  have g18 := zkp g18 zRg_1 (fun q _ h2 h3 => oq q (znA (a := a) (i := 18) (p := 0) h2 (Nat.le_of_ble_eq_true rfl)))
  have g19 := zkp g19 zRg_1 (fun q _ h2 h3 => oq q (znA (a := a) (i := 19) (p := 0) h2 (Nat.le_of_ble_eq_true rfl)))
  have g20 := zkp g20 zRg_1 (fun q _ h2 h3 => oq q (znA (a := a) (i := 20) (p := 0) h2 (Nat.le_of_ble_eq_true rfl)))
  have g21 := zkp g21 zRg_1 (fun q _ h2 h3 => oq q (znA (a := a) (i := 21) (p := 0) h2 (Nat.le_of_ble_eq_true rfl)))
  have g22 := zkp g22 zRg_1 (fun q _ h2 h3 => oq q (znA (a := a) (i := 22) (p := 0) h2 (Nat.le_of_ble_eq_true rfl)))
  have g23 := zkp g23 zRg_1 (fun q _ h2 h3 => oq q (znA (a := a) (i := 23) (p := 0) h2 (Nat.le_of_ble_eq_true rfl)))
  have g24 := zkp g24 zRg_1 (fun q _ h2 h3 => oq q (znA (a := a) (i := 24) (p := 0) h2 (Nat.le_of_ble_eq_true rfl)))
  have g0 : va_P E.1 zcl [(a, .inr (11, [.int 0, .ref (a + 1), .ref (a + 2), .ref (a + 3), .ref (a + 4), .ref (a + 5), .ref (a + 6), .ref (a + 7), .ref (a + 8), .ref (a + 9), .int 0, .int 0, .int 0, .int 0, .int 0, .long 0, .int 0, .int 0, .int 0, .ref (a + 10), .ref (a + 11), .int 0, .int 0, .int 0, .int 0, .int 0, .int 0, .int 0, .ref (a + 12), .ref (a + 13), .ref (a + 14), .ref (a + 15), .ref (a + 16), .int 0, .int 0, .int 0, .ref (a + 17), .ref (a + 18), .ref (a + 19), .ref (a + 20), .ref (a + 21), .ref (a + 22), .ref (a + 23), .int 0, .ref (a + 24), .int 0, .int 0, .null, .null, .int 0, .null, .null]))] H48 := hN
  have hsz := hz1.trans hsz
  refine lv_aload_n hx hb dX11_init_197 rfl (lv_at hl 0 rfl) ?_
  refine lv_sipush (v := (4608 : Int32)) hx hb dX11_init_198 (by decide) ?_
  refine zNewa (ws := []) (atype := .long) (t := 2) (N := 4608) (a0 := (4608, .inr (.inl (fun _ => 0)))) zc hK (fun k q h => by simp at h) hS hsz kac_J rfl (fun _ => rfl) (by decide) (by decide) (by decide) (Nat.le_of_ble_eq_true rfl) (Nat.le_of_ble_eq_true rfl) dX11_init_201 (fun H49 hN o1 hz1 hS => ?_)
  have g0 := zkp g0 zRg_1 (fun q h1 _ _ => o1 q (Nat.lt_of_lt_of_eq h1 hsz))
  have g1 := zkp g1 zRg_1 (fun q h1 _ _ => o1 q (Nat.lt_of_lt_of_eq h1 hsz))
  have g2 := zkp g2 zRg_1 (fun q h1 _ _ => o1 q (Nat.lt_of_lt_of_eq h1 hsz))
  have g3 := zkp g3 zRg_1 (fun q h1 _ _ => o1 q (Nat.lt_of_lt_of_eq h1 hsz))
  have g4 := zkp g4 zRg_1 (fun q h1 _ _ => o1 q (Nat.lt_of_lt_of_eq h1 hsz))
  have g5 := zkp g5 zRg_1 (fun q h1 _ _ => o1 q (Nat.lt_of_lt_of_eq h1 hsz))
  have g6 := zkp g6 zRg_1 (fun q h1 _ _ => o1 q (Nat.lt_of_lt_of_eq h1 hsz))
  have g7 := zkp g7 zRg_1 (fun q h1 _ _ => o1 q (Nat.lt_of_lt_of_eq h1 hsz))
  have g8 := zkp g8 zRg_1 (fun q h1 _ _ => o1 q (Nat.lt_of_lt_of_eq h1 hsz))
  have g9 := zkp g9 zRg_1 (fun q h1 _ _ => o1 q (Nat.lt_of_lt_of_eq h1 hsz))
  have g10 := zkp g10 zRg_1 (fun q h1 _ _ => o1 q (Nat.lt_of_lt_of_eq h1 hsz))
  have g11 := zkp g11 zRg_1 (fun q h1 _ _ => o1 q (Nat.lt_of_lt_of_eq h1 hsz))
  have g12 := zkp g12 zRg_1 (fun q h1 _ _ => o1 q (Nat.lt_of_lt_of_eq h1 hsz))
  have g13 := zkp g13 zRg_1 (fun q h1 _ _ => o1 q (Nat.lt_of_lt_of_eq h1 hsz))
  have g14 := zkp g14 zRg_1 (fun q h1 _ _ => o1 q (Nat.lt_of_lt_of_eq h1 hsz))
  have g15 := zkp g15 zRg_1 (fun q h1 _ _ => o1 q (Nat.lt_of_lt_of_eq h1 hsz))
  have g16 := zkp g16 zRg_1 (fun q h1 _ _ => o1 q (Nat.lt_of_lt_of_eq h1 hsz))
  have g17 := zkp g17 zRg_1 (fun q h1 _ _ => o1 q (Nat.lt_of_lt_of_eq h1 hsz))
  have g18 := zkp g18 zRg_1 (fun q h1 _ _ => o1 q (Nat.lt_of_lt_of_eq h1 hsz))
  have g19 := zkp g19 zRg_1 (fun q h1 _ _ => o1 q (Nat.lt_of_lt_of_eq h1 hsz))
  have g20 := zkp g20 zRg_1 (fun q h1 _ _ => o1 q (Nat.lt_of_lt_of_eq h1 hsz))
  have g21 := zkp g21 zRg_1 (fun q h1 _ _ => o1 q (Nat.lt_of_lt_of_eq h1 hsz))
  have g22 := zkp g22 zRg_1 (fun q h1 _ _ => o1 q (Nat.lt_of_lt_of_eq h1 hsz))
  have g23 := zkp g23 zRg_1 (fun q h1 _ _ => o1 q (Nat.lt_of_lt_of_eq h1 hsz))
  have g24 := zkp g24 zRg_1 (fun q h1 _ _ => o1 q (Nat.lt_of_lt_of_eq h1 hsz))
  have g25 : va_P E.1 zcl [((a + 25), .inl (E.2 2, 4608, .inr (.inl (fun _ => 0))))] H49 := hN
  have hsz : H49.size = a + 26 := hz1
  refine W.cs (cells' := 25) (slots' := 9851) rfl rfl ?_
  refine zPut (C := RX11) (T := TX11) (N := 52) (ci := 11) (v := .ref (a + 25)) (ty := .array .long) zc hK g0 (zD1 (Nat.le_refl a)) hS uw11 tyX11 tyX11_ok nmX11 0 rfl rfl 47 (by decide) kf_11_84 (fun _ h9 => h9) (Or.inr ⟨rfl, hin, rfl⟩) (by decide +kernel) rfl rfl (Nat.le_of_ble_eq_true rfl) dX11_init_203 (fun H50 locs hN oq hz1 hS => ?_)
  have g1 := zkp g1 zRg_1 (fun q _ h2 h3 => oq q (znA (a := a) (i := 1) (p := 0) h2 (Nat.le_of_ble_eq_true rfl)))
  have g2 := zkp g2 zRg_1 (fun q _ h2 h3 => oq q (znA (a := a) (i := 2) (p := 0) h2 (Nat.le_of_ble_eq_true rfl)))
  have g3 := zkp g3 zRg_1 (fun q _ h2 h3 => oq q (znA (a := a) (i := 3) (p := 0) h2 (Nat.le_of_ble_eq_true rfl)))
  have g4 := zkp g4 zRg_1 (fun q _ h2 h3 => oq q (znA (a := a) (i := 4) (p := 0) h2 (Nat.le_of_ble_eq_true rfl)))
  have g5 := zkp g5 zRg_1 (fun q _ h2 h3 => oq q (znA (a := a) (i := 5) (p := 0) h2 (Nat.le_of_ble_eq_true rfl)))
  have g6 := zkp g6 zRg_1 (fun q _ h2 h3 => oq q (znA (a := a) (i := 6) (p := 0) h2 (Nat.le_of_ble_eq_true rfl)))
  have g7 := zkp g7 zRg_1 (fun q _ h2 h3 => oq q (znA (a := a) (i := 7) (p := 0) h2 (Nat.le_of_ble_eq_true rfl)))
  have g8 := zkp g8 zRg_1 (fun q _ h2 h3 => oq q (znA (a := a) (i := 8) (p := 0) h2 (Nat.le_of_ble_eq_true rfl)))
  have g9 := zkp g9 zRg_1 (fun q _ h2 h3 => oq q (znA (a := a) (i := 9) (p := 0) h2 (Nat.le_of_ble_eq_true rfl)))
  have g10 := zkp g10 zRg_1 (fun q _ h2 h3 => oq q (znA (a := a) (i := 10) (p := 0) h2 (Nat.le_of_ble_eq_true rfl)))
  have g11 := zkp g11 zRg_1 (fun q _ h2 h3 => oq q (znA (a := a) (i := 11) (p := 0) h2 (Nat.le_of_ble_eq_true rfl)))
  have g12 := zkp g12 zRg_1 (fun q _ h2 h3 => oq q (znA (a := a) (i := 12) (p := 0) h2 (Nat.le_of_ble_eq_true rfl)))
  have g13 := zkp g13 zRg_1 (fun q _ h2 h3 => oq q (znA (a := a) (i := 13) (p := 0) h2 (Nat.le_of_ble_eq_true rfl)))
  have g14 := zkp g14 zRg_1 (fun q _ h2 h3 => oq q (znA (a := a) (i := 14) (p := 0) h2 (Nat.le_of_ble_eq_true rfl)))
  have g15 := zkp g15 zRg_1 (fun q _ h2 h3 => oq q (znA (a := a) (i := 15) (p := 0) h2 (Nat.le_of_ble_eq_true rfl)))
  have g16 := zkp g16 zRg_1 (fun q _ h2 h3 => oq q (znA (a := a) (i := 16) (p := 0) h2 (Nat.le_of_ble_eq_true rfl)))
  have g17 := zkp g17 zRg_1 (fun q _ h2 h3 => oq q (znA (a := a) (i := 17) (p := 0) h2 (Nat.le_of_ble_eq_true rfl)))
  have g18 := zkp g18 zRg_1 (fun q _ h2 h3 => oq q (znA (a := a) (i := 18) (p := 0) h2 (Nat.le_of_ble_eq_true rfl)))
  have g19 := zkp g19 zRg_1 (fun q _ h2 h3 => oq q (znA (a := a) (i := 19) (p := 0) h2 (Nat.le_of_ble_eq_true rfl)))
  have g20 := zkp g20 zRg_1 (fun q _ h2 h3 => oq q (znA (a := a) (i := 20) (p := 0) h2 (Nat.le_of_ble_eq_true rfl)))
  have g21 := zkp g21 zRg_1 (fun q _ h2 h3 => oq q (znA (a := a) (i := 21) (p := 0) h2 (Nat.le_of_ble_eq_true rfl)))
  have g22 := zkp g22 zRg_1 (fun q _ h2 h3 => oq q (znA (a := a) (i := 22) (p := 0) h2 (Nat.le_of_ble_eq_true rfl)))
  have g23 := zkp g23 zRg_1 (fun q _ h2 h3 => oq q (znA (a := a) (i := 23) (p := 0) h2 (Nat.le_of_ble_eq_true rfl)))
  have g24 := zkp g24 zRg_1 (fun q _ h2 h3 => oq q (znA (a := a) (i := 24) (p := 0) h2 (Nat.le_of_ble_eq_true rfl)))
  have g25 := zkp g25 zRg_1 (fun q _ h2 h3 => oq q (znA (a := a) (i := 25) (p := 0) h2 (Nat.le_of_ble_eq_true rfl)))
  have g0 : va_P E.1 zcl [(a, .inr (11, [.int 0, .ref (a + 1), .ref (a + 2), .ref (a + 3), .ref (a + 4), .ref (a + 5), .ref (a + 6), .ref (a + 7), .ref (a + 8), .ref (a + 9), .int 0, .int 0, .int 0, .int 0, .int 0, .long 0, .int 0, .int 0, .int 0, .ref (a + 10), .ref (a + 11), .int 0, .int 0, .int 0, .int 0, .int 0, .int 0, .int 0, .ref (a + 12), .ref (a + 13), .ref (a + 14), .ref (a + 15), .ref (a + 16), .int 0, .int 0, .int 0, .ref (a + 17), .ref (a + 18), .ref (a + 19), .ref (a + 20), .ref (a + 21), .ref (a + 22), .ref (a + 23), .int 0, .ref (a + 24), .int 0, .int 0, .ref (a + 25), .null, .int 0, .null, .null]))] H50 := hN
  have hsz := hz1.trans hsz
  refine lv_aload_n hx hb dX11_init_206 rfl (lv_at hl 0 rfl) ?_
  refine lv_sipush (v := (3721 : Int32)) hx hb dX11_init_207 (by decide) ?_
  refine zNewa (ws := []) (atype := .boolean) (t := 3) (N := 3721) (a0 := (3721, .inl (fun _ => 0))) zc hK (fun k q h => by simp at h) hS hsz kac_Z rfl (fun _ => rfl) (by decide) (by decide) (by decide) (Nat.le_of_ble_eq_true rfl) (Nat.le_of_ble_eq_true rfl) dX11_init_210 (fun H51 hN o1 hz1 hS => ?_)
  have g0 := zkp g0 zRg_1 (fun q h1 _ _ => o1 q (Nat.lt_of_lt_of_eq h1 hsz))
  have g1 := zkp g1 zRg_1 (fun q h1 _ _ => o1 q (Nat.lt_of_lt_of_eq h1 hsz))
  have g2 := zkp g2 zRg_1 (fun q h1 _ _ => o1 q (Nat.lt_of_lt_of_eq h1 hsz))
  have g3 := zkp g3 zRg_1 (fun q h1 _ _ => o1 q (Nat.lt_of_lt_of_eq h1 hsz))
  have g4 := zkp g4 zRg_1 (fun q h1 _ _ => o1 q (Nat.lt_of_lt_of_eq h1 hsz))
  have g5 := zkp g5 zRg_1 (fun q h1 _ _ => o1 q (Nat.lt_of_lt_of_eq h1 hsz))
  have g6 := zkp g6 zRg_1 (fun q h1 _ _ => o1 q (Nat.lt_of_lt_of_eq h1 hsz))
  have g7 := zkp g7 zRg_1 (fun q h1 _ _ => o1 q (Nat.lt_of_lt_of_eq h1 hsz))
  have g8 := zkp g8 zRg_1 (fun q h1 _ _ => o1 q (Nat.lt_of_lt_of_eq h1 hsz))
  have g9 := zkp g9 zRg_1 (fun q h1 _ _ => o1 q (Nat.lt_of_lt_of_eq h1 hsz))
  have g10 := zkp g10 zRg_1 (fun q h1 _ _ => o1 q (Nat.lt_of_lt_of_eq h1 hsz))
  have g11 := zkp g11 zRg_1 (fun q h1 _ _ => o1 q (Nat.lt_of_lt_of_eq h1 hsz))
  have g12 := zkp g12 zRg_1 (fun q h1 _ _ => o1 q (Nat.lt_of_lt_of_eq h1 hsz))
  have g13 := zkp g13 zRg_1 (fun q h1 _ _ => o1 q (Nat.lt_of_lt_of_eq h1 hsz))
  have g14 := zkp g14 zRg_1 (fun q h1 _ _ => o1 q (Nat.lt_of_lt_of_eq h1 hsz))
  have g15 := zkp g15 zRg_1 (fun q h1 _ _ => o1 q (Nat.lt_of_lt_of_eq h1 hsz))
  have g16 := zkp g16 zRg_1 (fun q h1 _ _ => o1 q (Nat.lt_of_lt_of_eq h1 hsz))
  have g17 := zkp g17 zRg_1 (fun q h1 _ _ => o1 q (Nat.lt_of_lt_of_eq h1 hsz))
  have g18 := zkp g18 zRg_1 (fun q h1 _ _ => o1 q (Nat.lt_of_lt_of_eq h1 hsz))
  have g19 := zkp g19 zRg_1 (fun q h1 _ _ => o1 q (Nat.lt_of_lt_of_eq h1 hsz))
  have g20 := zkp g20 zRg_1 (fun q h1 _ _ => o1 q (Nat.lt_of_lt_of_eq h1 hsz))
  have g21 := zkp g21 zRg_1 (fun q h1 _ _ => o1 q (Nat.lt_of_lt_of_eq h1 hsz))
  have g22 := zkp g22 zRg_1 (fun q h1 _ _ => o1 q (Nat.lt_of_lt_of_eq h1 hsz))
  have g23 := zkp g23 zRg_1 (fun q h1 _ _ => o1 q (Nat.lt_of_lt_of_eq h1 hsz))
  have g24 := zkp g24 zRg_1 (fun q h1 _ _ => o1 q (Nat.lt_of_lt_of_eq h1 hsz))
  have g25 := zkp g25 zRg_1 (fun q h1 _ _ => o1 q (Nat.lt_of_lt_of_eq h1 hsz))
  have g26 : va_P E.1 zcl [((a + 26), .inl (E.2 3, 3721, .inl (fun _ => 0)))] H51 := hN
  have hsz : H51.size = a + 27 := hz1
  refine W.cs (cells' := 26) (slots' := 13572) rfl rfl ?_
  refine zPut (C := RX11) (T := TX11) (N := 52) (ci := 11) (v := .ref (a + 26)) (ty := .array .boolean) zc hK g0 (zD1 (Nat.le_refl a)) hS uw11 tyX11 tyX11_ok nmX11 0 rfl rfl 48 (by decide) kf_11_88 (fun _ h9 => h9) (Or.inr ⟨rfl, hin, rfl⟩) (by decide +kernel) rfl rfl (Nat.le_of_ble_eq_true rfl) dX11_init_212 (fun H52 locs hN oq hz1 hS => ?_)
  have g1 := zkp g1 zRg_1 (fun q _ h2 h3 => oq q (znA (a := a) (i := 1) (p := 0) h2 (Nat.le_of_ble_eq_true rfl)))
  have g2 := zkp g2 zRg_1 (fun q _ h2 h3 => oq q (znA (a := a) (i := 2) (p := 0) h2 (Nat.le_of_ble_eq_true rfl)))
  have g3 := zkp g3 zRg_1 (fun q _ h2 h3 => oq q (znA (a := a) (i := 3) (p := 0) h2 (Nat.le_of_ble_eq_true rfl)))
  have g4 := zkp g4 zRg_1 (fun q _ h2 h3 => oq q (znA (a := a) (i := 4) (p := 0) h2 (Nat.le_of_ble_eq_true rfl)))
  have g5 := zkp g5 zRg_1 (fun q _ h2 h3 => oq q (znA (a := a) (i := 5) (p := 0) h2 (Nat.le_of_ble_eq_true rfl)))
  have g6 := zkp g6 zRg_1 (fun q _ h2 h3 => oq q (znA (a := a) (i := 6) (p := 0) h2 (Nat.le_of_ble_eq_true rfl)))
  have g7 := zkp g7 zRg_1 (fun q _ h2 h3 => oq q (znA (a := a) (i := 7) (p := 0) h2 (Nat.le_of_ble_eq_true rfl)))
  have g8 := zkp g8 zRg_1 (fun q _ h2 h3 => oq q (znA (a := a) (i := 8) (p := 0) h2 (Nat.le_of_ble_eq_true rfl)))
  have g9 := zkp g9 zRg_1 (fun q _ h2 h3 => oq q (znA (a := a) (i := 9) (p := 0) h2 (Nat.le_of_ble_eq_true rfl)))
  have g10 := zkp g10 zRg_1 (fun q _ h2 h3 => oq q (znA (a := a) (i := 10) (p := 0) h2 (Nat.le_of_ble_eq_true rfl)))
  have g11 := zkp g11 zRg_1 (fun q _ h2 h3 => oq q (znA (a := a) (i := 11) (p := 0) h2 (Nat.le_of_ble_eq_true rfl)))
  have g12 := zkp g12 zRg_1 (fun q _ h2 h3 => oq q (znA (a := a) (i := 12) (p := 0) h2 (Nat.le_of_ble_eq_true rfl)))
  have g13 := zkp g13 zRg_1 (fun q _ h2 h3 => oq q (znA (a := a) (i := 13) (p := 0) h2 (Nat.le_of_ble_eq_true rfl)))
  have g14 := zkp g14 zRg_1 (fun q _ h2 h3 => oq q (znA (a := a) (i := 14) (p := 0) h2 (Nat.le_of_ble_eq_true rfl)))
  have g15 := zkp g15 zRg_1 (fun q _ h2 h3 => oq q (znA (a := a) (i := 15) (p := 0) h2 (Nat.le_of_ble_eq_true rfl)))
  have g16 := zkp g16 zRg_1 (fun q _ h2 h3 => oq q (znA (a := a) (i := 16) (p := 0) h2 (Nat.le_of_ble_eq_true rfl)))
  have g17 := zkp g17 zRg_1 (fun q _ h2 h3 => oq q (znA (a := a) (i := 17) (p := 0) h2 (Nat.le_of_ble_eq_true rfl)))
  have g18 := zkp g18 zRg_1 (fun q _ h2 h3 => oq q (znA (a := a) (i := 18) (p := 0) h2 (Nat.le_of_ble_eq_true rfl)))
  have g19 := zkp g19 zRg_1 (fun q _ h2 h3 => oq q (znA (a := a) (i := 19) (p := 0) h2 (Nat.le_of_ble_eq_true rfl)))
  have g20 := zkp g20 zRg_1 (fun q _ h2 h3 => oq q (znA (a := a) (i := 20) (p := 0) h2 (Nat.le_of_ble_eq_true rfl)))
  have g21 := zkp g21 zRg_1 (fun q _ h2 h3 => oq q (znA (a := a) (i := 21) (p := 0) h2 (Nat.le_of_ble_eq_true rfl)))
  have g22 := zkp g22 zRg_1 (fun q _ h2 h3 => oq q (znA (a := a) (i := 22) (p := 0) h2 (Nat.le_of_ble_eq_true rfl)))
  have g23 := zkp g23 zRg_1 (fun q _ h2 h3 => oq q (znA (a := a) (i := 23) (p := 0) h2 (Nat.le_of_ble_eq_true rfl)))
  have g24 := zkp g24 zRg_1 (fun q _ h2 h3 => oq q (znA (a := a) (i := 24) (p := 0) h2 (Nat.le_of_ble_eq_true rfl)))
  have g25 := zkp g25 zRg_1 (fun q _ h2 h3 => oq q (znA (a := a) (i := 25) (p := 0) h2 (Nat.le_of_ble_eq_true rfl)))
  have g26 := zkp g26 zRg_1 (fun q _ h2 h3 => oq q (znA (a := a) (i := 26) (p := 0) h2 (Nat.le_of_ble_eq_true rfl)))
  have g0 : va_P E.1 zcl [(a, .inr (11, [.int 0, .ref (a + 1), .ref (a + 2), .ref (a + 3), .ref (a + 4), .ref (a + 5), .ref (a + 6), .ref (a + 7), .ref (a + 8), .ref (a + 9), .int 0, .int 0, .int 0, .int 0, .int 0, .long 0, .int 0, .int 0, .int 0, .ref (a + 10), .ref (a + 11), .int 0, .int 0, .int 0, .int 0, .int 0, .int 0, .int 0, .ref (a + 12), .ref (a + 13), .ref (a + 14), .ref (a + 15), .ref (a + 16), .int 0, .int 0, .int 0, .ref (a + 17), .ref (a + 18), .ref (a + 19), .ref (a + 20), .ref (a + 21), .ref (a + 22), .ref (a + 23), .int 0, .ref (a + 24), .int 0, .int 0, .ref (a + 25), .ref (a + 26), .int 0, .null, .null]))] H52 := hN
  have hsz := hz1.trans hsz
  refine lv_aload_n hx hb dX11_init_215 rfl (lv_at hl 0 rfl) ?_
  refine lv_bipush (v := (9 : Int32)) hx hb dX11_init_216 (by decide) ?_
  refine zNewa (ws := []) (atype := .int) (t := 1) (N := 9) (a0 := (9, .inl (fun _ => 0))) zc hK (fun k q h => by simp at h) hS hsz kac_I rfl (fun _ => rfl) (by decide) (by decide) (by decide) (Nat.le_of_ble_eq_true rfl) (Nat.le_of_ble_eq_true rfl) dX11_init_218 (fun H53 hN o1 hz1 hS => ?_)
  have g0 := zkp g0 zRg_1 (fun q h1 _ _ => o1 q (Nat.lt_of_lt_of_eq h1 hsz))
  have g1 := zkp g1 zRg_1 (fun q h1 _ _ => o1 q (Nat.lt_of_lt_of_eq h1 hsz))
  have g2 := zkp g2 zRg_1 (fun q h1 _ _ => o1 q (Nat.lt_of_lt_of_eq h1 hsz))
  have g3 := zkp g3 zRg_1 (fun q h1 _ _ => o1 q (Nat.lt_of_lt_of_eq h1 hsz))
  have g4 := zkp g4 zRg_1 (fun q h1 _ _ => o1 q (Nat.lt_of_lt_of_eq h1 hsz))
  have g5 := zkp g5 zRg_1 (fun q h1 _ _ => o1 q (Nat.lt_of_lt_of_eq h1 hsz))
  have g6 := zkp g6 zRg_1 (fun q h1 _ _ => o1 q (Nat.lt_of_lt_of_eq h1 hsz))
  have g7 := zkp g7 zRg_1 (fun q h1 _ _ => o1 q (Nat.lt_of_lt_of_eq h1 hsz))
  have g8 := zkp g8 zRg_1 (fun q h1 _ _ => o1 q (Nat.lt_of_lt_of_eq h1 hsz))
  have g9 := zkp g9 zRg_1 (fun q h1 _ _ => o1 q (Nat.lt_of_lt_of_eq h1 hsz))
  have g10 := zkp g10 zRg_1 (fun q h1 _ _ => o1 q (Nat.lt_of_lt_of_eq h1 hsz))
  have g11 := zkp g11 zRg_1 (fun q h1 _ _ => o1 q (Nat.lt_of_lt_of_eq h1 hsz))
  have g12 := zkp g12 zRg_1 (fun q h1 _ _ => o1 q (Nat.lt_of_lt_of_eq h1 hsz))
  have g13 := zkp g13 zRg_1 (fun q h1 _ _ => o1 q (Nat.lt_of_lt_of_eq h1 hsz))
  have g14 := zkp g14 zRg_1 (fun q h1 _ _ => o1 q (Nat.lt_of_lt_of_eq h1 hsz))
  have g15 := zkp g15 zRg_1 (fun q h1 _ _ => o1 q (Nat.lt_of_lt_of_eq h1 hsz))
  have g16 := zkp g16 zRg_1 (fun q h1 _ _ => o1 q (Nat.lt_of_lt_of_eq h1 hsz))
  have g17 := zkp g17 zRg_1 (fun q h1 _ _ => o1 q (Nat.lt_of_lt_of_eq h1 hsz))
  have g18 := zkp g18 zRg_1 (fun q h1 _ _ => o1 q (Nat.lt_of_lt_of_eq h1 hsz))
  have g19 := zkp g19 zRg_1 (fun q h1 _ _ => o1 q (Nat.lt_of_lt_of_eq h1 hsz))
  have g20 := zkp g20 zRg_1 (fun q h1 _ _ => o1 q (Nat.lt_of_lt_of_eq h1 hsz))
  have g21 := zkp g21 zRg_1 (fun q h1 _ _ => o1 q (Nat.lt_of_lt_of_eq h1 hsz))
  have g22 := zkp g22 zRg_1 (fun q h1 _ _ => o1 q (Nat.lt_of_lt_of_eq h1 hsz))
  have g23 := zkp g23 zRg_1 (fun q h1 _ _ => o1 q (Nat.lt_of_lt_of_eq h1 hsz))
  have g24 := zkp g24 zRg_1 (fun q h1 _ _ => o1 q (Nat.lt_of_lt_of_eq h1 hsz))
  have g25 := zkp g25 zRg_1 (fun q h1 _ _ => o1 q (Nat.lt_of_lt_of_eq h1 hsz))
  have g26 := zkp g26 zRg_1 (fun q h1 _ _ => o1 q (Nat.lt_of_lt_of_eq h1 hsz))
  have g27 : va_P E.1 zcl [((a + 27), .inl (E.2 1, 9, .inl (fun _ => 0)))] H53 := hN
  have hsz : H53.size = a + 28 := hz1
  refine W.cs (cells' := 27) (slots' := 13581) rfl rfl ?_
  refine zPut (C := RX11) (T := TX11) (N := 52) (ci := 11) (v := .ref (a + 27)) (ty := .array .int) zc hK g0 (zD1 (Nat.le_refl a)) hS uw11 tyX11 tyX11_ok nmX11 0 rfl rfl 50 (by decide) kf_11_91 (fun _ h9 => h9) (Or.inr ⟨rfl, hin, rfl⟩) (by decide +kernel) rfl rfl (Nat.le_of_ble_eq_true rfl) dX11_init_220 (fun H54 locs hN oq hz1 hS => ?_)
  have g1 := zkp g1 zRg_1 (fun q _ h2 h3 => oq q (znA (a := a) (i := 1) (p := 0) h2 (Nat.le_of_ble_eq_true rfl)))
  have g2 := zkp g2 zRg_1 (fun q _ h2 h3 => oq q (znA (a := a) (i := 2) (p := 0) h2 (Nat.le_of_ble_eq_true rfl)))
  have g3 := zkp g3 zRg_1 (fun q _ h2 h3 => oq q (znA (a := a) (i := 3) (p := 0) h2 (Nat.le_of_ble_eq_true rfl)))
  have g4 := zkp g4 zRg_1 (fun q _ h2 h3 => oq q (znA (a := a) (i := 4) (p := 0) h2 (Nat.le_of_ble_eq_true rfl)))
  have g5 := zkp g5 zRg_1 (fun q _ h2 h3 => oq q (znA (a := a) (i := 5) (p := 0) h2 (Nat.le_of_ble_eq_true rfl)))
  have g6 := zkp g6 zRg_1 (fun q _ h2 h3 => oq q (znA (a := a) (i := 6) (p := 0) h2 (Nat.le_of_ble_eq_true rfl)))
  have g7 := zkp g7 zRg_1 (fun q _ h2 h3 => oq q (znA (a := a) (i := 7) (p := 0) h2 (Nat.le_of_ble_eq_true rfl)))
  have g8 := zkp g8 zRg_1 (fun q _ h2 h3 => oq q (znA (a := a) (i := 8) (p := 0) h2 (Nat.le_of_ble_eq_true rfl)))
  have g9 := zkp g9 zRg_1 (fun q _ h2 h3 => oq q (znA (a := a) (i := 9) (p := 0) h2 (Nat.le_of_ble_eq_true rfl)))
  have g10 := zkp g10 zRg_1 (fun q _ h2 h3 => oq q (znA (a := a) (i := 10) (p := 0) h2 (Nat.le_of_ble_eq_true rfl)))
  have g11 := zkp g11 zRg_1 (fun q _ h2 h3 => oq q (znA (a := a) (i := 11) (p := 0) h2 (Nat.le_of_ble_eq_true rfl)))
  have g12 := zkp g12 zRg_1 (fun q _ h2 h3 => oq q (znA (a := a) (i := 12) (p := 0) h2 (Nat.le_of_ble_eq_true rfl)))
  have g13 := zkp g13 zRg_1 (fun q _ h2 h3 => oq q (znA (a := a) (i := 13) (p := 0) h2 (Nat.le_of_ble_eq_true rfl)))
  have g14 := zkp g14 zRg_1 (fun q _ h2 h3 => oq q (znA (a := a) (i := 14) (p := 0) h2 (Nat.le_of_ble_eq_true rfl)))
  have g15 := zkp g15 zRg_1 (fun q _ h2 h3 => oq q (znA (a := a) (i := 15) (p := 0) h2 (Nat.le_of_ble_eq_true rfl)))
  have g16 := zkp g16 zRg_1 (fun q _ h2 h3 => oq q (znA (a := a) (i := 16) (p := 0) h2 (Nat.le_of_ble_eq_true rfl)))
  have g17 := zkp g17 zRg_1 (fun q _ h2 h3 => oq q (znA (a := a) (i := 17) (p := 0) h2 (Nat.le_of_ble_eq_true rfl)))
  have g18 := zkp g18 zRg_1 (fun q _ h2 h3 => oq q (znA (a := a) (i := 18) (p := 0) h2 (Nat.le_of_ble_eq_true rfl)))
  have g19 := zkp g19 zRg_1 (fun q _ h2 h3 => oq q (znA (a := a) (i := 19) (p := 0) h2 (Nat.le_of_ble_eq_true rfl)))
  have g20 := zkp g20 zRg_1 (fun q _ h2 h3 => oq q (znA (a := a) (i := 20) (p := 0) h2 (Nat.le_of_ble_eq_true rfl)))
  have g21 := zkp g21 zRg_1 (fun q _ h2 h3 => oq q (znA (a := a) (i := 21) (p := 0) h2 (Nat.le_of_ble_eq_true rfl)))
  have g22 := zkp g22 zRg_1 (fun q _ h2 h3 => oq q (znA (a := a) (i := 22) (p := 0) h2 (Nat.le_of_ble_eq_true rfl)))
  have g23 := zkp g23 zRg_1 (fun q _ h2 h3 => oq q (znA (a := a) (i := 23) (p := 0) h2 (Nat.le_of_ble_eq_true rfl)))
  have g24 := zkp g24 zRg_1 (fun q _ h2 h3 => oq q (znA (a := a) (i := 24) (p := 0) h2 (Nat.le_of_ble_eq_true rfl)))
  have g25 := zkp g25 zRg_1 (fun q _ h2 h3 => oq q (znA (a := a) (i := 25) (p := 0) h2 (Nat.le_of_ble_eq_true rfl)))
  have g26 := zkp g26 zRg_1 (fun q _ h2 h3 => oq q (znA (a := a) (i := 26) (p := 0) h2 (Nat.le_of_ble_eq_true rfl)))
  have g27 := zkp g27 zRg_1 (fun q _ h2 h3 => oq q (znA (a := a) (i := 27) (p := 0) h2 (Nat.le_of_ble_eq_true rfl)))
  have g0 : va_P E.1 zcl [(a, .inr (11, [.int 0, .ref (a + 1), .ref (a + 2), .ref (a + 3), .ref (a + 4), .ref (a + 5), .ref (a + 6), .ref (a + 7), .ref (a + 8), .ref (a + 9), .int 0, .int 0, .int 0, .int 0, .int 0, .long 0, .int 0, .int 0, .int 0, .ref (a + 10), .ref (a + 11), .int 0, .int 0, .int 0, .int 0, .int 0, .int 0, .int 0, .ref (a + 12), .ref (a + 13), .ref (a + 14), .ref (a + 15), .ref (a + 16), .int 0, .int 0, .int 0, .ref (a + 17), .ref (a + 18), .ref (a + 19), .ref (a + 20), .ref (a + 21), .ref (a + 22), .ref (a + 23), .int 0, .ref (a + 24), .int 0, .int 0, .ref (a + 25), .ref (a + 26), .int 0, .ref (a + 27), .null]))] H54 := hN
  have hsz := hz1.trans hsz
  refine lv_aload_n hx hb dX11_init_223 rfl (lv_at hl 0 rfl) ?_
  refine lv_iconst (v := (3 : Int32)) hx hb dX11_init_224 (by decide) ?_
  refine zNewa (ws := []) (atype := .boolean) (t := 3) (N := 3) (a0 := (3, .inl (fun _ => 0))) zc hK (fun k q h => by simp at h) hS hsz kac_Z rfl (fun _ => rfl) (by decide) (by decide) (by decide) (Nat.le_of_ble_eq_true rfl) (Nat.le_of_ble_eq_true rfl) dX11_init_225 (fun H55 hN o1 hz1 hS => ?_)
  have g0 := zkp g0 zRg_1 (fun q h1 _ _ => o1 q (Nat.lt_of_lt_of_eq h1 hsz))
  have g1 := zkp g1 zRg_1 (fun q h1 _ _ => o1 q (Nat.lt_of_lt_of_eq h1 hsz))
  have g2 := zkp g2 zRg_1 (fun q h1 _ _ => o1 q (Nat.lt_of_lt_of_eq h1 hsz))
  have g3 := zkp g3 zRg_1 (fun q h1 _ _ => o1 q (Nat.lt_of_lt_of_eq h1 hsz))
  have g4 := zkp g4 zRg_1 (fun q h1 _ _ => o1 q (Nat.lt_of_lt_of_eq h1 hsz))
  have g5 := zkp g5 zRg_1 (fun q h1 _ _ => o1 q (Nat.lt_of_lt_of_eq h1 hsz))
  have g6 := zkp g6 zRg_1 (fun q h1 _ _ => o1 q (Nat.lt_of_lt_of_eq h1 hsz))
  have g7 := zkp g7 zRg_1 (fun q h1 _ _ => o1 q (Nat.lt_of_lt_of_eq h1 hsz))
  have g8 := zkp g8 zRg_1 (fun q h1 _ _ => o1 q (Nat.lt_of_lt_of_eq h1 hsz))
  have g9 := zkp g9 zRg_1 (fun q h1 _ _ => o1 q (Nat.lt_of_lt_of_eq h1 hsz))
  have g10 := zkp g10 zRg_1 (fun q h1 _ _ => o1 q (Nat.lt_of_lt_of_eq h1 hsz))
  have g11 := zkp g11 zRg_1 (fun q h1 _ _ => o1 q (Nat.lt_of_lt_of_eq h1 hsz))
  have g12 := zkp g12 zRg_1 (fun q h1 _ _ => o1 q (Nat.lt_of_lt_of_eq h1 hsz))
  have g13 := zkp g13 zRg_1 (fun q h1 _ _ => o1 q (Nat.lt_of_lt_of_eq h1 hsz))
  have g14 := zkp g14 zRg_1 (fun q h1 _ _ => o1 q (Nat.lt_of_lt_of_eq h1 hsz))
  have g15 := zkp g15 zRg_1 (fun q h1 _ _ => o1 q (Nat.lt_of_lt_of_eq h1 hsz))
  have g16 := zkp g16 zRg_1 (fun q h1 _ _ => o1 q (Nat.lt_of_lt_of_eq h1 hsz))
  have g17 := zkp g17 zRg_1 (fun q h1 _ _ => o1 q (Nat.lt_of_lt_of_eq h1 hsz))
  have g18 := zkp g18 zRg_1 (fun q h1 _ _ => o1 q (Nat.lt_of_lt_of_eq h1 hsz))
  have g19 := zkp g19 zRg_1 (fun q h1 _ _ => o1 q (Nat.lt_of_lt_of_eq h1 hsz))
  have g20 := zkp g20 zRg_1 (fun q h1 _ _ => o1 q (Nat.lt_of_lt_of_eq h1 hsz))
  have g21 := zkp g21 zRg_1 (fun q h1 _ _ => o1 q (Nat.lt_of_lt_of_eq h1 hsz))
  have g22 := zkp g22 zRg_1 (fun q h1 _ _ => o1 q (Nat.lt_of_lt_of_eq h1 hsz))
  have g23 := zkp g23 zRg_1 (fun q h1 _ _ => o1 q (Nat.lt_of_lt_of_eq h1 hsz))
  have g24 := zkp g24 zRg_1 (fun q h1 _ _ => o1 q (Nat.lt_of_lt_of_eq h1 hsz))
  have g25 := zkp g25 zRg_1 (fun q h1 _ _ => o1 q (Nat.lt_of_lt_of_eq h1 hsz))
  have g26 := zkp g26 zRg_1 (fun q h1 _ _ => o1 q (Nat.lt_of_lt_of_eq h1 hsz))
  have g27 := zkp g27 zRg_1 (fun q h1 _ _ => o1 q (Nat.lt_of_lt_of_eq h1 hsz))
  have g28 : va_P E.1 zcl [((a + 28), .inl (E.2 3, 3, .inl (fun _ => 0)))] H55 := hN
  have hsz : H55.size = a + 29 := hz1
  refine W.cs (cells' := 28) (slots' := 13584) rfl rfl ?_
  refine zPut (C := RX11) (T := TX11) (N := 52) (ci := 11) (v := .ref (a + 28)) (ty := .array .boolean) zc hK g0 (zD1 (Nat.le_refl a)) hS uw11 tyX11 tyX11_ok nmX11 0 rfl rfl 51 (by decide) kf_11_94 (fun _ h9 => h9) (Or.inr ⟨rfl, hin, rfl⟩) (by decide +kernel) rfl rfl (Nat.le_of_ble_eq_true rfl) dX11_init_227 (fun H56 locs hN oq hz1 hS => ?_)
  have g1 := zkp g1 zRg_1 (fun q _ h2 h3 => oq q (znA (a := a) (i := 1) (p := 0) h2 (Nat.le_of_ble_eq_true rfl)))
  have g2 := zkp g2 zRg_1 (fun q _ h2 h3 => oq q (znA (a := a) (i := 2) (p := 0) h2 (Nat.le_of_ble_eq_true rfl)))
  have g3 := zkp g3 zRg_1 (fun q _ h2 h3 => oq q (znA (a := a) (i := 3) (p := 0) h2 (Nat.le_of_ble_eq_true rfl)))
  have g4 := zkp g4 zRg_1 (fun q _ h2 h3 => oq q (znA (a := a) (i := 4) (p := 0) h2 (Nat.le_of_ble_eq_true rfl)))
  have g5 := zkp g5 zRg_1 (fun q _ h2 h3 => oq q (znA (a := a) (i := 5) (p := 0) h2 (Nat.le_of_ble_eq_true rfl)))
  have g6 := zkp g6 zRg_1 (fun q _ h2 h3 => oq q (znA (a := a) (i := 6) (p := 0) h2 (Nat.le_of_ble_eq_true rfl)))
  have g7 := zkp g7 zRg_1 (fun q _ h2 h3 => oq q (znA (a := a) (i := 7) (p := 0) h2 (Nat.le_of_ble_eq_true rfl)))
  have g8 := zkp g8 zRg_1 (fun q _ h2 h3 => oq q (znA (a := a) (i := 8) (p := 0) h2 (Nat.le_of_ble_eq_true rfl)))
  have g9 := zkp g9 zRg_1 (fun q _ h2 h3 => oq q (znA (a := a) (i := 9) (p := 0) h2 (Nat.le_of_ble_eq_true rfl)))
  have g10 := zkp g10 zRg_1 (fun q _ h2 h3 => oq q (znA (a := a) (i := 10) (p := 0) h2 (Nat.le_of_ble_eq_true rfl)))
  have g11 := zkp g11 zRg_1 (fun q _ h2 h3 => oq q (znA (a := a) (i := 11) (p := 0) h2 (Nat.le_of_ble_eq_true rfl)))
  have g12 := zkp g12 zRg_1 (fun q _ h2 h3 => oq q (znA (a := a) (i := 12) (p := 0) h2 (Nat.le_of_ble_eq_true rfl)))
  have g13 := zkp g13 zRg_1 (fun q _ h2 h3 => oq q (znA (a := a) (i := 13) (p := 0) h2 (Nat.le_of_ble_eq_true rfl)))
  have g14 := zkp g14 zRg_1 (fun q _ h2 h3 => oq q (znA (a := a) (i := 14) (p := 0) h2 (Nat.le_of_ble_eq_true rfl)))
  have g15 := zkp g15 zRg_1 (fun q _ h2 h3 => oq q (znA (a := a) (i := 15) (p := 0) h2 (Nat.le_of_ble_eq_true rfl)))
  have g16 := zkp g16 zRg_1 (fun q _ h2 h3 => oq q (znA (a := a) (i := 16) (p := 0) h2 (Nat.le_of_ble_eq_true rfl)))
  have g17 := zkp g17 zRg_1 (fun q _ h2 h3 => oq q (znA (a := a) (i := 17) (p := 0) h2 (Nat.le_of_ble_eq_true rfl)))
  have g18 := zkp g18 zRg_1 (fun q _ h2 h3 => oq q (znA (a := a) (i := 18) (p := 0) h2 (Nat.le_of_ble_eq_true rfl)))
  have g19 := zkp g19 zRg_1 (fun q _ h2 h3 => oq q (znA (a := a) (i := 19) (p := 0) h2 (Nat.le_of_ble_eq_true rfl)))
  have g20 := zkp g20 zRg_1 (fun q _ h2 h3 => oq q (znA (a := a) (i := 20) (p := 0) h2 (Nat.le_of_ble_eq_true rfl)))
  have g21 := zkp g21 zRg_1 (fun q _ h2 h3 => oq q (znA (a := a) (i := 21) (p := 0) h2 (Nat.le_of_ble_eq_true rfl)))
  have g22 := zkp g22 zRg_1 (fun q _ h2 h3 => oq q (znA (a := a) (i := 22) (p := 0) h2 (Nat.le_of_ble_eq_true rfl)))
  have g23 := zkp g23 zRg_1 (fun q _ h2 h3 => oq q (znA (a := a) (i := 23) (p := 0) h2 (Nat.le_of_ble_eq_true rfl)))
  have g24 := zkp g24 zRg_1 (fun q _ h2 h3 => oq q (znA (a := a) (i := 24) (p := 0) h2 (Nat.le_of_ble_eq_true rfl)))
  have g25 := zkp g25 zRg_1 (fun q _ h2 h3 => oq q (znA (a := a) (i := 25) (p := 0) h2 (Nat.le_of_ble_eq_true rfl)))
  have g26 := zkp g26 zRg_1 (fun q _ h2 h3 => oq q (znA (a := a) (i := 26) (p := 0) h2 (Nat.le_of_ble_eq_true rfl)))
  have g27 := zkp g27 zRg_1 (fun q _ h2 h3 => oq q (znA (a := a) (i := 27) (p := 0) h2 (Nat.le_of_ble_eq_true rfl)))
  have g28 := zkp g28 zRg_1 (fun q _ h2 h3 => oq q (znA (a := a) (i := 28) (p := 0) h2 (Nat.le_of_ble_eq_true rfl)))
  have g0 : va_P E.1 zcl [(a, .inr (11, [.int 0, .ref (a + 1), .ref (a + 2), .ref (a + 3), .ref (a + 4), .ref (a + 5), .ref (a + 6), .ref (a + 7), .ref (a + 8), .ref (a + 9), .int 0, .int 0, .int 0, .int 0, .int 0, .long 0, .int 0, .int 0, .int 0, .ref (a + 10), .ref (a + 11), .int 0, .int 0, .int 0, .int 0, .int 0, .int 0, .int 0, .ref (a + 12), .ref (a + 13), .ref (a + 14), .ref (a + 15), .ref (a + 16), .int 0, .int 0, .int 0, .ref (a + 17), .ref (a + 18), .ref (a + 19), .ref (a + 20), .ref (a + 21), .ref (a + 22), .ref (a + 23), .int 0, .ref (a + 24), .int 0, .int 0, .ref (a + 25), .ref (a + 26), .int 0, .ref (a + 27), .ref (a + 28)]))] H56 := hN
  have hsz := hz1.trans hsz
  refine lv_aload_n hx hb dX11_init_230 rfl (lv_at hl 0 rfl) ?_
  refine va_get (D := E.1) (ci := 11) (v := .ref (a + 4)) (C := RX11) (T := TX11) (N := 52) hx hb hz uw11 zc.2.2.2.1 hK.1 g0 0 rfl rfl 4 (by decide) (hz _ kf_11_20) (fun _ h9 => h9) rfl dX11_init_231 ?_
  refine lv_iconst (v := (0 : Int32)) hx hb dX11_init_234 (by decide) ?_
  refine lv_iconst (v := (-1 : Int32)) hx hb dX11_init_235 (by decide) ?_
  refine zIast (t := 1) (f := (fun _ => 0)) zc hK g4 (zD1 (Nat.le_add_right a 4)) hS 0 rfl rfl (by unfold vp_in; decide) dX11_init_236 (fun H57 locs hN oq hz1 hS => ?_)
  have g0 := zkp g0 zRg_1 (fun q _ h2 h3 => oq q (znB (a := a) (i := 1) (p := 4) h3 (Nat.le_of_ble_eq_true rfl)))
  have g1 := zkp g1 zRg_1 (fun q _ h2 h3 => oq q (znB (a := a) (i := 2) (p := 4) h3 (Nat.le_of_ble_eq_true rfl)))
  have g2 := zkp g2 zRg_1 (fun q _ h2 h3 => oq q (znB (a := a) (i := 3) (p := 4) h3 (Nat.le_of_ble_eq_true rfl)))
  have g3 := zkp g3 zRg_1 (fun q _ h2 h3 => oq q (znB (a := a) (i := 4) (p := 4) h3 (Nat.le_of_ble_eq_true rfl)))
  have g5 := zkp g5 zRg_1 (fun q _ h2 h3 => oq q (znA (a := a) (i := 5) (p := 4) h2 (Nat.le_of_ble_eq_true rfl)))
  have g6 := zkp g6 zRg_1 (fun q _ h2 h3 => oq q (znA (a := a) (i := 6) (p := 4) h2 (Nat.le_of_ble_eq_true rfl)))
  have g7 := zkp g7 zRg_1 (fun q _ h2 h3 => oq q (znA (a := a) (i := 7) (p := 4) h2 (Nat.le_of_ble_eq_true rfl)))
  have g8 := zkp g8 zRg_1 (fun q _ h2 h3 => oq q (znA (a := a) (i := 8) (p := 4) h2 (Nat.le_of_ble_eq_true rfl)))
  have g9 := zkp g9 zRg_1 (fun q _ h2 h3 => oq q (znA (a := a) (i := 9) (p := 4) h2 (Nat.le_of_ble_eq_true rfl)))
  have g10 := zkp g10 zRg_1 (fun q _ h2 h3 => oq q (znA (a := a) (i := 10) (p := 4) h2 (Nat.le_of_ble_eq_true rfl)))
  have g11 := zkp g11 zRg_1 (fun q _ h2 h3 => oq q (znA (a := a) (i := 11) (p := 4) h2 (Nat.le_of_ble_eq_true rfl)))
  have g12 := zkp g12 zRg_1 (fun q _ h2 h3 => oq q (znA (a := a) (i := 12) (p := 4) h2 (Nat.le_of_ble_eq_true rfl)))
  have g13 := zkp g13 zRg_1 (fun q _ h2 h3 => oq q (znA (a := a) (i := 13) (p := 4) h2 (Nat.le_of_ble_eq_true rfl)))
  have g14 := zkp g14 zRg_1 (fun q _ h2 h3 => oq q (znA (a := a) (i := 14) (p := 4) h2 (Nat.le_of_ble_eq_true rfl)))
  have g15 := zkp g15 zRg_1 (fun q _ h2 h3 => oq q (znA (a := a) (i := 15) (p := 4) h2 (Nat.le_of_ble_eq_true rfl)))
  have g16 := zkp g16 zRg_1 (fun q _ h2 h3 => oq q (znA (a := a) (i := 16) (p := 4) h2 (Nat.le_of_ble_eq_true rfl)))
  have g17 := zkp g17 zRg_1 (fun q _ h2 h3 => oq q (znA (a := a) (i := 17) (p := 4) h2 (Nat.le_of_ble_eq_true rfl)))
  have g18 := zkp g18 zRg_1 (fun q _ h2 h3 => oq q (znA (a := a) (i := 18) (p := 4) h2 (Nat.le_of_ble_eq_true rfl)))
  have g19 := zkp g19 zRg_1 (fun q _ h2 h3 => oq q (znA (a := a) (i := 19) (p := 4) h2 (Nat.le_of_ble_eq_true rfl)))
  have g20 := zkp g20 zRg_1 (fun q _ h2 h3 => oq q (znA (a := a) (i := 20) (p := 4) h2 (Nat.le_of_ble_eq_true rfl)))
  have g21 := zkp g21 zRg_1 (fun q _ h2 h3 => oq q (znA (a := a) (i := 21) (p := 4) h2 (Nat.le_of_ble_eq_true rfl)))
  have g22 := zkp g22 zRg_1 (fun q _ h2 h3 => oq q (znA (a := a) (i := 22) (p := 4) h2 (Nat.le_of_ble_eq_true rfl)))
  have g23 := zkp g23 zRg_1 (fun q _ h2 h3 => oq q (znA (a := a) (i := 23) (p := 4) h2 (Nat.le_of_ble_eq_true rfl)))
  have g24 := zkp g24 zRg_1 (fun q _ h2 h3 => oq q (znA (a := a) (i := 24) (p := 4) h2 (Nat.le_of_ble_eq_true rfl)))
  have g25 := zkp g25 zRg_1 (fun q _ h2 h3 => oq q (znA (a := a) (i := 25) (p := 4) h2 (Nat.le_of_ble_eq_true rfl)))
  have g26 := zkp g26 zRg_1 (fun q _ h2 h3 => oq q (znA (a := a) (i := 26) (p := 4) h2 (Nat.le_of_ble_eq_true rfl)))
  have g27 := zkp g27 zRg_1 (fun q _ h2 h3 => oq q (znA (a := a) (i := 27) (p := 4) h2 (Nat.le_of_ble_eq_true rfl)))
  have g28 := zkp g28 zRg_1 (fun q _ h2 h3 => oq q (znA (a := a) (i := 28) (p := 4) h2 (Nat.le_of_ble_eq_true rfl)))
  have g4 : va_P E.1 zcl [((a + 4), .inl (E.2 1, 4, .inl (upd (fun _ => 0) (Int32.toNatClampNeg (0 : Int32)) (-1 : Int32))))] H57 := hN
  have hsz := hz1.trans hsz
  exact zIret (post := fun _ => True) (B := zJ E a 29 ([(a, .inr (11, [.int 0, .ref (a + 1), .ref (a + 2), .ref (a + 3), .ref (a + 4), .ref (a + 5), .ref (a + 6), .ref (a + 7), .ref (a + 8), .ref (a + 9), .int 0, .int 0, .int 0, .int 0, .int 0, .long 0, .int 0, .int 0, .int 0, .ref (a + 10), .ref (a + 11), .int 0, .int 0, .int 0, .int 0, .int 0, .int 0, .int 0, .ref (a + 12), .ref (a + 13), .ref (a + 14), .ref (a + 15), .ref (a + 16), .int 0, .int 0, .int 0, .ref (a + 17), .ref (a + 18), .ref (a + 19), .ref (a + 20), .ref (a + 21), .ref (a + 22), .ref (a + 23), .int 0, .ref (a + 24), .int 0, .int 0, .ref (a + 25), .ref (a + 26), .int 0, .ref (a + 27), .ref (a + 28)]))] ++ ([((a + 1), .inl (E.2 0, 2400, .inl (fun _ => 0)))] ++ ([((a + 2), .inl (E.2 1, 4, .inl (fun _ => 0)))] ++ ([((a + 3), .inl (E.2 1, 4, .inl (fun _ => 0)))] ++ ([((a + 4), .inl (E.2 1, 4, .inl (upd (fun _ => 0) (Int32.toNatClampNeg (0 : Int32)) (-1 : Int32))))] ++ ([((a + 5), .inl (E.2 1, 16, .inl (fun _ => 0)))] ++ ([((a + 6), .inl (E.2 1, 1056, .inl (fun _ => 0)))] ++ ([((a + 7), .inl (E.2 1, 968, .inl (fun _ => 0)))] ++ ([((a + 8), .inl (E.2 1, 248, .inl (fun _ => 0)))] ++ ([((a + 9), .inl (E.2 1, 160, .inl (fun _ => 0)))] ++ ([((a + 10), .inl (E.2 1, 132, .inl (fun _ => 0)))] ++ ([((a + 11), .inl (E.2 1, 3, .inl (fun _ => 0)))] ++ ([((a + 12), .inl (E.2 1, 6, .inl (fun _ => 0)))] ++ ([((a + 13), .inl (E.2 1, 6, .inl (fun _ => 0)))] ++ ([((a + 14), .inl (E.2 1, 6, .inl (fun _ => 0)))] ++ ([((a + 15), .inl (E.2 1, 9, .inl (fun _ => 0)))] ++ ([((a + 16), .inl (E.2 1, 5, .inl (fun _ => 0)))] ++ ([((a + 17), .inl (E.2 1, 9, .inl (fun _ => 0)))] ++ ([((a + 18), .inl (E.2 1, 9, .inl (fun _ => 0)))] ++ ([((a + 19), .inl (E.2 1, 9, .inl (fun _ => 0)))] ++ ([((a + 20), .inl (E.2 1, 9, .inl (fun _ => 0)))] ++ ([((a + 21), .inl (E.2 1, 9, .inl (fun _ => 0)))] ++ ([((a + 22), .inl (E.2 3, 9, .inl (fun _ => 0)))] ++ ([((a + 23), .inl (E.2 1, 81, .inl (fun _ => 0)))] ++ ([((a + 24), .inl (E.2 1, 81, .inl (fun _ => 0)))] ++ ([((a + 25), .inl (E.2 2, 4608, .inr (.inl (fun _ => 0))))] ++ ([((a + 26), .inl (E.2 3, 3721, .inl (fun _ => 0)))] ++ ([((a + 27), .inl (E.2 1, 9, .inl (fun _ => 0)))] ++ ([((a + 28), .inl (E.2 3, 3, .inl (fun _ => 0)))])))))))))))))))))))))))))))))) () zc hS trivial ⟨(va_P.app g0 (va_P.app g1 (va_P.app g2 (va_P.app g3 (va_P.app g4 (va_P.app g5 (va_P.app g6 (va_P.app g7 (va_P.app g8 (va_P.app g9 (va_P.app g10 (va_P.app g11 (va_P.app g12 (va_P.app g13 (va_P.app g14 (va_P.app g15 (va_P.app g16 (va_P.app g17 (va_P.app g18 (va_P.app g19 (va_P.app g20 (va_P.app g21 (va_P.app g22 (va_P.app g23 (va_P.app g24 (va_P.app g25 (va_P.app g26 (va_P.app g27 g28)))))))))))))))))))))))))))), hsz⟩ dX11_init_237
end
