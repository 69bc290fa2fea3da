-- wx_X10_routes
set_option maxRecDepth 20000 in
theorem s_wx_X10_routes_0 {ta_counts : Nat → Int32} {tl0f_huts : Int32} {tl0f_dams : Int32} {tl0a_heights : Nat → Int32} {tl0a_minutes : Nat → Int32} {tl1f_huts : Int32} {tl1f_dams : Int32} {tl1a_heights : Nat → Int32} {tl1a_minutes : Nat → Int32} {pa_total : Nat → Int32} {pa_longest : Nat → Int32} {pa_now : Nat → Int32} {pa_then : Nat → Int32} {x1 : Int32} {x2 : Int32} {x3 : Int32} {x4 : Int32} {post : Int32 → (Nat → Int32) → (Nat → Int32) → (Nat → Int32) → (Nat → Int32) → Prop} (k_ta_counts : ∀ j, iv 0 2 (ta_counts j)) (k_tl0f_huts : iv 0 9 tl0f_huts) (k_tl0f_dams : iv 0 511 tl0f_dams) (k_tl0a_heights : ∀ j, iv 0 99 (tl0a_heights j)) (k_tl0a_minutes : ∀ j, iv 0 9 (tl0a_minutes j)) (k_tl1f_huts : iv 0 9 tl1f_huts) (k_tl1f_dams : iv 0 511 tl1f_dams) (k_tl1a_heights : ∀ j, iv 0 99 (tl1a_heights j)) (k_tl1a_minutes : ∀ j, iv 0 9 (tl1a_minutes j)) (k_pa_longest : ∀ j, iv 0 8 (pa_longest j)) (hpost : ∀ (r : Int32) (pa_total : Nat → Int32) (pa_longest : Nat → Int32) (pa_now : Nat → Int32) (pa_then : Nat → Int32), (∀ j, iv 0 8 (pa_longest j)) → post r pa_total pa_longest pa_now pa_then) : q_wx_X10_routes_0 ta_counts tl0f_huts tl0f_dams tl0a_heights tl0a_minutes tl1f_huts tl1f_dams tl1a_heights tl1a_minutes pa_total pa_longest pa_now pa_then x1 x2 x3 x4 post := by
  refine ⟨fun c1 => ?_, fun c1 => ?_⟩
  · skip
    refine ⟨fun _ => ?_, fun h => absurd h (by decide), fun h0 h1 => absurd rfl h0⟩
    exact hpost _ _ _ _ _ k_pa_longest
  · skip
    refine ⟨fun c2 => ?_, fun c2 => ?_⟩
    · skip
      refine ⟨fun _ => ?_, fun h => absurd h (by decide), fun h0 h1 => absurd rfl h0⟩
      exact hpost _ _ _ _ _ k_pa_longest
    · skip
      refine ⟨iv_in (iv_lta (l := 0) (h := 1) (r_nle c2) (iv_leb (l := 0) (h := 2147483647) (r_nlt c1) (iv_lit (l := 0) (h := 0) (by decide)) (iv_top x1) (by decide)) (k_ta_counts _) (by decide)) (by decide), fun hc => ?_, fun hc => ?_⟩
      · skip
        refine ⟨fun h => absurd h (by decide), fun h => absurd h (by decide), fun h0 h1 => ?_⟩
        refine ⟨fun c3 => ?_, fun c3 => ?_⟩
        · skip
          refine ⟨fun c4 => ?_, fun c4 => ?_⟩
          · skip
            exact hpost _ _ _ _ _ k_pa_longest
          · skip
            exact (iv_emp (iv_ne (l := 1) (h := 0) c4 (iv_lit (l := 0) (h := 0) (by decide)) (iv_lit (l := 0) (h := 0) (by decide)) (by decide)) (by decide)).elim
        · skip
          refine ⟨fun c5 => ?_, fun c5 => ?_⟩
          · skip
            refine ⟨fun c6 => ?_, fun c6 => ?_⟩
            · skip
              exact hpost _ _ _ _ _ k_pa_longest
            · skip
              exact (iv_emp (iv_ne (l := 1) (h := 0) c6 (iv_lit (l := 0) (h := 0) (by decide)) (iv_lit (l := 0) (h := 0) (by decide)) (by decide)) (by decide)).elim
          · skip
            refine ⟨fun c7 => ?_, fun c7 => ?_⟩
            · skip
              exact (iv_emp (iv_eqa (l := 1) (h := 0) c7 (iv_lit (l := 1) (h := 1) (by decide)) (iv_lit (l := 0) (h := 0) (by decide)) (by decide)) (by decide)).elim
            · skip
              refine ⟨fun c8 => ?_, fun c8 => ?_⟩
              · skip
                refine ⟨fun c9 => ?_, fun c9 => ?_⟩
                · skip
                  exact hpost _ _ _ _ _ k_pa_longest
                · skip
                  exact (iv_emp (iv_ne (l := 1) (h := 0) c9 (iv_lit (l := 0) (h := 0) (by decide)) (iv_lit (l := 0) (h := 0) (by decide)) (by decide)) (by decide)).elim
              · skip
                refine ⟨fun c10 => ?_, fun c10 => ?_⟩
                · skip
                  refine ⟨fun c11 => ?_, fun c11 => ?_⟩
                  · skip
                    exact hpost _ _ _ _ _ k_pa_longest
                  · skip
                    exact (iv_emp (iv_ne (l := 1) (h := 0) c11 (iv_lit (l := 0) (h := 0) (by decide)) (iv_lit (l := 0) (h := 0) (by decide)) (by decide)) (by decide)).elim
                · skip
                  refine ⟨fun c12 => ?_, fun c12 => ?_⟩
                  · skip
                    exact (iv_emp (iv_eqa (l := 1) (h := 0) c12 (iv_lit (l := 1) (h := 1) (by decide)) (iv_lit (l := 0) (h := 0) (by decide)) (by decide)) (by decide)).elim
                  · skip
                    refine ⟨fun c13 => ?_, fun c13 => ?_⟩
                    · skip
                      exact hpost _ _ _ _ _ k_pa_longest
                    · skip
                      refine ⟨fun c14 => ?_, fun c14 => ?_⟩
                      · skip
                        exact hpost _ _ _ _ _ k_pa_longest
                      · skip
                        refine ⟨fun c15 => ?_, fun c15 => ?_⟩
                        · skip
                          refine s_wp_X7_trace_9_0 k_pa_longest (iv_ltb (l := 1) (h := 9) (r_nle c5) (iv_leb (l := 0) (h := 2147483647) (r_nlt c3) (iv_lit (l := 0) (h := 0) (by decide)) (iv_top x2) (by decide)) k_tl0f_huts (by decide)) k_tl0f_dams k_tl0a_heights k_tl0a_minutes (iv_lta (l := 0) (h := 8) (r_nle c5) (iv_leb (l := 0) (h := 2147483647) (r_nlt c3) (iv_lit (l := 0) (h := 0) (by decide)) (iv_top x2) (by decide)) k_tl0f_huts (by decide)) (fun o16 o17 o18 o19 k_o17 => ?_)
                          refine ⟨fun c20 => ?_, fun c20 => ?_⟩
                          · skip
                            refine ⟨iv_in (iv_lta (l := 0) (h := 8) (r_nle c10) (iv_leb (l := 0) (h := 2147483647) (r_nlt c8) (iv_lit (l := 0) (h := 0) (by decide)) (iv_top x3) (by decide)) (iv_ltb (l := 1) (h := 9) (r_nle c5) (iv_leb (l := 0) (h := 2147483647) (r_nlt c3) (iv_lit (l := 0) (h := 0) (by decide)) (iv_top x2) (by decide)) k_tl0f_huts (by decide)) (by decide)) (by decide), ?_⟩
                            refine ⟨fun c21 => ?_, fun c21 => ?_⟩
                            · skip
                              refine ⟨fun c22 => ?_, fun c22 => ?_⟩
                              · skip
                                refine s_wp_X7_steepest_9_0 (iv_ltb (l := 1) (h := 9) (r_nle c5) (iv_leb (l := 0) (h := 2147483647) (r_nlt c3) (iv_lit (l := 0) (h := 0) (by decide)) (iv_top x2) (by decide)) k_tl0f_huts (by decide)) k_tl0f_dams k_tl0a_heights k_tl0a_minutes (iv_lta (l := 0) (h := 8) (r_nle c5) (iv_leb (l := 0) (h := 2147483647) (r_nlt c3) (iv_lit (l := 0) (h := 0) (by decide)) (iv_top x2) (by decide)) k_tl0f_huts (by decide)) (iv_lta (l := 0) (h := 8) (r_nle c10) (iv_leb (l := 0) (h := 2147483647) (r_nlt c8) (iv_lit (l := 0) (h := 0) (by decide)) (iv_top x3) (by decide)) (iv_ltb (l := 1) (h := 9) (r_nle c5) (iv_leb (l := 0) (h := 2147483647) (r_nlt c3) (iv_lit (l := 0) (h := 0) (by decide)) (iv_top x2) (by decide)) k_tl0f_huts (by decide)) (by decide)) (fun r23 o24 => ?_)
                                exact hpost _ _ _ _ _ k_o17
                              · skip
                                refine ⟨iv_in (iv_lta (l := 0) (h := 8) (r_nle c10) (iv_leb (l := 0) (h := 2147483647) (r_nlt c8) (iv_lit (l := 0) (h := 0) (by decide)) (iv_top x3) (by decide)) (iv_ltb (l := 1) (h := 9) (r_nle c5) (iv_leb (l := 0) (h := 2147483647) (r_nlt c3) (iv_lit (l := 0) (h := 0) (by decide)) (iv_top x2) (by decide)) k_tl0f_huts (by decide)) (by decide)) (by decide), ?_⟩
                                exact hpost _ _ _ _ _ k_o17
                            · skip
                              exact hpost _ _ _ _ _ k_o17
                          · skip
                            refine ⟨iv_in (iv_lta (l := 0) (h := 8) (r_nle c10) (iv_leb (l := 0) (h := 2147483647) (r_nlt c8) (iv_lit (l := 0) (h := 0) (by decide)) (iv_top x3) (by decide)) (iv_ltb (l := 1) (h := 9) (r_nle c5) (iv_leb (l := 0) (h := 2147483647) (r_nlt c3) (iv_lit (l := 0) (h := 0) (by decide)) (iv_top x2) (by decide)) k_tl0f_huts (by decide)) (by decide)) (by decide), ?_⟩
                            exact hpost _ _ _ _ _ k_o17
                        · skip
                          exact hpost _ _ _ _ _ k_pa_longest
      · skip
        refine ⟨fun h => absurd h (by decide), fun _ => ?_, fun h0 h1 => absurd rfl h1⟩
        refine ⟨fun c25 => ?_, fun c25 => ?_⟩
        · skip
          refine ⟨fun c26 => ?_, fun c26 => ?_⟩
          · skip
            exact hpost _ _ _ _ _ k_pa_longest
          · skip
            exact (iv_emp (iv_ne (l := 1) (h := 0) c26 (iv_lit (l := 0) (h := 0) (by decide)) (iv_lit (l := 0) (h := 0) (by decide)) (by decide)) (by decide)).elim
        · skip
          refine ⟨fun c27 => ?_, fun c27 => ?_⟩
          · skip
            refine ⟨fun c28 => ?_, fun c28 => ?_⟩
            · skip
              exact hpost _ _ _ _ _ k_pa_longest
            · skip
              exact (iv_emp (iv_ne (l := 1) (h := 0) c28 (iv_lit (l := 0) (h := 0) (by decide)) (iv_lit (l := 0) (h := 0) (by decide)) (by decide)) (by decide)).elim
          · skip
            refine ⟨fun c29 => ?_, fun c29 => ?_⟩
            · skip
              exact (iv_emp (iv_eqa (l := 1) (h := 0) c29 (iv_lit (l := 1) (h := 1) (by decide)) (iv_lit (l := 0) (h := 0) (by decide)) (by decide)) (by decide)).elim
            · skip
              refine ⟨fun c30 => ?_, fun c30 => ?_⟩
              · skip
                refine ⟨fun c31 => ?_, fun c31 => ?_⟩
                · skip
                  exact hpost _ _ _ _ _ k_pa_longest
                · skip
                  exact (iv_emp (iv_ne (l := 1) (h := 0) c31 (iv_lit (l := 0) (h := 0) (by decide)) (iv_lit (l := 0) (h := 0) (by decide)) (by decide)) (by decide)).elim
              · skip
                refine ⟨fun c32 => ?_, fun c32 => ?_⟩
                · skip
                  refine ⟨fun c33 => ?_, fun c33 => ?_⟩
                  · skip
                    exact hpost _ _ _ _ _ k_pa_longest
                  · skip
                    exact (iv_emp (iv_ne (l := 1) (h := 0) c33 (iv_lit (l := 0) (h := 0) (by decide)) (iv_lit (l := 0) (h := 0) (by decide)) (by decide)) (by decide)).elim
                · skip
                  refine ⟨fun c34 => ?_, fun c34 => ?_⟩
                  · skip
                    exact (iv_emp (iv_eqa (l := 1) (h := 0) c34 (iv_lit (l := 1) (h := 1) (by decide)) (iv_lit (l := 0) (h := 0) (by decide)) (by decide)) (by decide)).elim
                  · skip
                    refine ⟨fun c35 => ?_, fun c35 => ?_⟩
                    · skip
                      exact hpost _ _ _ _ _ k_pa_longest
                    · skip
                      refine ⟨fun c36 => ?_, fun c36 => ?_⟩
                      · skip
                        exact hpost _ _ _ _ _ k_pa_longest
                      · skip
                        refine ⟨fun c37 => ?_, fun c37 => ?_⟩
                        · skip
                          refine s_wp_X7_trace_9_0 k_pa_longest (iv_ltb (l := 1) (h := 9) (r_nle c27) (iv_leb (l := 0) (h := 2147483647) (r_nlt c25) (iv_lit (l := 0) (h := 0) (by decide)) (iv_top x2) (by decide)) k_tl1f_huts (by decide)) k_tl1f_dams k_tl1a_heights k_tl1a_minutes (iv_lta (l := 0) (h := 8) (r_nle c27) (iv_leb (l := 0) (h := 2147483647) (r_nlt c25) (iv_lit (l := 0) (h := 0) (by decide)) (iv_top x2) (by decide)) k_tl1f_huts (by decide)) (fun o38 o39 o40 o41 k_o39 => ?_)
                          refine ⟨fun c42 => ?_, fun c42 => ?_⟩
                          · skip
                            refine ⟨iv_in (iv_lta (l := 0) (h := 8) (r_nle c32) (iv_leb (l := 0) (h := 2147483647) (r_nlt c30) (iv_lit (l := 0) (h := 0) (by decide)) (iv_top x3) (by decide)) (iv_ltb (l := 1) (h := 9) (r_nle c27) (iv_leb (l := 0) (h := 2147483647) (r_nlt c25) (iv_lit (l := 0) (h := 0) (by decide)) (iv_top x2) (by decide)) k_tl1f_huts (by decide)) (by decide)) (by decide), ?_⟩
                            refine ⟨fun c43 => ?_, fun c43 => ?_⟩
                            · skip
                              refine ⟨fun c44 => ?_, fun c44 => ?_⟩
                              · skip
                                refine s_wp_X7_steepest_9_0 (iv_ltb (l := 1) (h := 9) (r_nle c27) (iv_leb (l := 0) (h := 2147483647) (r_nlt c25) (iv_lit (l := 0) (h := 0) (by decide)) (iv_top x2) (by decide)) k_tl1f_huts (by decide)) k_tl1f_dams k_tl1a_heights k_tl1a_minutes (iv_lta (l := 0) (h := 8) (r_nle c27) (iv_leb (l := 0) (h := 2147483647) (r_nlt c25) (iv_lit (l := 0) (h := 0) (by decide)) (iv_top x2) (by decide)) k_tl1f_huts (by decide)) (iv_lta (l := 0) (h := 8) (r_nle c32) (iv_leb (l := 0) (h := 2147483647) (r_nlt c30) (iv_lit (l := 0) (h := 0) (by decide)) (iv_top x3) (by decide)) (iv_ltb (l := 1) (h := 9) (r_nle c27) (iv_leb (l := 0) (h := 2147483647) (r_nlt c25) (iv_lit (l := 0) (h := 0) (by decide)) (iv_top x2) (by decide)) k_tl1f_huts (by decide)) (by decide)) (fun r45 o46 => ?_)
                                exact hpost _ _ _ _ _ k_o39
                              · skip
                                refine ⟨iv_in (iv_lta (l := 0) (h := 8) (r_nle c32) (iv_leb (l := 0) (h := 2147483647) (r_nlt c30) (iv_lit (l := 0) (h := 0) (by decide)) (iv_top x3) (by decide)) (iv_ltb (l := 1) (h := 9) (r_nle c27) (iv_leb (l := 0) (h := 2147483647) (r_nlt c25) (iv_lit (l := 0) (h := 0) (by decide)) (iv_top x2) (by decide)) k_tl1f_huts (by decide)) (by decide)) (by decide), ?_⟩
                                exact hpost _ _ _ _ _ k_o39
                            · skip
                              exact hpost _ _ _ _ _ k_o39
                          · skip
                            refine ⟨iv_in (iv_lta (l := 0) (h := 8) (r_nle c32) (iv_leb (l := 0) (h := 2147483647) (r_nlt c30) (iv_lit (l := 0) (h := 0) (by decide)) (iv_top x3) (by decide)) (iv_ltb (l := 1) (h := 9) (r_nle c27) (iv_leb (l := 0) (h := 2147483647) (r_nlt c25) (iv_lit (l := 0) (h := 0) (by decide)) (iv_top x2) (by decide)) k_tl1f_huts (by decide)) (by decide)) (by decide), ?_⟩
                            exact hpost _ _ _ _ _ k_o39
                        · skip
                          exact hpost _ _ _ _ _ k_pa_longest
-- wx_X10_mutes
set_option maxRecDepth 20000 in
theorem s_wx_X10_mutes_46k1 {ta_counts : Nat → Int32} {tl0f_huts : Int32} {tl0f_dams : Int32} {tl0f_echoes : Int32} {tl0a_heights : Nat → Int32} {tl0a_minutes : Nat → Int32} {tl0a_echoFrom : Nat → Int32} {tl0a_echoTo : Nat → Int32} {tl1f_huts : Int32} {tl1f_dams : Int32} {tl1f_echoes : Int32} {tl1a_heights : Nat → Int32} {tl1a_minutes : Nat → Int32} {tl1a_echoFrom : Nat → Int32} {tl1a_echoTo : Nat → Int32} {pa_next : Nat → Int32} {x2 : Int32} {x3 : Int32} {post : Int32 → (Nat → Int32) → Prop} (k_ta_counts : ∀ j, iv 0 2 (ta_counts j)) (k_tl0f_huts : iv 0 9 tl0f_huts) (k_tl0f_dams : iv 0 511 tl0f_dams) (k_tl0f_echoes : iv 0 4 tl0f_echoes) (k_tl0a_heights : ∀ j, iv 0 99 (tl0a_heights j)) (k_tl0a_minutes : ∀ j, iv 0 9 (tl0a_minutes j)) (k_tl0a_echoFrom : ∀ j, iv 0 8 (tl0a_echoFrom j)) (k_tl0a_echoTo : ∀ j, iv 0 8 (tl0a_echoTo j)) (k_tl1f_huts : iv 1 9 tl1f_huts) (k_tl1f_dams : iv 0 511 tl1f_dams) (k_tl1f_echoes : iv 0 4 tl1f_echoes) (k_tl1a_heights : ∀ j, iv 0 99 (tl1a_heights j)) (k_tl1a_minutes : ∀ j, iv 0 9 (tl1a_minutes j)) (k_tl1a_echoFrom : ∀ j, iv 0 8 (tl1a_echoFrom j)) (k_tl1a_echoTo : ∀ j, iv 0 8 (tl1a_echoTo j)) (k_pa_next : ∀ j, iv 0 511 (pa_next j)) (hx2 : iv 0 8 x2) (hx3 : iv (-1) 8 x3) (hpost : ∀ (r : Int32) (pa_next : Nat → Int32), iv (-2) 63 r → (∀ j, iv 0 511 (pa_next j)) → post r pa_next) : q_wx_X10_mutes_46k1 ta_counts tl0f_huts tl0f_dams tl0f_echoes tl0a_heights tl0a_minutes tl0a_echoFrom tl0a_echoTo tl1f_huts tl1f_dams tl1f_echoes tl1a_heights tl1a_minutes tl1a_echoFrom tl1a_echoTo pa_next x2 x3 post := by
  refine s_wp_X7_link_9_0 k_pa_next k_tl1f_huts k_tl1f_dams k_tl1f_echoes k_tl1a_heights k_tl1a_minutes k_tl1a_echoFrom k_tl1a_echoTo (fun o1 k_o1 => ?_)
  refine ⟨fun c2 => ?_, fun c2 => ?_⟩
  · skip
    refine s_wp_X7_reach_5_0 k_o1 hx2 (iv_w (iv_lit (l := 0) (h := 0) (by decide)) (by decide)) (fun r3 hr3 => ?_)
    refine s_wp_X7_reach_5_0 k_o1 hx2 (iv_w (iv_shl1 (l := 1) (h := 256) (iv_lit (l := 1) (h := 1) (by decide)) (iv_ne (l := 0) (h := 8) c2 hx3 (iv_lit (l := (-1)) (h := (-1)) (by decide)) (by decide)) (by decide)) (by decide)) (fun r4 hr4 => ?_)
    refine s_z_J6_bitCount_0f7a4_0 (iv_w (iv_andl (l := 0) (h := 511) (iv_andl (l := 0) (h := 511) hr3 (by decide)) (by decide)) (by decide)) (fun r5 hr5 => ?_)
    exact hpost _ _ (iv_w hr5 (by decide)) k_o1
  · skip
    refine s_wp_X7_worst_9_0 k_o1 k_tl1f_huts k_tl1f_dams hx2 (fun r6 hr6 => ?_)
    exact hpost _ _ (iv_w hr6 (by decide)) k_o1
set_option maxRecDepth 20000 in
theorem s_wx_X10_mutes_46k0 {ta_counts : Nat → Int32} {tl0f_huts : Int32} {tl0f_dams : Int32} {tl0f_echoes : Int32} {tl0a_heights : Nat → Int32} {tl0a_minutes : Nat → Int32} {tl0a_echoFrom : Nat → Int32} {tl0a_echoTo : Nat → Int32} {tl1f_huts : Int32} {tl1f_dams : Int32} {tl1f_echoes : Int32} {tl1a_heights : Nat → Int32} {tl1a_minutes : Nat → Int32} {tl1a_echoFrom : Nat → Int32} {tl1a_echoTo : Nat → Int32} {pa_next : Nat → Int32} {x2 : Int32} {x3 : Int32} {post : Int32 → (Nat → Int32) → Prop} (k_ta_counts : ∀ j, iv 0 2 (ta_counts j)) (k_tl0f_huts : iv 1 9 tl0f_huts) (k_tl0f_dams : iv 0 511 tl0f_dams) (k_tl0f_echoes : iv 0 4 tl0f_echoes) (k_tl0a_heights : ∀ j, iv 0 99 (tl0a_heights j)) (k_tl0a_minutes : ∀ j, iv 0 9 (tl0a_minutes j)) (k_tl0a_echoFrom : ∀ j, iv 0 8 (tl0a_echoFrom j)) (k_tl0a_echoTo : ∀ j, iv 0 8 (tl0a_echoTo j)) (k_tl1f_huts : iv 0 9 tl1f_huts) (k_tl1f_dams : iv 0 511 tl1f_dams) (k_tl1f_echoes : iv 0 4 tl1f_echoes) (k_tl1a_heights : ∀ j, iv 0 99 (tl1a_heights j)) (k_tl1a_minutes : ∀ j, iv 0 9 (tl1a_minutes j)) (k_tl1a_echoFrom : ∀ j, iv 0 8 (tl1a_echoFrom j)) (k_tl1a_echoTo : ∀ j, iv 0 8 (tl1a_echoTo j)) (k_pa_next : ∀ j, iv 0 511 (pa_next j)) (hx2 : iv 0 8 x2) (hx3 : iv (-1) 8 x3) (hpost : ∀ (r : Int32) (pa_next : Nat → Int32), iv (-2) 63 r → (∀ j, iv 0 511 (pa_next j)) → post r pa_next) : q_wx_X10_mutes_46k0 ta_counts tl0f_huts tl0f_dams tl0f_echoes tl0a_heights tl0a_minutes tl0a_echoFrom tl0a_echoTo tl1f_huts tl1f_dams tl1f_echoes tl1a_heights tl1a_minutes tl1a_echoFrom tl1a_echoTo pa_next x2 x3 post := by
  refine s_wp_X7_link_9_0 k_pa_next k_tl0f_huts k_tl0f_dams k_tl0f_echoes k_tl0a_heights k_tl0a_minutes k_tl0a_echoFrom k_tl0a_echoTo (fun o1 k_o1 => ?_)
  refine ⟨fun c2 => ?_, fun c2 => ?_⟩
  · skip
    refine s_wp_X7_reach_5_0 k_o1 hx2 (iv_w (iv_lit (l := 0) (h := 0) (by decide)) (by decide)) (fun r3 hr3 => ?_)
    refine s_wp_X7_reach_5_0 k_o1 hx2 (iv_w (iv_shl1 (l := 1) (h := 256) (iv_lit (l := 1) (h := 1) (by decide)) (iv_ne (l := 0) (h := 8) c2 hx3 (iv_lit (l := (-1)) (h := (-1)) (by decide)) (by decide)) (by decide)) (by decide)) (fun r4 hr4 => ?_)
    refine s_z_J6_bitCount_0f7a4_0 (iv_w (iv_andl (l := 0) (h := 511) (iv_andl (l := 0) (h := 511) hr3 (by decide)) (by decide)) (by decide)) (fun r5 hr5 => ?_)
    exact hpost _ _ (iv_w hr5 (by decide)) k_o1
  · skip
    refine s_wp_X7_worst_9_0 k_o1 k_tl0f_huts k_tl0f_dams hx2 (fun r6 hr6 => ?_)
    exact hpost _ _ (iv_w hr6 (by decide)) k_o1
set_option maxRecDepth 20000 in
theorem s_wx_X10_mutes_0 {ta_counts : Nat → Int32} {tl0f_huts : Int32} {tl0f_dams : Int32} {tl0f_echoes : Int32} {tl0a_heights : Nat → Int32} {tl0a_minutes : Nat → Int32} {tl0a_echoFrom : Nat → Int32} {tl0a_echoTo : Nat → Int32} {tl1f_huts : Int32} {tl1f_dams : Int32} {tl1f_echoes : Int32} {tl1a_heights : Nat → Int32} {tl1a_minutes : Nat → Int32} {tl1a_echoFrom : Nat → Int32} {tl1a_echoTo : Nat → Int32} {pa_next : Nat → Int32} {x1 : Int32} {x2 : Int32} {x3 : Int32} {post : Int32 → (Nat → Int32) → Prop} (k_ta_counts : ∀ j, iv 0 2 (ta_counts j)) (k_tl0f_huts : iv 0 9 tl0f_huts) (k_tl0f_dams : iv 0 511 tl0f_dams) (k_tl0f_echoes : iv 0 4 tl0f_echoes) (k_tl0a_heights : ∀ j, iv 0 99 (tl0a_heights j)) (k_tl0a_minutes : ∀ j, iv 0 9 (tl0a_minutes j)) (k_tl0a_echoFrom : ∀ j, iv 0 8 (tl0a_echoFrom j)) (k_tl0a_echoTo : ∀ j, iv 0 8 (tl0a_echoTo j)) (k_tl1f_huts : iv 0 9 tl1f_huts) (k_tl1f_dams : iv 0 511 tl1f_dams) (k_tl1f_echoes : iv 0 4 tl1f_echoes) (k_tl1a_heights : ∀ j, iv 0 99 (tl1a_heights j)) (k_tl1a_minutes : ∀ j, iv 0 9 (tl1a_minutes j)) (k_tl1a_echoFrom : ∀ j, iv 0 8 (tl1a_echoFrom j)) (k_tl1a_echoTo : ∀ j, iv 0 8 (tl1a_echoTo j)) (k_pa_next : ∀ j, iv 0 511 (pa_next j)) (hpost : ∀ (r : Int32) (pa_next : Nat → Int32), iv (-2) 63 r → (∀ j, iv 0 511 (pa_next j)) → post r pa_next) : q_wx_X10_mutes_0 ta_counts tl0f_huts tl0f_dams tl0f_echoes tl0a_heights tl0a_minutes tl0a_echoFrom tl0a_echoTo tl1f_huts tl1f_dams tl1f_echoes tl1a_heights tl1a_minutes tl1a_echoFrom tl1a_echoTo pa_next x1 x2 x3 post := by
  refine ⟨fun c1 => ?_, fun c1 => ?_⟩
  · skip
    refine ⟨fun _ => ?_, fun h => absurd h (by decide), fun h0 h1 => absurd rfl h0⟩
    exact hpost _ _ (iv_w (iv_lit (l := (-2)) (h := (-2)) (by decide)) (by decide)) k_pa_next
  · skip
    refine ⟨fun c2 => ?_, fun c2 => ?_⟩
    · skip
      refine ⟨fun _ => ?_, fun h => absurd h (by decide), fun h0 h1 => absurd rfl h0⟩
      exact hpost _ _ (iv_w (iv_lit (l := (-2)) (h := (-2)) (by decide)) (by decide)) k_pa_next
    · skip
      refine ⟨iv_in (iv_lta (l := 0) (h := 1) (r_nle c2) (iv_leb (l := 0) (h := 2147483647) (r_nlt c1) (iv_lit (l := 0) (h := 0) (by decide)) (iv_top x1) (by decide)) (k_ta_counts _) (by decide)) (by decide), fun hc => ?_, fun hc => ?_⟩
      · skip
        refine ⟨fun h => absurd h (by decide), fun h => absurd h (by decide), fun h0 h1 => ?_⟩
        refine ⟨fun c3 => ?_, fun c3 => ?_⟩
        · skip
          refine ⟨fun c4 => ?_, fun c4 => ?_⟩
          · skip
            refine ⟨fun c5 => ?_, fun c5 => ?_⟩
            · skip
              exact (iv_emp (iv_ne (l := 1) (h := 0) c5 (iv_lit (l := 0) (h := 0) (by decide)) (iv_lit (l := 0) (h := 0) (by decide)) (by decide)) (by decide)).elim
            · skip
              exact hpost _ _ (iv_w (iv_lit (l := (-2)) (h := (-2)) (by decide)) (by decide)) k_pa_next
          · skip
            exact (iv_emp (iv_ne (l := 1) (h := 0) c4 (iv_lit (l := 0) (h := 0) (by decide)) (iv_lit (l := 0) (h := 0) (by decide)) (by decide)) (by decide)).elim
        · skip
          refine ⟨fun c6 => ?_, fun c6 => ?_⟩
          · skip
            refine ⟨fun c7 => ?_, fun c7 => ?_⟩
            · skip
              refine ⟨fun c8 => ?_, fun c8 => ?_⟩
              · skip
                exact (iv_emp (iv_ne (l := 1) (h := 0) c8 (iv_lit (l := 0) (h := 0) (by decide)) (iv_lit (l := 0) (h := 0) (by decide)) (by decide)) (by decide)).elim
              · skip
                exact hpost _ _ (iv_w (iv_lit (l := (-2)) (h := (-2)) (by decide)) (by decide)) k_pa_next
            · skip
              exact (iv_emp (iv_ne (l := 1) (h := 0) c7 (iv_lit (l := 0) (h := 0) (by decide)) (iv_lit (l := 0) (h := 0) (by decide)) (by decide)) (by decide)).elim
          · skip
            refine ⟨fun c9 => ?_, fun c9 => ?_⟩
            · skip
              exact (iv_emp (iv_eqa (l := 1) (h := 0) c9 (iv_lit (l := 1) (h := 1) (by decide)) (iv_lit (l := 0) (h := 0) (by decide)) (by decide)) (by decide)).elim
            · skip
              refine ⟨fun c10 => ?_, fun c10 => ?_⟩
              · skip
                refine ⟨fun c11 => ?_, fun c11 => ?_⟩
                · skip
                  exact (iv_emp (iv_ne (l := 1) (h := 0) c11 (iv_lit (l := 0) (h := 0) (by decide)) (iv_lit (l := 0) (h := 0) (by decide)) (by decide)) (by decide)).elim
                · skip
                  refine ⟨fun c12 => ?_, fun c12 => ?_⟩
                  · skip
                    refine ⟨fun c13 => ?_, fun c13 => ?_⟩
                    · skip
                      exact s_wx_X10_mutes_46k0 k_ta_counts (iv_ltb (l := 1) (h := 9) (r_nle c6) (iv_leb (l := 0) (h := 2147483647) (r_nlt c3) (iv_lit (l := 0) (h := 0) (by decide)) (iv_top x2) (by decide)) k_tl0f_huts (by decide)) k_tl0f_dams k_tl0f_echoes k_tl0a_heights k_tl0a_minutes k_tl0a_echoFrom k_tl0a_echoTo k_tl1f_huts k_tl1f_dams k_tl1f_echoes k_tl1a_heights k_tl1a_minutes k_tl1a_echoFrom k_tl1a_echoTo k_pa_next (iv_lta (l := 0) (h := 8) (r_nle c6) (iv_leb (l := 0) (h := 2147483647) (r_nlt c3) (iv_lit (l := 0) (h := 0) (by decide)) (iv_top x2) (by decide)) k_tl0f_huts (by decide)) (iv_w (iv_eqa (l := (-1)) (h := (-1)) c13 (iv_top x3) (iv_lit (l := (-1)) (h := (-1)) (by decide)) (by decide)) (by decide)) hpost
                    · skip
                      refine ⟨fun c14 => ?_, fun c14 => ?_⟩
                      · skip
                        refine ⟨fun c15 => ?_, fun c15 => ?_⟩
                        · skip
                          refine ⟨fun c16 => ?_, fun c16 => ?_⟩
                          · skip
                            exact hpost _ _ (iv_w (iv_lit (l := (-2)) (h := (-2)) (by decide)) (by decide)) k_pa_next
                          · skip
                            exact (iv_emp (iv_ne (l := 1) (h := 0) c16 (iv_lit (l := 0) (h := 0) (by decide)) (iv_lit (l := 0) (h := 0) (by decide)) (by decide)) (by decide)).elim
                        · skip
                          exact (iv_emp (iv_ne (l := 1) (h := 0) c15 (iv_lit (l := 0) (h := 0) (by decide)) (iv_lit (l := 0) (h := 0) (by decide)) (by decide)) (by decide)).elim
                      · skip
                        refine ⟨fun c17 => ?_, fun c17 => ?_⟩
                        · skip
                          refine ⟨fun c18 => ?_, fun c18 => ?_⟩
                          · skip
                            refine ⟨fun c19 => ?_, fun c19 => ?_⟩
                            · skip
                              exact hpost _ _ (iv_w (iv_lit (l := (-2)) (h := (-2)) (by decide)) (by decide)) k_pa_next
                            · skip
                              exact (iv_emp (iv_ne (l := 1) (h := 0) c19 (iv_lit (l := 0) (h := 0) (by decide)) (iv_lit (l := 0) (h := 0) (by decide)) (by decide)) (by decide)).elim
                          · skip
                            exact (iv_emp (iv_ne (l := 1) (h := 0) c18 (iv_lit (l := 0) (h := 0) (by decide)) (iv_lit (l := 0) (h := 0) (by decide)) (by decide)) (by decide)).elim
                        · skip
                          refine ⟨fun c20 => ?_, fun c20 => ?_⟩
                          · skip
                            exact (iv_emp (iv_eqa (l := 1) (h := 0) c20 (iv_lit (l := 1) (h := 1) (by decide)) (iv_lit (l := 0) (h := 0) (by decide)) (by decide)) (by decide)).elim
                          · skip
                            refine ⟨fun c21 => ?_, fun c21 => ?_⟩
                            · skip
                              refine ⟨fun c22 => ?_, fun c22 => ?_⟩
                              · skip
                                exact (iv_emp (iv_ne (l := 1) (h := 0) c22 (iv_lit (l := 0) (h := 0) (by decide)) (iv_lit (l := 0) (h := 0) (by decide)) (by decide)) (by decide)).elim
                              · skip
                                refine ⟨fun c23 => ?_, fun c23 => ?_⟩
                                · skip
                                  exact (iv_emp (iv_eqa (l := 1) (h := 0) c23 (iv_lit (l := 1) (h := 1) (by decide)) (iv_lit (l := 0) (h := 0) (by decide)) (by decide)) (by decide)).elim
                                · skip
                                  refine ⟨fun c24 => ?_, fun c24 => ?_⟩
                                  · skip
                                    exact s_wx_X10_mutes_46k0 k_ta_counts (iv_ltb (l := 1) (h := 9) (r_nle c6) (iv_leb (l := 0) (h := 2147483647) (r_nlt c3) (iv_lit (l := 0) (h := 0) (by decide)) (iv_top x2) (by decide)) k_tl0f_huts (by decide)) k_tl0f_dams k_tl0f_echoes k_tl0a_heights k_tl0a_minutes k_tl0a_echoFrom k_tl0a_echoTo k_tl1f_huts k_tl1f_dams k_tl1f_echoes k_tl1a_heights k_tl1a_minutes k_tl1a_echoFrom k_tl1a_echoTo k_pa_next (iv_lta (l := 0) (h := 8) (r_nle c6) (iv_leb (l := 0) (h := 2147483647) (r_nlt c3) (iv_lit (l := 0) (h := 0) (by decide)) (iv_top x2) (by decide)) k_tl0f_huts (by decide)) (iv_w (iv_lta (l := 0) (h := 8) (r_nle c17) (iv_leb (l := 0) (h := 2147483647) (r_nlt c14) (iv_lit (l := 0) (h := 0) (by decide)) (iv_top x3) (by decide)) (iv_ltb (l := 1) (h := 9) (r_nle c6) (iv_leb (l := 0) (h := 2147483647) (r_nlt c3) (iv_lit (l := 0) (h := 0) (by decide)) (iv_top x2) (by decide)) k_tl0f_huts (by decide)) (by decide)) (by decide)) hpost
                                  · skip
                                    exact hpost _ _ (iv_w (iv_lit (l := (-2)) (h := (-2)) (by decide)) (by decide)) k_pa_next
                            · skip
                              refine ⟨fun c25 => ?_, fun c25 => ?_⟩
                              · skip
                                refine ⟨fun c26 => ?_, fun c26 => ?_⟩
                                · skip
                                  exact hpost _ _ (iv_w (iv_lit (l := (-2)) (h := (-2)) (by decide)) (by decide)) k_pa_next
                                · skip
                                  exact (iv_emp (iv_ne (l := 1) (h := 0) c26 (iv_lit (l := 0) (h := 0) (by decide)) (iv_lit (l := 0) (h := 0) (by decide)) (by decide)) (by decide)).elim
                              · skip
                                exact (iv_emp (iv_eqa (l := 1) (h := 0) c25 (iv_lit (l := 1) (h := 1) (by decide)) (iv_lit (l := 0) (h := 0) (by decide)) (by decide)) (by decide)).elim
                  · skip
                    exact (iv_emp (iv_eqa (l := 1) (h := 0) c12 (iv_lit (l := 1) (h := 1) (by decide)) (iv_lit (l := 0) (h := 0) (by decide)) (by decide)) (by decide)).elim
              · skip
                refine ⟨fun c27 => ?_, fun c27 => ?_⟩
                · skip
                  refine ⟨fun c28 => ?_, fun c28 => ?_⟩
                  · skip
                    exact (iv_emp (iv_ne (l := 1) (h := 0) c28 (iv_lit (l := 0) (h := 0) (by decide)) (iv_lit (l := 0) (h := 0) (by decide)) (by decide)) (by decide)).elim
                  · skip
                    exact hpost _ _ (iv_w (iv_lit (l := (-2)) (h := (-2)) (by decide)) (by decide)) k_pa_next
                · skip
                  exact (iv_emp (iv_eqa (l := 1) (h := 0) c27 (iv_lit (l := 1) (h := 1) (by decide)) (iv_lit (l := 0) (h := 0) (by decide)) (by decide)) (by decide)).elim
      · skip
        refine ⟨fun h => absurd h (by decide), fun _ => ?_, fun h0 h1 => absurd rfl h1⟩
        refine ⟨fun c29 => ?_, fun c29 => ?_⟩
        · skip
          refine ⟨fun c30 => ?_, fun c30 => ?_⟩
          · skip
            refine ⟨fun c31 => ?_, fun c31 => ?_⟩
            · skip
              exact (iv_emp (iv_ne (l := 1) (h := 0) c31 (iv_lit (l := 0) (h := 0) (by decide)) (iv_lit (l := 0) (h := 0) (by decide)) (by decide)) (by decide)).elim
            · skip
              exact hpost _ _ (iv_w (iv_lit (l := (-2)) (h := (-2)) (by decide)) (by decide)) k_pa_next
          · skip
            exact (iv_emp (iv_ne (l := 1) (h := 0) c30 (iv_lit (l := 0) (h := 0) (by decide)) (iv_lit (l := 0) (h := 0) (by decide)) (by decide)) (by decide)).elim
        · skip
          refine ⟨fun c32 => ?_, fun c32 => ?_⟩
          · skip
            refine ⟨fun c33 => ?_, fun c33 => ?_⟩
            · skip
              refine ⟨fun c34 => ?_, fun c34 => ?_⟩
              · skip
                exact (iv_emp (iv_ne (l := 1) (h := 0) c34 (iv_lit (l := 0) (h := 0) (by decide)) (iv_lit (l := 0) (h := 0) (by decide)) (by decide)) (by decide)).elim
              · skip
                exact hpost _ _ (iv_w (iv_lit (l := (-2)) (h := (-2)) (by decide)) (by decide)) k_pa_next
            · skip
              exact (iv_emp (iv_ne (l := 1) (h := 0) c33 (iv_lit (l := 0) (h := 0) (by decide)) (iv_lit (l := 0) (h := 0) (by decide)) (by decide)) (by decide)).elim
          · skip
            refine ⟨fun c35 => ?_, fun c35 => ?_⟩
            · skip
              exact (iv_emp (iv_eqa (l := 1) (h := 0) c35 (iv_lit (l := 1) (h := 1) (by decide)) (iv_lit (l := 0) (h := 0) (by decide)) (by decide)) (by decide)).elim
            · skip
              refine ⟨fun c36 => ?_, fun c36 => ?_⟩
              · skip
                refine ⟨fun c37 => ?_, fun c37 => ?_⟩
                · skip
                  exact (iv_emp (iv_ne (l := 1) (h := 0) c37 (iv_lit (l := 0) (h := 0) (by decide)) (iv_lit (l := 0) (h := 0) (by decide)) (by decide)) (by decide)).elim
                · skip
                  refine ⟨fun c38 => ?_, fun c38 => ?_⟩
                  · skip
                    refine ⟨fun c39 => ?_, fun c39 => ?_⟩
                    · skip
                      exact s_wx_X10_mutes_46k1 k_ta_counts k_tl0f_huts k_tl0f_dams k_tl0f_echoes k_tl0a_heights k_tl0a_minutes k_tl0a_echoFrom k_tl0a_echoTo (iv_ltb (l := 1) (h := 9) (r_nle c32) (iv_leb (l := 0) (h := 2147483647) (r_nlt c29) (iv_lit (l := 0) (h := 0) (by decide)) (iv_top x2) (by decide)) k_tl1f_huts (by decide)) k_tl1f_dams k_tl1f_echoes k_tl1a_heights k_tl1a_minutes k_tl1a_echoFrom k_tl1a_echoTo k_pa_next (iv_lta (l := 0) (h := 8) (r_nle c32) (iv_leb (l := 0) (h := 2147483647) (r_nlt c29) (iv_lit (l := 0) (h := 0) (by decide)) (iv_top x2) (by decide)) k_tl1f_huts (by decide)) (iv_w (iv_eqa (l := (-1)) (h := (-1)) c39 (iv_top x3) (iv_lit (l := (-1)) (h := (-1)) (by decide)) (by decide)) (by decide)) hpost
                    · skip
                      refine ⟨fun c40 => ?_, fun c40 => ?_⟩
                      · skip
                        refine ⟨fun c41 => ?_, fun c41 => ?_⟩
                        · skip
                          refine ⟨fun c42 => ?_, fun c42 => ?_⟩
                          · skip
                            exact hpost _ _ (iv_w (iv_lit (l := (-2)) (h := (-2)) (by decide)) (by decide)) k_pa_next
                          · skip
                            exact (iv_emp (iv_ne (l := 1) (h := 0) c42 (iv_lit (l := 0) (h := 0) (by decide)) (iv_lit (l := 0) (h := 0) (by decide)) (by decide)) (by decide)).elim
                        · skip
                          exact (iv_emp (iv_ne (l := 1) (h := 0) c41 (iv_lit (l := 0) (h := 0) (by decide)) (iv_lit (l := 0) (h := 0) (by decide)) (by decide)) (by decide)).elim
                      · skip
                        refine ⟨fun c43 => ?_, fun c43 => ?_⟩
                        · skip
                          refine ⟨fun c44 => ?_, fun c44 => ?_⟩
                          · skip
                            refine ⟨fun c45 => ?_, fun c45 => ?_⟩
                            · skip
                              exact hpost _ _ (iv_w (iv_lit (l := (-2)) (h := (-2)) (by decide)) (by decide)) k_pa_next
                            · skip
                              exact (iv_emp (iv_ne (l := 1) (h := 0) c45 (iv_lit (l := 0) (h := 0) (by decide)) (iv_lit (l := 0) (h := 0) (by decide)) (by decide)) (by decide)).elim
                          · skip
                            exact (iv_emp (iv_ne (l := 1) (h := 0) c44 (iv_lit (l := 0) (h := 0) (by decide)) (iv_lit (l := 0) (h := 0) (by decide)) (by decide)) (by decide)).elim
                        · skip
                          refine ⟨fun c46 => ?_, fun c46 => ?_⟩
                          · skip
                            exact (iv_emp (iv_eqa (l := 1) (h := 0) c46 (iv_lit (l := 1) (h := 1) (by decide)) (iv_lit (l := 0) (h := 0) (by decide)) (by decide)) (by decide)).elim
                          · skip
                            refine ⟨fun c47 => ?_, fun c47 => ?_⟩
                            · skip
                              refine ⟨fun c48 => ?_, fun c48 => ?_⟩
                              · skip
                                exact (iv_emp (iv_ne (l := 1) (h := 0) c48 (iv_lit (l := 0) (h := 0) (by decide)) (iv_lit (l := 0) (h := 0) (by decide)) (by decide)) (by decide)).elim
                              · skip
                                refine ⟨fun c49 => ?_, fun c49 => ?_⟩
                                · skip
                                  exact (iv_emp (iv_eqa (l := 1) (h := 0) c49 (iv_lit (l := 1) (h := 1) (by decide)) (iv_lit (l := 0) (h := 0) (by decide)) (by decide)) (by decide)).elim
                                · skip
                                  refine ⟨fun c50 => ?_, fun c50 => ?_⟩
                                  · skip
                                    exact s_wx_X10_mutes_46k1 k_ta_counts k_tl0f_huts k_tl0f_dams k_tl0f_echoes k_tl0a_heights k_tl0a_minutes k_tl0a_echoFrom k_tl0a_echoTo (iv_ltb (l := 1) (h := 9) (r_nle c32) (iv_leb (l := 0) (h := 2147483647) (r_nlt c29) (iv_lit (l := 0) (h := 0) (by decide)) (iv_top x2) (by decide)) k_tl1f_huts (by decide)) k_tl1f_dams k_tl1f_echoes k_tl1a_heights k_tl1a_minutes k_tl1a_echoFrom k_tl1a_echoTo k_pa_next (iv_lta (l := 0) (h := 8) (r_nle c32) (iv_leb (l := 0) (h := 2147483647) (r_nlt c29) (iv_lit (l := 0) (h := 0) (by decide)) (iv_top x2) (by decide)) k_tl1f_huts (by decide)) (iv_w (iv_lta (l := 0) (h := 8) (r_nle c43) (iv_leb (l := 0) (h := 2147483647) (r_nlt c40) (iv_lit (l := 0) (h := 0) (by decide)) (iv_top x3) (by decide)) (iv_ltb (l := 1) (h := 9) (r_nle c32) (iv_leb (l := 0) (h := 2147483647) (r_nlt c29) (iv_lit (l := 0) (h := 0) (by decide)) (iv_top x2) (by decide)) k_tl1f_huts (by decide)) (by decide)) (by decide)) hpost
                                  · skip
                                    exact hpost _ _ (iv_w (iv_lit (l := (-2)) (h := (-2)) (by decide)) (by decide)) k_pa_next
                            · skip
                              refine ⟨fun c51 => ?_, fun c51 => ?_⟩
                              · skip
                                refine ⟨fun c52 => ?_, fun c52 => ?_⟩
                                · skip
                                  exact hpost _ _ (iv_w (iv_lit (l := (-2)) (h := (-2)) (by decide)) (by decide)) k_pa_next
                                · skip
                                  exact (iv_emp (iv_ne (l := 1) (h := 0) c52 (iv_lit (l := 0) (h := 0) (by decide)) (iv_lit (l := 0) (h := 0) (by decide)) (by decide)) (by decide)).elim
                              · skip
                                exact (iv_emp (iv_eqa (l := 1) (h := 0) c51 (iv_lit (l := 1) (h := 1) (by decide)) (iv_lit (l := 0) (h := 0) (by decide)) (by decide)) (by decide)).elim
                  · skip
                    exact (iv_emp (iv_eqa (l := 1) (h := 0) c38 (iv_lit (l := 1) (h := 1) (by decide)) (iv_lit (l := 0) (h := 0) (by decide)) (by decide)) (by decide)).elim
              · skip
                refine ⟨fun c53 => ?_, fun c53 => ?_⟩
                · skip
                  refine ⟨fun c54 => ?_, fun c54 => ?_⟩
                  · skip
                    exact (iv_emp (iv_ne (l := 1) (h := 0) c54 (iv_lit (l := 0) (h := 0) (by decide)) (iv_lit (l := 0) (h := 0) (by decide)) (by decide)) (by decide)).elim
                  · skip
                    exact hpost _ _ (iv_w (iv_lit (l := (-2)) (h := (-2)) (by decide)) (by decide)) k_pa_next
                · skip
                  exact (iv_emp (iv_eqa (l := 1) (h := 0) c53 (iv_lit (l := 1) (h := 1) (by decide)) (iv_lit (l := 0) (h := 0) (by decide)) (by decide)) (by decide)).elim
-- wx_X10_masses
set_option maxRecDepth 20000 in
theorem s_wx_X10_masses_0 {ta_counts : Nat → Int32} {tl0f_huts : Int32} {tl0f_villages : Int32} {tl0a_minutes : Nat → Int32} {tl1f_huts : Int32} {tl1f_villages : Int32} {tl1a_minutes : Nat → Int32} {pa_walked : Nat → Int32} {pa_cover : Nat → Int32} {x1 : Int32} {x2 : Int32} {x3 : Int32} {post : Int32 → (Nat → Int32) → (Nat → Int32) → Prop} (k_ta_counts : ∀ j, iv 0 2 (ta_counts j)) (k_tl0f_huts : iv 0 9 tl0f_huts) (k_tl0f_villages : iv 0 511 tl0f_villages) (k_tl0a_minutes : ∀ j, iv 0 9 (tl0a_minutes j)) (k_tl1f_huts : iv 0 9 tl1f_huts) (k_tl1f_villages : iv 0 511 tl1f_villages) (k_tl1a_minutes : ∀ j, iv 0 9 (tl1a_minutes j)) (k_pa_walked : ∀ j, iv 0 1000 (pa_walked j)) (k_pa_cover : ∀ j, iv 0 511 (pa_cover j)) (hpost : ∀ (r : Int32) (pa_walked : Nat → Int32) (pa_cover : Nat → Int32), iv (-1) 2147483647 r → (∀ j, iv 0 1000 (pa_walked j)) → (∀ j, iv 0 511 (pa_cover j)) → post r pa_walked pa_cover) : q_wx_X10_masses_0 ta_counts tl0f_huts tl0f_villages tl0a_minutes tl1f_huts tl1f_villages tl1a_minutes pa_walked pa_cover x1 x2 x3 post := by
  refine ⟨fun c1 => ?_, fun c1 => ?_⟩
  · skip
    refine ⟨fun _ => ?_, fun h => absurd h (by decide), fun h0 h1 => absurd rfl h0⟩
    exact hpost _ _ _ (iv_w (iv_lit (l := (-1)) (h := (-1)) (by decide)) (by decide)) k_pa_walked k_pa_cover
  · skip
    refine ⟨fun c2 => ?_, fun c2 => ?_⟩
    · skip
      refine ⟨fun _ => ?_, fun h => absurd h (by decide), fun h0 h1 => absurd rfl h0⟩
      exact hpost _ _ _ (iv_w (iv_lit (l := (-1)) (h := (-1)) (by decide)) (by decide)) k_pa_walked k_pa_cover
    · skip
      refine ⟨iv_in (iv_lta (l := 0) (h := 1) (r_nle c2) (iv_leb (l := 0) (h := 2147483647) (r_nlt c1) (iv_lit (l := 0) (h := 0) (by decide)) (iv_top x1) (by decide)) (k_ta_counts _) (by decide)) (by decide), fun hc => ?_, fun hc => ?_⟩
      · skip
        refine ⟨fun h => absurd h (by decide), fun h => absurd h (by decide), fun h0 h1 => ?_⟩
        refine ⟨fun c3 => ?_, fun c3 => ?_⟩
        · skip
          exact hpost _ _ _ (iv_w (iv_lit (l := (-1)) (h := (-1)) (by decide)) (by decide)) k_pa_walked k_pa_cover
        · skip
          refine ⟨fun c4 => ?_, fun c4 => ?_⟩
          · skip
            refine s_wp_X7_walk_9_0 k_pa_walked k_tl0f_huts k_tl0a_minutes (fun o5 k_o5 => ?_)
            refine s_wp_X7_coverBy_2_0 k_o5 k_pa_cover k_tl0f_huts (iv_lea (l := 0) (h := 99) (r_le c4) (iv_leb (l := 0) (h := 2147483647) (r_nlt c3) (iv_lit (l := 0) (h := 0) (by decide)) (iv_top x2) (by decide)) (iv_lit (l := 99) (h := 99) (by decide)) (by decide)) (fun o6 k_o6 => ?_)
            refine s_wp_X7_fewestCovering_0 k_o6 k_tl0f_villages k_tl0f_huts (fun r7 hr7 => ?_)
            refine ⟨fun c8 => ?_, fun c8 => ?_⟩
            · skip
              refine s_z_J6_bitCount_0f7a4_0 hr7 (fun r9 hr9 => ?_)
              exact hpost _ _ _ (iv_w hr9 (by decide)) k_o5 k_o6
            · skip
              exact hpost _ _ _ hr7 k_o5 k_o6
          · skip
            exact hpost _ _ _ (iv_w (iv_lit (l := (-1)) (h := (-1)) (by decide)) (by decide)) k_pa_walked k_pa_cover
      · skip
        refine ⟨fun h => absurd h (by decide), fun _ => ?_, fun h0 h1 => absurd rfl h1⟩
        refine ⟨fun c10 => ?_, fun c10 => ?_⟩
        · skip
          exact hpost _ _ _ (iv_w (iv_lit (l := (-1)) (h := (-1)) (by decide)) (by decide)) k_pa_walked k_pa_cover
        · skip
          refine ⟨fun c11 => ?_, fun c11 => ?_⟩
          · skip
            refine s_wp_X7_walk_9_0 k_pa_walked k_tl1f_huts k_tl1a_minutes (fun o12 k_o12 => ?_)
            refine s_wp_X7_coverBy_2_0 k_o12 k_pa_cover k_tl1f_huts (iv_lea (l := 0) (h := 99) (r_le c11) (iv_leb (l := 0) (h := 2147483647) (r_nlt c10) (iv_lit (l := 0) (h := 0) (by decide)) (iv_top x2) (by decide)) (iv_lit (l := 99) (h := 99) (by decide)) (by decide)) (fun o13 k_o13 => ?_)
            refine s_wp_X7_fewestCovering_0 k_o13 k_tl1f_villages k_tl1f_huts (fun r14 hr14 => ?_)
            refine ⟨fun c15 => ?_, fun c15 => ?_⟩
            · skip
              refine s_z_J6_bitCount_0f7a4_0 hr14 (fun r16 hr16 => ?_)
              exact hpost _ _ _ (iv_w hr16 (by decide)) k_o12 k_o13
            · skip
              exact hpost _ _ _ hr14 k_o12 k_o13
          · skip
            exact hpost _ _ _ (iv_w (iv_lit (l := (-1)) (h := (-1)) (by decide)) (by decide)) k_pa_walked k_pa_cover
-- wx_X10_fact
set_option maxRecDepth 20000 in
theorem s_wx_X10_fact_43 {ta_counts : Nat → Int32} {ts0f_facts : Int32} {ts0a_heard : Nat → Int32} {ts0a_huts : Nat → Int32} {ts0a_minutes : Nat → Int32} {ts1f_facts : Int32} {ts1a_heard : Nat → Int32} {ts1a_huts : Nat → Int32} {ts1a_minutes : Nat → Int32} {post : Int32 → Prop} (k_ta_counts : ∀ j, iv 0 2 (ta_counts j)) (k_ts0f_facts : iv 0 10 ts0f_facts) (k_ts0a_heard : ∀ j, iv 0 1 (ts0a_heard j)) (k_ts0a_huts : ∀ j, iv 0 8 (ts0a_huts j)) (k_ts0a_minutes : ∀ j, iv 0 60 (ts0a_minutes j)) (k_ts1f_facts : iv 0 10 ts1f_facts) (k_ts1a_heard : ∀ j, iv 0 1 (ts1a_heard j)) (k_ts1a_huts : ∀ j, iv 0 8 (ts1a_huts j)) (k_ts1a_minutes : ∀ j, iv 0 60 (ts1a_minutes j)) (hpost : ∀ (r : Int32), iv (-2) 60 r → post r) : q_wx_X10_fact_43 ta_counts ts0f_facts ts0a_heard ts0a_huts ts0a_minutes ts1f_facts ts1a_heard ts1a_huts ts1a_minutes post := by
  exact hpost _ (iv_w (iv_lit (l := (-2)) (h := (-2)) (by decide)) (by decide))
set_option maxRecDepth 20000 in
theorem s_wx_X10_fact_30k0 {ta_counts : Nat → Int32} {ts0f_facts : Int32} {ts0a_heard : Nat → Int32} {ts0a_huts : Nat → Int32} {ts0a_minutes : Nat → Int32} {ts1f_facts : Int32} {ts1a_heard : Nat → Int32} {ts1a_huts : Nat → Int32} {ts1a_minutes : Nat → Int32} {x2 : Int32} {x3 : Int32} {post : Int32 → Prop} (k_ta_counts : ∀ j, iv 0 2 (ta_counts j)) (k_ts0f_facts : iv 0 10 ts0f_facts) (k_ts0a_heard : ∀ j, iv 0 1 (ts0a_heard j)) (k_ts0a_huts : ∀ j, iv 0 8 (ts0a_huts j)) (k_ts0a_minutes : ∀ j, iv 0 60 (ts0a_minutes j)) (k_ts1f_facts : iv 0 10 ts1f_facts) (k_ts1a_heard : ∀ j, iv 0 1 (ts1a_heard j)) (k_ts1a_huts : ∀ j, iv 0 8 (ts1a_huts j)) (k_ts1a_minutes : ∀ j, iv 0 60 (ts1a_minutes j)) (hpost : ∀ (r : Int32), iv (-2) 60 r → post r) : q_wx_X10_fact_30k0 ta_counts ts0f_facts ts0a_heard ts0a_huts ts0a_minutes ts1f_facts ts1a_heard ts1a_huts ts1a_minutes x2 x3 post := by
  refine ⟨fun c1 => ?_, fun c1 => ?_⟩
  · skip
    exact s_wx_X10_fact_43 k_ta_counts k_ts0f_facts k_ts0a_heard k_ts0a_huts k_ts0a_minutes k_ts1f_facts k_ts1a_heard k_ts1a_huts k_ts1a_minutes hpost
  · skip
    refine ⟨fun c2 => ?_, fun c2 => ?_⟩
    · skip
      refine ⟨fun c3 => ?_, fun c3 => ?_, fun c3 => ?_, fun c3 => ?_⟩
      · skip
        exact hpost _ (iv_w (iv_lit (l := (-2)) (h := (-2)) (by decide)) (by decide))
      · skip
        refine ⟨iv_in (iv_lta (l := 0) (h := 9) (r_lt c2) (iv_leb (l := 0) (h := 2147483647) (r_nlt c1) (iv_lit (l := 0) (h := 0) (by decide)) (iv_top x2) (by decide)) k_ts0f_facts (by decide)) (by decide), ?_⟩
        exact hpost _ (iv_w (k_ts0a_heard _) (by decide))
      · skip
        refine ⟨iv_in (iv_lta (l := 0) (h := 9) (r_lt c2) (iv_leb (l := 0) (h := 2147483647) (r_nlt c1) (iv_lit (l := 0) (h := 0) (by decide)) (iv_top x2) (by decide)) k_ts0f_facts (by decide)) (by decide), ?_⟩
        exact hpost _ (iv_w (k_ts0a_huts _) (by decide))
      · skip
        refine ⟨iv_in (iv_lta (l := 0) (h := 9) (r_lt c2) (iv_leb (l := 0) (h := 2147483647) (r_nlt c1) (iv_lit (l := 0) (h := 0) (by decide)) (iv_top x2) (by decide)) k_ts0f_facts (by decide)) (by decide), ?_⟩
        exact hpost _ (iv_w (k_ts0a_minutes _) (by decide))
    · skip
      exact s_wx_X10_fact_43 k_ta_counts k_ts0f_facts k_ts0a_heard k_ts0a_huts k_ts0a_minutes k_ts1f_facts k_ts1a_heard k_ts1a_huts k_ts1a_minutes hpost
set_option maxRecDepth 20000 in
theorem s_wx_X10_fact_30k1 {ta_counts : Nat → Int32} {ts0f_facts : Int32} {ts0a_heard : Nat → Int32} {ts0a_huts : Nat → Int32} {ts0a_minutes : Nat → Int32} {ts1f_facts : Int32} {ts1a_heard : Nat → Int32} {ts1a_huts : Nat → Int32} {ts1a_minutes : Nat → Int32} {x2 : Int32} {x3 : Int32} {post : Int32 → Prop} (k_ta_counts : ∀ j, iv 0 2 (ta_counts j)) (k_ts0f_facts : iv 0 10 ts0f_facts) (k_ts0a_heard : ∀ j, iv 0 1 (ts0a_heard j)) (k_ts0a_huts : ∀ j, iv 0 8 (ts0a_huts j)) (k_ts0a_minutes : ∀ j, iv 0 60 (ts0a_minutes j)) (k_ts1f_facts : iv 0 10 ts1f_facts) (k_ts1a_heard : ∀ j, iv 0 1 (ts1a_heard j)) (k_ts1a_huts : ∀ j, iv 0 8 (ts1a_huts j)) (k_ts1a_minutes : ∀ j, iv 0 60 (ts1a_minutes j)) (hpost : ∀ (r : Int32), iv (-2) 60 r → post r) : q_wx_X10_fact_30k1 ta_counts ts0f_facts ts0a_heard ts0a_huts ts0a_minutes ts1f_facts ts1a_heard ts1a_huts ts1a_minutes x2 x3 post := by
  refine ⟨fun c1 => ?_, fun c1 => ?_⟩
  · skip
    exact s_wx_X10_fact_43 k_ta_counts k_ts0f_facts k_ts0a_heard k_ts0a_huts k_ts0a_minutes k_ts1f_facts k_ts1a_heard k_ts1a_huts k_ts1a_minutes hpost
  · skip
    refine ⟨fun c2 => ?_, fun c2 => ?_⟩
    · skip
      refine ⟨fun c3 => ?_, fun c3 => ?_, fun c3 => ?_, fun c3 => ?_⟩
      · skip
        exact hpost _ (iv_w (iv_lit (l := (-2)) (h := (-2)) (by decide)) (by decide))
      · skip
        refine ⟨iv_in (iv_lta (l := 0) (h := 9) (r_lt c2) (iv_leb (l := 0) (h := 2147483647) (r_nlt c1) (iv_lit (l := 0) (h := 0) (by decide)) (iv_top x2) (by decide)) k_ts1f_facts (by decide)) (by decide), ?_⟩
        exact hpost _ (iv_w (k_ts1a_heard _) (by decide))
      · skip
        refine ⟨iv_in (iv_lta (l := 0) (h := 9) (r_lt c2) (iv_leb (l := 0) (h := 2147483647) (r_nlt c1) (iv_lit (l := 0) (h := 0) (by decide)) (iv_top x2) (by decide)) k_ts1f_facts (by decide)) (by decide), ?_⟩
        exact hpost _ (iv_w (k_ts1a_huts _) (by decide))
      · skip
        refine ⟨iv_in (iv_lta (l := 0) (h := 9) (r_lt c2) (iv_leb (l := 0) (h := 2147483647) (r_nlt c1) (iv_lit (l := 0) (h := 0) (by decide)) (iv_top x2) (by decide)) k_ts1f_facts (by decide)) (by decide), ?_⟩
        exact hpost _ (iv_w (k_ts1a_minutes _) (by decide))
    · skip
      exact s_wx_X10_fact_43 k_ta_counts k_ts0f_facts k_ts0a_heard k_ts0a_huts k_ts0a_minutes k_ts1f_facts k_ts1a_heard k_ts1a_huts k_ts1a_minutes hpost
set_option maxRecDepth 20000 in
theorem s_wx_X10_fact_0 {ta_counts : Nat → Int32} {ts0f_facts : Int32} {ts0a_heard : Nat → Int32} {ts0a_huts : Nat → Int32} {ts0a_minutes : Nat → Int32} {ts1f_facts : Int32} {ts1a_heard : Nat → Int32} {ts1a_huts : Nat → Int32} {ts1a_minutes : Nat → Int32} {x1 : Int32} {x2 : Int32} {x3 : Int32} {post : Int32 → Prop} (k_ta_counts : ∀ j, iv 0 2 (ta_counts j)) (k_ts0f_facts : iv 0 10 ts0f_facts) (k_ts0a_heard : ∀ j, iv 0 1 (ts0a_heard j)) (k_ts0a_huts : ∀ j, iv 0 8 (ts0a_huts j)) (k_ts0a_minutes : ∀ j, iv 0 60 (ts0a_minutes j)) (k_ts1f_facts : iv 0 10 ts1f_facts) (k_ts1a_heard : ∀ j, iv 0 1 (ts1a_heard j)) (k_ts1a_huts : ∀ j, iv 0 8 (ts1a_huts j)) (k_ts1a_minutes : ∀ j, iv 0 60 (ts1a_minutes j)) (hpost : ∀ (r : Int32), iv (-2) 60 r → post r) : q_wx_X10_fact_0 ta_counts ts0f_facts ts0a_heard ts0a_huts ts0a_minutes ts1f_facts ts1a_heard ts1a_huts ts1a_minutes x1 x2 x3 post := by
  refine ⟨fun c1 => ?_, fun c1 => ?_⟩
  · skip
    refine ⟨fun _ => ?_, fun h => absurd h (by decide), fun h0 h1 => absurd rfl h0⟩
    exact hpost _ (iv_w (iv_lit (l := (-2)) (h := (-2)) (by decide)) (by decide))
  · skip
    refine ⟨fun c2 => ?_, fun c2 => ?_⟩
    · skip
      refine ⟨fun _ => ?_, fun h => absurd h (by decide), fun h0 h1 => absurd rfl h0⟩
      exact hpost _ (iv_w (iv_lit (l := (-2)) (h := (-2)) (by decide)) (by decide))
    · skip
      refine ⟨iv_in (iv_lta (l := 0) (h := 1) (r_nle c2) (iv_leb (l := 0) (h := 2147483647) (r_nlt c1) (iv_lit (l := 0) (h := 0) (by decide)) (iv_top x1) (by decide)) (k_ta_counts _) (by decide)) (by decide), fun hc => ?_, fun hc => ?_⟩
      · skip
        refine ⟨fun h => absurd h (by decide), fun h => absurd h (by decide), fun h0 h1 => ?_⟩
        refine ⟨fun c3 => ?_, fun c3 => ?_⟩
        · skip
          exact s_wx_X10_fact_30k0 k_ta_counts k_ts0f_facts k_ts0a_heard k_ts0a_huts k_ts0a_minutes k_ts1f_facts k_ts1a_heard k_ts1a_huts k_ts1a_minutes hpost
        · skip
          refine ⟨fun c4 => ?_, fun c4 => ?_⟩
          · skip
            exact s_wx_X10_fact_30k0 k_ta_counts k_ts0f_facts k_ts0a_heard k_ts0a_huts k_ts0a_minutes k_ts1f_facts k_ts1a_heard k_ts1a_huts k_ts1a_minutes hpost
          · skip
            exact hpost _ (iv_w k_ts0f_facts (by decide))
      · skip
        refine ⟨fun h => absurd h (by decide), fun _ => ?_, fun h0 h1 => absurd rfl h1⟩
        refine ⟨fun c5 => ?_, fun c5 => ?_⟩
        · skip
          exact s_wx_X10_fact_30k1 k_ta_counts k_ts0f_facts k_ts0a_heard k_ts0a_huts k_ts0a_minutes k_ts1f_facts k_ts1a_heard k_ts1a_huts k_ts1a_minutes hpost
        · skip
          refine ⟨fun c6 => ?_, fun c6 => ?_⟩
          · skip
            exact s_wx_X10_fact_30k1 k_ta_counts k_ts0f_facts k_ts0a_heard k_ts0a_huts k_ts0a_minutes k_ts1f_facts k_ts1a_heard k_ts1a_huts k_ts1a_minutes hpost
          · skip
            exact hpost _ (iv_w k_ts1f_facts (by decide))
-- wx_X10_fits
set_option maxRecDepth 20000 in
theorem s_wx_X10_fits_0 {ta_counts : Nat → Int32} {tl0f_huts : Int32} {tl0f_dams : Int32} {tl0f_echoes : Int32} {tl0a_heights : Nat → Int32} {tl0a_minutes : Nat → Int32} {tl0a_echoFrom : Nat → Int32} {tl0a_echoTo : Nat → Int32} {tl1f_huts : Int32} {tl1f_dams : Int32} {tl1f_echoes : Int32} {tl1a_heights : Nat → Int32} {tl1a_minutes : Nat → Int32} {tl1a_echoFrom : Nat → Int32} {tl1a_echoTo : Nat → Int32} {ts0f_facts : Int32} {ts0a_heard : Nat → Int32} {ts0a_huts : Nat → Int32} {ts0a_minutes : Nat → Int32} {ts1f_facts : Int32} {ts1a_heard : Nat → Int32} {ts1a_huts : Nat → Int32} {ts1a_minutes : Nat → Int32} {pa_heard : Nat → Int32} {x1 : Int32} {x2 : Int32} {x3 : Int32} {post : Int32 → (Nat → Int32) → Prop} (k_ta_counts : ∀ j, iv 0 2 (ta_counts j)) (k_tl0f_huts : iv 0 9 tl0f_huts) (k_tl0f_dams : iv 0 511 tl0f_dams) (k_tl0f_echoes : iv 0 4 tl0f_echoes) (k_tl0a_heights : ∀ j, iv 0 99 (tl0a_heights j)) (k_tl0a_minutes : ∀ j, iv 0 9 (tl0a_minutes j)) (k_tl0a_echoFrom : ∀ j, iv 0 8 (tl0a_echoFrom j)) (k_tl0a_echoTo : ∀ j, iv 0 8 (tl0a_echoTo j)) (k_tl1f_huts : iv 0 9 tl1f_huts) (k_tl1f_dams : iv 0 511 tl1f_dams) (k_tl1f_echoes : iv 0 4 tl1f_echoes) (k_tl1a_heights : ∀ j, iv 0 99 (tl1a_heights j)) (k_tl1a_minutes : ∀ j, iv 0 9 (tl1a_minutes j)) (k_tl1a_echoFrom : ∀ j, iv 0 8 (tl1a_echoFrom j)) (k_tl1a_echoTo : ∀ j, iv 0 8 (tl1a_echoTo j)) (k_ts0f_facts : iv 0 10 ts0f_facts) (k_ts0a_heard : ∀ j, iv 0 1 (ts0a_heard j)) (k_ts0a_huts : ∀ j, iv 0 8 (ts0a_huts j)) (k_ts0a_minutes : ∀ j, iv 0 60 (ts0a_minutes j)) (k_ts1f_facts : iv 0 10 ts1f_facts) (k_ts1a_heard : ∀ j, iv 0 1 (ts1a_heard j)) (k_ts1a_huts : ∀ j, iv 0 8 (ts1a_huts j)) (k_ts1a_minutes : ∀ j, iv 0 60 (ts1a_minutes j)) (k_pa_heard : ∀ j, iv 0 1000 (pa_heard j)) (hpost : ∀ (r : Int32) (pa_heard : Nat → Int32), iv (-2) 2147483647 r → (∀ j, iv 0 1000 (pa_heard j)) → post r pa_heard) : q_wx_X10_fits_0 ta_counts tl0f_huts tl0f_dams tl0f_echoes tl0a_heights tl0a_minutes tl0a_echoFrom tl0a_echoTo tl1f_huts tl1f_dams tl1f_echoes tl1a_heights tl1a_minutes tl1a_echoFrom tl1a_echoTo ts0f_facts ts0a_heard ts0a_huts ts0a_minutes ts1f_facts ts1a_heard ts1a_huts ts1a_minutes pa_heard x1 x2 x3 post := by
  refine ⟨fun c1 => ?_, fun c1 => ?_⟩
  · skip
    refine ⟨fun _ => ?_, fun h => absurd h (by decide), fun h0 h1 => absurd rfl h0⟩
    refine ⟨fun c2 => ?_, fun c2 => ?_⟩
    · skip
      refine ⟨fun _ => ?_, fun h => absurd h (by decide), fun h0 h1 => absurd rfl h0⟩
      exact hpost _ _ (iv_w (iv_lit (l := (-2)) (h := (-2)) (by decide)) (by decide)) k_pa_heard
    · skip
      refine ⟨fun c3 => ?_, fun c3 => ?_⟩
      · skip
        refine ⟨fun _ => ?_, fun h => absurd h (by decide), fun h0 h1 => absurd rfl h0⟩
        exact hpost _ _ (iv_w (iv_lit (l := (-2)) (h := (-2)) (by decide)) (by decide)) k_pa_heard
      · skip
        refine ⟨iv_in (iv_lta (l := 0) (h := 1) (r_nle c3) (iv_leb (l := 0) (h := 2147483647) (r_nlt c2) (iv_lit (l := 0) (h := 0) (by decide)) (iv_top x2) (by decide)) (k_ta_counts _) (by decide)) (by decide), fun hc => ?_, fun hc => ?_⟩
        · skip
          refine ⟨fun h => absurd h (by decide), fun h => absurd h (by decide), fun h0 h1 => ?_⟩
          exact hpost _ _ (iv_w (iv_lit (l := (-2)) (h := (-2)) (by decide)) (by decide)) k_pa_heard
        · skip
          refine ⟨fun h => absurd h (by decide), fun _ => ?_, fun h0 h1 => absurd rfl h1⟩
          exact hpost _ _ (iv_w (iv_lit (l := (-2)) (h := (-2)) (by decide)) (by decide)) k_pa_heard
  · skip
    refine ⟨fun c4 => ?_, fun c4 => ?_⟩
    · skip
      refine ⟨fun _ => ?_, fun h => absurd h (by decide), fun h0 h1 => absurd rfl h0⟩
      refine ⟨fun c5 => ?_, fun c5 => ?_⟩
      · skip
        refine ⟨fun _ => ?_, fun h => absurd h (by decide), fun h0 h1 => absurd rfl h0⟩
        exact hpost _ _ (iv_w (iv_lit (l := (-2)) (h := (-2)) (by decide)) (by decide)) k_pa_heard
      · skip
        refine ⟨fun c6 => ?_, fun c6 => ?_⟩
        · skip
          refine ⟨fun _ => ?_, fun h => absurd h (by decide), fun h0 h1 => absurd rfl h0⟩
          exact hpost _ _ (iv_w (iv_lit (l := (-2)) (h := (-2)) (by decide)) (by decide)) k_pa_heard
        · skip
          refine ⟨iv_in (iv_lta (l := 0) (h := 1) (r_nle c6) (iv_leb (l := 0) (h := 2147483647) (r_nlt c5) (iv_lit (l := 0) (h := 0) (by decide)) (iv_top x2) (by decide)) (k_ta_counts _) (by decide)) (by decide), fun hc => ?_, fun hc => ?_⟩
          · skip
            refine ⟨fun h => absurd h (by decide), fun h => absurd h (by decide), fun h0 h1 => ?_⟩
            exact hpost _ _ (iv_w (iv_lit (l := (-2)) (h := (-2)) (by decide)) (by decide)) k_pa_heard
          · skip
            refine ⟨fun h => absurd h (by decide), fun _ => ?_, fun h0 h1 => absurd rfl h1⟩
            exact hpost _ _ (iv_w (iv_lit (l := (-2)) (h := (-2)) (by decide)) (by decide)) k_pa_heard
    · skip
      refine ⟨iv_in (iv_lta (l := 0) (h := 1) (r_nle c4) (iv_leb (l := 0) (h := 2147483647) (r_nlt c1) (iv_lit (l := 0) (h := 0) (by decide)) (iv_top x1) (by decide)) (k_ta_counts _) (by decide)) (by decide), fun hc => ?_, fun hc => ?_⟩
      · skip
        refine ⟨fun h => absurd h (by decide), fun h => absurd h (by decide), fun h0 h1 => ?_⟩
        refine ⟨fun c7 => ?_, fun c7 => ?_⟩
        · skip
          refine ⟨fun _ => ?_, fun h => absurd h (by decide), fun h0 h1 => absurd rfl h0⟩
          exact hpost _ _ (iv_w (iv_lit (l := (-2)) (h := (-2)) (by decide)) (by decide)) k_pa_heard
        · skip
          refine ⟨fun c8 => ?_, fun c8 => ?_⟩
          · skip
            refine ⟨fun _ => ?_, fun h => absurd h (by decide), fun h0 h1 => absurd rfl h0⟩
            exact hpost _ _ (iv_w (iv_lit (l := (-2)) (h := (-2)) (by decide)) (by decide)) k_pa_heard
          · skip
            refine ⟨iv_in (iv_lta (l := 0) (h := 1) (r_nle c8) (iv_leb (l := 0) (h := 2147483647) (r_nlt c7) (iv_lit (l := 0) (h := 0) (by decide)) (iv_top x2) (by decide)) (k_ta_counts _) (by decide)) (by decide), fun hc => ?_, fun hc => ?_⟩
            · skip
              refine ⟨fun h => absurd h (by decide), fun h => absurd h (by decide), fun h0 h1 => ?_⟩
              refine s_ws_X6_staysWithin_0 k_ts0f_facts k_ts0a_huts k_tl0f_huts (fun r9 hr9 => ?_)
              refine ⟨fun c10 => ?_, fun c10 => ?_⟩
              · skip
                refine s_wp_X7_hear_9_0 k_pa_heard k_tl0f_huts k_tl0f_dams k_tl0f_echoes k_tl0a_heights k_tl0a_minutes k_tl0a_echoFrom k_tl0a_echoTo (fun o11 k_o11 => ?_)
                refine s_wp_X7_fitting_9_18_0 k_o11 k_tl0f_huts k_tl0f_dams k_ts0f_facts k_ts0a_heard k_ts0a_huts k_ts0a_minutes (fun r12 hr12 => ?_)
                refine ⟨fun c13 => ?_, fun c13 => ?_⟩
                · skip
                  exact hpost _ _ (iv_w hr12 (by decide)) k_o11
                · skip
                  refine s_wp_X7_question_9_0 k_o11 k_tl0f_huts hr12 (fun r14 hr14 => ?_)
                  exact hpost _ _ (iv_w hr14 (by decide)) k_o11
              · skip
                exact hpost _ _ (iv_w (iv_lit (l := (-2)) (h := (-2)) (by decide)) (by decide)) k_pa_heard
            · skip
              refine ⟨fun h => absurd h (by decide), fun _ => ?_, fun h0 h1 => absurd rfl h1⟩
              refine s_ws_X6_staysWithin_0 k_ts1f_facts k_ts1a_huts k_tl0f_huts (fun r15 hr15 => ?_)
              refine ⟨fun c16 => ?_, fun c16 => ?_⟩
              · skip
                refine s_wp_X7_hear_9_0 k_pa_heard k_tl0f_huts k_tl0f_dams k_tl0f_echoes k_tl0a_heights k_tl0a_minutes k_tl0a_echoFrom k_tl0a_echoTo (fun o17 k_o17 => ?_)
                refine s_wp_X7_fitting_9_18_0 k_o17 k_tl0f_huts k_tl0f_dams k_ts1f_facts k_ts1a_heard k_ts1a_huts k_ts1a_minutes (fun r18 hr18 => ?_)
                refine ⟨fun c19 => ?_, fun c19 => ?_⟩
                · skip
                  exact hpost _ _ (iv_w hr18 (by decide)) k_o17
                · skip
                  refine s_wp_X7_question_9_0 k_o17 k_tl0f_huts hr18 (fun r20 hr20 => ?_)
                  exact hpost _ _ (iv_w hr20 (by decide)) k_o17
              · skip
                exact hpost _ _ (iv_w (iv_lit (l := (-2)) (h := (-2)) (by decide)) (by decide)) k_pa_heard
      · skip
        refine ⟨fun h => absurd h (by decide), fun _ => ?_, fun h0 h1 => absurd rfl h1⟩
        refine ⟨fun c21 => ?_, fun c21 => ?_⟩
        · skip
          refine ⟨fun _ => ?_, fun h => absurd h (by decide), fun h0 h1 => absurd rfl h0⟩
          exact hpost _ _ (iv_w (iv_lit (l := (-2)) (h := (-2)) (by decide)) (by decide)) k_pa_heard
        · skip
          refine ⟨fun c22 => ?_, fun c22 => ?_⟩
          · skip
            refine ⟨fun _ => ?_, fun h => absurd h (by decide), fun h0 h1 => absurd rfl h0⟩
            exact hpost _ _ (iv_w (iv_lit (l := (-2)) (h := (-2)) (by decide)) (by decide)) k_pa_heard
          · skip
            refine ⟨iv_in (iv_lta (l := 0) (h := 1) (r_nle c22) (iv_leb (l := 0) (h := 2147483647) (r_nlt c21) (iv_lit (l := 0) (h := 0) (by decide)) (iv_top x2) (by decide)) (k_ta_counts _) (by decide)) (by decide), fun hc => ?_, fun hc => ?_⟩
            · skip
              refine ⟨fun h => absurd h (by decide), fun h => absurd h (by decide), fun h0 h1 => ?_⟩
              refine s_ws_X6_staysWithin_0 k_ts0f_facts k_ts0a_huts k_tl1f_huts (fun r23 hr23 => ?_)
              refine ⟨fun c24 => ?_, fun c24 => ?_⟩
              · skip
                refine s_wp_X7_hear_9_0 k_pa_heard k_tl1f_huts k_tl1f_dams k_tl1f_echoes k_tl1a_heights k_tl1a_minutes k_tl1a_echoFrom k_tl1a_echoTo (fun o25 k_o25 => ?_)
                refine s_wp_X7_fitting_9_18_0 k_o25 k_tl1f_huts k_tl1f_dams k_ts0f_facts k_ts0a_heard k_ts0a_huts k_ts0a_minutes (fun r26 hr26 => ?_)
                refine ⟨fun c27 => ?_, fun c27 => ?_⟩
                · skip
                  exact hpost _ _ (iv_w hr26 (by decide)) k_o25
                · skip
                  refine s_wp_X7_question_9_0 k_o25 k_tl1f_huts hr26 (fun r28 hr28 => ?_)
                  exact hpost _ _ (iv_w hr28 (by decide)) k_o25
              · skip
                exact hpost _ _ (iv_w (iv_lit (l := (-2)) (h := (-2)) (by decide)) (by decide)) k_pa_heard
            · skip
              refine ⟨fun h => absurd h (by decide), fun _ => ?_, fun h0 h1 => absurd rfl h1⟩
              refine s_ws_X6_staysWithin_0 k_ts1f_facts k_ts1a_huts k_tl1f_huts (fun r29 hr29 => ?_)
              refine ⟨fun c30 => ?_, fun c30 => ?_⟩
              · skip
                refine s_wp_X7_hear_9_0 k_pa_heard k_tl1f_huts k_tl1f_dams k_tl1f_echoes k_tl1a_heights k_tl1a_minutes k_tl1a_echoFrom k_tl1a_echoTo (fun o31 k_o31 => ?_)
                refine s_wp_X7_fitting_9_18_0 k_o31 k_tl1f_huts k_tl1f_dams k_ts1f_facts k_ts1a_heard k_ts1a_huts k_ts1a_minutes (fun r32 hr32 => ?_)
                refine ⟨fun c33 => ?_, fun c33 => ?_⟩
                · skip
                  exact hpost _ _ (iv_w hr32 (by decide)) k_o31
                · skip
                  refine s_wp_X7_question_9_0 k_o31 k_tl1f_huts hr32 (fun r34 hr34 => ?_)
                  exact hpost _ _ (iv_w hr34 (by decide)) k_o31
              · skip
                exact hpost _ _ (iv_w (iv_lit (l := (-2)) (h := (-2)) (by decide)) (by decide)) k_pa_heard
-- wx_X10_odds
set_option maxRecDepth 20000 in
theorem s_wx_X10_odds_117 {ta_counts : Nat → Int32} {tl0f_huts : Int32} {tl0f_singers : Int32} {tl0f_dams : Int32} {tl0f_echoes : Int32} {tl0f_deep : Int32} {tl0f_slide : Int32} {tl0a_heights : Nat → Int32} {tl0a_ladders : Nat → Int32} {tl0a_minutes : Nat → Int32} {tl0a_echoFrom : Nat → Int32} {tl0a_echoTo : Nat → Int32} {tl0a_homes : Nat → Int32} {tl0a_talls : Nat → Int32} {tl0a_known : Nat → Int32} {tl1f_huts : Int32} {tl1f_singers : Int32} {tl1f_dams : Int32} {tl1f_echoes : Int32} {tl1f_deep : Int32} {tl1f_slide : Int32} {tl1a_heights : Nat → Int32} {tl1a_ladders : Nat → Int32} {tl1a_minutes : Nat → Int32} {tl1a_echoFrom : Nat → Int32} {tl1a_echoTo : Nat → Int32} {tl1a_homes : Nat → Int32} {tl1a_talls : Nat → Int32} {tl1a_known : Nat → Int32} {tv0f_deeds : Int32} {tv0a_kinds : Nat → Int32} {tv0a_firsts : Nat → Int32} {tv0a_seconds : Nat → Int32} {tv1f_deeds : Int32} {tv1a_kinds : Nat → Int32} {tv1a_firsts : Nat → Int32} {tv1a_seconds : Nat → Int32} {nf_minute : Int32} {nf_avalanches : Int32} {nf_begun : Int32} {nf_climbed : Int32} {na_huts : Nat → Int32} {na_known : Nat → Int32} {na_levels : Nat → Int32} {na_snow : Nat → Int32} {x6 : Int32} {y0 : Int32} {post : Int64 → (Int32) → (Int32) → (Int32) → (Int32) → (Nat → Int32) → (Nat → Int32) → (Nat → Int32) → (Nat → Int32) → Prop} (k_ta_counts : ∀ j, iv 0 2 (ta_counts j)) (k_tl0f_huts : iv 0 9 tl0f_huts) (k_tl0f_singers : iv 0 6 tl0f_singers) (k_tl0f_dams : iv 0 511 tl0f_dams) (k_tl0f_echoes : iv 0 4 tl0f_echoes) (k_tl0f_deep : iv 1 9 tl0f_deep) (k_tl0f_slide : iv 0 10 tl0f_slide) (k_tl0a_heights : ∀ j, iv 0 99 (tl0a_heights j)) (k_tl0a_ladders : ∀ j, iv 0 9 (tl0a_ladders j)) (k_tl0a_minutes : ∀ j, iv 0 9 (tl0a_minutes j)) (k_tl0a_echoFrom : ∀ j, iv 0 8 (tl0a_echoFrom j)) (k_tl0a_echoTo : ∀ j, iv 0 8 (tl0a_echoTo j)) (k_tl0a_homes : ∀ j, iv 0 8 (tl0a_homes j)) (k_tl0a_talls : ∀ j, iv 0 9 (tl0a_talls j)) (k_tl0a_known : ∀ j, iv 0 31 (tl0a_known j)) (k_tl1f_huts : iv 0 9 tl1f_huts) (k_tl1f_singers : iv 0 6 tl1f_singers) (k_tl1f_dams : iv 0 511 tl1f_dams) (k_tl1f_echoes : iv 0 4 tl1f_echoes) (k_tl1f_deep : iv 1 9 tl1f_deep) (k_tl1f_slide : iv 0 10 tl1f_slide) (k_tl1a_heights : ∀ j, iv 0 99 (tl1a_heights j)) (k_tl1a_ladders : ∀ j, iv 0 9 (tl1a_ladders j)) (k_tl1a_minutes : ∀ j, iv 0 9 (tl1a_minutes j)) (k_tl1a_echoFrom : ∀ j, iv 0 8 (tl1a_echoFrom j)) (k_tl1a_echoTo : ∀ j, iv 0 8 (tl1a_echoTo j)) (k_tl1a_homes : ∀ j, iv 0 8 (tl1a_homes j)) (k_tl1a_talls : ∀ j, iv 0 9 (tl1a_talls j)) (k_tl1a_known : ∀ j, iv 0 31 (tl1a_known j)) (k_tv0f_deeds : iv 0 40 tv0f_deeds) (k_tv0a_kinds : ∀ j, iv 0 5 (tv0a_kinds j)) (k_tv0a_firsts : ∀ j, iv 0 5 (tv0a_firsts j)) (k_tv0a_seconds : ∀ j, iv (-1) 8 (tv0a_seconds j)) (k_tv1f_deeds : iv 0 40 tv1f_deeds) (k_tv1a_kinds : ∀ j, iv 0 5 (tv1a_kinds j)) (k_tv1a_firsts : ∀ j, iv 0 5 (tv1a_firsts j)) (k_tv1a_seconds : ∀ j, iv (-1) 8 (tv1a_seconds j)) (k_nf_avalanches : iv (-2147483648) 18 nf_avalanches) (k_nf_begun : iv 0 31 nf_begun) (k_nf_climbed : iv 0 63 nf_climbed) (k_na_huts : ∀ j, iv 0 8 (na_huts j)) (k_na_known : ∀ j, iv 0 31 (na_known j)) (k_na_levels : ∀ j, iv (-9) 122 (na_levels j)) (hx6 : iv 1 10 x6) (hy0 : iv 0 10 y0) (hpost : ∀ (r : Int64) (nf_minute : Int32) (nf_avalanches : Int32) (nf_begun : Int32) (nf_climbed : Int32) (na_huts : Nat → Int32) (na_known : Nat → Int32) (na_levels : Nat → Int32) (na_snow : Nat → Int32), (iv 0 31 nf_begun) → (iv 0 63 nf_climbed) → (∀ j, iv 0 8 (na_huts j)) → (∀ j, iv 0 31 (na_known j)) → (∀ j, iv (-9) 122 (na_levels j)) → post r nf_minute nf_avalanches nf_begun nf_climbed na_huts na_known na_levels na_snow) : q_wx_X10_odds_117 ta_counts tl0f_huts tl0f_singers tl0f_dams tl0f_echoes tl0f_deep tl0f_slide tl0a_heights tl0a_ladders tl0a_minutes tl0a_echoFrom tl0a_echoTo tl0a_homes tl0a_talls tl0a_known tl1f_huts tl1f_singers tl1f_dams tl1f_echoes tl1f_deep tl1f_slide tl1a_heights tl1a_ladders tl1a_minutes tl1a_echoFrom tl1a_echoTo tl1a_homes tl1a_talls tl1a_known tv0f_deeds tv0a_kinds tv0a_firsts tv0a_seconds tv1f_deeds tv1a_kinds tv1a_firsts tv1a_seconds nf_minute nf_avalanches nf_begun nf_climbed na_huts na_known na_levels na_snow x6 y0 post := by
  refine ⟨iv_ne0 hx6 (by decide), ?_⟩
  refine s_z_X10_power_0 (iv_div (l := 0) (h := 10) hy0 hx6 (by decide)) k_nf_avalanches (fun r1 => ?_)
  exact hpost _ _ _ _ _ _ _ _ _ k_nf_begun k_nf_climbed k_na_huts k_na_known k_na_levels
set_option maxRecDepth 20000 in
theorem s_wx_X10_odds_0 {ta_counts : Nat → Int32} {tl0f_huts : Int32} {tl0f_singers : Int32} {tl0f_dams : Int32} {tl0f_echoes : Int32} {tl0f_deep : Int32} {tl0f_slide : Int32} {tl0a_heights : Nat → Int32} {tl0a_ladders : Nat → Int32} {tl0a_minutes : Nat → Int32} {tl0a_echoFrom : Nat → Int32} {tl0a_echoTo : Nat → Int32} {tl0a_homes : Nat → Int32} {tl0a_talls : Nat → Int32} {tl0a_known : Nat → Int32} {tl1f_huts : Int32} {tl1f_singers : Int32} {tl1f_dams : Int32} {tl1f_echoes : Int32} {tl1f_deep : Int32} {tl1f_slide : Int32} {tl1a_heights : Nat → Int32} {tl1a_ladders : Nat → Int32} {tl1a_minutes : Nat → Int32} {tl1a_echoFrom : Nat → Int32} {tl1a_echoTo : Nat → Int32} {tl1a_homes : Nat → Int32} {tl1a_talls : Nat → Int32} {tl1a_known : Nat → Int32} {tv0f_deeds : Int32} {tv0a_kinds : Nat → Int32} {tv0a_firsts : Nat → Int32} {tv0a_seconds : Nat → Int32} {tv1f_deeds : Int32} {tv1a_kinds : Nat → Int32} {tv1a_firsts : Nat → Int32} {tv1a_seconds : Nat → Int32} {nf_minute : Int32} {nf_avalanches : Int32} {nf_begun : Int32} {nf_climbed : Int32} {na_huts : Nat → Int32} {na_known : Nat → Int32} {na_levels : Nat → Int32} {na_snow : Nat → Int32} {x1 : Int32} {x2 : Int32} {x3 : Int32} {post : Int64 → (Int32) → (Int32) → (Int32) → (Int32) → (Nat → Int32) → (Nat → Int32) → (Nat → Int32) → (Nat → Int32) → Prop} (k_ta_counts : ∀ j, iv 0 2 (ta_counts j)) (k_tl0f_huts : iv 0 9 tl0f_huts) (k_tl0f_singers : iv 0 6 tl0f_singers) (k_tl0f_dams : iv 0 511 tl0f_dams) (k_tl0f_echoes : iv 0 4 tl0f_echoes) (k_tl0f_deep : iv 1 9 tl0f_deep) (k_tl0f_slide : iv 0 10 tl0f_slide) (k_tl0a_heights : ∀ j, iv 0 99 (tl0a_heights j)) (k_tl0a_ladders : ∀ j, iv 0 9 (tl0a_ladders j)) (k_tl0a_minutes : ∀ j, iv 0 9 (tl0a_minutes j)) (k_tl0a_echoFrom : ∀ j, iv 0 8 (tl0a_echoFrom j)) (k_tl0a_echoTo : ∀ j, iv 0 8 (tl0a_echoTo j)) (k_tl0a_homes : ∀ j, iv 0 8 (tl0a_homes j)) (k_tl0a_talls : ∀ j, iv 0 9 (tl0a_talls j)) (k_tl0a_known : ∀ j, iv 0 31 (tl0a_known j)) (k_tl1f_huts : iv 0 9 tl1f_huts) (k_tl1f_singers : iv 0 6 tl1f_singers) (k_tl1f_dams : iv 0 511 tl1f_dams) (k_tl1f_echoes : iv 0 4 tl1f_echoes) (k_tl1f_deep : iv 1 9 tl1f_deep) (k_tl1f_slide : iv 0 10 tl1f_slide) (k_tl1a_heights : ∀ j, iv 0 99 (tl1a_heights j)) (k_tl1a_ladders : ∀ j, iv 0 9 (tl1a_ladders j)) (k_tl1a_minutes : ∀ j, iv 0 9 (tl1a_minutes j)) (k_tl1a_echoFrom : ∀ j, iv 0 8 (tl1a_echoFrom j)) (k_tl1a_echoTo : ∀ j, iv 0 8 (tl1a_echoTo j)) (k_tl1a_homes : ∀ j, iv 0 8 (tl1a_homes j)) (k_tl1a_talls : ∀ j, iv 0 9 (tl1a_talls j)) (k_tl1a_known : ∀ j, iv 0 31 (tl1a_known j)) (k_tv0f_deeds : iv 0 40 tv0f_deeds) (k_tv0a_kinds : ∀ j, iv 0 5 (tv0a_kinds j)) (k_tv0a_firsts : ∀ j, iv 0 5 (tv0a_firsts j)) (k_tv0a_seconds : ∀ j, iv (-1) 8 (tv0a_seconds j)) (k_tv1f_deeds : iv 0 40 tv1f_deeds) (k_tv1a_kinds : ∀ j, iv 0 5 (tv1a_kinds j)) (k_tv1a_firsts : ∀ j, iv 0 5 (tv1a_firsts j)) (k_tv1a_seconds : ∀ j, iv (-1) 8 (tv1a_seconds j)) (k_nf_begun : iv 0 31 nf_begun) (k_nf_climbed : iv 0 63 nf_climbed) (k_na_huts : ∀ j, iv 0 8 (na_huts j)) (k_na_known : ∀ j, iv 0 31 (na_known j)) (k_na_levels : ∀ j, iv (-9) 122 (na_levels j)) (hpost : ∀ (r : Int64) (nf_minute : Int32) (nf_avalanches : Int32) (nf_begun : Int32) (nf_climbed : Int32) (na_huts : Nat → Int32) (na_known : Nat → Int32) (na_levels : Nat → Int32) (na_snow : Nat → Int32), (iv 0 31 nf_begun) → (iv 0 63 nf_climbed) → (∀ j, iv 0 8 (na_huts j)) → (∀ j, iv 0 31 (na_known j)) → (∀ j, iv (-9) 122 (na_levels j)) → post r nf_minute nf_avalanches nf_begun nf_climbed na_huts na_known na_levels na_snow) : q_wx_X10_odds_0 ta_counts tl0f_huts tl0f_singers tl0f_dams tl0f_echoes tl0f_deep tl0f_slide tl0a_heights tl0a_ladders tl0a_minutes tl0a_echoFrom tl0a_echoTo tl0a_homes tl0a_talls tl0a_known tl1f_huts tl1f_singers tl1f_dams tl1f_echoes tl1f_deep tl1f_slide tl1a_heights tl1a_ladders tl1a_minutes tl1a_echoFrom tl1a_echoTo tl1a_homes tl1a_talls tl1a_known tv0f_deeds tv0a_kinds tv0a_firsts tv0a_seconds tv1f_deeds tv1a_kinds tv1a_firsts tv1a_seconds nf_minute nf_avalanches nf_begun nf_climbed na_huts na_known na_levels na_snow x1 x2 x3 post := by
  refine ⟨fun c1 => ?_, fun c1 => ?_⟩
  · skip
    refine ⟨fun _ => ?_, fun h => absurd h (by decide), fun h0 h1 => absurd rfl h0⟩
    refine ⟨fun c2 => ?_, fun c2 => ?_⟩
    · skip
      refine ⟨fun _ => ?_, fun h => absurd h (by decide), fun h0 h1 => absurd rfl h0⟩
      exact hpost _ _ _ _ _ _ _ _ _ k_nf_begun k_nf_climbed k_na_huts k_na_known k_na_levels
    · skip
      refine ⟨fun c3 => ?_, fun c3 => ?_⟩
      · skip
        refine ⟨fun _ => ?_, fun h => absurd h (by decide), fun h0 h1 => absurd rfl h0⟩
        exact hpost _ _ _ _ _ _ _ _ _ k_nf_begun k_nf_climbed k_na_huts k_na_known k_na_levels
      · skip
        refine ⟨iv_in (iv_lta (l := 0) (h := 1) (r_nle c3) (iv_leb (l := 0) (h := 2147483647) (r_nlt c2) (iv_lit (l := 0) (h := 0) (by decide)) (iv_top x2) (by decide)) (k_ta_counts _) (by decide)) (by decide), fun hc => ?_, fun hc => ?_⟩
        · skip
          refine ⟨fun h => absurd h (by decide), fun h => absurd h (by decide), fun h0 h1 => ?_⟩
          exact hpost _ _ _ _ _ _ _ _ _ k_nf_begun k_nf_climbed k_na_huts k_na_known k_na_levels
        · skip
          refine ⟨fun h => absurd h (by decide), fun _ => ?_, fun h0 h1 => absurd rfl h1⟩
          exact hpost _ _ _ _ _ _ _ _ _ k_nf_begun k_nf_climbed k_na_huts k_na_known k_na_levels
  · skip
    refine ⟨fun c4 => ?_, fun c4 => ?_⟩
    · skip
      refine ⟨fun _ => ?_, fun h => absurd h (by decide), fun h0 h1 => absurd rfl h0⟩
      refine ⟨fun c5 => ?_, fun c5 => ?_⟩
      · skip
        refine ⟨fun _ => ?_, fun h => absurd h (by decide), fun h0 h1 => absurd rfl h0⟩
        exact hpost _ _ _ _ _ _ _ _ _ k_nf_begun k_nf_climbed k_na_huts k_na_known k_na_levels
      · skip
        refine ⟨fun c6 => ?_, fun c6 => ?_⟩
        · skip
          refine ⟨fun _ => ?_, fun h => absurd h (by decide), fun h0 h1 => absurd rfl h0⟩
          exact hpost _ _ _ _ _ _ _ _ _ k_nf_begun k_nf_climbed k_na_huts k_na_known k_na_levels
        · skip
          refine ⟨iv_in (iv_lta (l := 0) (h := 1) (r_nle c6) (iv_leb (l := 0) (h := 2147483647) (r_nlt c5) (iv_lit (l := 0) (h := 0) (by decide)) (iv_top x2) (by decide)) (k_ta_counts _) (by decide)) (by decide), fun hc => ?_, fun hc => ?_⟩
          · skip
            refine ⟨fun h => absurd h (by decide), fun h => absurd h (by decide), fun h0 h1 => ?_⟩
            exact hpost _ _ _ _ _ _ _ _ _ k_nf_begun k_nf_climbed k_na_huts k_na_known k_na_levels
          · skip
            refine ⟨fun h => absurd h (by decide), fun _ => ?_, fun h0 h1 => absurd rfl h1⟩
            exact hpost _ _ _ _ _ _ _ _ _ k_nf_begun k_nf_climbed k_na_huts k_na_known k_na_levels
    · skip
      refine ⟨iv_in (iv_lta (l := 0) (h := 1) (r_nle c4) (iv_leb (l := 0) (h := 2147483647) (r_nlt c1) (iv_lit (l := 0) (h := 0) (by decide)) (iv_top x1) (by decide)) (k_ta_counts _) (by decide)) (by decide), fun hc => ?_, fun hc => ?_⟩
      · skip
        refine ⟨fun h => absurd h (by decide), fun h => absurd h (by decide), fun h0 h1 => ?_⟩
        refine ⟨fun c7 => ?_, fun c7 => ?_⟩
        · skip
          refine ⟨fun _ => ?_, fun h => absurd h (by decide), fun h0 h1 => absurd rfl h0⟩
          exact hpost _ _ _ _ _ _ _ _ _ k_nf_begun k_nf_climbed k_na_huts k_na_known k_na_levels
        · skip
          refine ⟨fun c8 => ?_, fun c8 => ?_⟩
          · skip
            refine ⟨fun _ => ?_, fun h => absurd h (by decide), fun h0 h1 => absurd rfl h0⟩
            exact hpost _ _ _ _ _ _ _ _ _ k_nf_begun k_nf_climbed k_na_huts k_na_known k_na_levels
          · skip
            refine ⟨iv_in (iv_lta (l := 0) (h := 1) (r_nle c8) (iv_leb (l := 0) (h := 2147483647) (r_nlt c7) (iv_lit (l := 0) (h := 0) (by decide)) (iv_top x2) (by decide)) (k_ta_counts _) (by decide)) (by decide), fun hc => ?_, fun hc => ?_⟩
            · skip
              refine ⟨fun h => absurd h (by decide), fun h => absurd h (by decide), fun h0 h1 => ?_⟩
              refine ⟨fun c9 => ?_, fun c9 => ?_⟩
              · skip
                exact hpost _ _ _ _ _ _ _ _ _ k_nf_begun k_nf_climbed k_na_huts k_na_known k_na_levels
              · skip
                refine ⟨fun c10 => ?_, fun c10 => ?_⟩
                · skip
                  refine s_wn_X3_play_6_15_0 k_nf_begun k_nf_climbed k_na_huts k_na_known k_na_levels k_tl0f_huts k_tl0f_singers k_tl0f_dams k_tl0f_echoes k_tl0f_deep k_tl0a_heights k_tl0a_ladders k_tl0a_minutes k_tl0a_echoFrom k_tl0a_echoTo k_tl0a_homes k_tl0a_talls k_tl0a_known k_tv0f_deeds k_tv0a_kinds k_tv0a_firsts k_tv0a_seconds k_tv0f_deeds (fun r11 o12 o13 o14 o15 o16 o17 o18 o19 hr11 k_o14 k_o15 k_o16 k_o17 k_o18 => ?_)
                  refine ⟨fun c20 => ?_, fun c20 => ?_⟩
                  · skip
                    refine ⟨fun c21 => ?_, fun c21 => ?_⟩
                    · skip
                      refine ⟨fun c22 => ?_, fun c22 => ?_⟩
                      · skip
                        refine ⟨fun c23 => ?_, fun c23 => ?_⟩
                        · skip
                          refine ⟨fun c24 => ?_, fun c24 => ?_⟩
                          · skip
                            refine ⟨fun c25 => ?_, fun c25 => ?_⟩
                            · skip
                              exact s_wx_X10_odds_117 k_ta_counts k_tl0f_huts k_tl0f_singers k_tl0f_dams k_tl0f_echoes k_tl0f_deep k_tl0f_slide k_tl0a_heights k_tl0a_ladders k_tl0a_minutes k_tl0a_echoFrom k_tl0a_echoTo k_tl0a_homes k_tl0a_talls k_tl0a_known k_tl1f_huts k_tl1f_singers k_tl1f_dams k_tl1f_echoes k_tl1f_deep k_tl1f_slide k_tl1a_heights k_tl1a_ladders k_tl1a_minutes k_tl1a_echoFrom k_tl1a_echoTo k_tl1a_homes k_tl1a_talls k_tl1a_known k_tv0f_deeds k_tv0a_kinds k_tv0a_firsts k_tv0a_seconds k_tv1f_deeds k_tv1a_kinds k_tv1a_firsts k_tv1a_seconds (iv_lea (l := (-2147483648)) (h := 18) (r_le c21) (iv_top o13) (iv_lit (l := 18) (h := 18) (by decide)) (by decide)) k_o14 k_o15 k_o16 k_o17 k_o18 (iv_w (iv_lit (l := 1) (h := 1) (by decide)) (by decide)) (iv_w (iv_lit (l := 10) (h := 10) (by decide)) (by decide)) hpost
                            · skip
                              exact s_wx_X10_odds_117 k_ta_counts k_tl0f_huts k_tl0f_singers k_tl0f_dams k_tl0f_echoes k_tl0f_deep k_tl0f_slide k_tl0a_heights k_tl0a_ladders k_tl0a_minutes k_tl0a_echoFrom k_tl0a_echoTo k_tl0a_homes k_tl0a_talls k_tl0a_known k_tl1f_huts k_tl1f_singers k_tl1f_dams k_tl1f_echoes k_tl1f_deep k_tl1f_slide k_tl1a_heights k_tl1a_ladders k_tl1a_minutes k_tl1a_echoFrom k_tl1a_echoTo k_tl1a_homes k_tl1a_talls k_tl1a_known k_tv0f_deeds k_tv0a_kinds k_tv0a_firsts k_tv0a_seconds k_tv1f_deeds k_tv1a_kinds k_tv1a_firsts k_tv1a_seconds (iv_lea (l := (-2147483648)) (h := 18) (r_le c21) (iv_top o13) (iv_lit (l := 18) (h := 18) (by decide)) (by decide)) k_o14 k_o15 k_o16 k_o17 k_o18 (iv_w (iv_lit (l := 1) (h := 1) (by decide)) (by decide)) k_tl0f_slide hpost
                          · skip
                            refine ⟨fun c26 => ?_, fun c26 => ?_⟩
                            · skip
                              exact s_wx_X10_odds_117 k_ta_counts k_tl0f_huts k_tl0f_singers k_tl0f_dams k_tl0f_echoes k_tl0f_deep k_tl0f_slide k_tl0a_heights k_tl0a_ladders k_tl0a_minutes k_tl0a_echoFrom k_tl0a_echoTo k_tl0a_homes k_tl0a_talls k_tl0a_known k_tl1f_huts k_tl1f_singers k_tl1f_dams k_tl1f_echoes k_tl1f_deep k_tl1f_slide k_tl1a_heights k_tl1a_ladders k_tl1a_minutes k_tl1a_echoFrom k_tl1a_echoTo k_tl1a_homes k_tl1a_talls k_tl1a_known k_tv0f_deeds k_tv0a_kinds k_tv0a_firsts k_tv0a_seconds k_tv1f_deeds k_tv1a_kinds k_tv1a_firsts k_tv1a_seconds (iv_lea (l := (-2147483648)) (h := 18) (r_le c21) (iv_top o13) (iv_lit (l := 18) (h := 18) (by decide)) (by decide)) k_o14 k_o15 k_o16 k_o17 k_o18 (iv_w (iv_lit (l := 2) (h := 2) (by decide)) (by decide)) (iv_w (iv_lit (l := 10) (h := 10) (by decide)) (by decide)) hpost
                            · skip
                              exact s_wx_X10_odds_117 k_ta_counts k_tl0f_huts k_tl0f_singers k_tl0f_dams k_tl0f_echoes k_tl0f_deep k_tl0f_slide k_tl0a_heights k_tl0a_ladders k_tl0a_minutes k_tl0a_echoFrom k_tl0a_echoTo k_tl0a_homes k_tl0a_talls k_tl0a_known k_tl1f_huts k_tl1f_singers k_tl1f_dams k_tl1f_echoes k_tl1f_deep k_tl1f_slide k_tl1a_heights k_tl1a_ladders k_tl1a_minutes k_tl1a_echoFrom k_tl1a_echoTo k_tl1a_homes k_tl1a_talls k_tl1a_known k_tv0f_deeds k_tv0a_kinds k_tv0a_firsts k_tv0a_seconds k_tv1f_deeds k_tv1a_kinds k_tv1a_firsts k_tv1a_seconds (iv_lea (l := (-2147483648)) (h := 18) (r_le c21) (iv_top o13) (iv_lit (l := 18) (h := 18) (by decide)) (by decide)) k_o14 k_o15 k_o16 k_o17 k_o18 (iv_w (iv_lit (l := 2) (h := 2) (by decide)) (by decide)) k_tl0f_slide hpost
                        · skip
                          refine ⟨fun c27 => ?_, fun c27 => ?_⟩
                          · skip
                            exact s_wx_X10_odds_117 k_ta_counts k_tl0f_huts k_tl0f_singers k_tl0f_dams k_tl0f_echoes k_tl0f_deep k_tl0f_slide k_tl0a_heights k_tl0a_ladders k_tl0a_minutes k_tl0a_echoFrom k_tl0a_echoTo k_tl0a_homes k_tl0a_talls k_tl0a_known k_tl1f_huts k_tl1f_singers k_tl1f_dams k_tl1f_echoes k_tl1f_deep k_tl1f_slide k_tl1a_heights k_tl1a_ladders k_tl1a_minutes k_tl1a_echoFrom k_tl1a_echoTo k_tl1a_homes k_tl1a_talls k_tl1a_known k_tv0f_deeds k_tv0a_kinds k_tv0a_firsts k_tv0a_seconds k_tv1f_deeds k_tv1a_kinds k_tv1a_firsts k_tv1a_seconds (iv_lea (l := (-2147483648)) (h := 18) (r_le c21) (iv_top o13) (iv_lit (l := 18) (h := 18) (by decide)) (by decide)) k_o14 k_o15 k_o16 k_o17 k_o18 (iv_w (iv_lit (l := 5) (h := 5) (by decide)) (by decide)) (iv_w (iv_lit (l := 10) (h := 10) (by decide)) (by decide)) hpost
                          · skip
                            exact s_wx_X10_odds_117 k_ta_counts k_tl0f_huts k_tl0f_singers k_tl0f_dams k_tl0f_echoes k_tl0f_deep k_tl0f_slide k_tl0a_heights k_tl0a_ladders k_tl0a_minutes k_tl0a_echoFrom k_tl0a_echoTo k_tl0a_homes k_tl0a_talls k_tl0a_known k_tl1f_huts k_tl1f_singers k_tl1f_dams k_tl1f_echoes k_tl1f_deep k_tl1f_slide k_tl1a_heights k_tl1a_ladders k_tl1a_minutes k_tl1a_echoFrom k_tl1a_echoTo k_tl1a_homes k_tl1a_talls k_tl1a_known k_tv0f_deeds k_tv0a_kinds k_tv0a_firsts k_tv0a_seconds k_tv1f_deeds k_tv1a_kinds k_tv1a_firsts k_tv1a_seconds (iv_lea (l := (-2147483648)) (h := 18) (r_le c21) (iv_top o13) (iv_lit (l := 18) (h := 18) (by decide)) (by decide)) k_o14 k_o15 k_o16 k_o17 k_o18 (iv_w (iv_lit (l := 5) (h := 5) (by decide)) (by decide)) k_tl0f_slide hpost
                      · skip
                        refine ⟨fun c28 => ?_, fun c28 => ?_⟩
                        · skip
                          exact s_wx_X10_odds_117 k_ta_counts k_tl0f_huts k_tl0f_singers k_tl0f_dams k_tl0f_echoes k_tl0f_deep k_tl0f_slide k_tl0a_heights k_tl0a_ladders k_tl0a_minutes k_tl0a_echoFrom k_tl0a_echoTo k_tl0a_homes k_tl0a_talls k_tl0a_known k_tl1f_huts k_tl1f_singers k_tl1f_dams k_tl1f_echoes k_tl1f_deep k_tl1f_slide k_tl1a_heights k_tl1a_ladders k_tl1a_minutes k_tl1a_echoFrom k_tl1a_echoTo k_tl1a_homes k_tl1a_talls k_tl1a_known k_tv0f_deeds k_tv0a_kinds k_tv0a_firsts k_tv0a_seconds k_tv1f_deeds k_tv1a_kinds k_tv1a_firsts k_tv1a_seconds (iv_lea (l := (-2147483648)) (h := 18) (r_le c21) (iv_top o13) (iv_lit (l := 18) (h := 18) (by decide)) (by decide)) k_o14 k_o15 k_o16 k_o17 k_o18 (iv_w (iv_lit (l := 10) (h := 10) (by decide)) (by decide)) (iv_w (iv_lit (l := 10) (h := 10) (by decide)) (by decide)) hpost
                        · skip
                          exact s_wx_X10_odds_117 k_ta_counts k_tl0f_huts k_tl0f_singers k_tl0f_dams k_tl0f_echoes k_tl0f_deep k_tl0f_slide k_tl0a_heights k_tl0a_ladders k_tl0a_minutes k_tl0a_echoFrom k_tl0a_echoTo k_tl0a_homes k_tl0a_talls k_tl0a_known k_tl1f_huts k_tl1f_singers k_tl1f_dams k_tl1f_echoes k_tl1f_deep k_tl1f_slide k_tl1a_heights k_tl1a_ladders k_tl1a_minutes k_tl1a_echoFrom k_tl1a_echoTo k_tl1a_homes k_tl1a_talls k_tl1a_known k_tv0f_deeds k_tv0a_kinds k_tv0a_firsts k_tv0a_seconds k_tv1f_deeds k_tv1a_kinds k_tv1a_firsts k_tv1a_seconds (iv_lea (l := (-2147483648)) (h := 18) (r_le c21) (iv_top o13) (iv_lit (l := 18) (h := 18) (by decide)) (by decide)) k_o14 k_o15 k_o16 k_o17 k_o18 (iv_w (iv_lit (l := 10) (h := 10) (by decide)) (by decide)) k_tl0f_slide hpost
                    · skip
                      exact hpost _ _ _ _ _ _ _ _ _ k_o14 k_o15 k_o16 k_o17 k_o18
                  · skip
                    exact hpost _ _ _ _ _ _ _ _ _ k_o14 k_o15 k_o16 k_o17 k_o18
                · skip
                  exact hpost _ _ _ _ _ _ _ _ _ k_nf_begun k_nf_climbed k_na_huts k_na_known k_na_levels
            · skip
              refine ⟨fun h => absurd h (by decide), fun _ => ?_, fun h0 h1 => absurd rfl h1⟩
              refine ⟨fun c29 => ?_, fun c29 => ?_⟩
              · skip
                exact hpost _ _ _ _ _ _ _ _ _ k_nf_begun k_nf_climbed k_na_huts k_na_known k_na_levels
              · skip
                refine ⟨fun c30 => ?_, fun c30 => ?_⟩
                · skip
                  refine s_wn_X3_play_6_15_0 k_nf_begun k_nf_climbed k_na_huts k_na_known k_na_levels k_tl0f_huts k_tl0f_singers k_tl0f_dams k_tl0f_echoes k_tl0f_deep k_tl0a_heights k_tl0a_ladders k_tl0a_minutes k_tl0a_echoFrom k_tl0a_echoTo k_tl0a_homes k_tl0a_talls k_tl0a_known k_tv1f_deeds k_tv1a_kinds k_tv1a_firsts k_tv1a_seconds k_tv1f_deeds (fun r31 o32 o33 o34 o35 o36 o37 o38 o39 hr31 k_o34 k_o35 k_o36 k_o37 k_o38 => ?_)
                  refine ⟨fun c40 => ?_, fun c40 => ?_⟩
                  · skip
                    refine ⟨fun c41 => ?_, fun c41 => ?_⟩
                    · skip
                      refine ⟨fun c42 => ?_, fun c42 => ?_⟩
                      · skip
                        refine ⟨fun c43 => ?_, fun c43 => ?_⟩
                        · skip
                          refine ⟨fun c44 => ?_, fun c44 => ?_⟩
                          · skip
                            refine ⟨fun c45 => ?_, fun c45 => ?_⟩
                            · skip
                              exact s_wx_X10_odds_117 k_ta_counts k_tl0f_huts k_tl0f_singers k_tl0f_dams k_tl0f_echoes k_tl0f_deep k_tl0f_slide k_tl0a_heights k_tl0a_ladders k_tl0a_minutes k_tl0a_echoFrom k_tl0a_echoTo k_tl0a_homes k_tl0a_talls k_tl0a_known k_tl1f_huts k_tl1f_singers k_tl1f_dams k_tl1f_echoes k_tl1f_deep k_tl1f_slide k_tl1a_heights k_tl1a_ladders k_tl1a_minutes k_tl1a_echoFrom k_tl1a_echoTo k_tl1a_homes k_tl1a_talls k_tl1a_known k_tv0f_deeds k_tv0a_kinds k_tv0a_firsts k_tv0a_seconds k_tv1f_deeds k_tv1a_kinds k_tv1a_firsts k_tv1a_seconds (iv_lea (l := (-2147483648)) (h := 18) (r_le c41) (iv_top o33) (iv_lit (l := 18) (h := 18) (by decide)) (by decide)) k_o34 k_o35 k_o36 k_o37 k_o38 (iv_w (iv_lit (l := 1) (h := 1) (by decide)) (by decide)) (iv_w (iv_lit (l := 10) (h := 10) (by decide)) (by decide)) hpost
                            · skip
                              exact s_wx_X10_odds_117 k_ta_counts k_tl0f_huts k_tl0f_singers k_tl0f_dams k_tl0f_echoes k_tl0f_deep k_tl0f_slide k_tl0a_heights k_tl0a_ladders k_tl0a_minutes k_tl0a_echoFrom k_tl0a_echoTo k_tl0a_homes k_tl0a_talls k_tl0a_known k_tl1f_huts k_tl1f_singers k_tl1f_dams k_tl1f_echoes k_tl1f_deep k_tl1f_slide k_tl1a_heights k_tl1a_ladders k_tl1a_minutes k_tl1a_echoFrom k_tl1a_echoTo k_tl1a_homes k_tl1a_talls k_tl1a_known k_tv0f_deeds k_tv0a_kinds k_tv0a_firsts k_tv0a_seconds k_tv1f_deeds k_tv1a_kinds k_tv1a_firsts k_tv1a_seconds (iv_lea (l := (-2147483648)) (h := 18) (r_le c41) (iv_top o33) (iv_lit (l := 18) (h := 18) (by decide)) (by decide)) k_o34 k_o35 k_o36 k_o37 k_o38 (iv_w (iv_lit (l := 1) (h := 1) (by decide)) (by decide)) k_tl0f_slide hpost
                          · skip
                            refine ⟨fun c46 => ?_, fun c46 => ?_⟩
                            · skip
                              exact s_wx_X10_odds_117 k_ta_counts k_tl0f_huts k_tl0f_singers k_tl0f_dams k_tl0f_echoes k_tl0f_deep k_tl0f_slide k_tl0a_heights k_tl0a_ladders k_tl0a_minutes k_tl0a_echoFrom k_tl0a_echoTo k_tl0a_homes k_tl0a_talls k_tl0a_known k_tl1f_huts k_tl1f_singers k_tl1f_dams k_tl1f_echoes k_tl1f_deep k_tl1f_slide k_tl1a_heights k_tl1a_ladders k_tl1a_minutes k_tl1a_echoFrom k_tl1a_echoTo k_tl1a_homes k_tl1a_talls k_tl1a_known k_tv0f_deeds k_tv0a_kinds k_tv0a_firsts k_tv0a_seconds k_tv1f_deeds k_tv1a_kinds k_tv1a_firsts k_tv1a_seconds (iv_lea (l := (-2147483648)) (h := 18) (r_le c41) (iv_top o33) (iv_lit (l := 18) (h := 18) (by decide)) (by decide)) k_o34 k_o35 k_o36 k_o37 k_o38 (iv_w (iv_lit (l := 2) (h := 2) (by decide)) (by decide)) (iv_w (iv_lit (l := 10) (h := 10) (by decide)) (by decide)) hpost
                            · skip
                              exact s_wx_X10_odds_117 k_ta_counts k_tl0f_huts k_tl0f_singers k_tl0f_dams k_tl0f_echoes k_tl0f_deep k_tl0f_slide k_tl0a_heights k_tl0a_ladders k_tl0a_minutes k_tl0a_echoFrom k_tl0a_echoTo k_tl0a_homes k_tl0a_talls k_tl0a_known k_tl1f_huts k_tl1f_singers k_tl1f_dams k_tl1f_echoes k_tl1f_deep k_tl1f_slide k_tl1a_heights k_tl1a_ladders k_tl1a_minutes k_tl1a_echoFrom k_tl1a_echoTo k_tl1a_homes k_tl1a_talls k_tl1a_known k_tv0f_deeds k_tv0a_kinds k_tv0a_firsts k_tv0a_seconds k_tv1f_deeds k_tv1a_kinds k_tv1a_firsts k_tv1a_seconds (iv_lea (l := (-2147483648)) (h := 18) (r_le c41) (iv_top o33) (iv_lit (l := 18) (h := 18) (by decide)) (by decide)) k_o34 k_o35 k_o36 k_o37 k_o38 (iv_w (iv_lit (l := 2) (h := 2) (by decide)) (by decide)) k_tl0f_slide hpost
                        · skip
                          refine ⟨fun c47 => ?_, fun c47 => ?_⟩
                          · skip
                            exact s_wx_X10_odds_117 k_ta_counts k_tl0f_huts k_tl0f_singers k_tl0f_dams k_tl0f_echoes k_tl0f_deep k_tl0f_slide k_tl0a_heights k_tl0a_ladders k_tl0a_minutes k_tl0a_echoFrom k_tl0a_echoTo k_tl0a_homes k_tl0a_talls k_tl0a_known k_tl1f_huts k_tl1f_singers k_tl1f_dams k_tl1f_echoes k_tl1f_deep k_tl1f_slide k_tl1a_heights k_tl1a_ladders k_tl1a_minutes k_tl1a_echoFrom k_tl1a_echoTo k_tl1a_homes k_tl1a_talls k_tl1a_known k_tv0f_deeds k_tv0a_kinds k_tv0a_firsts k_tv0a_seconds k_tv1f_deeds k_tv1a_kinds k_tv1a_firsts k_tv1a_seconds (iv_lea (l := (-2147483648)) (h := 18) (r_le c41) (iv_top o33) (iv_lit (l := 18) (h := 18) (by decide)) (by decide)) k_o34 k_o35 k_o36 k_o37 k_o38 (iv_w (iv_lit (l := 5) (h := 5) (by decide)) (by decide)) (iv_w (iv_lit (l := 10) (h := 10) (by decide)) (by decide)) hpost
                          · skip
                            exact s_wx_X10_odds_117 k_ta_counts k_tl0f_huts k_tl0f_singers k_tl0f_dams k_tl0f_echoes k_tl0f_deep k_tl0f_slide k_tl0a_heights k_tl0a_ladders k_tl0a_minutes k_tl0a_echoFrom k_tl0a_echoTo k_tl0a_homes k_tl0a_talls k_tl0a_known k_tl1f_huts k_tl1f_singers k_tl1f_dams k_tl1f_echoes k_tl1f_deep k_tl1f_slide k_tl1a_heights k_tl1a_ladders k_tl1a_minutes k_tl1a_echoFrom k_tl1a_echoTo k_tl1a_homes k_tl1a_talls k_tl1a_known k_tv0f_deeds k_tv0a_kinds k_tv0a_firsts k_tv0a_seconds k_tv1f_deeds k_tv1a_kinds k_tv1a_firsts k_tv1a_seconds (iv_lea (l := (-2147483648)) (h := 18) (r_le c41) (iv_top o33) (iv_lit (l := 18) (h := 18) (by decide)) (by decide)) k_o34 k_o35 k_o36 k_o37 k_o38 (iv_w (iv_lit (l := 5) (h := 5) (by decide)) (by decide)) k_tl0f_slide hpost
                      · skip
                        refine ⟨fun c48 => ?_, fun c48 => ?_⟩
                        · skip
                          exact s_wx_X10_odds_117 k_ta_counts k_tl0f_huts k_tl0f_singers k_tl0f_dams k_tl0f_echoes k_tl0f_deep k_tl0f_slide k_tl0a_heights k_tl0a_ladders k_tl0a_minutes k_tl0a_echoFrom k_tl0a_echoTo k_tl0a_homes k_tl0a_talls k_tl0a_known k_tl1f_huts k_tl1f_singers k_tl1f_dams k_tl1f_echoes k_tl1f_deep k_tl1f_slide k_tl1a_heights k_tl1a_ladders k_tl1a_minutes k_tl1a_echoFrom k_tl1a_echoTo k_tl1a_homes k_tl1a_talls k_tl1a_known k_tv0f_deeds k_tv0a_kinds k_tv0a_firsts k_tv0a_seconds k_tv1f_deeds k_tv1a_kinds k_tv1a_firsts k_tv1a_seconds (iv_lea (l := (-2147483648)) (h := 18) (r_le c41) (iv_top o33) (iv_lit (l := 18) (h := 18) (by decide)) (by decide)) k_o34 k_o35 k_o36 k_o37 k_o38 (iv_w (iv_lit (l := 10) (h := 10) (by decide)) (by decide)) (iv_w (iv_lit (l := 10) (h := 10) (by decide)) (by decide)) hpost
                        · skip
                          exact s_wx_X10_odds_117 k_ta_counts k_tl0f_huts k_tl0f_singers k_tl0f_dams k_tl0f_echoes k_tl0f_deep k_tl0f_slide k_tl0a_heights k_tl0a_ladders k_tl0a_minutes k_tl0a_echoFrom k_tl0a_echoTo k_tl0a_homes k_tl0a_talls k_tl0a_known k_tl1f_huts k_tl1f_singers k_tl1f_dams k_tl1f_echoes k_tl1f_deep k_tl1f_slide k_tl1a_heights k_tl1a_ladders k_tl1a_minutes k_tl1a_echoFrom k_tl1a_echoTo k_tl1a_homes k_tl1a_talls k_tl1a_known k_tv0f_deeds k_tv0a_kinds k_tv0a_firsts k_tv0a_seconds k_tv1f_deeds k_tv1a_kinds k_tv1a_firsts k_tv1a_seconds (iv_lea (l := (-2147483648)) (h := 18) (r_le c41) (iv_top o33) (iv_lit (l := 18) (h := 18) (by decide)) (by decide)) k_o34 k_o35 k_o36 k_o37 k_o38 (iv_w (iv_lit (l := 10) (h := 10) (by decide)) (by decide)) k_tl0f_slide hpost
                    · skip
                      exact hpost _ _ _ _ _ _ _ _ _ k_o34 k_o35 k_o36 k_o37 k_o38
                  · skip
                    exact hpost _ _ _ _ _ _ _ _ _ k_o34 k_o35 k_o36 k_o37 k_o38
                · skip
                  exact hpost _ _ _ _ _ _ _ _ _ k_nf_begun k_nf_climbed k_na_huts k_na_known k_na_levels
      · skip
        refine ⟨fun h => absurd h (by decide), fun _ => ?_, fun h0 h1 => absurd rfl h1⟩
        refine ⟨fun c49 => ?_, fun c49 => ?_⟩
        · skip
          refine ⟨fun _ => ?_, fun h => absurd h (by decide), fun h0 h1 => absurd rfl h0⟩
          exact hpost _ _ _ _ _ _ _ _ _ k_nf_begun k_nf_climbed k_na_huts k_na_known k_na_levels
        · skip
          refine ⟨fun c50 => ?_, fun c50 => ?_⟩
          · skip
            refine ⟨fun _ => ?_, fun h => absurd h (by decide), fun h0 h1 => absurd rfl h0⟩
            exact hpost _ _ _ _ _ _ _ _ _ k_nf_begun k_nf_climbed k_na_huts k_na_known k_na_levels
          · skip
            refine ⟨iv_in (iv_lta (l := 0) (h := 1) (r_nle c50) (iv_leb (l := 0) (h := 2147483647) (r_nlt c49) (iv_lit (l := 0) (h := 0) (by decide)) (iv_top x2) (by decide)) (k_ta_counts _) (by decide)) (by decide), fun hc => ?_, fun hc => ?_⟩
            · skip
              refine ⟨fun h => absurd h (by decide), fun h => absurd h (by decide), fun h0 h1 => ?_⟩
              refine ⟨fun c51 => ?_, fun c51 => ?_⟩
              · skip
                exact hpost _ _ _ _ _ _ _ _ _ k_nf_begun k_nf_climbed k_na_huts k_na_known k_na_levels
              · skip
                refine ⟨fun c52 => ?_, fun c52 => ?_⟩
                · skip
                  refine s_wn_X3_play_6_15_0 k_nf_begun k_nf_climbed k_na_huts k_na_known k_na_levels k_tl1f_huts k_tl1f_singers k_tl1f_dams k_tl1f_echoes k_tl1f_deep k_tl1a_heights k_tl1a_ladders k_tl1a_minutes k_tl1a_echoFrom k_tl1a_echoTo k_tl1a_homes k_tl1a_talls k_tl1a_known k_tv0f_deeds k_tv0a_kinds k_tv0a_firsts k_tv0a_seconds k_tv0f_deeds (fun r53 o54 o55 o56 o57 o58 o59 o60 o61 hr53 k_o56 k_o57 k_o58 k_o59 k_o60 => ?_)
                  refine ⟨fun c62 => ?_, fun c62 => ?_⟩
                  · skip
                    refine ⟨fun c63 => ?_, fun c63 => ?_⟩
                    · skip
                      refine ⟨fun c64 => ?_, fun c64 => ?_⟩
                      · skip
                        refine ⟨fun c65 => ?_, fun c65 => ?_⟩
                        · skip
                          refine ⟨fun c66 => ?_, fun c66 => ?_⟩
                          · skip
                            refine ⟨fun c67 => ?_, fun c67 => ?_⟩
                            · skip
                              exact s_wx_X10_odds_117 k_ta_counts k_tl0f_huts k_tl0f_singers k_tl0f_dams k_tl0f_echoes k_tl0f_deep k_tl0f_slide k_tl0a_heights k_tl0a_ladders k_tl0a_minutes k_tl0a_echoFrom k_tl0a_echoTo k_tl0a_homes k_tl0a_talls k_tl0a_known k_tl1f_huts k_tl1f_singers k_tl1f_dams k_tl1f_echoes k_tl1f_deep k_tl1f_slide k_tl1a_heights k_tl1a_ladders k_tl1a_minutes k_tl1a_echoFrom k_tl1a_echoTo k_tl1a_homes k_tl1a_talls k_tl1a_known k_tv0f_deeds k_tv0a_kinds k_tv0a_firsts k_tv0a_seconds k_tv1f_deeds k_tv1a_kinds k_tv1a_firsts k_tv1a_seconds (iv_lea (l := (-2147483648)) (h := 18) (r_le c63) (iv_top o55) (iv_lit (l := 18) (h := 18) (by decide)) (by decide)) k_o56 k_o57 k_o58 k_o59 k_o60 (iv_w (iv_lit (l := 1) (h := 1) (by decide)) (by decide)) (iv_w (iv_lit (l := 10) (h := 10) (by decide)) (by decide)) hpost
                            · skip
                              exact s_wx_X10_odds_117 k_ta_counts k_tl0f_huts k_tl0f_singers k_tl0f_dams k_tl0f_echoes k_tl0f_deep k_tl0f_slide k_tl0a_heights k_tl0a_ladders k_tl0a_minutes k_tl0a_echoFrom k_tl0a_echoTo k_tl0a_homes k_tl0a_talls k_tl0a_known k_tl1f_huts k_tl1f_singers k_tl1f_dams k_tl1f_echoes k_tl1f_deep k_tl1f_slide k_tl1a_heights k_tl1a_ladders k_tl1a_minutes k_tl1a_echoFrom k_tl1a_echoTo k_tl1a_homes k_tl1a_talls k_tl1a_known k_tv0f_deeds k_tv0a_kinds k_tv0a_firsts k_tv0a_seconds k_tv1f_deeds k_tv1a_kinds k_tv1a_firsts k_tv1a_seconds (iv_lea (l := (-2147483648)) (h := 18) (r_le c63) (iv_top o55) (iv_lit (l := 18) (h := 18) (by decide)) (by decide)) k_o56 k_o57 k_o58 k_o59 k_o60 (iv_w (iv_lit (l := 1) (h := 1) (by decide)) (by decide)) k_tl1f_slide hpost
                          · skip
                            refine ⟨fun c68 => ?_, fun c68 => ?_⟩
                            · skip
                              exact s_wx_X10_odds_117 k_ta_counts k_tl0f_huts k_tl0f_singers k_tl0f_dams k_tl0f_echoes k_tl0f_deep k_tl0f_slide k_tl0a_heights k_tl0a_ladders k_tl0a_minutes k_tl0a_echoFrom k_tl0a_echoTo k_tl0a_homes k_tl0a_talls k_tl0a_known k_tl1f_huts k_tl1f_singers k_tl1f_dams k_tl1f_echoes k_tl1f_deep k_tl1f_slide k_tl1a_heights k_tl1a_ladders k_tl1a_minutes k_tl1a_echoFrom k_tl1a_echoTo k_tl1a_homes k_tl1a_talls k_tl1a_known k_tv0f_deeds k_tv0a_kinds k_tv0a_firsts k_tv0a_seconds k_tv1f_deeds k_tv1a_kinds k_tv1a_firsts k_tv1a_seconds (iv_lea (l := (-2147483648)) (h := 18) (r_le c63) (iv_top o55) (iv_lit (l := 18) (h := 18) (by decide)) (by decide)) k_o56 k_o57 k_o58 k_o59 k_o60 (iv_w (iv_lit (l := 2) (h := 2) (by decide)) (by decide)) (iv_w (iv_lit (l := 10) (h := 10) (by decide)) (by decide)) hpost
                            · skip
                              exact s_wx_X10_odds_117 k_ta_counts k_tl0f_huts k_tl0f_singers k_tl0f_dams k_tl0f_echoes k_tl0f_deep k_tl0f_slide k_tl0a_heights k_tl0a_ladders k_tl0a_minutes k_tl0a_echoFrom k_tl0a_echoTo k_tl0a_homes k_tl0a_talls k_tl0a_known k_tl1f_huts k_tl1f_singers k_tl1f_dams k_tl1f_echoes k_tl1f_deep k_tl1f_slide k_tl1a_heights k_tl1a_ladders k_tl1a_minutes k_tl1a_echoFrom k_tl1a_echoTo k_tl1a_homes k_tl1a_talls k_tl1a_known k_tv0f_deeds k_tv0a_kinds k_tv0a_firsts k_tv0a_seconds k_tv1f_deeds k_tv1a_kinds k_tv1a_firsts k_tv1a_seconds (iv_lea (l := (-2147483648)) (h := 18) (r_le c63) (iv_top o55) (iv_lit (l := 18) (h := 18) (by decide)) (by decide)) k_o56 k_o57 k_o58 k_o59 k_o60 (iv_w (iv_lit (l := 2) (h := 2) (by decide)) (by decide)) k_tl1f_slide hpost
                        · skip
                          refine ⟨fun c69 => ?_, fun c69 => ?_⟩
                          · skip
                            exact s_wx_X10_odds_117 k_ta_counts k_tl0f_huts k_tl0f_singers k_tl0f_dams k_tl0f_echoes k_tl0f_deep k_tl0f_slide k_tl0a_heights k_tl0a_ladders k_tl0a_minutes k_tl0a_echoFrom k_tl0a_echoTo k_tl0a_homes k_tl0a_talls k_tl0a_known k_tl1f_huts k_tl1f_singers k_tl1f_dams k_tl1f_echoes k_tl1f_deep k_tl1f_slide k_tl1a_heights k_tl1a_ladders k_tl1a_minutes k_tl1a_echoFrom k_tl1a_echoTo k_tl1a_homes k_tl1a_talls k_tl1a_known k_tv0f_deeds k_tv0a_kinds k_tv0a_firsts k_tv0a_seconds k_tv1f_deeds k_tv1a_kinds k_tv1a_firsts k_tv1a_seconds (iv_lea (l := (-2147483648)) (h := 18) (r_le c63) (iv_top o55) (iv_lit (l := 18) (h := 18) (by decide)) (by decide)) k_o56 k_o57 k_o58 k_o59 k_o60 (iv_w (iv_lit (l := 5) (h := 5) (by decide)) (by decide)) (iv_w (iv_lit (l := 10) (h := 10) (by decide)) (by decide)) hpost
                          · skip
                            exact s_wx_X10_odds_117 k_ta_counts k_tl0f_huts k_tl0f_singers k_tl0f_dams k_tl0f_echoes k_tl0f_deep k_tl0f_slide k_tl0a_heights k_tl0a_ladders k_tl0a_minutes k_tl0a_echoFrom k_tl0a_echoTo k_tl0a_homes k_tl0a_talls k_tl0a_known k_tl1f_huts k_tl1f_singers k_tl1f_dams k_tl1f_echoes k_tl1f_deep k_tl1f_slide k_tl1a_heights k_tl1a_ladders k_tl1a_minutes k_tl1a_echoFrom k_tl1a_echoTo k_tl1a_homes k_tl1a_talls k_tl1a_known k_tv0f_deeds k_tv0a_kinds k_tv0a_firsts k_tv0a_seconds k_tv1f_deeds k_tv1a_kinds k_tv1a_firsts k_tv1a_seconds (iv_lea (l := (-2147483648)) (h := 18) (r_le c63) (iv_top o55) (iv_lit (l := 18) (h := 18) (by decide)) (by decide)) k_o56 k_o57 k_o58 k_o59 k_o60 (iv_w (iv_lit (l := 5) (h := 5) (by decide)) (by decide)) k_tl1f_slide hpost
                      · skip
                        refine ⟨fun c70 => ?_, fun c70 => ?_⟩
                        · skip
                          exact s_wx_X10_odds_117 k_ta_counts k_tl0f_huts k_tl0f_singers k_tl0f_dams k_tl0f_echoes k_tl0f_deep k_tl0f_slide k_tl0a_heights k_tl0a_ladders k_tl0a_minutes k_tl0a_echoFrom k_tl0a_echoTo k_tl0a_homes k_tl0a_talls k_tl0a_known k_tl1f_huts k_tl1f_singers k_tl1f_dams k_tl1f_echoes k_tl1f_deep k_tl1f_slide k_tl1a_heights k_tl1a_ladders k_tl1a_minutes k_tl1a_echoFrom k_tl1a_echoTo k_tl1a_homes k_tl1a_talls k_tl1a_known k_tv0f_deeds k_tv0a_kinds k_tv0a_firsts k_tv0a_seconds k_tv1f_deeds k_tv1a_kinds k_tv1a_firsts k_tv1a_seconds (iv_lea (l := (-2147483648)) (h := 18) (r_le c63) (iv_top o55) (iv_lit (l := 18) (h := 18) (by decide)) (by decide)) k_o56 k_o57 k_o58 k_o59 k_o60 (iv_w (iv_lit (l := 10) (h := 10) (by decide)) (by decide)) (iv_w (iv_lit (l := 10) (h := 10) (by decide)) (by decide)) hpost
                        · skip
                          exact s_wx_X10_odds_117 k_ta_counts k_tl0f_huts k_tl0f_singers k_tl0f_dams k_tl0f_echoes k_tl0f_deep k_tl0f_slide k_tl0a_heights k_tl0a_ladders k_tl0a_minutes k_tl0a_echoFrom k_tl0a_echoTo k_tl0a_homes k_tl0a_talls k_tl0a_known k_tl1f_huts k_tl1f_singers k_tl1f_dams k_tl1f_echoes k_tl1f_deep k_tl1f_slide k_tl1a_heights k_tl1a_ladders k_tl1a_minutes k_tl1a_echoFrom k_tl1a_echoTo k_tl1a_homes k_tl1a_talls k_tl1a_known k_tv0f_deeds k_tv0a_kinds k_tv0a_firsts k_tv0a_seconds k_tv1f_deeds k_tv1a_kinds k_tv1a_firsts k_tv1a_seconds (iv_lea (l := (-2147483648)) (h := 18) (r_le c63) (iv_top o55) (iv_lit (l := 18) (h := 18) (by decide)) (by decide)) k_o56 k_o57 k_o58 k_o59 k_o60 (iv_w (iv_lit (l := 10) (h := 10) (by decide)) (by decide)) k_tl1f_slide hpost
                    · skip
                      exact hpost _ _ _ _ _ _ _ _ _ k_o56 k_o57 k_o58 k_o59 k_o60
                  · skip
                    exact hpost _ _ _ _ _ _ _ _ _ k_o56 k_o57 k_o58 k_o59 k_o60
                · skip
                  exact hpost _ _ _ _ _ _ _ _ _ k_nf_begun k_nf_climbed k_na_huts k_na_known k_na_levels
            · skip
              refine ⟨fun h => absurd h (by decide), fun _ => ?_, fun h0 h1 => absurd rfl h1⟩
              refine ⟨fun c71 => ?_, fun c71 => ?_⟩
              · skip
                exact hpost _ _ _ _ _ _ _ _ _ k_nf_begun k_nf_climbed k_na_huts k_na_known k_na_levels
              · skip
                refine ⟨fun c72 => ?_, fun c72 => ?_⟩
                · skip
                  refine s_wn_X3_play_6_15_0 k_nf_begun k_nf_climbed k_na_huts k_na_known k_na_levels k_tl1f_huts k_tl1f_singers k_tl1f_dams k_tl1f_echoes k_tl1f_deep k_tl1a_heights k_tl1a_ladders k_tl1a_minutes k_tl1a_echoFrom k_tl1a_echoTo k_tl1a_homes k_tl1a_talls k_tl1a_known k_tv1f_deeds k_tv1a_kinds k_tv1a_firsts k_tv1a_seconds k_tv1f_deeds (fun r73 o74 o75 o76 o77 o78 o79 o80 o81 hr73 k_o76 k_o77 k_o78 k_o79 k_o80 => ?_)
                  refine ⟨fun c82 => ?_, fun c82 => ?_⟩
                  · skip
                    refine ⟨fun c83 => ?_, fun c83 => ?_⟩
                    · skip
                      refine ⟨fun c84 => ?_, fun c84 => ?_⟩
                      · skip
                        refine ⟨fun c85 => ?_, fun c85 => ?_⟩
                        · skip
                          refine ⟨fun c86 => ?_, fun c86 => ?_⟩
                          · skip
                            refine ⟨fun c87 => ?_, fun c87 => ?_⟩
                            · skip
                              exact s_wx_X10_odds_117 k_ta_counts k_tl0f_huts k_tl0f_singers k_tl0f_dams k_tl0f_echoes k_tl0f_deep k_tl0f_slide k_tl0a_heights k_tl0a_ladders k_tl0a_minutes k_tl0a_echoFrom k_tl0a_echoTo k_tl0a_homes k_tl0a_talls k_tl0a_known k_tl1f_huts k_tl1f_singers k_tl1f_dams k_tl1f_echoes k_tl1f_deep k_tl1f_slide k_tl1a_heights k_tl1a_ladders k_tl1a_minutes k_tl1a_echoFrom k_tl1a_echoTo k_tl1a_homes k_tl1a_talls k_tl1a_known k_tv0f_deeds k_tv0a_kinds k_tv0a_firsts k_tv0a_seconds k_tv1f_deeds k_tv1a_kinds k_tv1a_firsts k_tv1a_seconds (iv_lea (l := (-2147483648)) (h := 18) (r_le c83) (iv_top o75) (iv_lit (l := 18) (h := 18) (by decide)) (by decide)) k_o76 k_o77 k_o78 k_o79 k_o80 (iv_w (iv_lit (l := 1) (h := 1) (by decide)) (by decide)) (iv_w (iv_lit (l := 10) (h := 10) (by decide)) (by decide)) hpost
                            · skip
                              exact s_wx_X10_odds_117 k_ta_counts k_tl0f_huts k_tl0f_singers k_tl0f_dams k_tl0f_echoes k_tl0f_deep k_tl0f_slide k_tl0a_heights k_tl0a_ladders k_tl0a_minutes k_tl0a_echoFrom k_tl0a_echoTo k_tl0a_homes k_tl0a_talls k_tl0a_known k_tl1f_huts k_tl1f_singers k_tl1f_dams k_tl1f_echoes k_tl1f_deep k_tl1f_slide k_tl1a_heights k_tl1a_ladders k_tl1a_minutes k_tl1a_echoFrom k_tl1a_echoTo k_tl1a_homes k_tl1a_talls k_tl1a_known k_tv0f_deeds k_tv0a_kinds k_tv0a_firsts k_tv0a_seconds k_tv1f_deeds k_tv1a_kinds k_tv1a_firsts k_tv1a_seconds (iv_lea (l := (-2147483648)) (h := 18) (r_le c83) (iv_top o75) (iv_lit (l := 18) (h := 18) (by decide)) (by decide)) k_o76 k_o77 k_o78 k_o79 k_o80 (iv_w (iv_lit (l := 1) (h := 1) (by decide)) (by decide)) k_tl1f_slide hpost
                          · skip
                            refine ⟨fun c88 => ?_, fun c88 => ?_⟩
                            · skip
                              exact s_wx_X10_odds_117 k_ta_counts k_tl0f_huts k_tl0f_singers k_tl0f_dams k_tl0f_echoes k_tl0f_deep k_tl0f_slide k_tl0a_heights k_tl0a_ladders k_tl0a_minutes k_tl0a_echoFrom k_tl0a_echoTo k_tl0a_homes k_tl0a_talls k_tl0a_known k_tl1f_huts k_tl1f_singers k_tl1f_dams k_tl1f_echoes k_tl1f_deep k_tl1f_slide k_tl1a_heights k_tl1a_ladders k_tl1a_minutes k_tl1a_echoFrom k_tl1a_echoTo k_tl1a_homes k_tl1a_talls k_tl1a_known k_tv0f_deeds k_tv0a_kinds k_tv0a_firsts k_tv0a_seconds k_tv1f_deeds k_tv1a_kinds k_tv1a_firsts k_tv1a_seconds (iv_lea (l := (-2147483648)) (h := 18) (r_le c83) (iv_top o75) (iv_lit (l := 18) (h := 18) (by decide)) (by decide)) k_o76 k_o77 k_o78 k_o79 k_o80 (iv_w (iv_lit (l := 2) (h := 2) (by decide)) (by decide)) (iv_w (iv_lit (l := 10) (h := 10) (by decide)) (by decide)) hpost
                            · skip
                              exact s_wx_X10_odds_117 k_ta_counts k_tl0f_huts k_tl0f_singers k_tl0f_dams k_tl0f_echoes k_tl0f_deep k_tl0f_slide k_tl0a_heights k_tl0a_ladders k_tl0a_minutes k_tl0a_echoFrom k_tl0a_echoTo k_tl0a_homes k_tl0a_talls k_tl0a_known k_tl1f_huts k_tl1f_singers k_tl1f_dams k_tl1f_echoes k_tl1f_deep k_tl1f_slide k_tl1a_heights k_tl1a_ladders k_tl1a_minutes k_tl1a_echoFrom k_tl1a_echoTo k_tl1a_homes k_tl1a_talls k_tl1a_known k_tv0f_deeds k_tv0a_kinds k_tv0a_firsts k_tv0a_seconds k_tv1f_deeds k_tv1a_kinds k_tv1a_firsts k_tv1a_seconds (iv_lea (l := (-2147483648)) (h := 18) (r_le c83) (iv_top o75) (iv_lit (l := 18) (h := 18) (by decide)) (by decide)) k_o76 k_o77 k_o78 k_o79 k_o80 (iv_w (iv_lit (l := 2) (h := 2) (by decide)) (by decide)) k_tl1f_slide hpost
                        · skip
                          refine ⟨fun c89 => ?_, fun c89 => ?_⟩
                          · skip
                            exact s_wx_X10_odds_117 k_ta_counts k_tl0f_huts k_tl0f_singers k_tl0f_dams k_tl0f_echoes k_tl0f_deep k_tl0f_slide k_tl0a_heights k_tl0a_ladders k_tl0a_minutes k_tl0a_echoFrom k_tl0a_echoTo k_tl0a_homes k_tl0a_talls k_tl0a_known k_tl1f_huts k_tl1f_singers k_tl1f_dams k_tl1f_echoes k_tl1f_deep k_tl1f_slide k_tl1a_heights k_tl1a_ladders k_tl1a_minutes k_tl1a_echoFrom k_tl1a_echoTo k_tl1a_homes k_tl1a_talls k_tl1a_known k_tv0f_deeds k_tv0a_kinds k_tv0a_firsts k_tv0a_seconds k_tv1f_deeds k_tv1a_kinds k_tv1a_firsts k_tv1a_seconds (iv_lea (l := (-2147483648)) (h := 18) (r_le c83) (iv_top o75) (iv_lit (l := 18) (h := 18) (by decide)) (by decide)) k_o76 k_o77 k_o78 k_o79 k_o80 (iv_w (iv_lit (l := 5) (h := 5) (by decide)) (by decide)) (iv_w (iv_lit (l := 10) (h := 10) (by decide)) (by decide)) hpost
                          · skip
                            exact s_wx_X10_odds_117 k_ta_counts k_tl0f_huts k_tl0f_singers k_tl0f_dams k_tl0f_echoes k_tl0f_deep k_tl0f_slide k_tl0a_heights k_tl0a_ladders k_tl0a_minutes k_tl0a_echoFrom k_tl0a_echoTo k_tl0a_homes k_tl0a_talls k_tl0a_known k_tl1f_huts k_tl1f_singers k_tl1f_dams k_tl1f_echoes k_tl1f_deep k_tl1f_slide k_tl1a_heights k_tl1a_ladders k_tl1a_minutes k_tl1a_echoFrom k_tl1a_echoTo k_tl1a_homes k_tl1a_talls k_tl1a_known k_tv0f_deeds k_tv0a_kinds k_tv0a_firsts k_tv0a_seconds k_tv1f_deeds k_tv1a_kinds k_tv1a_firsts k_tv1a_seconds (iv_lea (l := (-2147483648)) (h := 18) (r_le c83) (iv_top o75) (iv_lit (l := 18) (h := 18) (by decide)) (by decide)) k_o76 k_o77 k_o78 k_o79 k_o80 (iv_w (iv_lit (l := 5) (h := 5) (by decide)) (by decide)) k_tl1f_slide hpost
                      · skip
                        refine ⟨fun c90 => ?_, fun c90 => ?_⟩
                        · skip
                          exact s_wx_X10_odds_117 k_ta_counts k_tl0f_huts k_tl0f_singers k_tl0f_dams k_tl0f_echoes k_tl0f_deep k_tl0f_slide k_tl0a_heights k_tl0a_ladders k_tl0a_minutes k_tl0a_echoFrom k_tl0a_echoTo k_tl0a_homes k_tl0a_talls k_tl0a_known k_tl1f_huts k_tl1f_singers k_tl1f_dams k_tl1f_echoes k_tl1f_deep k_tl1f_slide k_tl1a_heights k_tl1a_ladders k_tl1a_minutes k_tl1a_echoFrom k_tl1a_echoTo k_tl1a_homes k_tl1a_talls k_tl1a_known k_tv0f_deeds k_tv0a_kinds k_tv0a_firsts k_tv0a_seconds k_tv1f_deeds k_tv1a_kinds k_tv1a_firsts k_tv1a_seconds (iv_lea (l := (-2147483648)) (h := 18) (r_le c83) (iv_top o75) (iv_lit (l := 18) (h := 18) (by decide)) (by decide)) k_o76 k_o77 k_o78 k_o79 k_o80 (iv_w (iv_lit (l := 10) (h := 10) (by decide)) (by decide)) (iv_w (iv_lit (l := 10) (h := 10) (by decide)) (by decide)) hpost
                        · skip
                          exact s_wx_X10_odds_117 k_ta_counts k_tl0f_huts k_tl0f_singers k_tl0f_dams k_tl0f_echoes k_tl0f_deep k_tl0f_slide k_tl0a_heights k_tl0a_ladders k_tl0a_minutes k_tl0a_echoFrom k_tl0a_echoTo k_tl0a_homes k_tl0a_talls k_tl0a_known k_tl1f_huts k_tl1f_singers k_tl1f_dams k_tl1f_echoes k_tl1f_deep k_tl1f_slide k_tl1a_heights k_tl1a_ladders k_tl1a_minutes k_tl1a_echoFrom k_tl1a_echoTo k_tl1a_homes k_tl1a_talls k_tl1a_known k_tv0f_deeds k_tv0a_kinds k_tv0a_firsts k_tv0a_seconds k_tv1f_deeds k_tv1a_kinds k_tv1a_firsts k_tv1a_seconds (iv_lea (l := (-2147483648)) (h := 18) (r_le c83) (iv_top o75) (iv_lit (l := 18) (h := 18) (by decide)) (by decide)) k_o76 k_o77 k_o78 k_o79 k_o80 (iv_w (iv_lit (l := 10) (h := 10) (by decide)) (by decide)) k_tl1f_slide hpost
                    · skip
                      exact hpost _ _ _ _ _ _ _ _ _ k_o76 k_o77 k_o78 k_o79 k_o80
                  · skip
                    exact hpost _ _ _ _ _ _ _ _ _ k_o76 k_o77 k_o78 k_o79 k_o80
                · skip
                  exact hpost _ _ _ _ _ _ _ _ _ k_nf_begun k_nf_climbed k_na_huts k_na_known k_na_levels
-- wx_X10_drawn
set_option maxRecDepth 20000 in
theorem s_wx_X10_drawn_0 {ta_counts : Nat → Int32} {tl0f_huts : Int32} {tl0f_singers : Int32} {tl0f_dams : Int32} {tl0f_echoes : Int32} {tl0f_deep : Int32} {tl0a_heights : Nat → Int32} {tl0a_ladders : Nat → Int32} {tl0a_minutes : Nat → Int32} {tl0a_echoFrom : Nat → Int32} {tl0a_echoTo : Nat → Int32} {tl0a_homes : Nat → Int32} {tl0a_talls : Nat → Int32} {tl0a_known : Nat → Int32} {tl1f_huts : Int32} {tl1f_singers : Int32} {tl1f_dams : Int32} {tl1f_echoes : Int32} {tl1f_deep : Int32} {tl1a_heights : Nat → Int32} {tl1a_ladders : Nat → Int32} {tl1a_minutes : Nat → Int32} {tl1a_echoFrom : Nat → Int32} {tl1a_echoTo : Nat → Int32} {tl1a_homes : Nat → Int32} {tl1a_talls : Nat → Int32} {tl1a_known : Nat → Int32} {nf_minute : Int32} {nf_avalanches : Int32} {nf_begun : Int32} {nf_climbed : Int32} {nf_seed : Int32} {na_huts : Nat → Int32} {na_known : Nat → Int32} {na_levels : Nat → Int32} {na_snow : Nat → Int32} {na_open : Nat → Int32} {x1 : Int32} {x2 : Int32} {x3 : Int32} {x4 : Int32} {post : Int32 → (Int32) → (Int32) → (Int32) → (Int32) → (Int32) → (Nat → Int32) → (Nat → Int32) → (Nat → Int32) → (Nat → Int32) → (Nat → Int32) → Prop} (k_ta_counts : ∀ j, iv 0 2 (ta_counts j)) (k_tl0f_huts : iv 0 9 tl0f_huts) (k_tl0f_singers : iv 0 6 tl0f_singers) (k_tl0f_dams : iv 0 511 tl0f_dams) (k_tl0f_echoes : iv 0 4 tl0f_echoes) (k_tl0f_deep : iv 1 9 tl0f_deep) (k_tl0a_heights : ∀ j, iv 0 99 (tl0a_heights j)) (k_tl0a_ladders : ∀ j, iv 0 9 (tl0a_ladders j)) (k_tl0a_minutes : ∀ j, iv 0 9 (tl0a_minutes j)) (k_tl0a_echoFrom : ∀ j, iv 0 8 (tl0a_echoFrom j)) (k_tl0a_echoTo : ∀ j, iv 0 8 (tl0a_echoTo j)) (k_tl0a_homes : ∀ j, iv 0 8 (tl0a_homes j)) (k_tl0a_talls : ∀ j, iv 0 9 (tl0a_talls j)) (k_tl0a_known : ∀ j, iv 0 31 (tl0a_known j)) (k_tl1f_huts : iv 0 9 tl1f_huts) (k_tl1f_singers : iv 0 6 tl1f_singers) (k_tl1f_dams : iv 0 511 tl1f_dams) (k_tl1f_echoes : iv 0 4 tl1f_echoes) (k_tl1f_deep : iv 1 9 tl1f_deep) (k_tl1a_heights : ∀ j, iv 0 99 (tl1a_heights j)) (k_tl1a_ladders : ∀ j, iv 0 9 (tl1a_ladders j)) (k_tl1a_minutes : ∀ j, iv 0 9 (tl1a_minutes j)) (k_tl1a_echoFrom : ∀ j, iv 0 8 (tl1a_echoFrom j)) (k_tl1a_echoTo : ∀ j, iv 0 8 (tl1a_echoTo j)) (k_tl1a_homes : ∀ j, iv 0 8 (tl1a_homes j)) (k_tl1a_talls : ∀ j, iv 0 9 (tl1a_talls j)) (k_tl1a_known : ∀ j, iv 0 31 (tl1a_known j)) (k_nf_begun : iv 0 31 nf_begun) (k_nf_climbed : iv 0 63 nf_climbed) (k_na_huts : ∀ j, iv 0 8 (na_huts j)) (k_na_known : ∀ j, iv 0 31 (na_known j)) (k_na_levels : ∀ j, iv (-9) 122 (na_levels j)) (k_na_open : ∀ j, iv 0 511 (na_open j)) (hpost : ∀ (r : Int32) (nf_minute : Int32) (nf_avalanches : Int32) (nf_begun : Int32) (nf_climbed : Int32) (nf_seed : Int32) (na_huts : Nat → Int32) (na_known : Nat → Int32) (na_levels : Nat → Int32) (na_snow : Nat → Int32) (na_open : Nat → Int32), (iv 0 31 nf_begun) → (iv 0 63 nf_climbed) → (∀ j, iv 0 8 (na_huts j)) → (∀ j, iv 0 31 (na_known j)) → (∀ j, iv (-9) 122 (na_levels j)) → (∀ j, iv 0 511 (na_open j)) → post r nf_minute nf_avalanches nf_begun nf_climbed nf_seed na_huts na_known na_levels na_snow na_open) : q_wx_X10_drawn_0 ta_counts tl0f_huts tl0f_singers tl0f_dams tl0f_echoes tl0f_deep tl0a_heights tl0a_ladders tl0a_minutes tl0a_echoFrom tl0a_echoTo tl0a_homes tl0a_talls tl0a_known tl1f_huts tl1f_singers tl1f_dams tl1f_echoes tl1f_deep tl1a_heights tl1a_ladders tl1a_minutes tl1a_echoFrom tl1a_echoTo tl1a_homes tl1a_talls tl1a_known nf_minute nf_avalanches nf_begun nf_climbed nf_seed na_huts na_known na_levels na_snow na_open x1 x2 x3 x4 post := by
  refine ⟨fun c1 => ?_, fun c1 => ?_⟩
  · skip
    refine ⟨fun _ => ?_, fun h => absurd h (by decide), fun h0 h1 => absurd rfl h0⟩
    exact hpost _ _ _ _ _ _ _ _ _ _ _ k_nf_begun k_nf_climbed k_na_huts k_na_known k_na_levels k_na_open
  · skip
    refine ⟨fun c2 => ?_, fun c2 => ?_⟩
    · skip
      refine ⟨fun _ => ?_, fun h => absurd h (by decide), fun h0 h1 => absurd rfl h0⟩
      exact hpost _ _ _ _ _ _ _ _ _ _ _ k_nf_begun k_nf_climbed k_na_huts k_na_known k_na_levels k_na_open
    · skip
      refine ⟨iv_in (iv_lta (l := 0) (h := 1) (r_nle c2) (iv_leb (l := 0) (h := 2147483647) (r_nlt c1) (iv_lit (l := 0) (h := 0) (by decide)) (iv_top x1) (by decide)) (k_ta_counts _) (by decide)) (by decide), fun hc => ?_, fun hc => ?_⟩
      · skip
        refine ⟨fun h => absurd h (by decide), fun h => absurd h (by decide), fun h0 h1 => ?_⟩
        refine ⟨fun c3 => ?_, fun c3 => ?_⟩
        · skip
          exact hpost _ _ _ _ _ _ _ _ _ _ _ k_nf_begun k_nf_climbed k_na_huts k_na_known k_na_levels k_na_open
        · skip
          refine ⟨fun c4 => ?_, fun c4 => ?_⟩
          · skip
            exact hpost _ _ _ _ _ _ _ _ _ _ _ k_nf_begun k_nf_climbed k_na_huts k_na_known k_na_levels k_na_open
          · skip
            refine ⟨fun c5 => ?_, fun c5 => ?_⟩
            · skip
              refine s_wn_X3_draw_6_0 k_nf_begun k_nf_climbed k_na_huts k_na_known k_na_levels k_tl0f_huts (iv_ne (l := 1) (h := 6) c3 k_tl0f_singers (iv_lit (l := 0) (h := 0) (by decide)) (by decide)) k_tl0f_dams k_tl0f_echoes k_tl0f_deep k_tl0a_heights k_tl0a_ladders k_tl0a_minutes k_tl0a_echoFrom k_tl0a_echoTo k_tl0a_homes k_tl0a_talls k_tl0a_known (iv_lea (l := 0) (h := 60) (r_le c5) (iv_leb (l := 0) (h := 2147483647) (r_nlt c4) (iv_lit (l := 0) (h := 0) (by decide)) (iv_top x3) (by decide)) (iv_lit (l := 60) (h := 60) (by decide)) (by decide)) (fun o6 o7 o8 o9 o10 o11 o12 o13 o14 k_o8 k_o9 k_o11 k_o12 k_o13 => ?_)
              refine s_wn_X3_look_6_0 k_o8 (iv_w k_o9 (by decide)) k_o11 k_o12 k_o13 k_na_open k_tl0f_huts (iv_w (iv_ne (l := 1) (h := 6) c3 k_tl0f_singers (iv_lit (l := 0) (h := 0) (by decide)) (by decide)) (by decide)) k_tl0f_dams k_tl0f_deep k_tl0a_heights k_tl0a_ladders k_tl0a_minutes k_tl0a_talls (fun r15 o16 k_o16 => ?_)
              exact hpost _ _ _ _ _ _ _ _ _ _ _ k_o8 (iv_w k_o9 (by decide)) k_o11 k_o12 k_o13 k_o16
            · skip
              exact hpost _ _ _ _ _ _ _ _ _ _ _ k_nf_begun k_nf_climbed k_na_huts k_na_known k_na_levels k_na_open
      · skip
        refine ⟨fun h => absurd h (by decide), fun _ => ?_, fun h0 h1 => absurd rfl h1⟩
        refine ⟨fun c17 => ?_, fun c17 => ?_⟩
        · skip
          exact hpost _ _ _ _ _ _ _ _ _ _ _ k_nf_begun k_nf_climbed k_na_huts k_na_known k_na_levels k_na_open
        · skip
          refine ⟨fun c18 => ?_, fun c18 => ?_⟩
          · skip
            exact hpost _ _ _ _ _ _ _ _ _ _ _ k_nf_begun k_nf_climbed k_na_huts k_na_known k_na_levels k_na_open
          · skip
            refine ⟨fun c19 => ?_, fun c19 => ?_⟩
            · skip
              refine s_wn_X3_draw_6_0 k_nf_begun k_nf_climbed k_na_huts k_na_known k_na_levels k_tl1f_huts (iv_ne (l := 1) (h := 6) c17 k_tl1f_singers (iv_lit (l := 0) (h := 0) (by decide)) (by decide)) k_tl1f_dams k_tl1f_echoes k_tl1f_deep k_tl1a_heights k_tl1a_ladders k_tl1a_minutes k_tl1a_echoFrom k_tl1a_echoTo k_tl1a_homes k_tl1a_talls k_tl1a_known (iv_lea (l := 0) (h := 60) (r_le c19) (iv_leb (l := 0) (h := 2147483647) (r_nlt c18) (iv_lit (l := 0) (h := 0) (by decide)) (iv_top x3) (by decide)) (iv_lit (l := 60) (h := 60) (by decide)) (by decide)) (fun o20 o21 o22 o23 o24 o25 o26 o27 o28 k_o22 k_o23 k_o25 k_o26 k_o27 => ?_)
              refine s_wn_X3_look_6_0 k_o22 (iv_w k_o23 (by decide)) k_o25 k_o26 k_o27 k_na_open k_tl1f_huts (iv_w (iv_ne (l := 1) (h := 6) c17 k_tl1f_singers (iv_lit (l := 0) (h := 0) (by decide)) (by decide)) (by decide)) k_tl1f_dams k_tl1f_deep k_tl1a_heights k_tl1a_ladders k_tl1a_minutes k_tl1a_talls (fun r29 o30 k_o30 => ?_)
              exact hpost _ _ _ _ _ _ _ _ _ _ _ k_o22 (iv_w k_o23 (by decide)) k_o25 k_o26 k_o27 k_o30
            · skip
              exact hpost _ _ _ _ _ _ _ _ _ _ _ k_nf_begun k_nf_climbed k_na_huts k_na_known k_na_levels k_na_open
-- wx_X10_psalm
set_option maxRecDepth 20000 in
theorem s_wx_X10_psalm_0 {ta_counts : Nat → Int32} {tl0f_huts : Int32} {tl0f_dams : Int32} {tl0f_echoes : Int32} {tl0a_heights : Nat → Int32} {tl0a_minutes : Nat → Int32} {tl0a_echoFrom : Nat → Int32} {tl0a_echoTo : Nat → Int32} {tl1f_huts : Int32} {tl1f_dams : Int32} {tl1f_echoes : Int32} {tl1a_heights : Nat → Int32} {tl1a_minutes : Nat → Int32} {tl1a_echoFrom : Nat → Int32} {tl1a_echoTo : Nat → Int32} {pa_heard : Nat → Int32} {x1 : Int32} {x2 : Int32} {x3 : Int32} {x4 : Int32} {post : Int32 → (Nat → Int32) → Prop} (k_ta_counts : ∀ j, iv 0 2 (ta_counts j)) (k_tl0f_huts : iv 0 9 tl0f_huts) (k_tl0f_dams : iv 0 511 tl0f_dams) (k_tl0f_echoes : iv 0 4 tl0f_echoes) (k_tl0a_heights : ∀ j, iv 0 99 (tl0a_heights j)) (k_tl0a_minutes : ∀ j, iv 0 9 (tl0a_minutes j)) (k_tl0a_echoFrom : ∀ j, iv 0 8 (tl0a_echoFrom j)) (k_tl0a_echoTo : ∀ j, iv 0 8 (tl0a_echoTo j)) (k_tl1f_huts : iv 0 9 tl1f_huts) (k_tl1f_dams : iv 0 511 tl1f_dams) (k_tl1f_echoes : iv 0 4 tl1f_echoes) (k_tl1a_heights : ∀ j, iv 0 99 (tl1a_heights j)) (k_tl1a_minutes : ∀ j, iv 0 9 (tl1a_minutes j)) (k_tl1a_echoFrom : ∀ j, iv 0 8 (tl1a_echoFrom j)) (k_tl1a_echoTo : ∀ j, iv 0 8 (tl1a_echoTo j)) (k_pa_heard : ∀ j, iv 0 1000 (pa_heard j)) (hpost : ∀ (r : Int32) (pa_heard : Nat → Int32), iv (-1000) 511 r → (∀ j, iv 0 1000 (pa_heard j)) → post r pa_heard) : q_wx_X10_psalm_0 ta_counts tl0f_huts tl0f_dams tl0f_echoes tl0a_heights tl0a_minutes tl0a_echoFrom tl0a_echoTo tl1f_huts tl1f_dams tl1f_echoes tl1a_heights tl1a_minutes tl1a_echoFrom tl1a_echoTo pa_heard x1 x2 x3 x4 post := by
  refine ⟨fun c1 => ?_, fun c1 => ?_⟩
  · skip
    refine ⟨fun _ => ?_, fun h => absurd h (by decide), fun h0 h1 => absurd rfl h0⟩
    exact hpost _ _ (iv_w (iv_lit (l := (-2)) (h := (-2)) (by decide)) (by decide)) k_pa_heard
  · skip
    refine ⟨fun c2 => ?_, fun c2 => ?_⟩
    · skip
      refine ⟨fun _ => ?_, fun h => absurd h (by decide), fun h0 h1 => absurd rfl h0⟩
      exact hpost _ _ (iv_w (iv_lit (l := (-2)) (h := (-2)) (by decide)) (by decide)) k_pa_heard
    · skip
      refine ⟨iv_in (iv_lta (l := 0) (h := 1) (r_nle c2) (iv_leb (l := 0) (h := 2147483647) (r_nlt c1) (iv_lit (l := 0) (h := 0) (by decide)) (iv_top x1) (by decide)) (k_ta_counts _) (by decide)) (by decide), fun hc => ?_, fun hc => ?_⟩
      · skip
        refine ⟨fun h => absurd h (by decide), fun h => absurd h (by decide), fun h0 h1 => ?_⟩
        refine ⟨fun c3 => ?_, fun c3 => ?_⟩
        · skip
          refine ⟨fun c4 => ?_, fun c4 => ?_⟩
          · skip
            exact hpost _ _ (iv_w (iv_lit (l := (-2)) (h := (-2)) (by decide)) (by decide)) k_pa_heard
          · skip
            exact (iv_emp (iv_ne (l := 1) (h := 0) c4 (iv_lit (l := 0) (h := 0) (by decide)) (iv_lit (l := 0) (h := 0) (by decide)) (by decide)) (by decide)).elim
        · skip
          refine ⟨fun c5 => ?_, fun c5 => ?_⟩
          · skip
            refine ⟨fun c6 => ?_, fun c6 => ?_⟩
            · skip
              exact hpost _ _ (iv_w (iv_lit (l := (-2)) (h := (-2)) (by decide)) (by decide)) k_pa_heard
            · skip
              exact (iv_emp (iv_ne (l := 1) (h := 0) c6 (iv_lit (l := 0) (h := 0) (by decide)) (iv_lit (l := 0) (h := 0) (by decide)) (by decide)) (by decide)).elim
          · skip
            refine ⟨fun c7 => ?_, fun c7 => ?_⟩
            · skip
              exact (iv_emp (iv_eqa (l := 1) (h := 0) c7 (iv_lit (l := 1) (h := 1) (by decide)) (iv_lit (l := 0) (h := 0) (by decide)) (by decide)) (by decide)).elim
            · skip
              refine ⟨fun c8 => ?_, fun c8 => ?_⟩
              · skip
                exact hpost _ _ (iv_w (iv_lit (l := (-2)) (h := (-2)) (by decide)) (by decide)) k_pa_heard
              · skip
                refine ⟨fun c9 => ?_, fun c9 => ?_⟩
                · skip
                  exact hpost _ _ (iv_w (iv_lit (l := (-2)) (h := (-2)) (by decide)) (by decide)) k_pa_heard
                · skip
                  refine ⟨fun c10 => ?_, fun c10 => ?_⟩
                  · skip
                    exact hpost _ _ (iv_w (iv_lit (l := (-2)) (h := (-2)) (by decide)) (by decide)) k_pa_heard
                  · skip
                    refine ⟨fun c11 => ?_, fun c11 => ?_⟩
                    · skip
                      refine s_wp_X7_hear_9_0 k_pa_heard (iv_w (iv_ltb (l := 1) (h := 9) (r_nle c5) (iv_leb (l := 0) (h := 2147483647) (r_nlt c3) (iv_lit (l := 0) (h := 0) (by decide)) (iv_top x2) (by decide)) k_tl0f_huts (by decide)) (by decide)) k_tl0f_dams k_tl0f_echoes k_tl0a_heights k_tl0a_minutes k_tl0a_echoFrom k_tl0a_echoTo (fun o12 k_o12 => ?_)
                      refine s_wp_X7_fromBy_9_0 k_o12 (iv_ltb (l := 1) (h := 9) (r_nle c5) (iv_leb (l := 0) (h := 2147483647) (r_nlt c3) (iv_lit (l := 0) (h := 0) (by decide)) (iv_top x2) (by decide)) k_tl0f_huts (by decide)) (iv_lta (l := 0) (h := 8) (r_nle c5) (iv_leb (l := 0) (h := 2147483647) (r_nlt c3) (iv_lit (l := 0) (h := 0) (by decide)) (iv_top x2) (by decide)) k_tl0f_huts (by decide)) (iv_w (iv_lea (l := 0) (h := 99) (r_nlt c9) (iv_leb (l := 0) (h := 2147483647) (r_nlt c8) (iv_lit (l := 0) (h := 0) (by decide)) (iv_top x3) (by decide)) (iv_lit (l := 99) (h := 99) (by decide)) (by decide)) (by decide)) (fun r13 hr13 => ?_)
                      refine ⟨fun c14 => ?_, fun c14 => ?_⟩
                      · skip
                        refine ⟨fun c15 => ?_, fun c15 => ?_⟩
                        · skip
                          refine ⟨fun c16 => ?_, fun c16 => ?_⟩
                          · skip
                            refine s_wp_X7_soonest_9_0 k_o12 (iv_ltb (l := 1) (h := 9) (r_nle c5) (iv_leb (l := 0) (h := 2147483647) (r_nlt c3) (iv_lit (l := 0) (h := 0) (by decide)) (iv_top x2) (by decide)) k_tl0f_huts (by decide)) (iv_lta (l := 0) (h := 8) (r_nle c5) (iv_leb (l := 0) (h := 2147483647) (r_nlt c3) (iv_lit (l := 0) (h := 0) (by decide)) (iv_top x2) (by decide)) k_tl0f_huts (by decide)) (fun r17 hr17 => ?_)
                            exact hpost _ _ (iv_w (iv_sub (l := (-1000)) (h := 99) (iv_lea (l := 0) (h := 99) (r_nlt c9) (iv_leb (l := 0) (h := 2147483647) (r_nlt c8) (iv_lit (l := 0) (h := 0) (by decide)) (iv_top x3) (by decide)) (iv_lit (l := 99) (h := 99) (by decide)) (by decide)) hr17 (by decide)) (by decide)) k_o12
                          · skip
                            refine s_wl_X2_highest_0 (iv_ltb (l := 1) (h := 9) (r_nle c5) (iv_leb (l := 0) (h := 2147483647) (r_nlt c3) (iv_lit (l := 0) (h := 0) (by decide)) (iv_top x2) (by decide)) k_tl0f_huts (by decide)) k_tl0a_heights (iv_ne (l := 1) (h := 511) c15 hr13 (iv_lit (l := 0) (h := 0) (by decide)) (by decide)) (fun r18 hr18 => ?_)
                            exact hpost _ _ (iv_w hr18 (by decide)) k_o12
                        · skip
                          exact hpost _ _ (iv_w (iv_lit (l := (-1)) (h := (-1)) (by decide)) (by decide)) k_o12
                      · skip
                        exact hpost _ _ (iv_w hr13 (by decide)) k_o12
                    · skip
                      exact hpost _ _ (iv_w (iv_lit (l := (-2)) (h := (-2)) (by decide)) (by decide)) k_pa_heard
      · skip
        refine ⟨fun h => absurd h (by decide), fun _ => ?_, fun h0 h1 => absurd rfl h1⟩
        refine ⟨fun c19 => ?_, fun c19 => ?_⟩
        · skip
          refine ⟨fun c20 => ?_, fun c20 => ?_⟩
          · skip
            exact hpost _ _ (iv_w (iv_lit (l := (-2)) (h := (-2)) (by decide)) (by decide)) k_pa_heard
          · skip
            exact (iv_emp (iv_ne (l := 1) (h := 0) c20 (iv_lit (l := 0) (h := 0) (by decide)) (iv_lit (l := 0) (h := 0) (by decide)) (by decide)) (by decide)).elim
        · skip
          refine ⟨fun c21 => ?_, fun c21 => ?_⟩
          · skip
            refine ⟨fun c22 => ?_, fun c22 => ?_⟩
            · skip
              exact hpost _ _ (iv_w (iv_lit (l := (-2)) (h := (-2)) (by decide)) (by decide)) k_pa_heard
            · skip
              exact (iv_emp (iv_ne (l := 1) (h := 0) c22 (iv_lit (l := 0) (h := 0) (by decide)) (iv_lit (l := 0) (h := 0) (by decide)) (by decide)) (by decide)).elim
          · skip
            refine ⟨fun c23 => ?_, fun c23 => ?_⟩
            · skip
              exact (iv_emp (iv_eqa (l := 1) (h := 0) c23 (iv_lit (l := 1) (h := 1) (by decide)) (iv_lit (l := 0) (h := 0) (by decide)) (by decide)) (by decide)).elim
            · skip
              refine ⟨fun c24 => ?_, fun c24 => ?_⟩
              · skip
                exact hpost _ _ (iv_w (iv_lit (l := (-2)) (h := (-2)) (by decide)) (by decide)) k_pa_heard
              · skip
                refine ⟨fun c25 => ?_, fun c25 => ?_⟩
                · skip
                  exact hpost _ _ (iv_w (iv_lit (l := (-2)) (h := (-2)) (by decide)) (by decide)) k_pa_heard
                · skip
                  refine ⟨fun c26 => ?_, fun c26 => ?_⟩
                  · skip
                    exact hpost _ _ (iv_w (iv_lit (l := (-2)) (h := (-2)) (by decide)) (by decide)) k_pa_heard
                  · skip
                    refine ⟨fun c27 => ?_, fun c27 => ?_⟩
                    · skip
                      refine s_wp_X7_hear_9_0 k_pa_heard (iv_w (iv_ltb (l := 1) (h := 9) (r_nle c21) (iv_leb (l := 0) (h := 2147483647) (r_nlt c19) (iv_lit (l := 0) (h := 0) (by decide)) (iv_top x2) (by decide)) k_tl1f_huts (by decide)) (by decide)) k_tl1f_dams k_tl1f_echoes k_tl1a_heights k_tl1a_minutes k_tl1a_echoFrom k_tl1a_echoTo (fun o28 k_o28 => ?_)
                      refine s_wp_X7_fromBy_9_0 k_o28 (iv_ltb (l := 1) (h := 9) (r_nle c21) (iv_leb (l := 0) (h := 2147483647) (r_nlt c19) (iv_lit (l := 0) (h := 0) (by decide)) (iv_top x2) (by decide)) k_tl1f_huts (by decide)) (iv_lta (l := 0) (h := 8) (r_nle c21) (iv_leb (l := 0) (h := 2147483647) (r_nlt c19) (iv_lit (l := 0) (h := 0) (by decide)) (iv_top x2) (by decide)) k_tl1f_huts (by decide)) (iv_w (iv_lea (l := 0) (h := 99) (r_nlt c25) (iv_leb (l := 0) (h := 2147483647) (r_nlt c24) (iv_lit (l := 0) (h := 0) (by decide)) (iv_top x3) (by decide)) (iv_lit (l := 99) (h := 99) (by decide)) (by decide)) (by decide)) (fun r29 hr29 => ?_)
                      refine ⟨fun c30 => ?_, fun c30 => ?_⟩
                      · skip
                        refine ⟨fun c31 => ?_, fun c31 => ?_⟩
                        · skip
                          refine ⟨fun c32 => ?_, fun c32 => ?_⟩
                          · skip
                            refine s_wp_X7_soonest_9_0 k_o28 (iv_ltb (l := 1) (h := 9) (r_nle c21) (iv_leb (l := 0) (h := 2147483647) (r_nlt c19) (iv_lit (l := 0) (h := 0) (by decide)) (iv_top x2) (by decide)) k_tl1f_huts (by decide)) (iv_lta (l := 0) (h := 8) (r_nle c21) (iv_leb (l := 0) (h := 2147483647) (r_nlt c19) (iv_lit (l := 0) (h := 0) (by decide)) (iv_top x2) (by decide)) k_tl1f_huts (by decide)) (fun r33 hr33 => ?_)
                            exact hpost _ _ (iv_w (iv_sub (l := (-1000)) (h := 99) (iv_lea (l := 0) (h := 99) (r_nlt c25) (iv_leb (l := 0) (h := 2147483647) (r_nlt c24) (iv_lit (l := 0) (h := 0) (by decide)) (iv_top x3) (by decide)) (iv_lit (l := 99) (h := 99) (by decide)) (by decide)) hr33 (by decide)) (by decide)) k_o28
                          · skip
                            refine s_wl_X2_highest_0 (iv_ltb (l := 1) (h := 9) (r_nle c21) (iv_leb (l := 0) (h := 2147483647) (r_nlt c19) (iv_lit (l := 0) (h := 0) (by decide)) (iv_top x2) (by decide)) k_tl1f_huts (by decide)) k_tl1a_heights (iv_ne (l := 1) (h := 511) c31 hr29 (iv_lit (l := 0) (h := 0) (by decide)) (by decide)) (fun r34 hr34 => ?_)
                            exact hpost _ _ (iv_w hr34 (by decide)) k_o28
                        · skip
                          exact hpost _ _ (iv_w (iv_lit (l := (-1)) (h := (-1)) (by decide)) (by decide)) k_o28
                      · skip
                        exact hpost _ _ (iv_w hr29 (by decide)) k_o28
                    · skip
                      exact hpost _ _ (iv_w (iv_lit (l := (-2)) (h := (-2)) (by decide)) (by decide)) k_pa_heard
-- wx_X10_meet
set_option maxRecDepth 20000 in
theorem s_wx_X10_meet_0 {ta_counts : Nat → Int32} {tl0f_huts : Int32} {tl0f_singers : Int32} {tl0a_minutes : Nat → Int32} {tl0a_homes : Nat → Int32} {tl1f_huts : Int32} {tl1f_singers : Int32} {tl1a_minutes : Nat → Int32} {tl1a_homes : Nat → Int32} {pa_walked : Nat → Int32} {x1 : Int32} {x2 : Int32} {x3 : Int32} {x4 : Int32} {post : Int32 → (Nat → Int32) → Prop} (k_ta_counts : ∀ j, iv 0 2 (ta_counts j)) (k_tl0f_huts : iv 0 9 tl0f_huts) (k_tl0f_singers : iv 0 6 tl0f_singers) (k_tl0a_minutes : ∀ j, iv 0 9 (tl0a_minutes j)) (k_tl0a_homes : ∀ j, iv 0 8 (tl0a_homes j)) (k_tl1f_huts : iv 0 9 tl1f_huts) (k_tl1f_singers : iv 0 6 tl1f_singers) (k_tl1a_minutes : ∀ j, iv 0 9 (tl1a_minutes j)) (k_tl1a_homes : ∀ j, iv 0 8 (tl1a_homes j)) (k_pa_walked : ∀ j, iv 0 1000 (pa_walked j)) (hpost : ∀ (r : Int32) (pa_walked : Nat → Int32), iv (-1) 1000 r → (∀ j, iv 0 1000 (pa_walked j)) → post r pa_walked) : q_wx_X10_meet_0 ta_counts tl0f_huts tl0f_singers tl0a_minutes tl0a_homes tl1f_huts tl1f_singers tl1a_minutes tl1a_homes pa_walked x1 x2 x3 x4 post := by
  refine ⟨fun c1 => ?_, fun c1 => ?_⟩
  · skip
    refine ⟨fun _ => ?_, fun h => absurd h (by decide), fun h0 h1 => absurd rfl h0⟩
    exact hpost _ _ (iv_w (iv_lit (l := (-1)) (h := (-1)) (by decide)) (by decide)) k_pa_walked
  · skip
    refine ⟨fun c2 => ?_, fun c2 => ?_⟩
    · skip
      refine ⟨fun _ => ?_, fun h => absurd h (by decide), fun h0 h1 => absurd rfl h0⟩
      exact hpost _ _ (iv_w (iv_lit (l := (-1)) (h := (-1)) (by decide)) (by decide)) k_pa_walked
    · skip
      refine ⟨iv_in (iv_lta (l := 0) (h := 1) (r_nle c2) (iv_leb (l := 0) (h := 2147483647) (r_nlt c1) (iv_lit (l := 0) (h := 0) (by decide)) (iv_top x1) (by decide)) (k_ta_counts _) (by decide)) (by decide), fun hc => ?_, fun hc => ?_⟩
      · skip
        refine ⟨fun h => absurd h (by decide), fun h => absurd h (by decide), fun h0 h1 => ?_⟩
        refine ⟨fun c3 => ?_, fun c3 => ?_⟩
        · skip
          refine ⟨fun c4 => ?_, fun c4 => ?_⟩
          · skip
            exact hpost _ _ (iv_w (iv_lit (l := (-1)) (h := (-1)) (by decide)) (by decide)) k_pa_walked
          · skip
            exact (iv_emp (iv_ne (l := 1) (h := 0) c4 (iv_lit (l := 0) (h := 0) (by decide)) (iv_lit (l := 0) (h := 0) (by decide)) (by decide)) (by decide)).elim
        · skip
          refine ⟨fun c5 => ?_, fun c5 => ?_⟩
          · skip
            refine ⟨fun c6 => ?_, fun c6 => ?_⟩
            · skip
              exact hpost _ _ (iv_w (iv_lit (l := (-1)) (h := (-1)) (by decide)) (by decide)) k_pa_walked
            · skip
              exact (iv_emp (iv_ne (l := 1) (h := 0) c6 (iv_lit (l := 0) (h := 0) (by decide)) (iv_lit (l := 0) (h := 0) (by decide)) (by decide)) (by decide)).elim
          · skip
            refine ⟨fun c7 => ?_, fun c7 => ?_⟩
            · skip
              exact (iv_emp (iv_eqa (l := 1) (h := 0) c7 (iv_lit (l := 1) (h := 1) (by decide)) (iv_lit (l := 0) (h := 0) (by decide)) (by decide)) (by decide)).elim
            · skip
              refine ⟨fun c8 => ?_, fun c8 => ?_⟩
              · skip
                refine ⟨fun c9 => ?_, fun c9 => ?_⟩
                · skip
                  exact hpost _ _ (iv_w (iv_lit (l := (-1)) (h := (-1)) (by decide)) (by decide)) k_pa_walked
                · skip
                  exact (iv_emp (iv_ne (l := 1) (h := 0) c9 (iv_lit (l := 0) (h := 0) (by decide)) (iv_lit (l := 0) (h := 0) (by decide)) (by decide)) (by decide)).elim
              · skip
                refine ⟨fun c10 => ?_, fun c10 => ?_⟩
                · skip
                  refine ⟨fun c11 => ?_, fun c11 => ?_⟩
                  · skip
                    exact hpost _ _ (iv_w (iv_lit (l := (-1)) (h := (-1)) (by decide)) (by decide)) k_pa_walked
                  · skip
                    exact (iv_emp (iv_ne (l := 1) (h := 0) c11 (iv_lit (l := 0) (h := 0) (by decide)) (iv_lit (l := 0) (h := 0) (by decide)) (by decide)) (by decide)).elim
                · skip
                  refine ⟨fun c12 => ?_, fun c12 => ?_⟩
                  · skip
                    exact (iv_emp (iv_eqa (l := 1) (h := 0) c12 (iv_lit (l := 1) (h := 1) (by decide)) (iv_lit (l := 0) (h := 0) (by decide)) (by decide)) (by decide)).elim
                  · skip
                    refine ⟨fun c13 => ?_, fun c13 => ?_⟩
                    · skip
                      refine s_wp_X7_walk_9_0 k_pa_walked k_tl0f_huts k_tl0a_minutes (fun o14 k_o14 => ?_)
                      refine ⟨iv_in (iv_lta (l := 0) (h := 5) (r_nle c5) (iv_leb (l := 0) (h := 2147483647) (r_nlt c3) (iv_lit (l := 0) (h := 0) (by decide)) (iv_top x2) (by decide)) k_tl0f_singers (by decide)) (by decide), ?_⟩
                      refine ⟨iv_in (iv_lta (l := 0) (h := 5) (r_nle c10) (iv_leb (l := 0) (h := 2147483647) (r_nlt c8) (iv_lit (l := 0) (h := 0) (by decide)) (iv_top x3) (by decide)) (iv_ltb (l := 1) (h := 6) (r_nle c5) (iv_leb (l := 0) (h := 2147483647) (r_nlt c3) (iv_lit (l := 0) (h := 0) (by decide)) (iv_top x2) (by decide)) k_tl0f_singers (by decide)) (by decide)) (by decide), ?_⟩
                      refine s_wp_X7_together_9_2_0 k_o14 k_tl0f_huts (k_tl0a_homes _) (k_tl0a_homes _) (fun r15 hr15 => ?_)
                      exact hpost _ _ hr15 k_o14
                    · skip
                      exact hpost _ _ (iv_w (iv_lit (l := (-1)) (h := (-1)) (by decide)) (by decide)) k_pa_walked
      · skip
        refine ⟨fun h => absurd h (by decide), fun _ => ?_, fun h0 h1 => absurd rfl h1⟩
        refine ⟨fun c16 => ?_, fun c16 => ?_⟩
        · skip
          refine ⟨fun c17 => ?_, fun c17 => ?_⟩
          · skip
            exact hpost _ _ (iv_w (iv_lit (l := (-1)) (h := (-1)) (by decide)) (by decide)) k_pa_walked
          · skip
            exact (iv_emp (iv_ne (l := 1) (h := 0) c17 (iv_lit (l := 0) (h := 0) (by decide)) (iv_lit (l := 0) (h := 0) (by decide)) (by decide)) (by decide)).elim
        · skip
          refine ⟨fun c18 => ?_, fun c18 => ?_⟩
          · skip
            refine ⟨fun c19 => ?_, fun c19 => ?_⟩
            · skip
              exact hpost _ _ (iv_w (iv_lit (l := (-1)) (h := (-1)) (by decide)) (by decide)) k_pa_walked
            · skip
              exact (iv_emp (iv_ne (l := 1) (h := 0) c19 (iv_lit (l := 0) (h := 0) (by decide)) (iv_lit (l := 0) (h := 0) (by decide)) (by decide)) (by decide)).elim
          · skip
            refine ⟨fun c20 => ?_, fun c20 => ?_⟩
            · skip
              exact (iv_emp (iv_eqa (l := 1) (h := 0) c20 (iv_lit (l := 1) (h := 1) (by decide)) (iv_lit (l := 0) (h := 0) (by decide)) (by decide)) (by decide)).elim
            · skip
              refine ⟨fun c21 => ?_, fun c21 => ?_⟩
              · skip
                refine ⟨fun c22 => ?_, fun c22 => ?_⟩
                · skip
                  exact hpost _ _ (iv_w (iv_lit (l := (-1)) (h := (-1)) (by decide)) (by decide)) k_pa_walked
                · skip
                  exact (iv_emp (iv_ne (l := 1) (h := 0) c22 (iv_lit (l := 0) (h := 0) (by decide)) (iv_lit (l := 0) (h := 0) (by decide)) (by decide)) (by decide)).elim
              · skip
                refine ⟨fun c23 => ?_, fun c23 => ?_⟩
                · skip
                  refine ⟨fun c24 => ?_, fun c24 => ?_⟩
                  · skip
                    exact hpost _ _ (iv_w (iv_lit (l := (-1)) (h := (-1)) (by decide)) (by decide)) k_pa_walked
                  · skip
                    exact (iv_emp (iv_ne (l := 1) (h := 0) c24 (iv_lit (l := 0) (h := 0) (by decide)) (iv_lit (l := 0) (h := 0) (by decide)) (by decide)) (by decide)).elim
                · skip
                  refine ⟨fun c25 => ?_, fun c25 => ?_⟩
                  · skip
                    exact (iv_emp (iv_eqa (l := 1) (h := 0) c25 (iv_lit (l := 1) (h := 1) (by decide)) (iv_lit (l := 0) (h := 0) (by decide)) (by decide)) (by decide)).elim
                  · skip
                    refine ⟨fun c26 => ?_, fun c26 => ?_⟩
                    · skip
                      refine s_wp_X7_walk_9_0 k_pa_walked k_tl1f_huts k_tl1a_minutes (fun o27 k_o27 => ?_)
                      refine ⟨iv_in (iv_lta (l := 0) (h := 5) (r_nle c18) (iv_leb (l := 0) (h := 2147483647) (r_nlt c16) (iv_lit (l := 0) (h := 0) (by decide)) (iv_top x2) (by decide)) k_tl1f_singers (by decide)) (by decide), ?_⟩
                      refine ⟨iv_in (iv_lta (l := 0) (h := 5) (r_nle c23) (iv_leb (l := 0) (h := 2147483647) (r_nlt c21) (iv_lit (l := 0) (h := 0) (by decide)) (iv_top x3) (by decide)) (iv_ltb (l := 1) (h := 6) (r_nle c18) (iv_leb (l := 0) (h := 2147483647) (r_nlt c16) (iv_lit (l := 0) (h := 0) (by decide)) (iv_top x2) (by decide)) k_tl1f_singers (by decide)) (by decide)) (by decide), ?_⟩
                      refine s_wp_X7_together_9_2_0 k_o27 k_tl1f_huts (k_tl1a_homes _) (k_tl1a_homes _) (fun r28 hr28 => ?_)
                      exact hpost _ _ hr28 k_o27
                    · skip
                      exact hpost _ _ (iv_w (iv_lit (l := (-1)) (h := (-1)) (by decide)) (by decide)) k_pa_walked
-- wx_X10_carry
set_option maxRecDepth 20000 in
theorem s_wx_X10_carry_0 {ta_counts : Nat → Int32} {tl0f_huts : Int32} {tl0f_singers : Int32} {tl0f_villages : Int32} {tl0f_dams : Int32} {tl0f_echoes : Int32} {tl0a_heights : Nat → Int32} {tl0a_minutes : Nat → Int32} {tl0a_echoFrom : Nat → Int32} {tl0a_echoTo : Nat → Int32} {tl0a_homes : Nat → Int32} {tl1f_huts : Int32} {tl1f_singers : Int32} {tl1f_villages : Int32} {tl1f_dams : Int32} {tl1f_echoes : Int32} {tl1a_heights : Nat → Int32} {tl1a_minutes : Nat → Int32} {tl1a_echoFrom : Nat → Int32} {tl1a_echoTo : Nat → Int32} {tl1a_homes : Nat → Int32} {pa_heard : Nat → Int32} {pa_walked : Nat → Int32} {x1 : Int32} {x2 : Int32} {x3 : Int32} {post : Int32 → (Nat → Int32) → (Nat → Int32) → Prop} (k_ta_counts : ∀ j, iv 0 2 (ta_counts j)) (k_tl0f_huts : iv 0 9 tl0f_huts) (k_tl0f_singers : iv 0 6 tl0f_singers) (k_tl0f_villages : iv 0 511 tl0f_villages) (k_tl0f_dams : iv 0 511 tl0f_dams) (k_tl0f_echoes : iv 0 4 tl0f_echoes) (k_tl0a_heights : ∀ j, iv 0 99 (tl0a_heights j)) (k_tl0a_minutes : ∀ j, iv 0 9 (tl0a_minutes j)) (k_tl0a_echoFrom : ∀ j, iv 0 8 (tl0a_echoFrom j)) (k_tl0a_echoTo : ∀ j, iv 0 8 (tl0a_echoTo j)) (k_tl0a_homes : ∀ j, iv 0 8 (tl0a_homes j)) (k_tl1f_huts : iv 0 9 tl1f_huts) (k_tl1f_singers : iv 0 6 tl1f_singers) (k_tl1f_villages : iv 0 511 tl1f_villages) (k_tl1f_dams : iv 0 511 tl1f_dams) (k_tl1f_echoes : iv 0 4 tl1f_echoes) (k_tl1a_heights : ∀ j, iv 0 99 (tl1a_heights j)) (k_tl1a_minutes : ∀ j, iv 0 9 (tl1a_minutes j)) (k_tl1a_echoFrom : ∀ j, iv 0 8 (tl1a_echoFrom j)) (k_tl1a_echoTo : ∀ j, iv 0 8 (tl1a_echoTo j)) (k_tl1a_homes : ∀ j, iv 0 8 (tl1a_homes j)) (k_pa_heard : ∀ j, iv 0 1000 (pa_heard j)) (k_pa_walked : ∀ j, iv 0 1000 (pa_walked j)) (hpost : ∀ (r : Int32) (pa_heard : Nat → Int32) (pa_walked : Nat → Int32), iv (-1) 1000 r → (∀ j, iv 0 1000 (pa_heard j)) → (∀ j, iv 0 1000 (pa_walked j)) → post r pa_heard pa_walked) : q_wx_X10_carry_0 ta_counts tl0f_huts tl0f_singers tl0f_villages tl0f_dams tl0f_echoes tl0a_heights tl0a_minutes tl0a_echoFrom tl0a_echoTo tl0a_homes tl1f_huts tl1f_singers tl1f_villages tl1f_dams tl1f_echoes tl1a_heights tl1a_minutes tl1a_echoFrom tl1a_echoTo tl1a_homes pa_heard pa_walked x1 x2 x3 post := by
  refine ⟨fun c1 => ?_, fun c1 => ?_⟩
  · skip
    refine ⟨fun _ => ?_, fun h => absurd h (by decide), fun h0 h1 => absurd rfl h0⟩
    exact hpost _ _ _ (iv_w (iv_lit (l := (-1)) (h := (-1)) (by decide)) (by decide)) k_pa_heard k_pa_walked
  · skip
    refine ⟨fun c2 => ?_, fun c2 => ?_⟩
    · skip
      refine ⟨fun _ => ?_, fun h => absurd h (by decide), fun h0 h1 => absurd rfl h0⟩
      exact hpost _ _ _ (iv_w (iv_lit (l := (-1)) (h := (-1)) (by decide)) (by decide)) k_pa_heard k_pa_walked
    · skip
      refine ⟨iv_in (iv_lta (l := 0) (h := 1) (r_nle c2) (iv_leb (l := 0) (h := 2147483647) (r_nlt c1) (iv_lit (l := 0) (h := 0) (by decide)) (iv_top x1) (by decide)) (k_ta_counts _) (by decide)) (by decide), fun hc => ?_, fun hc => ?_⟩
      · skip
        refine ⟨fun h => absurd h (by decide), fun h => absurd h (by decide), fun h0 h1 => ?_⟩
        refine ⟨fun c3 => ?_, fun c3 => ?_⟩
        · skip
          refine ⟨fun c4 => ?_, fun c4 => ?_⟩
          · skip
            exact (iv_emp (iv_ne (l := 1) (h := 0) c4 (iv_lit (l := 0) (h := 0) (by decide)) (iv_lit (l := 0) (h := 0) (by decide)) (by decide)) (by decide)).elim
          · skip
            exact hpost _ _ _ (iv_w (iv_lit (l := (-1)) (h := (-1)) (by decide)) (by decide)) k_pa_heard k_pa_walked
        · skip
          refine ⟨fun c5 => ?_, fun c5 => ?_⟩
          · skip
            refine ⟨fun c6 => ?_, fun c6 => ?_⟩
            · skip
              exact (iv_emp (iv_ne (l := 1) (h := 0) c6 (iv_lit (l := 0) (h := 0) (by decide)) (iv_lit (l := 0) (h := 0) (by decide)) (by decide)) (by decide)).elim
            · skip
              exact hpost _ _ _ (iv_w (iv_lit (l := (-1)) (h := (-1)) (by decide)) (by decide)) k_pa_heard k_pa_walked
          · skip
            refine ⟨fun c7 => ?_, fun c7 => ?_⟩
            · skip
              refine s_wp_X7_hear_9_0 k_pa_heard k_tl0f_huts k_tl0f_dams k_tl0f_echoes k_tl0a_heights k_tl0a_minutes k_tl0a_echoFrom k_tl0a_echoTo (fun o8 k_o8 => ?_)
              refine s_wp_X7_walk_9_0 k_pa_walked k_tl0f_huts k_tl0a_minutes (fun o9 k_o9 => ?_)
              refine ⟨iv_in (iv_lta (l := 0) (h := 5) (r_nle c5) (iv_leb (l := 0) (h := 2147483647) (r_nlt c3) (iv_lit (l := 0) (h := 0) (by decide)) (iv_top x2) (by decide)) k_tl0f_singers (by decide)) (by decide), ?_⟩
              refine s_wp_X7_carried_9_0 k_o8 k_o9 k_tl0f_huts k_tl0f_villages k_tl0f_dams (k_tl0a_homes _) (fun r10 hr10 => ?_)
              exact hpost _ _ _ hr10 k_o8 k_o9
            · skip
              exact (iv_emp (iv_eqa (l := 1) (h := 0) c7 (iv_lit (l := 1) (h := 1) (by decide)) (iv_lit (l := 0) (h := 0) (by decide)) (by decide)) (by decide)).elim
      · skip
        refine ⟨fun h => absurd h (by decide), fun _ => ?_, fun h0 h1 => absurd rfl h1⟩
        refine ⟨fun c11 => ?_, fun c11 => ?_⟩
        · skip
          refine ⟨fun c12 => ?_, fun c12 => ?_⟩
          · skip
            exact (iv_emp (iv_ne (l := 1) (h := 0) c12 (iv_lit (l := 0) (h := 0) (by decide)) (iv_lit (l := 0) (h := 0) (by decide)) (by decide)) (by decide)).elim
          · skip
            exact hpost _ _ _ (iv_w (iv_lit (l := (-1)) (h := (-1)) (by decide)) (by decide)) k_pa_heard k_pa_walked
        · skip
          refine ⟨fun c13 => ?_, fun c13 => ?_⟩
          · skip
            refine ⟨fun c14 => ?_, fun c14 => ?_⟩
            · skip
              exact (iv_emp (iv_ne (l := 1) (h := 0) c14 (iv_lit (l := 0) (h := 0) (by decide)) (iv_lit (l := 0) (h := 0) (by decide)) (by decide)) (by decide)).elim
            · skip
              exact hpost _ _ _ (iv_w (iv_lit (l := (-1)) (h := (-1)) (by decide)) (by decide)) k_pa_heard k_pa_walked
          · skip
            refine ⟨fun c15 => ?_, fun c15 => ?_⟩
            · skip
              refine s_wp_X7_hear_9_0 k_pa_heard k_tl1f_huts k_tl1f_dams k_tl1f_echoes k_tl1a_heights k_tl1a_minutes k_tl1a_echoFrom k_tl1a_echoTo (fun o16 k_o16 => ?_)
              refine s_wp_X7_walk_9_0 k_pa_walked k_tl1f_huts k_tl1a_minutes (fun o17 k_o17 => ?_)
              refine ⟨iv_in (iv_lta (l := 0) (h := 5) (r_nle c13) (iv_leb (l := 0) (h := 2147483647) (r_nlt c11) (iv_lit (l := 0) (h := 0) (by decide)) (iv_top x2) (by decide)) k_tl1f_singers (by decide)) (by decide), ?_⟩
              refine s_wp_X7_carried_9_0 k_o16 k_o17 k_tl1f_huts k_tl1f_villages k_tl1f_dams (k_tl1a_homes _) (fun r18 hr18 => ?_)
              exact hpost _ _ _ hr18 k_o16 k_o17
            · skip
              exact (iv_emp (iv_eqa (l := 1) (h := 0) c15 (iv_lit (l := 1) (h := 1) (by decide)) (iv_lit (l := 0) (h := 0) (by decide)) (by decide)) (by decide)).elim
