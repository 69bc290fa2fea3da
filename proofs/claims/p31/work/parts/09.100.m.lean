-- m_ones
set_option maxRecDepth 20000 in
theorem s_m_ones_24 {P4 : Int32 → Int32 → Prop} {x0 : Int32} {x2 : Int32} {y0 : Int32} {y1 : Int32} {post : Int32 → Prop} (hx0 : iv (-1) 2147483647 x0) (hx2 : iv 0 8 x2) (hy1 : iv 0 1 y1) (m4 : Int) (hm4 : m4 ≤ x2.toInt) (hP4 : ∀ (x1 : Int32) (x2 : Int32), m4 < x2.toInt → iv 0 9 x2 → P4 x1 x2) (hpost : ∀ (r : Int32), post r) : q_m_ones_24 P4 x0 x2 y0 y1 post := by
  intro w1 ew1
  intro w2 ew2
  have hw2 := iv_eq ew2 (iv_add (l := 1) (h := 9) hx2 (iv_lit (l := 1) (h := 1) (by decide)) (by decide))
  exact hP4 _ _ (ml_up hm4 (inc_lt ew2 hx2 (by decide))) (iv_w hw2 (by decide))
set_option maxRecDepth 20000 in
theorem s_m_ones_4 {x0 : Int32} {x1 : Int32} {x2 : Int32} {post : Int32 → Prop} (hx0 : iv (-1) 2147483647 x0) (hx2 : iv 0 9 x2) (hpost : ∀ (r : Int32), post r) : q_m_ones_4 x0 x1 x2 post := by
  intro P hP
  have loop : ∀ (n : Nat) (x1 : Int32) (x2 : Int32), (9 - x2.toInt < (n : Int)) → (iv 0 9 x2) → P x1 x2 := by
    intro n
    induction n with
    | zero => intro x1 x2 hm hx2; exact (ms0_up hm hx2).elim
    | succ n ih =>
      intro x1 x2 hm hx2
      apply hP
      refine ⟨fun c1 => ?_, fun c1 => ?_⟩
      · skip
        exact hpost _
      · skip
        refine ⟨fun c2 => ?_, fun c2 => ?_⟩
        · skip
          refine ⟨fun c3 => ?_, fun c3 => ?_⟩
          · skip
            exact s_m_ones_24 hx0 (iv_lta (l := 0) (h := 8) (r_nle c1) hx2 (iv_lit (l := 9) (h := 9) (by decide)) (by decide)) (iv_w (iv_lit (l := 0) (h := 0) (by decide)) (by decide)) x2.toInt (Int.le_refl _) (fun u0 u1 hq g0 => ih u0 u1 (ms_up hm hq) g0) hpost
          · skip
            exact (iv_emp (iv_ne (l := 1) (h := 0) c3 (iv_lit (l := 0) (h := 0) (by decide)) (iv_lit (l := 0) (h := 0) (by decide)) (by decide)) (by decide)).elim
        · skip
          refine ⟨fun c4 => ?_, fun c4 => ?_⟩
          · skip
            exact (iv_emp (iv_eqa (l := 1) (h := 0) c4 (iv_lit (l := 1) (h := 1) (by decide)) (iv_lit (l := 0) (h := 0) (by decide)) (by decide)) (by decide)).elim
          · skip
            exact s_m_ones_24 hx0 (iv_lta (l := 0) (h := 8) (r_nle c1) hx2 (iv_lit (l := 9) (h := 9) (by decide)) (by decide)) (iv_w (iv_lit (l := 1) (h := 1) (by decide)) (by decide)) x2.toInt (Int.le_refl _) (fun u0 u1 hq g0 => ih u0 u1 (ms_up hm hq) g0) hpost
  exact loop _ _ _ (ms_init_up _ _) hx2
set_option maxRecDepth 20000 in
theorem s_m_ones_0 {x0 : Int32} {post : Int32 → Prop} (hx0 : iv (-1) 2147483647 x0) (hpost : ∀ (r : Int32), post r) : q_m_ones_0 x0 post := by
  exact s_m_ones_4 hx0 (iv_w (iv_lit (l := 0) (h := 0) (by decide)) (by decide)) hpost
-- m_end
set_option maxRecDepth 20000 in
theorem s_m_end_0 {f_code : Int32} {a_size : Nat → Int32} {x1 : Int32} {post : Int32 → (Int32) → (Nat → Int32) → Prop} (k_f_code : iv 0 0 f_code) (k_a_size : ∀ j, iv 0 600 (a_size j)) (hpost : ∀ (r : Int32) (f_code : Int32) (a_size : Nat → Int32), iv (-1) 600 r → (iv 0 0 f_code) → (∀ j, iv 0 600 (a_size j)) → post r f_code a_size) : q_m_end_0 f_code a_size x1 post := by
  refine ⟨fun c1 => ?_, fun c1 => ?_⟩
  · skip
    refine ⟨fun c2 => ?_, fun c2 => ?_⟩
    · skip
      exact (iv_emp (iv_ne (l := 1) (h := 0) c2 (iv_lit (l := 0) (h := 0) (by decide)) (iv_lit (l := 0) (h := 0) (by decide)) (by decide)) (by decide)).elim
    · skip
      exact hpost _ _ _ (iv_w (iv_lit (l := (-1)) (h := (-1)) (by decide)) (by decide)) (iv_lit (l := 0) (h := 0) (by decide)) k_a_size
  · skip
    refine ⟨fun c3 => ?_, fun c3 => ?_⟩
    · skip
      refine ⟨fun c4 => ?_, fun c4 => ?_⟩
      · skip
        exact (iv_emp (iv_ne (l := 1) (h := 0) c4 (iv_lit (l := 0) (h := 0) (by decide)) (iv_lit (l := 0) (h := 0) (by decide)) (by decide)) (by decide)).elim
      · skip
        exact hpost _ _ _ (iv_w (iv_lit (l := (-1)) (h := (-1)) (by decide)) (by decide)) (iv_lit (l := 0) (h := 0) (by decide)) k_a_size
    · skip
      refine ⟨fun c5 => ?_, fun c5 => ?_⟩
      · skip
        intro a6 ea6
        have k_a6 := iv_upd ea6 k_a_size (iv_lea (l := 0) (h := 600) (r_nlt c3) (iv_leb (l := 0) (h := 2147483647) (r_nlt c1) (iv_lit (l := 0) (h := 0) (by decide)) (iv_top x1) (by decide)) (k_a_size _) (by decide))
        exact hpost _ _ _ (iv_w (iv_lea (l := 0) (h := 600) (r_nlt c3) (iv_leb (l := 0) (h := 2147483647) (r_nlt c1) (iv_lit (l := 0) (h := 0) (by decide)) (iv_top x1) (by decide)) (k_a_size _) (by decide)) (by decide)) (iv_lit (l := 0) (h := 0) (by decide)) k_a6
      · skip
        exact (iv_emp (iv_eqa (l := 1) (h := 0) c5 (iv_lit (l := 1) (h := 1) (by decide)) (iv_lit (l := 0) (h := 0) (by decide)) (by decide)) (by decide)).elim
-- m_fault
set_option maxRecDepth 20000 in
theorem s_m_fault_0 {f_code : Int32} {a_fault : Nat → Int32} {a_faultPlace : Nat → Int32} {x1 : Int32} {post : Int32 → (Int32) → Prop} (k_f_code : iv 0 0 f_code) (hpost : ∀ (r : Int32) (f_code : Int32), (iv 0 0 f_code) → post r f_code) : q_m_fault_0 f_code a_fault a_faultPlace x1 post := by
  refine ⟨fun c1 => ?_, fun c1 => ?_⟩
  · skip
    refine ⟨fun c2 => ?_, fun c2 => ?_⟩
    · skip
      exact hpost _ _ (iv_lit (l := 0) (h := 0) (by decide))
    · skip
      exact hpost _ _ (iv_lit (l := 0) (h := 0) (by decide))
  · skip
    exact hpost _ _ (iv_lit (l := 0) (h := 0) (by decide))
-- m_land
set_option maxRecDepth 20000 in
theorem s_m_land_0 {f_code : Int32} {a_many : Nat → Int32} {a_lands : Nat → Int32} {f_land : Int32} {f_huts : Int32} {f_singers : Int32} {x1 : Int32} {x2 : Int32} {post : Int32 → (Int32) → (Int32) → (Int32) → (Int32) → Prop} (k_f_code : iv 0 0 f_code) (k_a_many : ∀ j, iv 0 2 (a_many j)) (k_a_lands : mLand a_lands) (k_f_land : iv 0 1 f_land) (k_f_huts : iv 0 9 f_huts) (k_f_singers : iv 0 6 f_singers) (hpost : ∀ (r : Int32) (f_code : Int32) (f_land : Int32) (f_huts : Int32) (f_singers : Int32), iv (-1) 511 r → (iv 0 0 f_code) → (iv 0 1 f_land) → (iv 0 9 f_huts) → (iv 0 6 f_singers) → post r f_code f_land f_huts f_singers) : q_m_land_0 f_code a_many a_lands f_land f_huts f_singers x1 x2 post := by
  refine ⟨iv_in (iv_lit (l := 0) (h := 0) (by decide)) (by decide), ?_⟩
  refine ⟨fun c1 => ?_, fun c1 => ?_⟩
  · skip
    refine ⟨iv_nb (iv_lit (l := 0) (h := 0) (by decide)) (by decide), ?_⟩
    refine ⟨fun c2 => ?_, fun c2 => ?_⟩
    · skip
      exact (iv_emp (iv_ne (l := 1) (h := 0) c2 (iv_lit (l := 0) (h := 0) (by decide)) (iv_lit (l := 0) (h := 0) (by decide)) (by decide)) (by decide)).elim
    · skip
      refine ⟨fun c3 => ?_, fun c3 => ?_⟩
      · skip
        exact (iv_emp (iv_ne (l := 1) (h := 0) c3 (iv_lit (l := 0) (h := 0) (by decide)) (iv_lit (l := 0) (h := 0) (by decide)) (by decide)) (by decide)).elim
      · skip
        exact hpost _ _ _ _ _ (iv_w (iv_lit (l := (-1)) (h := (-1)) (by decide)) (by decide)) (iv_lit (l := 0) (h := 0) (by decide)) k_f_land k_f_huts k_f_singers
  · skip
    refine ⟨fun c4 => ?_, fun c4 => ?_⟩
    · skip
      refine ⟨iv_nb (iv_lit (l := 0) (h := 0) (by decide)) (by decide), ?_⟩
      refine ⟨fun c5 => ?_, fun c5 => ?_⟩
      · skip
        exact (iv_emp (iv_ne (l := 1) (h := 0) c5 (iv_lit (l := 0) (h := 0) (by decide)) (iv_lit (l := 0) (h := 0) (by decide)) (by decide)) (by decide)).elim
      · skip
        refine ⟨fun c6 => ?_, fun c6 => ?_⟩
        · skip
          exact (iv_emp (iv_ne (l := 1) (h := 0) c6 (iv_lit (l := 0) (h := 0) (by decide)) (iv_lit (l := 0) (h := 0) (by decide)) (by decide)) (by decide)).elim
        · skip
          exact hpost _ _ _ _ _ (iv_w (iv_lit (l := (-1)) (h := (-1)) (by decide)) (by decide)) (iv_lit (l := 0) (h := 0) (by decide)) k_f_land k_f_huts k_f_singers
    · skip
      refine ⟨iv_nb (iv_lit (l := 1) (h := 1) (by decide)) (by decide), ?_⟩
      refine ⟨fun c7 => ?_, fun c7 => ?_⟩
      · skip
        refine sp_of (a := 0) (b := 9) k_a_lands (iv_lea (l := 0) (h := 1) (r_nlt c4) (iv_leb (l := 0) (h := 2147483647) (r_nlt c1) (iv_lit (l := 0) (h := 0) (by decide)) (iv_top x1) (by decide)) (iv_sub (l := (-1)) (h := 1) (k_a_many _) (iv_lit (l := 1) (h := 1) (by decide)) (by decide)) (by decide)) (iv_lit (l := 0) (h := 0) (by decide)) (by decide +kernel) (fun r8 hr8 er8 => ?_)
        refine sp_of (a := 0) (b := 6) k_a_lands (iv_lea (l := 0) (h := 1) (r_nlt c4) (iv_leb (l := 0) (h := 2147483647) (r_nlt c1) (iv_lit (l := 0) (h := 0) (by decide)) (iv_top x1) (by decide)) (iv_sub (l := (-1)) (h := 1) (k_a_many _) (iv_lit (l := 1) (h := 1) (by decide)) (by decide)) (by decide)) (iv_lit (l := 1) (h := 1) (by decide)) (by decide +kernel) (fun r9 hr9 er9 => ?_)
        refine ⟨fun c10 => ?_, fun c10 => ?_⟩
        · skip
          refine ⟨fun c11 => ?_, fun c11 => ?_⟩
          · skip
            refine ⟨fun c12 => ?_, fun c12 => ?_⟩
            · skip
              intro w13 ew13
              refine ⟨fun c14 => ?_, fun c14 => ?_, fun c14 => ?_, fun c14 => ?_, fun c14 => ?_, fun c14 => ?_⟩
              · skip
                refine ⟨fun c15 => ?_, fun c15 => ?_⟩
                · skip
                  refine ⟨fun c16 => ?_, fun c16 => ?_⟩
                  · skip
                    exact hpost _ _ _ _ _ (iv_w (iv_lit (l := (-1)) (h := (-1)) (by decide)) (by decide)) (iv_lit (l := 0) (h := 0) (by decide)) (iv_lea (l := 0) (h := 1) (r_nlt c4) (iv_leb (l := 0) (h := 2147483647) (r_nlt c1) (iv_lit (l := 0) (h := 0) (by decide)) (iv_top x1) (by decide)) (iv_sub (l := (-1)) (h := 1) (k_a_many _) (iv_lit (l := 1) (h := 1) (by decide)) (by decide)) (by decide)) hr8 hr9
                  · skip
                    exact (iv_emp (iv_ne (l := 1) (h := 0) c16 (iv_lit (l := 0) (h := 0) (by decide)) (iv_lit (l := 0) (h := 0) (by decide)) (by decide)) (by decide)).elim
                · skip
                  refine ⟨fun c17 => ?_, fun c17 => ?_⟩
                  · skip
                    refine ⟨fun c18 => ?_, fun c18 => ?_⟩
                    · skip
                      exact hpost _ _ _ _ _ (iv_w (iv_lit (l := (-1)) (h := (-1)) (by decide)) (by decide)) (iv_lit (l := 0) (h := 0) (by decide)) (iv_lea (l := 0) (h := 1) (r_nlt c4) (iv_leb (l := 0) (h := 2147483647) (r_nlt c1) (iv_lit (l := 0) (h := 0) (by decide)) (iv_top x1) (by decide)) (iv_sub (l := (-1)) (h := 1) (k_a_many _) (iv_lit (l := 1) (h := 1) (by decide)) (by decide)) (by decide)) hr8 hr9
                    · skip
                      exact (iv_emp (iv_ne (l := 1) (h := 0) c18 (iv_lit (l := 0) (h := 0) (by decide)) (iv_lit (l := 0) (h := 0) (by decide)) (by decide)) (by decide)).elim
                  · skip
                    refine ⟨fun c19 => ?_, fun c19 => ?_⟩
                    · skip
                      exact (iv_emp (iv_eqa (l := 1) (h := 0) c19 (iv_lit (l := 1) (h := 1) (by decide)) (iv_lit (l := 0) (h := 0) (by decide)) (by decide)) (by decide)).elim
                    · skip
                      refine sp_of (a := 0) (b := 511) k_a_lands (iv_lea (l := 0) (h := 1) (r_nlt c4) (iv_leb (l := 0) (h := 2147483647) (r_nlt c1) (iv_lit (l := 0) (h := 0) (by decide)) (iv_top x1) (by decide)) (iv_sub (l := (-1)) (h := 1) (k_a_many _) (iv_lit (l := 1) (h := 1) (by decide)) (by decide)) (by decide)) (iv_lea (l := 0) (h := 6) (r_nlt c17) (iv_leb (l := 0) (h := 59) (r_nlt c15) (iv_lit (l := 0) (h := 0) (by decide)) (iv_lta (l := (-2147483648)) (h := 59) (r_lt c11) (iv_top x2) (iv_lit (l := 60) (h := 60) (by decide)) (by decide)) (by decide)) (iv_lit (l := 6) (h := 6) (by decide)) (by decide)) (by decide +kernel) (fun r20 hr20 er20 => ?_)
                      exact hpost _ _ _ _ _ (iv_w hr20 (by decide)) (iv_lit (l := 0) (h := 0) (by decide)) (iv_lea (l := 0) (h := 1) (r_nlt c4) (iv_leb (l := 0) (h := 2147483647) (r_nlt c1) (iv_lit (l := 0) (h := 0) (by decide)) (iv_top x1) (by decide)) (iv_sub (l := (-1)) (h := 1) (k_a_many _) (iv_lit (l := 1) (h := 1) (by decide)) (by decide)) (by decide)) hr8 hr9
              · skip
                refine ⟨fun c21 => ?_, fun c21 => ?_⟩
                · skip
                  refine ⟨iv_nb (iv_lit (l := 0) (h := 0) (by decide)) (by decide), ?_⟩
                  refine ⟨fun c22 => ?_, fun c22 => ?_⟩
                  · skip
                    exact hpost _ _ _ _ _ (iv_w (iv_lit (l := (-1)) (h := (-1)) (by decide)) (by decide)) (iv_lit (l := 0) (h := 0) (by decide)) (iv_lea (l := 0) (h := 1) (r_nlt c4) (iv_leb (l := 0) (h := 2147483647) (r_nlt c1) (iv_lit (l := 0) (h := 0) (by decide)) (iv_top x1) (by decide)) (iv_sub (l := (-1)) (h := 1) (k_a_many _) (iv_lit (l := 1) (h := 1) (by decide)) (by decide)) (by decide)) hr8 hr9
                  · skip
                    exact (iv_emp (iv_ne (l := 1) (h := 0) c22 (iv_lit (l := 0) (h := 0) (by decide)) (iv_lit (l := 0) (h := 0) (by decide)) (by decide)) (by decide)).elim
                · skip
                  refine ⟨fun c23 => ?_, fun c23 => ?_⟩
                  · skip
                    refine ⟨iv_nb (iv_lit (l := 0) (h := 0) (by decide)) (by decide), ?_⟩
                    refine ⟨fun c24 => ?_, fun c24 => ?_⟩
                    · skip
                      exact hpost _ _ _ _ _ (iv_w (iv_lit (l := (-1)) (h := (-1)) (by decide)) (by decide)) (iv_lit (l := 0) (h := 0) (by decide)) (iv_lea (l := 0) (h := 1) (r_nlt c4) (iv_leb (l := 0) (h := 2147483647) (r_nlt c1) (iv_lit (l := 0) (h := 0) (by decide)) (iv_top x1) (by decide)) (iv_sub (l := (-1)) (h := 1) (k_a_many _) (iv_lit (l := 1) (h := 1) (by decide)) (by decide)) (by decide)) hr8 hr9
                    · skip
                      exact (iv_emp (iv_ne (l := 1) (h := 0) c24 (iv_lit (l := 0) (h := 0) (by decide)) (iv_lit (l := 0) (h := 0) (by decide)) (by decide)) (by decide)).elim
                  · skip
                    refine ⟨iv_nb (iv_lit (l := 1) (h := 1) (by decide)) (by decide), ?_⟩
                    refine ⟨fun c25 => ?_, fun c25 => ?_⟩
                    · skip
                      exact (iv_emp (iv_eqa (l := 1) (h := 0) c25 (iv_lit (l := 1) (h := 1) (by decide)) (iv_lit (l := 0) (h := 0) (by decide)) (by decide)) (by decide)).elim
                    · skip
                      refine sp_of (a := 0) (b := 99) k_a_lands (iv_lea (l := 0) (h := 1) (r_nlt c4) (iv_leb (l := 0) (h := 2147483647) (r_nlt c1) (iv_lit (l := 0) (h := 0) (by decide)) (iv_top x1) (by decide)) (iv_sub (l := (-1)) (h := 1) (k_a_many _) (iv_lit (l := 1) (h := 1) (by decide)) (by decide)) (by decide)) (iv_add (l := 7) (h := 15) (iv_lit (l := 7) (h := 7) (by decide)) (iv_lea (l := 0) (h := 8) (r_nlt c23) (iv_leb (l := 0) (h := 2147483647) (r_nlt c21) (iv_lit (l := 0) (h := 0) (by decide)) (iv_top w13) (by decide)) (iv_sub (l := (-1)) (h := 8) hr8 (iv_lit (l := 1) (h := 1) (by decide)) (by decide)) (by decide)) (by decide)) (by decide +kernel) (fun r26 hr26 er26 => ?_)
                      exact hpost _ _ _ _ _ (iv_w hr26 (by decide)) (iv_lit (l := 0) (h := 0) (by decide)) (iv_lea (l := 0) (h := 1) (r_nlt c4) (iv_leb (l := 0) (h := 2147483647) (r_nlt c1) (iv_lit (l := 0) (h := 0) (by decide)) (iv_top x1) (by decide)) (iv_sub (l := (-1)) (h := 1) (k_a_many _) (iv_lit (l := 1) (h := 1) (by decide)) (by decide)) (by decide)) hr8 hr9
              · skip
                refine ⟨fun c27 => ?_, fun c27 => ?_⟩
                · skip
                  refine ⟨iv_nb (iv_lit (l := 0) (h := 0) (by decide)) (by decide), ?_⟩
                  refine ⟨fun c28 => ?_, fun c28 => ?_⟩
                  · skip
                    exact hpost _ _ _ _ _ (iv_w (iv_lit (l := (-1)) (h := (-1)) (by decide)) (by decide)) (iv_lit (l := 0) (h := 0) (by decide)) (iv_lea (l := 0) (h := 1) (r_nlt c4) (iv_leb (l := 0) (h := 2147483647) (r_nlt c1) (iv_lit (l := 0) (h := 0) (by decide)) (iv_top x1) (by decide)) (iv_sub (l := (-1)) (h := 1) (k_a_many _) (iv_lit (l := 1) (h := 1) (by decide)) (by decide)) (by decide)) hr8 hr9
                  · skip
                    exact (iv_emp (iv_ne (l := 1) (h := 0) c28 (iv_lit (l := 0) (h := 0) (by decide)) (iv_lit (l := 0) (h := 0) (by decide)) (by decide)) (by decide)).elim
                · skip
                  refine ⟨fun c29 => ?_, fun c29 => ?_⟩
                  · skip
                    refine ⟨iv_nb (iv_lit (l := 0) (h := 0) (by decide)) (by decide), ?_⟩
                    refine ⟨fun c30 => ?_, fun c30 => ?_⟩
                    · skip
                      exact hpost _ _ _ _ _ (iv_w (iv_lit (l := (-1)) (h := (-1)) (by decide)) (by decide)) (iv_lit (l := 0) (h := 0) (by decide)) (iv_lea (l := 0) (h := 1) (r_nlt c4) (iv_leb (l := 0) (h := 2147483647) (r_nlt c1) (iv_lit (l := 0) (h := 0) (by decide)) (iv_top x1) (by decide)) (iv_sub (l := (-1)) (h := 1) (k_a_many _) (iv_lit (l := 1) (h := 1) (by decide)) (by decide)) (by decide)) hr8 hr9
                    · skip
                      exact (iv_emp (iv_ne (l := 1) (h := 0) c30 (iv_lit (l := 0) (h := 0) (by decide)) (iv_lit (l := 0) (h := 0) (by decide)) (by decide)) (by decide)).elim
                  · skip
                    refine ⟨iv_nb (iv_lit (l := 1) (h := 1) (by decide)) (by decide), ?_⟩
                    refine ⟨fun c31 => ?_, fun c31 => ?_⟩
                    · skip
                      exact (iv_emp (iv_eqa (l := 1) (h := 0) c31 (iv_lit (l := 1) (h := 1) (by decide)) (iv_lit (l := 0) (h := 0) (by decide)) (by decide)) (by decide)).elim
                    · skip
                      refine sp_of (a := 0) (b := 9) k_a_lands (iv_lea (l := 0) (h := 1) (r_nlt c4) (iv_leb (l := 0) (h := 2147483647) (r_nlt c1) (iv_lit (l := 0) (h := 0) (by decide)) (iv_top x1) (by decide)) (iv_sub (l := (-1)) (h := 1) (k_a_many _) (iv_lit (l := 1) (h := 1) (by decide)) (by decide)) (by decide)) (iv_add (l := 16) (h := 24) (iv_lit (l := 16) (h := 16) (by decide)) (iv_lea (l := 0) (h := 8) (r_nlt c29) (iv_leb (l := 0) (h := 2147483647) (r_nlt c27) (iv_lit (l := 0) (h := 0) (by decide)) (iv_top w13) (by decide)) (iv_sub (l := (-1)) (h := 8) hr8 (iv_lit (l := 1) (h := 1) (by decide)) (by decide)) (by decide)) (by decide)) (by decide +kernel) (fun r32 hr32 er32 => ?_)
                      exact hpost _ _ _ _ _ (iv_w hr32 (by decide)) (iv_lit (l := 0) (h := 0) (by decide)) (iv_lea (l := 0) (h := 1) (r_nlt c4) (iv_leb (l := 0) (h := 2147483647) (r_nlt c1) (iv_lit (l := 0) (h := 0) (by decide)) (iv_top x1) (by decide)) (iv_sub (l := (-1)) (h := 1) (k_a_many _) (iv_lit (l := 1) (h := 1) (by decide)) (by decide)) (by decide)) hr8 hr9
              · skip
                refine ⟨fun c33 => ?_, fun c33 => ?_⟩
                · skip
                  refine ⟨iv_nb (iv_lit (l := 0) (h := 0) (by decide)) (by decide), ?_⟩
                  refine ⟨fun c34 => ?_, fun c34 => ?_⟩
                  · skip
                    exact hpost _ _ _ _ _ (iv_w (iv_lit (l := (-1)) (h := (-1)) (by decide)) (by decide)) (iv_lit (l := 0) (h := 0) (by decide)) (iv_lea (l := 0) (h := 1) (r_nlt c4) (iv_leb (l := 0) (h := 2147483647) (r_nlt c1) (iv_lit (l := 0) (h := 0) (by decide)) (iv_top x1) (by decide)) (iv_sub (l := (-1)) (h := 1) (k_a_many _) (iv_lit (l := 1) (h := 1) (by decide)) (by decide)) (by decide)) hr8 hr9
                  · skip
                    exact (iv_emp (iv_ne (l := 1) (h := 0) c34 (iv_lit (l := 0) (h := 0) (by decide)) (iv_lit (l := 0) (h := 0) (by decide)) (by decide)) (by decide)).elim
                · skip
                  refine ⟨fun c35 => ?_, fun c35 => ?_⟩
                  · skip
                    refine ⟨iv_nb (iv_lit (l := 0) (h := 0) (by decide)) (by decide), ?_⟩
                    refine ⟨fun c36 => ?_, fun c36 => ?_⟩
                    · skip
                      exact hpost _ _ _ _ _ (iv_w (iv_lit (l := (-1)) (h := (-1)) (by decide)) (by decide)) (iv_lit (l := 0) (h := 0) (by decide)) (iv_lea (l := 0) (h := 1) (r_nlt c4) (iv_leb (l := 0) (h := 2147483647) (r_nlt c1) (iv_lit (l := 0) (h := 0) (by decide)) (iv_top x1) (by decide)) (iv_sub (l := (-1)) (h := 1) (k_a_many _) (iv_lit (l := 1) (h := 1) (by decide)) (by decide)) (by decide)) hr8 hr9
                    · skip
                      exact (iv_emp (iv_ne (l := 1) (h := 0) c36 (iv_lit (l := 0) (h := 0) (by decide)) (iv_lit (l := 0) (h := 0) (by decide)) (by decide)) (by decide)).elim
                  · skip
                    refine ⟨iv_nb (iv_lit (l := 1) (h := 1) (by decide)) (by decide), ?_⟩
                    refine ⟨fun c37 => ?_, fun c37 => ?_⟩
                    · skip
                      exact (iv_emp (iv_eqa (l := 1) (h := 0) c37 (iv_lit (l := 1) (h := 1) (by decide)) (iv_lit (l := 0) (h := 0) (by decide)) (by decide)) (by decide)).elim
                    · skip
                      refine sp_of (a := 0) (b := 8) k_a_lands (iv_lea (l := 0) (h := 1) (r_nlt c4) (iv_leb (l := 0) (h := 2147483647) (r_nlt c1) (iv_lit (l := 0) (h := 0) (by decide)) (iv_top x1) (by decide)) (iv_sub (l := (-1)) (h := 1) (k_a_many _) (iv_lit (l := 1) (h := 1) (by decide)) (by decide)) (by decide)) (iv_add (l := 25) (h := 30) (iv_lit (l := 25) (h := 25) (by decide)) (iv_lea (l := 0) (h := 5) (r_nlt c35) (iv_leb (l := 0) (h := 2147483647) (r_nlt c33) (iv_lit (l := 0) (h := 0) (by decide)) (iv_top w13) (by decide)) (iv_sub (l := (-1)) (h := 5) hr9 (iv_lit (l := 1) (h := 1) (by decide)) (by decide)) (by decide)) (by decide)) (by decide +kernel) (fun r38 hr38 er38 => ?_)
                      exact hpost _ _ _ _ _ (iv_w hr38 (by decide)) (iv_lit (l := 0) (h := 0) (by decide)) (iv_lea (l := 0) (h := 1) (r_nlt c4) (iv_leb (l := 0) (h := 2147483647) (r_nlt c1) (iv_lit (l := 0) (h := 0) (by decide)) (iv_top x1) (by decide)) (iv_sub (l := (-1)) (h := 1) (k_a_many _) (iv_lit (l := 1) (h := 1) (by decide)) (by decide)) (by decide)) hr8 hr9
              · skip
                refine ⟨fun c39 => ?_, fun c39 => ?_⟩
                · skip
                  refine ⟨iv_nb (iv_lit (l := 0) (h := 0) (by decide)) (by decide), ?_⟩
                  refine ⟨fun c40 => ?_, fun c40 => ?_⟩
                  · skip
                    exact hpost _ _ _ _ _ (iv_w (iv_lit (l := (-1)) (h := (-1)) (by decide)) (by decide)) (iv_lit (l := 0) (h := 0) (by decide)) (iv_lea (l := 0) (h := 1) (r_nlt c4) (iv_leb (l := 0) (h := 2147483647) (r_nlt c1) (iv_lit (l := 0) (h := 0) (by decide)) (iv_top x1) (by decide)) (iv_sub (l := (-1)) (h := 1) (k_a_many _) (iv_lit (l := 1) (h := 1) (by decide)) (by decide)) (by decide)) hr8 hr9
                  · skip
                    exact (iv_emp (iv_ne (l := 1) (h := 0) c40 (iv_lit (l := 0) (h := 0) (by decide)) (iv_lit (l := 0) (h := 0) (by decide)) (by decide)) (by decide)).elim
                · skip
                  refine ⟨fun c41 => ?_, fun c41 => ?_⟩
                  · skip
                    refine ⟨iv_nb (iv_lit (l := 0) (h := 0) (by decide)) (by decide), ?_⟩
                    refine ⟨fun c42 => ?_, fun c42 => ?_⟩
                    · skip
                      exact hpost _ _ _ _ _ (iv_w (iv_lit (l := (-1)) (h := (-1)) (by decide)) (by decide)) (iv_lit (l := 0) (h := 0) (by decide)) (iv_lea (l := 0) (h := 1) (r_nlt c4) (iv_leb (l := 0) (h := 2147483647) (r_nlt c1) (iv_lit (l := 0) (h := 0) (by decide)) (iv_top x1) (by decide)) (iv_sub (l := (-1)) (h := 1) (k_a_many _) (iv_lit (l := 1) (h := 1) (by decide)) (by decide)) (by decide)) hr8 hr9
                    · skip
                      exact (iv_emp (iv_ne (l := 1) (h := 0) c42 (iv_lit (l := 0) (h := 0) (by decide)) (iv_lit (l := 0) (h := 0) (by decide)) (by decide)) (by decide)).elim
                  · skip
                    refine ⟨iv_nb (iv_lit (l := 1) (h := 1) (by decide)) (by decide), ?_⟩
                    refine ⟨fun c43 => ?_, fun c43 => ?_⟩
                    · skip
                      exact (iv_emp (iv_eqa (l := 1) (h := 0) c43 (iv_lit (l := 1) (h := 1) (by decide)) (iv_lit (l := 0) (h := 0) (by decide)) (by decide)) (by decide)).elim
                    · skip
                      refine sp_of (a := 0) (b := 9) k_a_lands (iv_lea (l := 0) (h := 1) (r_nlt c4) (iv_leb (l := 0) (h := 2147483647) (r_nlt c1) (iv_lit (l := 0) (h := 0) (by decide)) (iv_top x1) (by decide)) (iv_sub (l := (-1)) (h := 1) (k_a_many _) (iv_lit (l := 1) (h := 1) (by decide)) (by decide)) (by decide)) (iv_add (l := 31) (h := 36) (iv_lit (l := 31) (h := 31) (by decide)) (iv_lea (l := 0) (h := 5) (r_nlt c41) (iv_leb (l := 0) (h := 2147483647) (r_nlt c39) (iv_lit (l := 0) (h := 0) (by decide)) (iv_top w13) (by decide)) (iv_sub (l := (-1)) (h := 5) hr9 (iv_lit (l := 1) (h := 1) (by decide)) (by decide)) (by decide)) (by decide)) (by decide +kernel) (fun r44 hr44 er44 => ?_)
                      exact hpost _ _ _ _ _ (iv_w hr44 (by decide)) (iv_lit (l := 0) (h := 0) (by decide)) (iv_lea (l := 0) (h := 1) (r_nlt c4) (iv_leb (l := 0) (h := 2147483647) (r_nlt c1) (iv_lit (l := 0) (h := 0) (by decide)) (iv_top x1) (by decide)) (iv_sub (l := (-1)) (h := 1) (k_a_many _) (iv_lit (l := 1) (h := 1) (by decide)) (by decide)) (by decide)) hr8 hr9
              · skip
                refine ⟨fun c45 => ?_, fun c45 => ?_⟩
                · skip
                  refine ⟨iv_nb (iv_lit (l := 0) (h := 0) (by decide)) (by decide), ?_⟩
                  refine ⟨fun c46 => ?_, fun c46 => ?_⟩
                  · skip
                    exact hpost _ _ _ _ _ (iv_w (iv_lit (l := (-1)) (h := (-1)) (by decide)) (by decide)) (iv_lit (l := 0) (h := 0) (by decide)) (iv_lea (l := 0) (h := 1) (r_nlt c4) (iv_leb (l := 0) (h := 2147483647) (r_nlt c1) (iv_lit (l := 0) (h := 0) (by decide)) (iv_top x1) (by decide)) (iv_sub (l := (-1)) (h := 1) (k_a_many _) (iv_lit (l := 1) (h := 1) (by decide)) (by decide)) (by decide)) hr8 hr9
                  · skip
                    exact (iv_emp (iv_ne (l := 1) (h := 0) c46 (iv_lit (l := 0) (h := 0) (by decide)) (iv_lit (l := 0) (h := 0) (by decide)) (by decide)) (by decide)).elim
                · skip
                  refine ⟨fun c47 => ?_, fun c47 => ?_⟩
                  · skip
                    refine ⟨iv_nb (iv_lit (l := 0) (h := 0) (by decide)) (by decide), ?_⟩
                    refine ⟨fun c48 => ?_, fun c48 => ?_⟩
                    · skip
                      exact hpost _ _ _ _ _ (iv_w (iv_lit (l := (-1)) (h := (-1)) (by decide)) (by decide)) (iv_lit (l := 0) (h := 0) (by decide)) (iv_lea (l := 0) (h := 1) (r_nlt c4) (iv_leb (l := 0) (h := 2147483647) (r_nlt c1) (iv_lit (l := 0) (h := 0) (by decide)) (iv_top x1) (by decide)) (iv_sub (l := (-1)) (h := 1) (k_a_many _) (iv_lit (l := 1) (h := 1) (by decide)) (by decide)) (by decide)) hr8 hr9
                    · skip
                      exact (iv_emp (iv_ne (l := 1) (h := 0) c48 (iv_lit (l := 0) (h := 0) (by decide)) (iv_lit (l := 0) (h := 0) (by decide)) (by decide)) (by decide)).elim
                  · skip
                    refine ⟨iv_nb (iv_lit (l := 1) (h := 1) (by decide)) (by decide), ?_⟩
                    refine ⟨fun c49 => ?_, fun c49 => ?_⟩
                    · skip
                      exact (iv_emp (iv_eqa (l := 1) (h := 0) c49 (iv_lit (l := 1) (h := 1) (by decide)) (iv_lit (l := 0) (h := 0) (by decide)) (by decide)) (by decide)).elim
                    · skip
                      refine sp_of (a := 0) (b := 31) k_a_lands (iv_lea (l := 0) (h := 1) (r_nlt c4) (iv_leb (l := 0) (h := 2147483647) (r_nlt c1) (iv_lit (l := 0) (h := 0) (by decide)) (iv_top x1) (by decide)) (iv_sub (l := (-1)) (h := 1) (k_a_many _) (iv_lit (l := 1) (h := 1) (by decide)) (by decide)) (by decide)) (iv_add (l := 37) (h := 42) (iv_lit (l := 37) (h := 37) (by decide)) (iv_lea (l := 0) (h := 5) (r_nlt c47) (iv_leb (l := 0) (h := 2147483647) (r_nlt c45) (iv_lit (l := 0) (h := 0) (by decide)) (iv_top w13) (by decide)) (iv_sub (l := (-1)) (h := 5) hr9 (iv_lit (l := 1) (h := 1) (by decide)) (by decide)) (by decide)) (by decide)) (by decide +kernel) (fun r50 hr50 er50 => ?_)
                      exact hpost _ _ _ _ _ (iv_w hr50 (by decide)) (iv_lit (l := 0) (h := 0) (by decide)) (iv_lea (l := 0) (h := 1) (r_nlt c4) (iv_leb (l := 0) (h := 2147483647) (r_nlt c1) (iv_lit (l := 0) (h := 0) (by decide)) (iv_top x1) (by decide)) (iv_sub (l := (-1)) (h := 1) (k_a_many _) (iv_lit (l := 1) (h := 1) (by decide)) (by decide)) (by decide)) hr8 hr9
            · skip
              exact (iv_emp (iv_ne (l := 1) (h := 0) c12 (iv_lit (l := 0) (h := 0) (by decide)) (iv_lit (l := 0) (h := 0) (by decide)) (by decide)) (by decide)).elim
          · skip
            refine ⟨fun c51 => ?_, fun c51 => ?_⟩
            · skip
              refine ⟨fun c52 => ?_, fun c52 => ?_⟩
              · skip
                intro w53 ew53
                have hw53 := iv_eq ew53 (iv_rem (l := 0) (h := 9) (iv_ltb (l := 141) (h := 2147483647) (r_lt c51) (iv_lit (l := 140) (h := 140) (by decide)) (iv_leb (l := 60) (h := 2147483647) (r_nlt c11) (iv_lit (l := 60) (h := 60) (by decide)) (iv_top x2) (by decide)) (by decide)) (iv_lit (l := 10) (h := 10) (by decide)) (by decide))
                refine ⟨fun c54 => ?_, fun c54 => ?_, fun c54 => ?_, fun c54 => ?_, fun c54 => ?_, fun c54 => ?_⟩
                · skip
                  refine ⟨fun c55 => ?_, fun c55 => ?_⟩
                  · skip
                    exact (iv_emp (iv_lta (l := 141) (h := (-1)) (r_lt c55) (iv_ltb (l := 141) (h := 2147483647) (r_lt c51) (iv_lit (l := 140) (h := 140) (by decide)) (iv_leb (l := 60) (h := 2147483647) (r_nlt c11) (iv_lit (l := 60) (h := 60) (by decide)) (iv_top x2) (by decide)) (by decide)) (iv_lit (l := 0) (h := 0) (by decide)) (by decide)) (by decide)).elim
                  · skip
                    refine ⟨fun c56 => ?_, fun c56 => ?_⟩
                    · skip
                      refine ⟨fun c57 => ?_, fun c57 => ?_⟩
                      · skip
                        exact hpost _ _ _ _ _ (iv_w (iv_lit (l := (-1)) (h := (-1)) (by decide)) (by decide)) (iv_lit (l := 0) (h := 0) (by decide)) (iv_lea (l := 0) (h := 1) (r_nlt c4) (iv_leb (l := 0) (h := 2147483647) (r_nlt c1) (iv_lit (l := 0) (h := 0) (by decide)) (iv_top x1) (by decide)) (iv_sub (l := (-1)) (h := 1) (k_a_many _) (iv_lit (l := 1) (h := 1) (by decide)) (by decide)) (by decide)) hr8 hr9
                      · skip
                        exact (iv_emp (iv_ne (l := 1) (h := 0) c57 (iv_lit (l := 0) (h := 0) (by decide)) (iv_lit (l := 0) (h := 0) (by decide)) (by decide)) (by decide)).elim
                    · skip
                      exact (iv_emp (iv_lea (l := 141) (h := 6) (r_nlt c56) (iv_ltb (l := 141) (h := 2147483647) (r_lt c51) (iv_lit (l := 140) (h := 140) (by decide)) (iv_leb (l := 60) (h := 2147483647) (r_nlt c11) (iv_lit (l := 60) (h := 60) (by decide)) (iv_top x2) (by decide)) (by decide)) (iv_lit (l := 6) (h := 6) (by decide)) (by decide)) (by decide)).elim
                · skip
                  refine ⟨fun c58 => ?_, fun c58 => ?_⟩
                  · skip
                    exact (iv_emp (iv_lta (l := 0) (h := (-1)) (r_lt c58) hw53 (iv_lit (l := 0) (h := 0) (by decide)) (by decide)) (by decide)).elim
                  · skip
                    refine ⟨fun c59 => ?_, fun c59 => ?_⟩
                    · skip
                      refine ⟨iv_nb (iv_lit (l := 0) (h := 0) (by decide)) (by decide), ?_⟩
                      refine ⟨fun c60 => ?_, fun c60 => ?_⟩
                      · skip
                        exact hpost _ _ _ _ _ (iv_w (iv_lit (l := (-1)) (h := (-1)) (by decide)) (by decide)) (iv_lit (l := 0) (h := 0) (by decide)) (iv_lea (l := 0) (h := 1) (r_nlt c4) (iv_leb (l := 0) (h := 2147483647) (r_nlt c1) (iv_lit (l := 0) (h := 0) (by decide)) (iv_top x1) (by decide)) (iv_sub (l := (-1)) (h := 1) (k_a_many _) (iv_lit (l := 1) (h := 1) (by decide)) (by decide)) (by decide)) hr8 hr9
                      · skip
                        exact (iv_emp (iv_ne (l := 1) (h := 0) c60 (iv_lit (l := 0) (h := 0) (by decide)) (iv_lit (l := 0) (h := 0) (by decide)) (by decide)) (by decide)).elim
                    · skip
                      refine ⟨iv_nb (iv_lit (l := 1) (h := 1) (by decide)) (by decide), ?_⟩
                      refine ⟨fun c61 => ?_, fun c61 => ?_⟩
                      · skip
                        exact (iv_emp (iv_eqa (l := 1) (h := 0) c61 (iv_lit (l := 1) (h := 1) (by decide)) (iv_lit (l := 0) (h := 0) (by decide)) (by decide)) (by decide)).elim
                      · skip
                        refine sp_of (a := 0) (b := 99) k_a_lands (iv_lea (l := 0) (h := 1) (r_nlt c4) (iv_leb (l := 0) (h := 2147483647) (r_nlt c1) (iv_lit (l := 0) (h := 0) (by decide)) (iv_top x1) (by decide)) (iv_sub (l := (-1)) (h := 1) (k_a_many _) (iv_lit (l := 1) (h := 1) (by decide)) (by decide)) (by decide)) (iv_add (l := 7) (h := 15) (iv_lit (l := 7) (h := 7) (by decide)) (iv_lea (l := 0) (h := 8) (r_nlt c59) hw53 (iv_sub (l := (-1)) (h := 8) hr8 (iv_lit (l := 1) (h := 1) (by decide)) (by decide)) (by decide)) (by decide)) (by decide +kernel) (fun r62 hr62 er62 => ?_)
                        exact hpost _ _ _ _ _ (iv_w hr62 (by decide)) (iv_lit (l := 0) (h := 0) (by decide)) (iv_lea (l := 0) (h := 1) (r_nlt c4) (iv_leb (l := 0) (h := 2147483647) (r_nlt c1) (iv_lit (l := 0) (h := 0) (by decide)) (iv_top x1) (by decide)) (iv_sub (l := (-1)) (h := 1) (k_a_many _) (iv_lit (l := 1) (h := 1) (by decide)) (by decide)) (by decide)) hr8 hr9
                · skip
                  refine ⟨fun c63 => ?_, fun c63 => ?_⟩
                  · skip
                    exact (iv_emp (iv_lta (l := 0) (h := (-1)) (r_lt c63) hw53 (iv_lit (l := 0) (h := 0) (by decide)) (by decide)) (by decide)).elim
                  · skip
                    refine ⟨fun c64 => ?_, fun c64 => ?_⟩
                    · skip
                      refine ⟨iv_nb (iv_lit (l := 0) (h := 0) (by decide)) (by decide), ?_⟩
                      refine ⟨fun c65 => ?_, fun c65 => ?_⟩
                      · skip
                        exact hpost _ _ _ _ _ (iv_w (iv_lit (l := (-1)) (h := (-1)) (by decide)) (by decide)) (iv_lit (l := 0) (h := 0) (by decide)) (iv_lea (l := 0) (h := 1) (r_nlt c4) (iv_leb (l := 0) (h := 2147483647) (r_nlt c1) (iv_lit (l := 0) (h := 0) (by decide)) (iv_top x1) (by decide)) (iv_sub (l := (-1)) (h := 1) (k_a_many _) (iv_lit (l := 1) (h := 1) (by decide)) (by decide)) (by decide)) hr8 hr9
                      · skip
                        exact (iv_emp (iv_ne (l := 1) (h := 0) c65 (iv_lit (l := 0) (h := 0) (by decide)) (iv_lit (l := 0) (h := 0) (by decide)) (by decide)) (by decide)).elim
                    · skip
                      refine ⟨iv_nb (iv_lit (l := 1) (h := 1) (by decide)) (by decide), ?_⟩
                      refine ⟨fun c66 => ?_, fun c66 => ?_⟩
                      · skip
                        exact (iv_emp (iv_eqa (l := 1) (h := 0) c66 (iv_lit (l := 1) (h := 1) (by decide)) (iv_lit (l := 0) (h := 0) (by decide)) (by decide)) (by decide)).elim
                      · skip
                        refine sp_of (a := 0) (b := 9) k_a_lands (iv_lea (l := 0) (h := 1) (r_nlt c4) (iv_leb (l := 0) (h := 2147483647) (r_nlt c1) (iv_lit (l := 0) (h := 0) (by decide)) (iv_top x1) (by decide)) (iv_sub (l := (-1)) (h := 1) (k_a_many _) (iv_lit (l := 1) (h := 1) (by decide)) (by decide)) (by decide)) (iv_add (l := 16) (h := 24) (iv_lit (l := 16) (h := 16) (by decide)) (iv_lea (l := 0) (h := 8) (r_nlt c64) hw53 (iv_sub (l := (-1)) (h := 8) hr8 (iv_lit (l := 1) (h := 1) (by decide)) (by decide)) (by decide)) (by decide)) (by decide +kernel) (fun r67 hr67 er67 => ?_)
                        exact hpost _ _ _ _ _ (iv_w hr67 (by decide)) (iv_lit (l := 0) (h := 0) (by decide)) (iv_lea (l := 0) (h := 1) (r_nlt c4) (iv_leb (l := 0) (h := 2147483647) (r_nlt c1) (iv_lit (l := 0) (h := 0) (by decide)) (iv_top x1) (by decide)) (iv_sub (l := (-1)) (h := 1) (k_a_many _) (iv_lit (l := 1) (h := 1) (by decide)) (by decide)) (by decide)) hr8 hr9
                · skip
                  refine ⟨fun c68 => ?_, fun c68 => ?_⟩
                  · skip
                    exact (iv_emp (iv_lta (l := 0) (h := (-1)) (r_lt c68) hw53 (iv_lit (l := 0) (h := 0) (by decide)) (by decide)) (by decide)).elim
                  · skip
                    refine ⟨fun c69 => ?_, fun c69 => ?_⟩
                    · skip
                      refine ⟨iv_nb (iv_lit (l := 0) (h := 0) (by decide)) (by decide), ?_⟩
                      refine ⟨fun c70 => ?_, fun c70 => ?_⟩
                      · skip
                        exact hpost _ _ _ _ _ (iv_w (iv_lit (l := (-1)) (h := (-1)) (by decide)) (by decide)) (iv_lit (l := 0) (h := 0) (by decide)) (iv_lea (l := 0) (h := 1) (r_nlt c4) (iv_leb (l := 0) (h := 2147483647) (r_nlt c1) (iv_lit (l := 0) (h := 0) (by decide)) (iv_top x1) (by decide)) (iv_sub (l := (-1)) (h := 1) (k_a_many _) (iv_lit (l := 1) (h := 1) (by decide)) (by decide)) (by decide)) hr8 hr9
                      · skip
                        exact (iv_emp (iv_ne (l := 1) (h := 0) c70 (iv_lit (l := 0) (h := 0) (by decide)) (iv_lit (l := 0) (h := 0) (by decide)) (by decide)) (by decide)).elim
                    · skip
                      refine ⟨iv_nb (iv_lit (l := 1) (h := 1) (by decide)) (by decide), ?_⟩
                      refine ⟨fun c71 => ?_, fun c71 => ?_⟩
                      · skip
                        exact (iv_emp (iv_eqa (l := 1) (h := 0) c71 (iv_lit (l := 1) (h := 1) (by decide)) (iv_lit (l := 0) (h := 0) (by decide)) (by decide)) (by decide)).elim
                      · skip
                        refine sp_of (a := 0) (b := 8) k_a_lands (iv_lea (l := 0) (h := 1) (r_nlt c4) (iv_leb (l := 0) (h := 2147483647) (r_nlt c1) (iv_lit (l := 0) (h := 0) (by decide)) (iv_top x1) (by decide)) (iv_sub (l := (-1)) (h := 1) (k_a_many _) (iv_lit (l := 1) (h := 1) (by decide)) (by decide)) (by decide)) (iv_add (l := 25) (h := 30) (iv_lit (l := 25) (h := 25) (by decide)) (iv_lea (l := 0) (h := 5) (r_nlt c69) hw53 (iv_sub (l := (-1)) (h := 5) hr9 (iv_lit (l := 1) (h := 1) (by decide)) (by decide)) (by decide)) (by decide)) (by decide +kernel) (fun r72 hr72 er72 => ?_)
                        exact hpost _ _ _ _ _ (iv_w hr72 (by decide)) (iv_lit (l := 0) (h := 0) (by decide)) (iv_lea (l := 0) (h := 1) (r_nlt c4) (iv_leb (l := 0) (h := 2147483647) (r_nlt c1) (iv_lit (l := 0) (h := 0) (by decide)) (iv_top x1) (by decide)) (iv_sub (l := (-1)) (h := 1) (k_a_many _) (iv_lit (l := 1) (h := 1) (by decide)) (by decide)) (by decide)) hr8 hr9
                · skip
                  refine ⟨fun c73 => ?_, fun c73 => ?_⟩
                  · skip
                    exact (iv_emp (iv_lta (l := 0) (h := (-1)) (r_lt c73) hw53 (iv_lit (l := 0) (h := 0) (by decide)) (by decide)) (by decide)).elim
                  · skip
                    refine ⟨fun c74 => ?_, fun c74 => ?_⟩
                    · skip
                      refine ⟨iv_nb (iv_lit (l := 0) (h := 0) (by decide)) (by decide), ?_⟩
                      refine ⟨fun c75 => ?_, fun c75 => ?_⟩
                      · skip
                        exact hpost _ _ _ _ _ (iv_w (iv_lit (l := (-1)) (h := (-1)) (by decide)) (by decide)) (iv_lit (l := 0) (h := 0) (by decide)) (iv_lea (l := 0) (h := 1) (r_nlt c4) (iv_leb (l := 0) (h := 2147483647) (r_nlt c1) (iv_lit (l := 0) (h := 0) (by decide)) (iv_top x1) (by decide)) (iv_sub (l := (-1)) (h := 1) (k_a_many _) (iv_lit (l := 1) (h := 1) (by decide)) (by decide)) (by decide)) hr8 hr9
                      · skip
                        exact (iv_emp (iv_ne (l := 1) (h := 0) c75 (iv_lit (l := 0) (h := 0) (by decide)) (iv_lit (l := 0) (h := 0) (by decide)) (by decide)) (by decide)).elim
                    · skip
                      refine ⟨iv_nb (iv_lit (l := 1) (h := 1) (by decide)) (by decide), ?_⟩
                      refine ⟨fun c76 => ?_, fun c76 => ?_⟩
                      · skip
                        exact (iv_emp (iv_eqa (l := 1) (h := 0) c76 (iv_lit (l := 1) (h := 1) (by decide)) (iv_lit (l := 0) (h := 0) (by decide)) (by decide)) (by decide)).elim
                      · skip
                        refine sp_of (a := 0) (b := 9) k_a_lands (iv_lea (l := 0) (h := 1) (r_nlt c4) (iv_leb (l := 0) (h := 2147483647) (r_nlt c1) (iv_lit (l := 0) (h := 0) (by decide)) (iv_top x1) (by decide)) (iv_sub (l := (-1)) (h := 1) (k_a_many _) (iv_lit (l := 1) (h := 1) (by decide)) (by decide)) (by decide)) (iv_add (l := 31) (h := 36) (iv_lit (l := 31) (h := 31) (by decide)) (iv_lea (l := 0) (h := 5) (r_nlt c74) hw53 (iv_sub (l := (-1)) (h := 5) hr9 (iv_lit (l := 1) (h := 1) (by decide)) (by decide)) (by decide)) (by decide)) (by decide +kernel) (fun r77 hr77 er77 => ?_)
                        exact hpost _ _ _ _ _ (iv_w hr77 (by decide)) (iv_lit (l := 0) (h := 0) (by decide)) (iv_lea (l := 0) (h := 1) (r_nlt c4) (iv_leb (l := 0) (h := 2147483647) (r_nlt c1) (iv_lit (l := 0) (h := 0) (by decide)) (iv_top x1) (by decide)) (iv_sub (l := (-1)) (h := 1) (k_a_many _) (iv_lit (l := 1) (h := 1) (by decide)) (by decide)) (by decide)) hr8 hr9
                · skip
                  refine ⟨fun c78 => ?_, fun c78 => ?_⟩
                  · skip
                    exact (iv_emp (iv_lta (l := 0) (h := (-1)) (r_lt c78) hw53 (iv_lit (l := 0) (h := 0) (by decide)) (by decide)) (by decide)).elim
                  · skip
                    refine ⟨fun c79 => ?_, fun c79 => ?_⟩
                    · skip
                      refine ⟨iv_nb (iv_lit (l := 0) (h := 0) (by decide)) (by decide), ?_⟩
                      refine ⟨fun c80 => ?_, fun c80 => ?_⟩
                      · skip
                        exact hpost _ _ _ _ _ (iv_w (iv_lit (l := (-1)) (h := (-1)) (by decide)) (by decide)) (iv_lit (l := 0) (h := 0) (by decide)) (iv_lea (l := 0) (h := 1) (r_nlt c4) (iv_leb (l := 0) (h := 2147483647) (r_nlt c1) (iv_lit (l := 0) (h := 0) (by decide)) (iv_top x1) (by decide)) (iv_sub (l := (-1)) (h := 1) (k_a_many _) (iv_lit (l := 1) (h := 1) (by decide)) (by decide)) (by decide)) hr8 hr9
                      · skip
                        exact (iv_emp (iv_ne (l := 1) (h := 0) c80 (iv_lit (l := 0) (h := 0) (by decide)) (iv_lit (l := 0) (h := 0) (by decide)) (by decide)) (by decide)).elim
                    · skip
                      refine ⟨iv_nb (iv_lit (l := 1) (h := 1) (by decide)) (by decide), ?_⟩
                      refine ⟨fun c81 => ?_, fun c81 => ?_⟩
                      · skip
                        exact (iv_emp (iv_eqa (l := 1) (h := 0) c81 (iv_lit (l := 1) (h := 1) (by decide)) (iv_lit (l := 0) (h := 0) (by decide)) (by decide)) (by decide)).elim
                      · skip
                        refine sp_of (a := 0) (b := 31) k_a_lands (iv_lea (l := 0) (h := 1) (r_nlt c4) (iv_leb (l := 0) (h := 2147483647) (r_nlt c1) (iv_lit (l := 0) (h := 0) (by decide)) (iv_top x1) (by decide)) (iv_sub (l := (-1)) (h := 1) (k_a_many _) (iv_lit (l := 1) (h := 1) (by decide)) (by decide)) (by decide)) (iv_add (l := 37) (h := 42) (iv_lit (l := 37) (h := 37) (by decide)) (iv_lea (l := 0) (h := 5) (r_nlt c79) hw53 (iv_sub (l := (-1)) (h := 5) hr9 (iv_lit (l := 1) (h := 1) (by decide)) (by decide)) (by decide)) (by decide)) (by decide +kernel) (fun r82 hr82 er82 => ?_)
                        exact hpost _ _ _ _ _ (iv_w hr82 (by decide)) (iv_lit (l := 0) (h := 0) (by decide)) (iv_lea (l := 0) (h := 1) (r_nlt c4) (iv_leb (l := 0) (h := 2147483647) (r_nlt c1) (iv_lit (l := 0) (h := 0) (by decide)) (iv_top x1) (by decide)) (iv_sub (l := (-1)) (h := 1) (k_a_many _) (iv_lit (l := 1) (h := 1) (by decide)) (by decide)) (by decide)) hr8 hr9
              · skip
                exact (iv_emp (iv_ne (l := 1) (h := 0) c52 (iv_lit (l := 0) (h := 0) (by decide)) (iv_lit (l := 0) (h := 0) (by decide)) (by decide)) (by decide)).elim
            · skip
              refine ⟨fun c83 => ?_, fun c83 => ?_⟩
              · skip
                exact (iv_emp (iv_eqa (l := 1) (h := 0) c83 (iv_lit (l := 1) (h := 1) (by decide)) (iv_lit (l := 0) (h := 0) (by decide)) (by decide)) (by decide)).elim
              · skip
                intro w84 ew84
                have hw84 := iv_eq ew84 (iv_div (l := 0) (h := 8) (iv_sub (l := 0) (h := 80) (iv_lea (l := 60) (h := 140) (r_nlt c51) (iv_leb (l := 60) (h := 2147483647) (r_nlt c11) (iv_lit (l := 60) (h := 60) (by decide)) (iv_top x2) (by decide)) (iv_lit (l := 140) (h := 140) (by decide)) (by decide)) (iv_lit (l := 60) (h := 60) (by decide)) (by decide)) (iv_lit (l := 9) (h := 9) (by decide)) (by decide))
                intro w85 ew85
                have hw85 := iv_eq ew85 (iv_rem (l := 0) (h := 8) (iv_sub (l := 0) (h := 80) (iv_lea (l := 60) (h := 140) (r_nlt c51) (iv_leb (l := 60) (h := 2147483647) (r_nlt c11) (iv_lit (l := 60) (h := 60) (by decide)) (iv_top x2) (by decide)) (iv_lit (l := 140) (h := 140) (by decide)) (by decide)) (iv_lit (l := 60) (h := 60) (by decide)) (by decide)) (iv_lit (l := 9) (h := 9) (by decide)) (by decide))
                refine ⟨fun c86 => ?_, fun c86 => ?_⟩
                · skip
                  exact (iv_emp (iv_lta (l := 0) (h := (-1)) (r_lt c86) hw84 (iv_lit (l := 0) (h := 0) (by decide)) (by decide)) (by decide)).elim
                · skip
                  refine ⟨fun c87 => ?_, fun c87 => ?_⟩
                  · skip
                    refine ⟨iv_nb (iv_lit (l := 0) (h := 0) (by decide)) (by decide), ?_⟩
                    refine ⟨fun c88 => ?_, fun c88 => ?_⟩
                    · skip
                      exact hpost _ _ _ _ _ (iv_w (iv_lit (l := (-1)) (h := (-1)) (by decide)) (by decide)) (iv_lit (l := 0) (h := 0) (by decide)) (iv_lea (l := 0) (h := 1) (r_nlt c4) (iv_leb (l := 0) (h := 2147483647) (r_nlt c1) (iv_lit (l := 0) (h := 0) (by decide)) (iv_top x1) (by decide)) (iv_sub (l := (-1)) (h := 1) (k_a_many _) (iv_lit (l := 1) (h := 1) (by decide)) (by decide)) (by decide)) hr8 hr9
                    · skip
                      exact (iv_emp (iv_ne (l := 1) (h := 0) c88 (iv_lit (l := 0) (h := 0) (by decide)) (iv_lit (l := 0) (h := 0) (by decide)) (by decide)) (by decide)).elim
                  · skip
                    refine ⟨iv_nb (iv_lit (l := 1) (h := 1) (by decide)) (by decide), ?_⟩
                    refine ⟨fun c89 => ?_, fun c89 => ?_⟩
                    · skip
                      exact (iv_emp (iv_eqa (l := 1) (h := 0) c89 (iv_lit (l := 1) (h := 1) (by decide)) (iv_lit (l := 0) (h := 0) (by decide)) (by decide)) (by decide)).elim
                    · skip
                      refine ⟨fun c90 => ?_, fun c90 => ?_⟩
                      · skip
                        exact (iv_emp (iv_lta (l := 0) (h := (-1)) (r_lt c90) hw85 (iv_lit (l := 0) (h := 0) (by decide)) (by decide)) (by decide)).elim
                      · skip
                        refine ⟨fun c91 => ?_, fun c91 => ?_⟩
                        · skip
                          refine ⟨iv_nb (iv_lit (l := 0) (h := 0) (by decide)) (by decide), ?_⟩
                          refine ⟨fun c92 => ?_, fun c92 => ?_⟩
                          · skip
                            exact hpost _ _ _ _ _ (iv_w (iv_lit (l := (-1)) (h := (-1)) (by decide)) (by decide)) (iv_lit (l := 0) (h := 0) (by decide)) (iv_lea (l := 0) (h := 1) (r_nlt c4) (iv_leb (l := 0) (h := 2147483647) (r_nlt c1) (iv_lit (l := 0) (h := 0) (by decide)) (iv_top x1) (by decide)) (iv_sub (l := (-1)) (h := 1) (k_a_many _) (iv_lit (l := 1) (h := 1) (by decide)) (by decide)) (by decide)) hr8 hr9
                          · skip
                            exact (iv_emp (iv_ne (l := 1) (h := 0) c92 (iv_lit (l := 0) (h := 0) (by decide)) (iv_lit (l := 0) (h := 0) (by decide)) (by decide)) (by decide)).elim
                        · skip
                          refine ⟨iv_nb (iv_lit (l := 1) (h := 1) (by decide)) (by decide), ?_⟩
                          refine ⟨fun c93 => ?_, fun c93 => ?_⟩
                          · skip
                            exact (iv_emp (iv_eqa (l := 1) (h := 0) c93 (iv_lit (l := 1) (h := 1) (by decide)) (iv_lit (l := 0) (h := 0) (by decide)) (by decide)) (by decide)).elim
                          · skip
                            refine sp_of (a := 0) (b := 9) k_a_lands (iv_lea (l := 0) (h := 1) (r_nlt c4) (iv_leb (l := 0) (h := 2147483647) (r_nlt c1) (iv_lit (l := 0) (h := 0) (by decide)) (iv_top x1) (by decide)) (iv_sub (l := (-1)) (h := 1) (k_a_many _) (iv_lit (l := 1) (h := 1) (by decide)) (by decide)) (by decide)) (iv_add (l := 51) (h := 131) (iv_add (l := 51) (h := 123) (iv_lit (l := 51) (h := 51) (by decide)) (iv_mul (l := 0) (h := 72) (iv_lit (l := 9) (h := 9) (by decide)) hw84 (by decide)) (by decide)) hw85 (by decide)) (by decide +kernel) (fun r94 hr94 er94 => ?_)
                            exact hpost _ _ _ _ _ (iv_w hr94 (by decide)) (iv_lit (l := 0) (h := 0) (by decide)) (iv_lea (l := 0) (h := 1) (r_nlt c4) (iv_leb (l := 0) (h := 2147483647) (r_nlt c1) (iv_lit (l := 0) (h := 0) (by decide)) (iv_top x1) (by decide)) (iv_sub (l := (-1)) (h := 1) (k_a_many _) (iv_lit (l := 1) (h := 1) (by decide)) (by decide)) (by decide)) hr8 hr9
        · skip
          exact (iv_emp (iv_eqa (l := 1) (h := 0) c10 (iv_lit (l := 1) (h := 1) (by decide)) (iv_lit (l := 0) (h := 0) (by decide)) (by decide)) (by decide)).elim
      · skip
        exact (iv_emp (iv_eqa (l := 1) (h := 0) c7 (iv_lit (l := 1) (h := 1) (by decide)) (iv_lit (l := 0) (h := 0) (by decide)) (by decide)) (by decide)).elim
-- m_echo
set_option maxRecDepth 20000 in
theorem s_m_echo_0 {f_code : Int32} {a_many : Nat → Int32} {a_lands : Nat → Int32} {f_land : Int32} {f_huts : Int32} {f_singers : Int32} {x1 : Int32} {x2 : Int32} {x3 : Int32} {post : Int32 → (Int32) → (Int32) → (Int32) → (Int32) → Prop} (k_f_code : iv 0 0 f_code) (k_a_many : ∀ j, iv 0 2 (a_many j)) (k_a_lands : mLand a_lands) (k_f_land : iv 0 1 f_land) (k_f_huts : iv 0 9 f_huts) (k_f_singers : iv 0 6 f_singers) (hpost : ∀ (r : Int32) (f_code : Int32) (f_land : Int32) (f_huts : Int32) (f_singers : Int32), iv (-1) 8 r → (iv 0 0 f_code) → (iv 0 1 f_land) → (iv 0 9 f_huts) → (iv 0 6 f_singers) → post r f_code f_land f_huts f_singers) : q_m_echo_0 f_code a_many a_lands f_land f_huts f_singers x1 x2 x3 post := by
  refine ⟨iv_in (iv_lit (l := 0) (h := 0) (by decide)) (by decide), ?_⟩
  refine ⟨fun c1 => ?_, fun c1 => ?_⟩
  · skip
    refine ⟨iv_nb (iv_lit (l := 0) (h := 0) (by decide)) (by decide), ?_⟩
    refine ⟨fun c2 => ?_, fun c2 => ?_⟩
    · skip
      exact (iv_emp (iv_ne (l := 1) (h := 0) c2 (iv_lit (l := 0) (h := 0) (by decide)) (iv_lit (l := 0) (h := 0) (by decide)) (by decide)) (by decide)).elim
    · skip
      refine ⟨fun c3 => ?_, fun c3 => ?_⟩
      · skip
        exact hpost _ _ _ _ _ (iv_w (iv_lit (l := (-1)) (h := (-1)) (by decide)) (by decide)) (iv_lit (l := 0) (h := 0) (by decide)) k_f_land k_f_huts k_f_singers
      · skip
        exact (iv_emp (iv_ne (l := 1) (h := 0) c3 (iv_lit (l := 0) (h := 0) (by decide)) (iv_lit (l := 0) (h := 0) (by decide)) (by decide)) (by decide)).elim
  · skip
    refine ⟨fun c4 => ?_, fun c4 => ?_⟩
    · skip
      refine ⟨iv_nb (iv_lit (l := 0) (h := 0) (by decide)) (by decide), ?_⟩
      refine ⟨fun c5 => ?_, fun c5 => ?_⟩
      · skip
        exact (iv_emp (iv_ne (l := 1) (h := 0) c5 (iv_lit (l := 0) (h := 0) (by decide)) (iv_lit (l := 0) (h := 0) (by decide)) (by decide)) (by decide)).elim
      · skip
        refine ⟨fun c6 => ?_, fun c6 => ?_⟩
        · skip
          exact hpost _ _ _ _ _ (iv_w (iv_lit (l := (-1)) (h := (-1)) (by decide)) (by decide)) (iv_lit (l := 0) (h := 0) (by decide)) k_f_land k_f_huts k_f_singers
        · skip
          exact (iv_emp (iv_ne (l := 1) (h := 0) c6 (iv_lit (l := 0) (h := 0) (by decide)) (iv_lit (l := 0) (h := 0) (by decide)) (by decide)) (by decide)).elim
    · skip
      refine ⟨iv_nb (iv_lit (l := 1) (h := 1) (by decide)) (by decide), ?_⟩
      refine ⟨fun c7 => ?_, fun c7 => ?_⟩
      · skip
        refine sp_of (a := 0) (b := 9) k_a_lands (iv_lea (l := 0) (h := 1) (r_nlt c4) (iv_leb (l := 0) (h := 2147483647) (r_nlt c1) (iv_lit (l := 0) (h := 0) (by decide)) (iv_top x1) (by decide)) (iv_sub (l := (-1)) (h := 1) (k_a_many _) (iv_lit (l := 1) (h := 1) (by decide)) (by decide)) (by decide)) (iv_lit (l := 0) (h := 0) (by decide)) (by decide +kernel) (fun r8 hr8 er8 => ?_)
        refine sp_of (a := 0) (b := 6) k_a_lands (iv_lea (l := 0) (h := 1) (r_nlt c4) (iv_leb (l := 0) (h := 2147483647) (r_nlt c1) (iv_lit (l := 0) (h := 0) (by decide)) (iv_top x1) (by decide)) (iv_sub (l := (-1)) (h := 1) (k_a_many _) (iv_lit (l := 1) (h := 1) (by decide)) (by decide)) (by decide)) (iv_lit (l := 1) (h := 1) (by decide)) (by decide +kernel) (fun r9 hr9 er9 => ?_)
        refine ⟨fun c10 => ?_, fun c10 => ?_⟩
        · skip
          exact (iv_emp (iv_eqa (l := 1) (h := 0) c10 (iv_lit (l := 1) (h := 1) (by decide)) (iv_lit (l := 0) (h := 0) (by decide)) (by decide)) (by decide)).elim
        · skip
          refine sp_of (a := 0) (b := 4) k_a_lands (iv_lea (l := 0) (h := 1) (r_nlt c4) (iv_leb (l := 0) (h := 2147483647) (r_nlt c1) (iv_lit (l := 0) (h := 0) (by decide)) (iv_top x1) (by decide)) (iv_sub (l := (-1)) (h := 1) (k_a_many _) (iv_lit (l := 1) (h := 1) (by decide)) (by decide)) (by decide)) (iv_lit (l := 4) (h := 4) (by decide)) (by decide +kernel) (fun r11 hr11 er11 => ?_)
          refine ⟨fun c12 => ?_, fun c12 => ?_⟩
          · skip
            refine ⟨fun c13 => ?_, fun c13 => ?_⟩
            · skip
              exact hpost _ _ _ _ _ (iv_w (iv_lit (l := (-1)) (h := (-1)) (by decide)) (by decide)) (iv_lit (l := 0) (h := 0) (by decide)) (iv_lea (l := 0) (h := 1) (r_nlt c4) (iv_leb (l := 0) (h := 2147483647) (r_nlt c1) (iv_lit (l := 0) (h := 0) (by decide)) (iv_top x1) (by decide)) (iv_sub (l := (-1)) (h := 1) (k_a_many _) (iv_lit (l := 1) (h := 1) (by decide)) (by decide)) (by decide)) hr8 hr9
            · skip
              exact (iv_emp (iv_ne (l := 1) (h := 0) c13 (iv_lit (l := 0) (h := 0) (by decide)) (iv_lit (l := 0) (h := 0) (by decide)) (by decide)) (by decide)).elim
          · skip
            refine ⟨fun c14 => ?_, fun c14 => ?_⟩
            · skip
              refine ⟨fun c15 => ?_, fun c15 => ?_⟩
              · skip
                exact hpost _ _ _ _ _ (iv_w (iv_lit (l := (-1)) (h := (-1)) (by decide)) (by decide)) (iv_lit (l := 0) (h := 0) (by decide)) (iv_lea (l := 0) (h := 1) (r_nlt c4) (iv_leb (l := 0) (h := 2147483647) (r_nlt c1) (iv_lit (l := 0) (h := 0) (by decide)) (iv_top x1) (by decide)) (iv_sub (l := (-1)) (h := 1) (k_a_many _) (iv_lit (l := 1) (h := 1) (by decide)) (by decide)) (by decide)) hr8 hr9
              · skip
                exact (iv_emp (iv_ne (l := 1) (h := 0) c15 (iv_lit (l := 0) (h := 0) (by decide)) (iv_lit (l := 0) (h := 0) (by decide)) (by decide)) (by decide)).elim
            · skip
              refine ⟨fun c16 => ?_, fun c16 => ?_⟩
              · skip
                exact (iv_emp (iv_eqa (l := 1) (h := 0) c16 (iv_lit (l := 1) (h := 1) (by decide)) (iv_lit (l := 0) (h := 0) (by decide)) (by decide)) (by decide)).elim
              · skip
                refine ⟨fun c17 => ?_, fun c17 => ?_⟩
                · skip
                  refine ⟨fun c18 => ?_, fun c18 => ?_⟩
                  · skip
                    exact hpost _ _ _ _ _ (iv_w (iv_lit (l := (-1)) (h := (-1)) (by decide)) (by decide)) (iv_lit (l := 0) (h := 0) (by decide)) (iv_lea (l := 0) (h := 1) (r_nlt c4) (iv_leb (l := 0) (h := 2147483647) (r_nlt c1) (iv_lit (l := 0) (h := 0) (by decide)) (iv_top x1) (by decide)) (iv_sub (l := (-1)) (h := 1) (k_a_many _) (iv_lit (l := 1) (h := 1) (by decide)) (by decide)) (by decide)) hr8 hr9
                  · skip
                    exact (iv_emp (iv_ne (l := 1) (h := 0) c18 (iv_lit (l := 0) (h := 0) (by decide)) (iv_lit (l := 0) (h := 0) (by decide)) (by decide)) (by decide)).elim
                · skip
                  refine ⟨fun c19 => ?_, fun c19 => ?_⟩
                  · skip
                    refine ⟨fun c20 => ?_, fun c20 => ?_⟩
                    · skip
                      exact hpost _ _ _ _ _ (iv_w (iv_lit (l := (-1)) (h := (-1)) (by decide)) (by decide)) (iv_lit (l := 0) (h := 0) (by decide)) (iv_lea (l := 0) (h := 1) (r_nlt c4) (iv_leb (l := 0) (h := 2147483647) (r_nlt c1) (iv_lit (l := 0) (h := 0) (by decide)) (iv_top x1) (by decide)) (iv_sub (l := (-1)) (h := 1) (k_a_many _) (iv_lit (l := 1) (h := 1) (by decide)) (by decide)) (by decide)) hr8 hr9
                    · skip
                      exact (iv_emp (iv_ne (l := 1) (h := 0) c20 (iv_lit (l := 0) (h := 0) (by decide)) (iv_lit (l := 0) (h := 0) (by decide)) (by decide)) (by decide)).elim
                  · skip
                    refine ⟨fun c21 => ?_, fun c21 => ?_⟩
                    · skip
                      exact (iv_emp (iv_eqa (l := 1) (h := 0) c21 (iv_lit (l := 1) (h := 1) (by decide)) (iv_lit (l := 0) (h := 0) (by decide)) (by decide)) (by decide)).elim
                    · skip
                      refine sp_of (a := 0) (b := 8) k_a_lands (iv_lea (l := 0) (h := 1) (r_nlt c4) (iv_leb (l := 0) (h := 2147483647) (r_nlt c1) (iv_lit (l := 0) (h := 0) (by decide)) (iv_top x1) (by decide)) (iv_sub (l := (-1)) (h := 1) (k_a_many _) (iv_lit (l := 1) (h := 1) (by decide)) (by decide)) (by decide)) (iv_add (l := 43) (h := 50) (iv_add (l := 43) (h := 49) (iv_lit (l := 43) (h := 43) (by decide)) (iv_mul (l := 0) (h := 6) (iv_lit (l := 2) (h := 2) (by decide)) (iv_lea (l := 0) (h := 3) (r_nlt c14) (iv_leb (l := 0) (h := 2147483647) (r_nlt c12) (iv_lit (l := 0) (h := 0) (by decide)) (iv_top x2) (by decide)) (iv_sub (l := (-1)) (h := 3) hr11 (iv_lit (l := 1) (h := 1) (by decide)) (by decide)) (by decide)) (by decide)) (by decide)) (iv_lea (l := 0) (h := 1) (r_nlt c19) (iv_leb (l := 0) (h := 2147483647) (r_nlt c17) (iv_lit (l := 0) (h := 0) (by decide)) (iv_top x3) (by decide)) (iv_lit (l := 1) (h := 1) (by decide)) (by decide)) (by decide)) (by decide +kernel) (fun r22 hr22 er22 => ?_)
                      exact hpost _ _ _ _ _ (iv_w hr22 (by decide)) (iv_lit (l := 0) (h := 0) (by decide)) (iv_lea (l := 0) (h := 1) (r_nlt c4) (iv_leb (l := 0) (h := 2147483647) (r_nlt c1) (iv_lit (l := 0) (h := 0) (by decide)) (iv_top x1) (by decide)) (iv_sub (l := (-1)) (h := 1) (k_a_many _) (iv_lit (l := 1) (h := 1) (by decide)) (by decide)) (by decide)) hr8 hr9
      · skip
        exact (iv_emp (iv_eqa (l := 1) (h := 0) c7 (iv_lit (l := 1) (h := 1) (by decide)) (iv_lit (l := 0) (h := 0) (by decide)) (by decide)) (by decide)).elim
-- m_deed
set_option maxRecDepth 20000 in
theorem s_m_deed_0 {f_code : Int32} {a_many : Nat → Int32} {a_evenings : Nat → Int32} {f_evening : Int32} {x1 : Int32} {x2 : Int32} {x3 : Int32} {post : Int32 → (Int32) → (Int32) → Prop} (k_f_code : iv 0 0 f_code) (k_a_many : ∀ j, iv 0 2 (a_many j)) (k_a_evenings : mEve a_evenings) (hpost : ∀ (r : Int32) (f_code : Int32) (f_evening : Int32), iv (-2) 40 r → (iv 0 0 f_code) → post r f_code f_evening) : q_m_deed_0 f_code a_many a_evenings f_evening x1 x2 x3 post := by
  refine ⟨iv_in (iv_lit (l := 1) (h := 1) (by decide)) (by decide), ?_⟩
  refine ⟨fun c1 => ?_, fun c1 => ?_⟩
  · skip
    refine ⟨iv_nb (iv_lit (l := 0) (h := 0) (by decide)) (by decide), ?_⟩
    refine ⟨iv_nb (iv_lit (l := 0) (h := 0) (by decide)) (by decide), ?_⟩
    refine ⟨fun c2 => ?_, fun c2 => ?_⟩
    · skip
      exact (iv_emp (iv_ne (l := 1) (h := 0) c2 (iv_lit (l := 0) (h := 0) (by decide)) (iv_lit (l := 0) (h := 0) (by decide)) (by decide)) (by decide)).elim
    · skip
      exact hpost _ _ _ (iv_w (iv_lit (l := (-2)) (h := (-2)) (by decide)) (by decide)) (iv_lit (l := 0) (h := 0) (by decide))
  · skip
    refine ⟨fun c3 => ?_, fun c3 => ?_⟩
    · skip
      refine ⟨iv_nb (iv_lit (l := 0) (h := 0) (by decide)) (by decide), ?_⟩
      refine ⟨iv_nb (iv_lit (l := 0) (h := 0) (by decide)) (by decide), ?_⟩
      refine ⟨fun c4 => ?_, fun c4 => ?_⟩
      · skip
        exact (iv_emp (iv_ne (l := 1) (h := 0) c4 (iv_lit (l := 0) (h := 0) (by decide)) (iv_lit (l := 0) (h := 0) (by decide)) (by decide)) (by decide)).elim
      · skip
        exact hpost _ _ _ (iv_w (iv_lit (l := (-2)) (h := (-2)) (by decide)) (by decide)) (iv_lit (l := 0) (h := 0) (by decide))
    · skip
      refine ⟨iv_nb (iv_lit (l := 1) (h := 1) (by decide)) (by decide), ?_⟩
      refine ⟨iv_nb (iv_lit (l := 1) (h := 1) (by decide)) (by decide), ?_⟩
      refine ⟨fun c5 => ?_, fun c5 => ?_⟩
      · skip
        refine ⟨fun c6 => ?_, fun c6 => ?_⟩
        · skip
          refine sp_deeds k_a_evenings (iv_lea (l := 0) (h := 1) (r_nlt c3) (iv_leb (l := 0) (h := 2147483647) (r_nlt c1) (iv_lit (l := 0) (h := 0) (by decide)) (iv_top x1) (by decide)) (iv_sub (l := (-1)) (h := 1) (k_a_many _) (iv_lit (l := 1) (h := 1) (by decide)) (by decide)) (by decide)) (fun r7 hr7 => ?_)
          refine ⟨fun c8 => ?_, fun c8 => ?_⟩
          · skip
            refine ⟨fun c9 => ?_, fun c9 => ?_⟩
            · skip
              exact hpost _ _ _ (iv_w (iv_lit (l := (-2)) (h := (-2)) (by decide)) (by decide)) (iv_lit (l := 0) (h := 0) (by decide))
            · skip
              exact (iv_emp (iv_ne (l := 1) (h := 0) c9 (iv_lit (l := 0) (h := 0) (by decide)) (iv_lit (l := 0) (h := 0) (by decide)) (by decide)) (by decide)).elim
          · skip
            refine ⟨fun c10 => ?_, fun c10 => ?_⟩
            · skip
              refine ⟨fun c11 => ?_, fun c11 => ?_⟩
              · skip
                exact hpost _ _ _ (iv_w (iv_lit (l := (-2)) (h := (-2)) (by decide)) (by decide)) (iv_lit (l := 0) (h := 0) (by decide))
              · skip
                exact (iv_emp (iv_ne (l := 1) (h := 0) c11 (iv_lit (l := 0) (h := 0) (by decide)) (iv_lit (l := 0) (h := 0) (by decide)) (by decide)) (by decide)).elim
            · skip
              refine ⟨fun c12 => ?_, fun c12 => ?_⟩
              · skip
                exact (iv_emp (iv_eqa (l := 1) (h := 0) c12 (iv_lit (l := 1) (h := 1) (by decide)) (iv_lit (l := 0) (h := 0) (by decide)) (by decide)) (by decide)).elim
              · skip
                refine ⟨fun c13 => ?_, fun c13 => ?_⟩
                · skip
                  refine ⟨fun c14 => ?_, fun c14 => ?_⟩
                  · skip
                    exact hpost _ _ _ (iv_w (iv_lit (l := (-2)) (h := (-2)) (by decide)) (by decide)) (iv_lit (l := 0) (h := 0) (by decide))
                  · skip
                    exact (iv_emp (iv_ne (l := 1) (h := 0) c14 (iv_lit (l := 0) (h := 0) (by decide)) (iv_lit (l := 0) (h := 0) (by decide)) (by decide)) (by decide)).elim
                · skip
                  refine ⟨fun c15 => ?_, fun c15 => ?_⟩
                  · skip
                    refine ⟨fun c16 => ?_, fun c16 => ?_⟩
                    · skip
                      exact hpost _ _ _ (iv_w (iv_lit (l := (-2)) (h := (-2)) (by decide)) (by decide)) (iv_lit (l := 0) (h := 0) (by decide))
                    · skip
                      exact (iv_emp (iv_ne (l := 1) (h := 0) c16 (iv_lit (l := 0) (h := 0) (by decide)) (iv_lit (l := 0) (h := 0) (by decide)) (by decide)) (by decide)).elim
                  · skip
                    refine ⟨fun c17 => ?_, fun c17 => ?_⟩
                    · skip
                      exact (iv_emp (iv_eqa (l := 1) (h := 0) c17 (iv_lit (l := 1) (h := 1) (by decide)) (iv_lit (l := 0) (h := 0) (by decide)) (by decide)) (by decide)).elim
                    · skip
                      refine sp_deedOf_w k_a_evenings (iv_lea (l := 0) (h := 1) (r_nlt c3) (iv_leb (l := 0) (h := 2147483647) (r_nlt c1) (iv_lit (l := 0) (h := 0) (by decide)) (iv_top x1) (by decide)) (iv_sub (l := (-1)) (h := 1) (k_a_many _) (iv_lit (l := 1) (h := 1) (by decide)) (by decide)) (by decide)) (iv_lea (l := 0) (h := 39) (r_nlt c10) (iv_leb (l := 0) (h := 2147483647) (r_nlt c8) (iv_lit (l := 0) (h := 0) (by decide)) (iv_top x2) (by decide)) (iv_sub (l := (-1)) (h := 39) hr7 (iv_lit (l := 1) (h := 1) (by decide)) (by decide)) (by decide)) (iv_lea (l := 0) (h := 2) (r_nlt c15) (iv_leb (l := 0) (h := 2147483647) (r_nlt c13) (iv_lit (l := 0) (h := 0) (by decide)) (iv_top x3) (by decide)) (iv_lit (l := 2) (h := 2) (by decide)) (by decide)) (fun r18 hr18 => ?_)
                      exact hpost _ _ _ (iv_w hr18 (by decide)) (iv_lit (l := 0) (h := 0) (by decide))
        · skip
          refine ⟨fun c19 => ?_, fun c19 => ?_⟩
          · skip
            exact hpost _ _ _ (iv_w (iv_lit (l := (-2)) (h := (-2)) (by decide)) (by decide)) (iv_lit (l := 0) (h := 0) (by decide))
          · skip
            refine sp_deeds k_a_evenings (iv_lea (l := 0) (h := 1) (r_nlt c3) (iv_leb (l := 0) (h := 2147483647) (r_nlt c1) (iv_lit (l := 0) (h := 0) (by decide)) (iv_top x1) (by decide)) (iv_sub (l := (-1)) (h := 1) (k_a_many _) (iv_lit (l := 1) (h := 1) (by decide)) (by decide)) (by decide)) (fun r20 hr20 => ?_)
            exact hpost _ _ _ (iv_w hr20 (by decide)) (iv_lit (l := 0) (h := 0) (by decide))
      · skip
        exact (iv_emp (iv_eqa (l := 1) (h := 0) c5 (iv_lit (l := 1) (h := 1) (by decide)) (iv_lit (l := 0) (h := 0) (by decide)) (by decide)) (by decide)).elim
-- m_begin
set_option maxRecDepth 20000 in
theorem s_m_begin_51 {a_lands : Nat → Int32} {f_land : Int32} {a_at : Nat → Int32} {a_knows : Nat → Int32} {a_climbed : Nat → Int32} {a_snow : Nat → Int32} {f_begun : Int32} {f_minute : Int32} {f_avalanches : Int32} {x1 : Int32} {post : (Nat → Int32) → (Nat → Int32) → (Nat → Int32) → (Nat → Int32) → (Int32) → (Int32) → (Int32) → Prop} (k_a_lands : mLand a_lands) (k_f_land : iv 0 1 f_land) (k_a_at : ∀ j, iv 0 8 (a_at j)) (k_a_knows : ∀ j, iv 0 31 (a_knows j)) (k_a_climbed : ∀ j, iv 0 1 (a_climbed j)) (k_f_begun : iv 0 31 f_begun) (hx1 : iv 0 9 x1) (hpost : ∀ (a_at : Nat → Int32) (a_knows : Nat → Int32) (a_climbed : Nat → Int32) (a_snow : Nat → Int32) (f_begun : Int32) (f_minute : Int32) (f_avalanches : Int32), (∀ j, iv 0 8 (a_at j)) → (∀ j, iv 0 31 (a_knows j)) → (∀ j, iv 0 1 (a_climbed j)) → (iv 0 0 f_begun) → (iv 0 0 f_minute) → (iv 0 0 f_avalanches) → post a_at a_knows a_climbed a_snow f_begun f_minute f_avalanches) : q_m_begin_51 a_lands f_land a_at a_knows a_climbed a_snow f_begun f_minute f_avalanches x1 post := by
  intro P hP
  have loop : ∀ (n : Nat) (x1 : Int32) (a_snow : Nat → Int32), (9 - x1.toInt < (n : Int)) → (iv 0 9 x1) → P x1 a_snow := by
    intro n
    induction n with
    | zero => intro x1 a_snow hm hx1; exact (ms0_up hm hx1).elim
    | succ n ih =>
      intro x1 a_snow hm hx1
      apply hP
      refine ⟨fun c1 => ?_, fun c1 => ?_⟩
      · skip
        exact hpost _ _ _ _ _ _ _ k_a_at k_a_knows k_a_climbed (iv_lit (l := 0) (h := 0) (by decide)) (iv_lit (l := 0) (h := 0) (by decide)) (iv_lit (l := 0) (h := 0) (by decide))
      · skip
        refine ⟨iv_in (iv_lta (l := 0) (h := 8) (r_nle c1) hx1 (iv_lit (l := 9) (h := 9) (by decide)) (by decide)) (by decide), ?_⟩
        intro a2 ea2
        intro w3 ew3
        have hw3 := iv_eq ew3 (iv_add (l := 1) (h := 9) (iv_lta (l := 0) (h := 8) (r_nle c1) hx1 (iv_lit (l := 9) (h := 9) (by decide)) (by decide)) (iv_lit (l := 1) (h := 1) (by decide)) (by decide))
        exact ih _ _ (ms_up hm (inc_lt ew3 (iv_lta (l := 0) (h := 8) (r_nle c1) hx1 (iv_lit (l := 9) (h := 9) (by decide)) (by decide)) (by decide))) (iv_w hw3 (by decide))
  exact loop _ _ _ (ms_init_up _ _) hx1
set_option maxRecDepth 20000 in
theorem s_m_begin_2 {a_lands : Nat → Int32} {f_land : Int32} {a_at : Nat → Int32} {a_knows : Nat → Int32} {a_climbed : Nat → Int32} {a_snow : Nat → Int32} {f_begun : Int32} {f_minute : Int32} {f_avalanches : Int32} {x1 : Int32} {post : (Nat → Int32) → (Nat → Int32) → (Nat → Int32) → (Nat → Int32) → (Int32) → (Int32) → (Int32) → Prop} (k_a_lands : mLand a_lands) (k_f_land : iv 0 1 f_land) (k_a_at : ∀ j, iv 0 8 (a_at j)) (k_a_knows : ∀ j, iv 0 31 (a_knows j)) (k_a_climbed : ∀ j, iv 0 1 (a_climbed j)) (k_f_begun : iv 0 31 f_begun) (hx1 : iv 0 6 x1) (hpost : ∀ (a_at : Nat → Int32) (a_knows : Nat → Int32) (a_climbed : Nat → Int32) (a_snow : Nat → Int32) (f_begun : Int32) (f_minute : Int32) (f_avalanches : Int32), (∀ j, iv 0 8 (a_at j)) → (∀ j, iv 0 31 (a_knows j)) → (∀ j, iv 0 1 (a_climbed j)) → (iv 0 0 f_begun) → (iv 0 0 f_minute) → (iv 0 0 f_avalanches) → post a_at a_knows a_climbed a_snow f_begun f_minute f_avalanches) : q_m_begin_2 a_lands f_land a_at a_knows a_climbed a_snow f_begun f_minute f_avalanches x1 post := by
  intro P hP
  have loop : ∀ (n : Nat) (x1 : Int32) (a_at : Nat → Int32) (a_knows : Nat → Int32) (a_climbed : Nat → Int32), (6 - x1.toInt < (n : Int)) → (iv 0 6 x1) → (∀ j, iv 0 8 (a_at j)) → (∀ j, iv 0 31 (a_knows j)) → (∀ j, iv 0 1 (a_climbed j)) → P x1 a_at a_knows a_climbed := by
    intro n
    induction n with
    | zero => intro x1 a_at a_knows a_climbed hm hx1 k_a_at k_a_knows k_a_climbed; exact (ms0_up hm hx1).elim
    | succ n ih =>
      intro x1 a_at a_knows a_climbed hm hx1 k_a_at k_a_knows k_a_climbed
      apply hP
      refine ⟨fun c1 => ?_, fun c1 => ?_⟩
      · skip
        exact s_m_begin_51 k_a_lands k_f_land k_a_at k_a_knows k_a_climbed k_f_begun (iv_w (iv_lit (l := 0) (h := 0) (by decide)) (by decide)) hpost
      · skip
        refine sp_of (a := 0) (b := 8) k_a_lands k_f_land (iv_add (l := 25) (h := 30) (iv_lit (l := 25) (h := 25) (by decide)) (iv_lta (l := 0) (h := 5) (r_nle c1) hx1 (iv_lit (l := 6) (h := 6) (by decide)) (by decide)) (by decide)) (by decide +kernel) (fun r2 hr2 er2 => ?_)
        refine ⟨iv_in (iv_lta (l := 0) (h := 5) (r_nle c1) hx1 (iv_lit (l := 6) (h := 6) (by decide)) (by decide)) (by decide), ?_⟩
        intro a3 ea3
        have k_a3 := iv_upd ea3 k_a_at hr2
        refine sp_of (a := 0) (b := 31) k_a_lands k_f_land (iv_add (l := 37) (h := 42) (iv_lit (l := 37) (h := 37) (by decide)) (iv_lta (l := 0) (h := 5) (r_nle c1) hx1 (iv_lit (l := 6) (h := 6) (by decide)) (by decide)) (by decide)) (by decide +kernel) (fun r4 hr4 er4 => ?_)
        refine ⟨iv_in (iv_lta (l := 0) (h := 5) (r_nle c1) hx1 (iv_lit (l := 6) (h := 6) (by decide)) (by decide)) (by decide), ?_⟩
        intro a5 ea5
        have k_a5 := iv_upd ea5 k_a_knows hr4
        refine ⟨iv_in (iv_lta (l := 0) (h := 5) (r_nle c1) hx1 (iv_lit (l := 6) (h := 6) (by decide)) (by decide)) (by decide), ?_⟩
        intro a6 ea6
        have k_a6 := iv_upd ea6 k_a_climbed (iv_w (iv_lit (l := 0) (h := 0) (by decide)) (by decide))
        intro w7 ew7
        have hw7 := iv_eq ew7 (iv_add (l := 1) (h := 6) (iv_lta (l := 0) (h := 5) (r_nle c1) hx1 (iv_lit (l := 6) (h := 6) (by decide)) (by decide)) (iv_lit (l := 1) (h := 1) (by decide)) (by decide))
        exact ih _ _ _ _ (ms_up hm (inc_lt ew7 (iv_lta (l := 0) (h := 5) (r_nle c1) hx1 (iv_lit (l := 6) (h := 6) (by decide)) (by decide)) (by decide))) (iv_w hw7 (by decide)) k_a3 k_a5 k_a6
  exact loop _ _ _ _ _ (ms_init_up _ _) hx1 k_a_at k_a_knows k_a_climbed
set_option maxRecDepth 20000 in
theorem s_m_begin_0 {a_lands : Nat → Int32} {f_land : Int32} {a_at : Nat → Int32} {a_knows : Nat → Int32} {a_climbed : Nat → Int32} {a_snow : Nat → Int32} {f_begun : Int32} {f_minute : Int32} {f_avalanches : Int32} {post : (Nat → Int32) → (Nat → Int32) → (Nat → Int32) → (Nat → Int32) → (Int32) → (Int32) → (Int32) → Prop} (k_a_lands : mLand a_lands) (k_f_land : iv 0 1 f_land) (k_a_at : ∀ j, iv 0 8 (a_at j)) (k_a_knows : ∀ j, iv 0 31 (a_knows j)) (k_a_climbed : ∀ j, iv 0 1 (a_climbed j)) (k_f_begun : iv 0 31 f_begun) (hpost : ∀ (a_at : Nat → Int32) (a_knows : Nat → Int32) (a_climbed : Nat → Int32) (a_snow : Nat → Int32) (f_begun : Int32) (f_minute : Int32) (f_avalanches : Int32), (∀ j, iv 0 8 (a_at j)) → (∀ j, iv 0 31 (a_knows j)) → (∀ j, iv 0 1 (a_climbed j)) → (iv 0 0 f_begun) → (iv 0 0 f_minute) → (iv 0 0 f_avalanches) → post a_at a_knows a_climbed a_snow f_begun f_minute f_avalanches) : q_m_begin_0 a_lands f_land a_at a_knows a_climbed a_snow f_begun f_minute f_avalanches post := by
  exact s_m_begin_2 k_a_lands k_f_land k_a_at k_a_knows k_a_climbed k_f_begun (iv_w (iv_lit (l := 0) (h := 0) (by decide)) (by decide)) hpost
-- m_hearing
set_option maxRecDepth 20000 in
theorem s_m_hearing_48 {P6 : Int32 → Int32 → Prop} {a_lands : Nat → Int32} {f_land : Int32} {x1 : Int32} {x3 : Int32} {y0 : Int32} {y1 : Int32} {post : Int32 → Prop} (k_a_lands : mLand a_lands) (k_f_land : iv 0 1 f_land) (hx1 : iv 0 8 x1) (hx3 : iv 0 3 x3) (hy0 : iv 0 511 y0) (hy1 : iv 0 256 y1) (m6 : Int) (hm6 : m6 ≤ x3.toInt) (hP6 : ∀ (x2 : Int32) (x3 : Int32), m6 < x3.toInt → iv 0 511 x2 → iv 0 4 x3 → P6 x2 x3) (hpost : ∀ (r : Int32), iv 0 511 r → post r) : q_m_hearing_48 P6 a_lands f_land x1 x3 y0 y1 post := by
  intro w1 ew1
  have hw1 := iv_eq ew1 (iv_or 9 (l := 0) (h := 511) hy0 hy1 (by decide))
  intro w2 ew2
  have hw2 := iv_eq ew2 (iv_add (l := 1) (h := 4) hx3 (iv_lit (l := 1) (h := 1) (by decide)) (by decide))
  exact hP6 _ _ (ml_up hm6 (inc_lt ew2 hx3 (by decide))) hw1 (iv_w hw2 (by decide))
set_option maxRecDepth 20000 in
theorem s_m_hearing_6 {a_lands : Nat → Int32} {f_land : Int32} {x1 : Int32} {x2 : Int32} {x3 : Int32} {post : Int32 → Prop} (k_a_lands : mLand a_lands) (k_f_land : iv 0 1 f_land) (hx1 : iv 0 8 x1) (hx2 : iv 0 511 x2) (hx3 : iv 0 4 x3) (hpost : ∀ (r : Int32), iv 0 511 r → post r) : q_m_hearing_6 a_lands f_land x1 x2 x3 post := by
  intro P hP
  have loop : ∀ (n : Nat) (x2 : Int32) (x3 : Int32), (4 - x3.toInt < (n : Int)) → (iv 0 511 x2) → (iv 0 4 x3) → P x2 x3 := by
    intro n
    induction n with
    | zero => intro x2 x3 hm hx2 hx3; exact (ms0_up hm hx3).elim
    | succ n ih =>
      intro x2 x3 hm hx2 hx3
      apply hP
      refine sp_of (a := 0) (b := 4) k_a_lands k_f_land (iv_lit (l := 4) (h := 4) (by decide)) (by decide +kernel) (fun r1 hr1 er1 => ?_)
      refine ⟨fun c2 => ?_, fun c2 => ?_⟩
      · skip
        refine sp_of (a := 0) (b := 511) k_a_lands k_f_land (iv_lit (l := 3) (h := 3) (by decide)) (by decide +kernel) (fun r3 hr3 er3 => ?_)
        exact hpost _ (iv_andl (l := 0) (h := 511) hx2 (by decide))
      · skip
        refine sp_of (a := 0) (b := 8) k_a_lands k_f_land (iv_add (l := 43) (h := 49) (iv_lit (l := 43) (h := 43) (by decide)) (iv_mul (l := 0) (h := 6) (iv_lit (l := 2) (h := 2) (by decide)) (iv_lta (l := 0) (h := 3) (r_nle c2) hx3 hr1 (by decide)) (by decide)) (by decide)) (by decide +kernel) (fun r4 hr4 er4 => ?_)
        refine ⟨fun c5 => ?_, fun c5 => ?_⟩
        · skip
          exact s_m_hearing_48 k_a_lands k_f_land hx1 (iv_lta (l := 0) (h := 3) (r_nle c2) hx3 hr1 (by decide)) hx2 (iv_w (iv_lit (l := 0) (h := 0) (by decide)) (by decide)) x3.toInt (Int.le_refl _) (fun u0 u1 hq g0 g1 => ih u0 u1 (ms_up hm hq) g0 g1) hpost
        · skip
          refine sp_of (a := 0) (b := 8) k_a_lands k_f_land (iv_add (l := 44) (h := 50) (iv_add (l := 43) (h := 49) (iv_lit (l := 43) (h := 43) (by decide)) (iv_mul (l := 0) (h := 6) (iv_lit (l := 2) (h := 2) (by decide)) (iv_lta (l := 0) (h := 3) (r_nle c2) hx3 hr1 (by decide)) (by decide)) (by decide)) (iv_lit (l := 1) (h := 1) (by decide)) (by decide)) (by decide +kernel) (fun r6 hr6 er6 => ?_)
          exact s_m_hearing_48 k_a_lands k_f_land hx1 (iv_lta (l := 0) (h := 3) (r_nle c2) hx3 hr1 (by decide)) hx2 (iv_w (iv_shl1 (l := 1) (h := 256) (iv_lit (l := 1) (h := 1) (by decide)) hr6 (by decide)) (by decide)) x3.toInt (Int.le_refl _) (fun u0 u1 hq g0 g1 => ih u0 u1 (ms_up hm hq) g0 g1) hpost
  exact loop _ _ _ (ms_init_up _ _) hx2 hx3
set_option maxRecDepth 20000 in
theorem s_m_hearing_0 {a_lands : Nat → Int32} {f_land : Int32} {x1 : Int32} {post : Int32 → Prop} (k_a_lands : mLand a_lands) (k_f_land : iv 0 1 f_land) (hx1 : iv 0 8 x1) (hpost : ∀ (r : Int32), iv 0 511 r → post r) : q_m_hearing_0 a_lands f_land x1 post := by
  intro w1 ew1
  have hw1 := iv_eq ew1 (iv_shl1 (l := 1) (h := 256) (iv_lit (l := 1) (h := 1) (by decide)) hx1 (by decide))
  exact s_m_hearing_6 k_a_lands k_f_land hx1 (iv_w hw1 (by decide)) (iv_w (iv_lit (l := 0) (h := 0) (by decide)) (by decide)) hpost
-- m_sounds
set_option maxRecDepth 20000 in
theorem s_m_sounds_75 {P37 : Int32 → (Nat → Int32) → Prop} {a_lands : Nat → Int32} {f_land : Int32} {f_singers : Int32} {a_at : Nat → Int32} {a_knows : Nat → Int32} {a_climbed : Nat → Int32} {a_level : Nat → Int32} {f_begun : Int32} {x2 : Int32} {x3 : Int32} {x4 : Int32} {y0 : Int32} {y1 : Int32} {y2 : Int32} {post : (Nat → Int32) → (Nat → Int32) → (Int32) → Prop} (k_a_lands : mLand a_lands) (k_f_land : iv 0 1 f_land) (k_f_singers : iv 1 6 f_singers) (k_a_at : ∀ j, iv 0 8 (a_at j)) (k_a_knows : ∀ j, iv 0 31 (a_knows j)) (k_a_climbed : ∀ j, iv 0 1 (a_climbed j)) (k_a_level : ∀ j, iv (-9) 108 (a_level j)) (k_f_begun : iv 0 31 f_begun) (hx2 : iv 0 4 x2) (hx3 : iv 0 511 x3) (hx4 : iv 0 5 x4) (hy0 : iv 0 5 y0) (hy1 : iv 0 31 y1) (hy2 : iv 0 16 y2) (m37 : Int) (hm37 : m37 ≤ x4.toInt) (hP37 : ∀ (x4 : Int32) (a_knows : Nat → Int32), m37 < x4.toInt → iv 0 6 x4 → (∀ j, iv 0 31 (a_knows j)) → P37 x4 a_knows) (hpost : ∀ (a_knows : Nat → Int32) (a_level : Nat → Int32) (f_begun : Int32), (∀ j, iv 0 31 (a_knows j)) → (∀ j, iv (-9) 108 (a_level j)) → (iv 0 31 f_begun) → post a_knows a_level f_begun) : q_m_sounds_75 P37 a_lands f_land f_singers a_at a_knows a_climbed a_level f_begun x2 x3 x4 y0 y1 y2 post := by
  intro w1 ew1
  have hw1 := iv_eq ew1 (iv_or 5 (l := 0) (h := 31) hy1 hy2 (by decide))
  refine ⟨iv_in hy0 (by decide), ?_⟩
  intro a2 ea2
  have k_a2 := iv_upd ea2 k_a_knows hw1
  intro w3 ew3
  have hw3 := iv_eq ew3 (iv_add (l := 1) (h := 6) hx4 (iv_lit (l := 1) (h := 1) (by decide)) (by decide))
  exact hP37 _ _ (ml_up hm37 (inc_lt ew3 hx4 (by decide))) (iv_w hw3 (by decide)) k_a2
set_option maxRecDepth 20000 in
theorem s_m_sounds_37 {a_lands : Nat → Int32} {f_land : Int32} {f_singers : Int32} {a_at : Nat → Int32} {a_knows : Nat → Int32} {a_climbed : Nat → Int32} {a_level : Nat → Int32} {f_begun : Int32} {x2 : Int32} {x3 : Int32} {x4 : Int32} {post : (Nat → Int32) → (Nat → Int32) → (Int32) → Prop} (k_a_lands : mLand a_lands) (k_f_land : iv 0 1 f_land) (k_f_singers : iv 0 6 f_singers) (k_a_at : ∀ j, iv 0 8 (a_at j)) (k_a_knows : ∀ j, iv 0 31 (a_knows j)) (k_a_climbed : ∀ j, iv 0 1 (a_climbed j)) (k_a_level : ∀ j, iv (-9) 108 (a_level j)) (k_f_begun : iv 0 31 f_begun) (hx2 : iv 0 4 x2) (hx3 : iv 0 511 x3) (hx4 : iv 0 6 x4) (hpost : ∀ (a_knows : Nat → Int32) (a_level : Nat → Int32) (f_begun : Int32), (∀ j, iv 0 31 (a_knows j)) → (∀ j, iv (-9) 108 (a_level j)) → (iv 0 31 f_begun) → post a_knows a_level f_begun) : q_m_sounds_37 a_lands f_land f_singers a_at a_knows a_climbed a_level f_begun x2 x3 x4 post := by
  intro P hP
  have loop : ∀ (n : Nat) (x4 : Int32) (a_knows : Nat → Int32), (6 - x4.toInt < (n : Int)) → (iv 0 6 x4) → (∀ j, iv 0 31 (a_knows j)) → P x4 a_knows := by
    intro n
    induction n with
    | zero => intro x4 a_knows hm hx4 k_a_knows; exact (ms0_up hm hx4).elim
    | succ n ih =>
      intro x4 a_knows hm hx4 k_a_knows
      apply hP
      refine ⟨fun c1 => ?_, fun c1 => ?_⟩
      · skip
        exact hpost _ _ _ k_a_knows k_a_level k_f_begun
      · skip
        refine ⟨iv_in (iv_lta (l := 0) (h := 5) (r_nle c1) hx4 k_f_singers (by decide)) (by decide), ?_⟩
        refine ⟨iv_in (iv_lta (l := 0) (h := 5) (r_nle c1) hx4 k_f_singers (by decide)) (by decide), ?_⟩
        refine ⟨fun c2 => ?_, fun c2 => ?_⟩
        · skip
          refine ⟨fun c3 => ?_, fun c3 => ?_⟩
          · skip
            exact s_m_sounds_75 k_a_lands k_f_land (iv_ltb (l := 1) (h := 6) (r_nle c1) hx4 k_f_singers (by decide)) k_a_at k_a_knows k_a_climbed k_a_level k_f_begun hx2 hx3 (iv_lta (l := 0) (h := 5) (r_nle c1) hx4 k_f_singers (by decide)) (iv_lta (l := 0) (h := 5) (r_nle c1) hx4 k_f_singers (by decide)) (k_a_knows _) (iv_w (iv_lit (l := 0) (h := 0) (by decide)) (by decide)) x4.toInt (Int.le_refl _) (fun u0 u1 hq g0 g1 => ih u0 u1 (ms_up hm hq) g0 g1) hpost
          · skip
            exact (iv_emp (iv_ne (l := 1) (h := 0) c3 (iv_lit (l := 0) (h := 0) (by decide)) (iv_lit (l := 0) (h := 0) (by decide)) (by decide)) (by decide)).elim
        · skip
          refine ⟨fun c4 => ?_, fun c4 => ?_⟩
          · skip
            exact (iv_emp (iv_eqa (l := 1) (h := 0) c4 (iv_lit (l := 1) (h := 1) (by decide)) (iv_lit (l := 0) (h := 0) (by decide)) (by decide)) (by decide)).elim
          · skip
            exact s_m_sounds_75 k_a_lands k_f_land (iv_ltb (l := 1) (h := 6) (r_nle c1) hx4 k_f_singers (by decide)) k_a_at k_a_knows k_a_climbed k_a_level k_f_begun hx2 hx3 (iv_lta (l := 0) (h := 5) (r_nle c1) hx4 k_f_singers (by decide)) (iv_lta (l := 0) (h := 5) (r_nle c1) hx4 k_f_singers (by decide)) (k_a_knows _) (iv_w (iv_shl1 (l := 1) (h := 16) (iv_lit (l := 1) (h := 1) (by decide)) hx2 (by decide)) (by decide)) x4.toInt (Int.le_refl _) (fun u0 u1 hq g0 g1 => ih u0 u1 (ms_up hm hq) g0 g1) hpost
  exact loop _ _ _ (ms_init_up _ _) hx4 k_a_knows
set_option maxRecDepth 20000 in
theorem s_m_sounds_0 {a_lands : Nat → Int32} {f_land : Int32} {f_singers : Int32} {a_at : Nat → Int32} {a_knows : Nat → Int32} {a_climbed : Nat → Int32} {a_level : Nat → Int32} {f_begun : Int32} {x1 : Int32} {x2 : Int32} {post : (Nat → Int32) → (Nat → Int32) → (Int32) → Prop} (k_a_lands : mLand a_lands) (k_f_land : iv 0 1 f_land) (k_f_singers : iv 0 6 f_singers) (k_a_at : ∀ j, iv 0 8 (a_at j)) (k_a_knows : ∀ j, iv 0 31 (a_knows j)) (k_a_climbed : ∀ j, iv 0 1 (a_climbed j)) (k_a_level : ∀ j, iv (-9) 108 (a_level j)) (k_f_begun : iv 0 31 f_begun) (hx1 : iv 0 5 x1) (hx2 : iv 0 4 x2) (hpost : ∀ (a_knows : Nat → Int32) (a_level : Nat → Int32) (f_begun : Int32), (∀ j, iv 0 31 (a_knows j)) → (∀ j, iv (-9) 108 (a_level j)) → (iv 0 31 f_begun) → post a_knows a_level f_begun) : q_m_sounds_0 a_lands f_land f_singers a_at a_knows a_climbed a_level f_begun x1 x2 post := by
  refine ⟨iv_in hx1 (by decide), ?_⟩
  refine s_m_hearing_0 k_a_lands k_f_land (k_a_at _) (fun r1 hr1 => ?_)
  refine ⟨iv_in hx1 (by decide), ?_⟩
  refine sp_of (a := 0) (b := 99) k_a_lands k_f_land (iv_add (l := 7) (h := 15) (iv_lit (l := 7) (h := 7) (by decide)) (k_a_at _) (by decide)) (by decide +kernel) (fun r2 hr2 er2 => ?_)
  refine sp_of (a := 0) (b := 9) k_a_lands k_f_land (iv_add (l := 31) (h := 36) (iv_lit (l := 31) (h := 31) (by decide)) hx1 (by decide)) (by decide +kernel) (fun r3 hr3 er3 => ?_)
  refine ⟨iv_in hx1 (by decide), ?_⟩
  refine ⟨iv_in hx1 (by decide), ?_⟩
  refine sp_of (a := 0) (b := 9) k_a_lands k_f_land (iv_add (l := 16) (h := 24) (iv_lit (l := 16) (h := 16) (by decide)) (k_a_at _) (by decide)) (by decide +kernel) (fun r4 hr4 er4 => ?_)
  refine ⟨iv_in hx2 (by decide), ?_⟩
  intro a5 ea5
  have k_a5 := iv_upd ea5 k_a_level (iv_add (l := (-9)) (h := 108) (iv_sub (l := (-9)) (h := 99) hr2 hr3 (by decide)) (iv_mul (l := 0) (h := 9) (k_a_climbed _) hr4 (by decide)) (by decide))
  intro w6 ew6
  have hw6 := iv_eq ew6 (iv_or 5 (l := 0) (h := 31) k_f_begun (iv_shl1 (l := 1) (h := 16) (iv_lit (l := 1) (h := 1) (by decide)) hx2 (by decide)) (by decide))
  exact s_m_sounds_37 k_a_lands k_f_land k_f_singers k_a_at k_a_knows k_a_climbed k_a5 hw6 hx2 hr1 (iv_w (iv_lit (l := 0) (h := 0) (by decide)) (by decide)) hpost
-- m_sings
set_option maxRecDepth 20000 in
theorem s_m_sings_78 {a_lands : Nat → Int32} {f_land : Int32} {f_singers : Int32} {a_at : Nat → Int32} {a_knows : Nat → Int32} {a_climbed : Nat → Int32} {a_snow : Nat → Int32} {a_level : Nat → Int32} {f_begun : Int32} {f_avalanches : Int32} {x1 : Int32} {x2 : Int32} {y0 : Int32} {y1 : Int32} {post : (Nat → Int32) → (Nat → Int32) → (Nat → Int32) → (Int32) → (Int32) → Prop} (k_a_lands : mLand a_lands) (k_f_land : iv 0 1 f_land) (k_f_singers : iv 0 6 f_singers) (k_a_at : ∀ j, iv 0 8 (a_at j)) (k_a_knows : ∀ j, iv 0 31 (a_knows j)) (k_a_climbed : ∀ j, iv 0 1 (a_climbed j)) (k_a_level : ∀ j, iv (-9) 108 (a_level j)) (k_f_begun : iv 0 31 f_begun) (hx1 : iv 0 5 x1) (hx2 : iv 0 4 x2) (hy1 : iv 0 1 y1) (hpost : ∀ (a_knows : Nat → Int32) (a_snow : Nat → Int32) (a_level : Nat → Int32) (f_begun : Int32) (f_avalanches : Int32), (∀ j, iv 0 31 (a_knows j)) → (∀ j, iv (-9) 108 (a_level j)) → (iv 0 31 f_begun) → post a_knows a_snow a_level f_begun f_avalanches) : q_m_sings_78 a_lands f_land f_singers a_at a_knows a_climbed a_snow a_level f_begun f_avalanches x1 x2 y0 y1 post := by
  intro w1 ew1
  refine s_m_sounds_0 k_a_lands k_f_land k_f_singers k_a_at k_a_knows k_a_climbed k_a_level k_f_begun hx1 hx2 (fun o2 o3 o4 k_o2 k_o3 k_o4 => ?_)
  exact hpost _ _ _ _ _ k_o2 k_o3 k_o4
set_option maxRecDepth 20000 in
theorem s_m_sings_61 {a_lands : Nat → Int32} {f_land : Int32} {f_singers : Int32} {a_at : Nat → Int32} {a_knows : Nat → Int32} {a_climbed : Nat → Int32} {a_snow : Nat → Int32} {a_level : Nat → Int32} {f_begun : Int32} {f_avalanches : Int32} {x1 : Int32} {x2 : Int32} {x4 : Int32} {y0 : Int32} {y1 : Int32} {y2 : Int32} {post : (Nat → Int32) → (Nat → Int32) → (Nat → Int32) → (Int32) → (Int32) → Prop} (k_a_lands : mLand a_lands) (k_f_land : iv 0 1 f_land) (k_f_singers : iv 0 6 f_singers) (k_a_at : ∀ j, iv 0 8 (a_at j)) (k_a_knows : ∀ j, iv 0 31 (a_knows j)) (k_a_climbed : ∀ j, iv 0 1 (a_climbed j)) (k_a_level : ∀ j, iv (-9) 108 (a_level j)) (k_f_begun : iv 0 31 f_begun) (hx1 : iv 0 5 x1) (hx2 : iv 0 4 x2) (hx4 : iv 0 1 x4) (hy0 : iv 0 8 y0) (hy2 : iv 0 1 y2) (hpost : ∀ (a_knows : Nat → Int32) (a_snow : Nat → Int32) (a_level : Nat → Int32) (f_begun : Int32) (f_avalanches : Int32), (∀ j, iv 0 31 (a_knows j)) → (∀ j, iv (-9) 108 (a_level j)) → (iv 0 31 f_begun) → post a_knows a_snow a_level f_begun f_avalanches) : q_m_sings_61 a_lands f_land f_singers a_at a_knows a_climbed a_snow a_level f_begun f_avalanches x1 x2 x4 y0 y1 y2 post := by
  intro w1 ew1
  refine ⟨iv_in hy0 (by decide), ?_⟩
  intro a2 ea2
  refine ⟨fun c3 => ?_, fun c3 => ?_⟩
  · skip
    exact s_m_sings_78 k_a_lands k_f_land k_f_singers k_a_at k_a_knows k_a_climbed k_a_level k_f_begun hx1 hx2 (iv_w (iv_lit (l := 0) (h := 0) (by decide)) (by decide)) hpost
  · skip
    exact s_m_sings_78 k_a_lands k_f_land k_f_singers k_a_at k_a_knows k_a_climbed k_a_level k_f_begun hx1 hx2 (iv_w (iv_lit (l := 1) (h := 1) (by decide)) (by decide)) hpost
set_option maxRecDepth 20000 in
theorem s_m_sings_37 {a_lands : Nat → Int32} {f_land : Int32} {f_singers : Int32} {a_at : Nat → Int32} {a_knows : Nat → Int32} {a_climbed : Nat → Int32} {a_snow : Nat → Int32} {a_level : Nat → Int32} {f_begun : Int32} {f_avalanches : Int32} {x1 : Int32} {x2 : Int32} {y0 : Int32} {post : (Nat → Int32) → (Nat → Int32) → (Nat → Int32) → (Int32) → (Int32) → Prop} (k_a_lands : mLand a_lands) (k_f_land : iv 0 1 f_land) (k_f_singers : iv 0 6 f_singers) (k_a_at : ∀ j, iv 0 8 (a_at j)) (k_a_knows : ∀ j, iv 0 31 (a_knows j)) (k_a_climbed : ∀ j, iv 0 1 (a_climbed j)) (k_a_level : ∀ j, iv (-9) 108 (a_level j)) (k_f_begun : iv 0 31 f_begun) (hx1 : iv 0 5 x1) (hx2 : iv 0 4 x2) (hy0 : iv 0 1 y0) (hpost : ∀ (a_knows : Nat → Int32) (a_snow : Nat → Int32) (a_level : Nat → Int32) (f_begun : Int32) (f_avalanches : Int32), (∀ j, iv 0 31 (a_knows j)) → (∀ j, iv (-9) 108 (a_level j)) → (iv 0 31 f_begun) → post a_knows a_snow a_level f_begun f_avalanches) : q_m_sings_37 a_lands f_land f_singers a_at a_knows a_climbed a_snow a_level f_begun f_avalanches x1 x2 y0 post := by
  refine ⟨iv_in hx1 (by decide), ?_⟩
  refine ⟨iv_in (k_a_at _) (by decide), ?_⟩
  refine ⟨fun c1 => ?_, fun c1 => ?_⟩
  · skip
    exact s_m_sings_61 k_a_lands k_f_land k_f_singers k_a_at k_a_knows k_a_climbed k_a_level k_f_begun hx1 hx2 (iv_w (iv_eqa (l := 0) (h := 0) c1 hy0 (iv_lit (l := 0) (h := 0) (by decide)) (by decide)) (by decide)) (k_a_at _) (iv_w (iv_lit (l := 0) (h := 0) (by decide)) (by decide)) hpost
  · skip
    exact s_m_sings_61 k_a_lands k_f_land k_f_singers k_a_at k_a_knows k_a_climbed k_a_level k_f_begun hx1 hx2 (iv_w (iv_ne (l := 1) (h := 1) c1 hy0 (iv_lit (l := 0) (h := 0) (by decide)) (by decide)) (by decide)) (k_a_at _) (iv_w (iv_lit (l := 1) (h := 1) (by decide)) (by decide)) hpost
set_option maxRecDepth 20000 in
theorem s_m_sings_32 {a_lands : Nat → Int32} {f_land : Int32} {f_singers : Int32} {a_at : Nat → Int32} {a_knows : Nat → Int32} {a_climbed : Nat → Int32} {a_snow : Nat → Int32} {a_level : Nat → Int32} {f_begun : Int32} {f_avalanches : Int32} {x1 : Int32} {x2 : Int32} {post : (Nat → Int32) → (Nat → Int32) → (Nat → Int32) → (Int32) → (Int32) → Prop} (k_a_lands : mLand a_lands) (k_f_land : iv 0 1 f_land) (k_f_singers : iv 0 6 f_singers) (k_a_at : ∀ j, iv 0 8 (a_at j)) (k_a_knows : ∀ j, iv 0 31 (a_knows j)) (k_a_climbed : ∀ j, iv 0 1 (a_climbed j)) (k_a_level : ∀ j, iv (-9) 108 (a_level j)) (k_f_begun : iv 0 31 f_begun) (hx1 : iv 0 5 x1) (hx2 : iv 0 4 x2) (hpost : ∀ (a_knows : Nat → Int32) (a_snow : Nat → Int32) (a_level : Nat → Int32) (f_begun : Int32) (f_avalanches : Int32), (∀ j, iv 0 31 (a_knows j)) → (∀ j, iv (-9) 108 (a_level j)) → (iv 0 31 f_begun) → post a_knows a_snow a_level f_begun f_avalanches) : q_m_sings_32 a_lands f_land f_singers a_at a_knows a_climbed a_snow a_level f_begun f_avalanches x1 x2 post := by
  exact s_m_sings_37 k_a_lands k_f_land k_f_singers k_a_at k_a_knows k_a_climbed k_a_level k_f_begun hx1 hx2 (iv_w (iv_lit (l := 1) (h := 1) (by decide)) (by decide)) hpost
set_option maxRecDepth 20000 in
theorem s_m_sings_36 {a_lands : Nat → Int32} {f_land : Int32} {f_singers : Int32} {a_at : Nat → Int32} {a_knows : Nat → Int32} {a_climbed : Nat → Int32} {a_snow : Nat → Int32} {a_level : Nat → Int32} {f_begun : Int32} {f_avalanches : Int32} {x1 : Int32} {x2 : Int32} {post : (Nat → Int32) → (Nat → Int32) → (Nat → Int32) → (Int32) → (Int32) → Prop} (k_a_lands : mLand a_lands) (k_f_land : iv 0 1 f_land) (k_f_singers : iv 0 6 f_singers) (k_a_at : ∀ j, iv 0 8 (a_at j)) (k_a_knows : ∀ j, iv 0 31 (a_knows j)) (k_a_climbed : ∀ j, iv 0 1 (a_climbed j)) (k_a_level : ∀ j, iv (-9) 108 (a_level j)) (k_f_begun : iv 0 31 f_begun) (hx1 : iv 0 5 x1) (hx2 : iv 0 4 x2) (hpost : ∀ (a_knows : Nat → Int32) (a_snow : Nat → Int32) (a_level : Nat → Int32) (f_begun : Int32) (f_avalanches : Int32), (∀ j, iv 0 31 (a_knows j)) → (∀ j, iv (-9) 108 (a_level j)) → (iv 0 31 f_begun) → post a_knows a_snow a_level f_begun f_avalanches) : q_m_sings_36 a_lands f_land f_singers a_at a_knows a_climbed a_snow a_level f_begun f_avalanches x1 x2 post := by
  exact s_m_sings_37 k_a_lands k_f_land k_f_singers k_a_at k_a_knows k_a_climbed k_a_level k_f_begun hx1 hx2 (iv_w (iv_lit (l := 0) (h := 0) (by decide)) (by decide)) hpost
set_option maxRecDepth 20000 in
theorem s_m_sings_0 {a_lands : Nat → Int32} {f_land : Int32} {f_singers : Int32} {a_at : Nat → Int32} {a_knows : Nat → Int32} {a_climbed : Nat → Int32} {a_snow : Nat → Int32} {a_level : Nat → Int32} {f_begun : Int32} {f_avalanches : Int32} {x1 : Int32} {x2 : Int32} {x3 : Int32} {post : (Nat → Int32) → (Nat → Int32) → (Nat → Int32) → (Int32) → (Int32) → Prop} (k_a_lands : mLand a_lands) (k_f_land : iv 0 1 f_land) (k_f_singers : iv 0 6 f_singers) (k_a_at : ∀ j, iv 0 8 (a_at j)) (k_a_knows : ∀ j, iv 0 31 (a_knows j)) (k_a_climbed : ∀ j, iv 0 1 (a_climbed j)) (k_a_level : ∀ j, iv (-9) 108 (a_level j)) (k_f_begun : iv 0 31 f_begun) (hx1 : iv 0 5 x1) (hx2 : iv 0 4 x2) (hx3 : iv 0 1 x3) (hpost : ∀ (a_knows : Nat → Int32) (a_snow : Nat → Int32) (a_level : Nat → Int32) (f_begun : Int32) (f_avalanches : Int32), (∀ j, iv 0 31 (a_knows j)) → (∀ j, iv (-9) 108 (a_level j)) → (iv 0 31 f_begun) → post a_knows a_snow a_level f_begun f_avalanches) : q_m_sings_0 a_lands f_land f_singers a_at a_knows a_climbed a_snow a_level f_begun f_avalanches x1 x2 x3 post := by
  refine ⟨iv_in hx1 (by decide), ?_⟩
  refine sp_of (a := 0) (b := 99) k_a_lands k_f_land (iv_add (l := 7) (h := 15) (iv_lit (l := 7) (h := 7) (by decide)) (k_a_at _) (by decide)) (by decide +kernel) (fun r1 hr1 er1 => ?_)
  refine sp_of (a := 0) (b := 9) k_a_lands k_f_land (iv_add (l := 31) (h := 36) (iv_lit (l := 31) (h := 31) (by decide)) hx1 (by decide)) (by decide +kernel) (fun r2 hr2 er2 => ?_)
  refine ⟨iv_in hx1 (by decide), ?_⟩
  refine ⟨iv_in hx1 (by decide), ?_⟩
  refine sp_of (a := 0) (b := 9) k_a_lands k_f_land (iv_add (l := 16) (h := 24) (iv_lit (l := 16) (h := 16) (by decide)) (k_a_at _) (by decide)) (by decide +kernel) (fun r3 hr3 er3 => ?_)
  refine ⟨iv_in hx2 (by decide), ?_⟩
  refine ⟨fun c4 => ?_, fun c4 => ?_⟩
  · skip
    exact s_m_sings_32 k_a_lands k_f_land k_f_singers k_a_at k_a_knows k_a_climbed k_a_level k_f_begun hx1 hx2 hpost
  · skip
    refine ⟨fun c5 => ?_, fun c5 => ?_⟩
    · skip
      exact s_m_sings_36 k_a_lands k_f_land k_f_singers k_a_at k_a_knows k_a_climbed k_a_level k_f_begun hx1 hx2 hpost
    · skip
      refine ⟨iv_in hx1 (by decide), ?_⟩
      refine sp_of (a := 0) (b := 99) k_a_lands k_f_land (iv_add (l := 7) (h := 15) (iv_lit (l := 7) (h := 7) (by decide)) (k_a_at _) (by decide)) (by decide +kernel) (fun r6 hr6 er6 => ?_)
      refine sp_of (a := 0) (b := 9) k_a_lands k_f_land (iv_add (l := 31) (h := 36) (iv_lit (l := 31) (h := 31) (by decide)) hx1 (by decide)) (by decide +kernel) (fun r7 hr7 er7 => ?_)
      refine ⟨iv_in hx1 (by decide), ?_⟩
      refine ⟨iv_in hx1 (by decide), ?_⟩
      refine sp_of (a := 0) (b := 9) k_a_lands k_f_land (iv_add (l := 16) (h := 24) (iv_lit (l := 16) (h := 16) (by decide)) (k_a_at _) (by decide)) (by decide +kernel) (fun r8 hr8 er8 => ?_)
      refine ⟨iv_in hx2 (by decide), ?_⟩
      refine ⟨fun c9 => ?_, fun c9 => ?_⟩
      · skip
        exact s_m_sings_36 k_a_lands k_f_land k_f_singers k_a_at k_a_knows k_a_climbed k_a_level k_f_begun hx1 hx2 hpost
      · skip
        exact s_m_sings_32 k_a_lands k_f_land k_f_singers k_a_at k_a_knows k_a_climbed k_a_level k_f_begun hx1 hx2 hpost
-- m_does
set_option maxRecDepth 20000 in
theorem s_m_does_112 {a_lands : Nat → Int32} {a_evenings : Nat → Int32} {f_land : Int32} {f_huts : Int32} {f_singers : Int32} {f_evening : Int32} {a_at : Nat → Int32} {a_knows : Nat → Int32} {a_climbed : Nat → Int32} {a_snow : Nat → Int32} {a_level : Nat → Int32} {f_begun : Int32} {f_minute : Int32} {f_avalanches : Int32} {y0 : Int32} {y1 : Int32} {y2 : Int32} {post : Int32 → (Nat → Int32) → (Nat → Int32) → (Nat → Int32) → (Nat → Int32) → (Nat → Int32) → (Int32) → (Int32) → (Int32) → Prop} (k_a_lands : mLand a_lands) (k_a_evenings : mEve a_evenings) (k_f_land : iv 0 1 f_land) (k_f_huts : iv 0 9 f_huts) (k_f_singers : iv 0 6 f_singers) (k_f_evening : iv 0 1 f_evening) (k_a_at : ∀ j, iv 0 8 (a_at j)) (k_a_knows : ∀ j, iv 0 31 (a_knows j)) (k_a_climbed : ∀ j, iv 0 1 (a_climbed j)) (k_a_level : ∀ j, iv (-9) 108 (a_level j)) (k_f_begun : iv 0 31 f_begun) (hy0 : iv 0 5 y0) (hy1 : iv 0 4 y1) (hy2 : iv 0 1 y2) (hpost : ∀ (r : Int32) (a_at : Nat → Int32) (a_knows : Nat → Int32) (a_climbed : Nat → Int32) (a_snow : Nat → Int32) (a_level : Nat → Int32) (f_begun : Int32) (f_minute : Int32) (f_avalanches : Int32), iv 0 1 r → (∀ j, iv 0 8 (a_at j)) → (∀ j, iv 0 31 (a_knows j)) → (∀ j, iv 0 1 (a_climbed j)) → (∀ j, iv (-9) 108 (a_level j)) → (iv 0 31 f_begun) → post r a_at a_knows a_climbed a_snow a_level f_begun f_minute f_avalanches) : q_m_does_112 a_lands a_evenings f_land f_huts f_singers f_evening a_at a_knows a_climbed a_snow a_level f_begun f_minute f_avalanches y0 y1 y2 post := by
  refine s_m_sings_0 k_a_lands k_f_land k_f_singers k_a_at k_a_knows k_a_climbed k_a_level k_f_begun hy0 hy1 hy2 (fun o1 o2 o3 o4 o5 k_o1 k_o3 k_o4 => ?_)
  exact hpost _ _ _ _ _ _ _ _ _ (iv_w (iv_lit (l := 1) (h := 1) (by decide)) (by decide)) k_a_at k_o1 k_a_climbed k_o3 k_o4
set_option maxRecDepth 20000 in
theorem s_m_does_83 {a_lands : Nat → Int32} {a_evenings : Nat → Int32} {f_land : Int32} {f_huts : Int32} {f_singers : Int32} {f_evening : Int32} {a_at : Nat → Int32} {a_knows : Nat → Int32} {a_climbed : Nat → Int32} {a_snow : Nat → Int32} {a_level : Nat → Int32} {f_begun : Int32} {f_minute : Int32} {f_avalanches : Int32} {x1 : Int32} {x2 : Int32} {x3 : Int32} {post : Int32 → (Nat → Int32) → (Nat → Int32) → (Nat → Int32) → (Nat → Int32) → (Nat → Int32) → (Int32) → (Int32) → (Int32) → Prop} (k_a_lands : mLand a_lands) (k_a_evenings : mEve a_evenings) (k_f_land : iv 0 1 f_land) (k_f_huts : iv 0 9 f_huts) (k_f_singers : iv 0 6 f_singers) (k_f_evening : iv 0 1 f_evening) (k_a_at : ∀ j, iv 0 8 (a_at j)) (k_a_knows : ∀ j, iv 0 31 (a_knows j)) (k_a_climbed : ∀ j, iv 0 1 (a_climbed j)) (k_a_level : ∀ j, iv (-9) 108 (a_level j)) (k_f_begun : iv 0 31 f_begun) (hx1 : iv 0 39 x1) (hx2 : iv 0 5 x2) (hx3 : iv (-1) 8 x3) (hpost : ∀ (r : Int32) (a_at : Nat → Int32) (a_knows : Nat → Int32) (a_climbed : Nat → Int32) (a_snow : Nat → Int32) (a_level : Nat → Int32) (f_begun : Int32) (f_minute : Int32) (f_avalanches : Int32), iv 0 1 r → (∀ j, iv 0 8 (a_at j)) → (∀ j, iv 0 31 (a_knows j)) → (∀ j, iv 0 1 (a_climbed j)) → (∀ j, iv (-9) 108 (a_level j)) → (iv 0 31 f_begun) → post r a_at a_knows a_climbed a_snow a_level f_begun f_minute f_avalanches) : q_m_does_83 a_lands a_evenings f_land f_huts f_singers f_evening a_at a_knows a_climbed a_snow a_level f_begun f_minute f_avalanches x1 x2 x3 post := by
  refine ⟨iv_in hx2 (by decide), ?_⟩
  refine ⟨fun c1 => ?_, fun c1 => ?_⟩
  · skip
    refine ⟨fun c2 => ?_, fun c2 => ?_⟩
    · skip
      refine ⟨fun c3 => ?_, fun c3 => ?_⟩
      · skip
        exact (iv_emp (iv_ne (l := 1) (h := 0) c3 (iv_lit (l := 0) (h := 0) (by decide)) (iv_lit (l := 0) (h := 0) (by decide)) (by decide)) (by decide)).elim
      · skip
        exact hpost _ _ _ _ _ _ _ _ _ (iv_w (iv_lit (l := 0) (h := 0) (by decide)) (by decide)) k_a_at k_a_knows k_a_climbed k_a_level k_f_begun
    · skip
      exact (iv_emp (iv_ne (l := 1) (h := 0) c2 (iv_lit (l := 0) (h := 0) (by decide)) (iv_lit (l := 0) (h := 0) (by decide)) (by decide)) (by decide)).elim
  · skip
    refine ⟨fun c4 => ?_, fun c4 => ?_⟩
    · skip
      exact (iv_emp (iv_eqa (l := 1) (h := 0) c4 (iv_lit (l := 1) (h := 1) (by decide)) (iv_lit (l := 0) (h := 0) (by decide)) (by decide)) (by decide)).elim
    · skip
      refine ⟨fun c5 => ?_, fun c5 => ?_⟩
      · skip
        refine ⟨fun c6 => ?_, fun c6 => ?_⟩
        · skip
          refine ⟨fun c7 => ?_, fun c7 => ?_⟩
          · skip
            exact (iv_emp (iv_ne (l := 1) (h := 0) c7 (iv_lit (l := 0) (h := 0) (by decide)) (iv_lit (l := 0) (h := 0) (by decide)) (by decide)) (by decide)).elim
          · skip
            exact hpost _ _ _ _ _ _ _ _ _ (iv_w (iv_lit (l := 0) (h := 0) (by decide)) (by decide)) k_a_at k_a_knows k_a_climbed k_a_level k_f_begun
        · skip
          exact (iv_emp (iv_ne (l := 1) (h := 0) c6 (iv_lit (l := 0) (h := 0) (by decide)) (iv_lit (l := 0) (h := 0) (by decide)) (by decide)) (by decide)).elim
      · skip
        refine ⟨fun c8 => ?_, fun c8 => ?_⟩
        · skip
          exact (iv_emp (iv_eqa (l := 1) (h := 0) c8 (iv_lit (l := 1) (h := 1) (by decide)) (iv_lit (l := 0) (h := 0) (by decide)) (by decide)) (by decide)).elim
        · skip
          refine ⟨iv_in hx2 (by decide), ?_⟩
          refine sp_of (a := 0) (b := 511) k_a_lands k_f_land (iv_lit (l := 3) (h := 3) (by decide)) (by decide +kernel) (fun r9 hr9 er9 => ?_)
          refine ⟨fun c10 => ?_, fun c10 => ?_⟩
          · skip
            refine ⟨iv_nb (iv_lit (l := 0) (h := 0) (by decide)) (by decide), ?_⟩
            refine ⟨fun c11 => ?_, fun c11 => ?_⟩
            · skip
              exact (iv_emp (iv_ne (l := 1) (h := 0) c11 (iv_lit (l := 0) (h := 0) (by decide)) (iv_lit (l := 0) (h := 0) (by decide)) (by decide)) (by decide)).elim
            · skip
              refine ⟨fun c12 => ?_, fun c12 => ?_⟩
              · skip
                refine sp_deedOf_0 k_a_evenings k_f_evening hx1 (fun r13 hr13 => ?_)
                refine ⟨fun c14 => ?_, fun c14 => ?_⟩
                · skip
                  exact s_m_does_112 k_a_lands k_a_evenings k_f_land k_f_huts k_f_singers k_f_evening k_a_at k_a_knows k_a_climbed k_a_level k_f_begun hx2 (iv_bitk 5 (l := 0) (h := 4) (c1.trans (iv_one (iv_lit (l := 1) (h := 1) (by decide)))) (k_a_knows _) hx3 (by decide)) (iv_w (iv_lit (l := 0) (h := 0) (by decide)) (by decide)) hpost
                · skip
                  exact s_m_does_112 k_a_lands k_a_evenings k_f_land k_f_huts k_f_singers k_f_evening k_a_at k_a_knows k_a_climbed k_a_level k_f_begun hx2 (iv_bitk 5 (l := 0) (h := 4) (c1.trans (iv_one (iv_lit (l := 1) (h := 1) (by decide)))) (k_a_knows _) hx3 (by decide)) (iv_w (iv_lit (l := 1) (h := 1) (by decide)) (by decide)) hpost
              · skip
                exact (iv_emp (iv_eqa (l := 1) (h := 0) c12 (iv_lit (l := 1) (h := 1) (by decide)) (iv_lit (l := 0) (h := 0) (by decide)) (by decide)) (by decide)).elim
          · skip
            refine ⟨iv_nb (iv_lit (l := 1) (h := 1) (by decide)) (by decide), ?_⟩
            refine ⟨fun c15 => ?_, fun c15 => ?_⟩
            · skip
              refine ⟨fun c16 => ?_, fun c16 => ?_⟩
              · skip
                exact (iv_emp (iv_ne (l := 1) (h := 0) c16 (iv_lit (l := 0) (h := 0) (by decide)) (iv_lit (l := 0) (h := 0) (by decide)) (by decide)) (by decide)).elim
              · skip
                exact hpost _ _ _ _ _ _ _ _ _ (iv_w (iv_lit (l := 0) (h := 0) (by decide)) (by decide)) k_a_at k_a_knows k_a_climbed k_a_level k_f_begun
            · skip
              exact (iv_emp (iv_eqa (l := 1) (h := 0) c15 (iv_lit (l := 1) (h := 1) (by decide)) (iv_lit (l := 0) (h := 0) (by decide)) (by decide)) (by decide)).elim
set_option maxRecDepth 20000 in
theorem s_m_does_0 {a_lands : Nat → Int32} {a_evenings : Nat → Int32} {f_land : Int32} {f_huts : Int32} {f_singers : Int32} {f_evening : Int32} {a_at : Nat → Int32} {a_knows : Nat → Int32} {a_climbed : Nat → Int32} {a_snow : Nat → Int32} {a_level : Nat → Int32} {f_begun : Int32} {f_minute : Int32} {f_avalanches : Int32} {x1 : Int32} {post : Int32 → (Nat → Int32) → (Nat → Int32) → (Nat → Int32) → (Nat → Int32) → (Nat → Int32) → (Int32) → (Int32) → (Int32) → Prop} (k_a_lands : mLand a_lands) (k_a_evenings : mEve a_evenings) (k_f_land : iv 0 1 f_land) (k_f_huts : iv 0 9 f_huts) (k_f_singers : iv 0 6 f_singers) (k_f_evening : iv 0 1 f_evening) (k_a_at : ∀ j, iv 0 8 (a_at j)) (k_a_knows : ∀ j, iv 0 31 (a_knows j)) (k_a_climbed : ∀ j, iv 0 1 (a_climbed j)) (k_a_level : ∀ j, iv (-9) 108 (a_level j)) (k_f_begun : iv 0 31 f_begun) (hx1 : iv 0 39 x1) (hpost : ∀ (r : Int32) (a_at : Nat → Int32) (a_knows : Nat → Int32) (a_climbed : Nat → Int32) (a_snow : Nat → Int32) (a_level : Nat → Int32) (f_begun : Int32) (f_minute : Int32) (f_avalanches : Int32), iv 0 1 r → (∀ j, iv 0 8 (a_at j)) → (∀ j, iv 0 31 (a_knows j)) → (∀ j, iv 0 1 (a_climbed j)) → (∀ j, iv (-9) 108 (a_level j)) → (iv 0 31 f_begun) → post r a_at a_knows a_climbed a_snow a_level f_begun f_minute f_avalanches) : q_m_does_0 a_lands a_evenings f_land f_huts f_singers f_evening a_at a_knows a_climbed a_snow a_level f_begun f_minute f_avalanches x1 post := by
  refine sp_deedOf_1 k_a_evenings k_f_evening hx1 (fun r1 hr1 => ?_)
  refine sp_deedOf_2 k_a_evenings k_f_evening hx1 (fun r2 hr2 => ?_)
  refine ⟨fun c3 => ?_, fun c3 => ?_⟩
  · skip
    exact (iv_emp (iv_lta (l := 0) (h := (-1)) (r_lt c3) hr1 (iv_lit (l := 0) (h := 0) (by decide)) (by decide)) (by decide)).elim
  · skip
    refine ⟨fun c4 => ?_, fun c4 => ?_⟩
    · skip
      refine ⟨iv_nb (iv_lit (l := 0) (h := 0) (by decide)) (by decide), ?_⟩
      refine ⟨fun c5 => ?_, fun c5 => ?_⟩
      · skip
        exact (iv_emp (iv_ne (l := 1) (h := 0) c5 (iv_lit (l := 0) (h := 0) (by decide)) (iv_lit (l := 0) (h := 0) (by decide)) (by decide)) (by decide)).elim
      · skip
        exact hpost _ _ _ _ _ _ _ _ _ (iv_w (iv_lit (l := 0) (h := 0) (by decide)) (by decide)) k_a_at k_a_knows k_a_climbed k_a_level k_f_begun
    · skip
      refine ⟨iv_nb (iv_lit (l := 1) (h := 1) (by decide)) (by decide), ?_⟩
      refine ⟨fun c6 => ?_, fun c6 => ?_⟩
      · skip
        refine sp_deedOf_0 k_a_evenings k_f_evening hx1 (fun r7 hr7 => ?_)
        refine ⟨fun c8 => ?_, fun c8 => ?_, fun c8 => ?_, fun c8 => ?_, fun c8 => ?_, fun c8 => ?_⟩
        · skip
          refine ⟨iv_in hr1 (by decide), ?_⟩
          refine ⟨fun c9 => ?_, fun c9 => ?_⟩
          · skip
            refine ⟨iv_in hr1 (by decide), ?_⟩
            intro a10 ea10
            have k_a10 := iv_upd ea10 k_a_climbed (iv_w (iv_lit (l := 0) (h := 0) (by decide)) (by decide))
            exact hpost _ _ _ _ _ _ _ _ _ (iv_w (iv_lit (l := 1) (h := 1) (by decide)) (by decide)) k_a_at k_a_knows k_a10 k_a_level k_f_begun
          · skip
            exact hpost _ _ _ _ _ _ _ _ _ (iv_w (iv_lit (l := 0) (h := 0) (by decide)) (by decide)) k_a_at k_a_knows k_a_climbed k_a_level k_f_begun
        · skip
          refine ⟨iv_in hr1 (by decide), ?_⟩
          refine ⟨fun c11 => ?_, fun c11 => ?_⟩
          · skip
            refine ⟨fun c12 => ?_, fun c12 => ?_⟩
            · skip
              refine ⟨fun c13 => ?_, fun c13 => ?_⟩
              · skip
                exact (iv_emp (iv_ne (l := 1) (h := 0) c13 (iv_lit (l := 0) (h := 0) (by decide)) (iv_lit (l := 0) (h := 0) (by decide)) (by decide)) (by decide)).elim
              · skip
                exact hpost _ _ _ _ _ _ _ _ _ (iv_w (iv_lit (l := 0) (h := 0) (by decide)) (by decide)) k_a_at k_a_knows k_a_climbed k_a_level k_f_begun
            · skip
              exact (iv_emp (iv_ne (l := 1) (h := 0) c12 (iv_lit (l := 0) (h := 0) (by decide)) (iv_lit (l := 0) (h := 0) (by decide)) (by decide)) (by decide)).elim
          · skip
            refine ⟨fun c14 => ?_, fun c14 => ?_⟩
            · skip
              exact (iv_emp (iv_eqa (l := 1) (h := 0) c14 (iv_lit (l := 1) (h := 1) (by decide)) (iv_lit (l := 0) (h := 0) (by decide)) (by decide)) (by decide)).elim
            · skip
              refine ⟨fun c15 => ?_, fun c15 => ?_⟩
              · skip
                refine ⟨fun c16 => ?_, fun c16 => ?_⟩
                · skip
                  exact (iv_emp (iv_ne (l := 1) (h := 0) c16 (iv_lit (l := 0) (h := 0) (by decide)) (iv_lit (l := 0) (h := 0) (by decide)) (by decide)) (by decide)).elim
                · skip
                  refine ⟨iv_in hr1 (by decide), ?_⟩
                  refine sp_of (a := 0) (b := 511) k_a_lands k_f_land (iv_lit (l := 3) (h := 3) (by decide)) (by decide +kernel) (fun r17 hr17 er17 => ?_)
                  refine ⟨fun c18 => ?_, fun c18 => ?_⟩
                  · skip
                    refine ⟨iv_nb (iv_lit (l := 0) (h := 0) (by decide)) (by decide), ?_⟩
                    refine ⟨fun c19 => ?_, fun c19 => ?_⟩
                    · skip
                      exact (iv_emp (iv_ne (l := 1) (h := 0) c19 (iv_lit (l := 0) (h := 0) (by decide)) (iv_lit (l := 0) (h := 0) (by decide)) (by decide)) (by decide)).elim
                    · skip
                      refine ⟨fun c20 => ?_, fun c20 => ?_⟩
                      · skip
                        refine s_m_sounds_0 k_a_lands k_f_land k_f_singers k_a_at k_a_knows k_a_climbed k_a_level k_f_begun hr1 (iv_bitk 5 (l := 0) (h := 4) (c11.trans (iv_one (iv_lit (l := 1) (h := 1) (by decide)))) (k_a_knows _) hr2 (by decide)) (fun o21 o22 o23 k_o21 k_o22 k_o23 => ?_)
                        exact hpost _ _ _ _ _ _ _ _ _ (iv_w (iv_lit (l := 1) (h := 1) (by decide)) (by decide)) k_a_at k_o21 k_a_climbed k_o22 k_o23
                      · skip
                        exact (iv_emp (iv_eqa (l := 1) (h := 0) c20 (iv_lit (l := 1) (h := 1) (by decide)) (iv_lit (l := 0) (h := 0) (by decide)) (by decide)) (by decide)).elim
                  · skip
                    refine ⟨iv_nb (iv_lit (l := 1) (h := 1) (by decide)) (by decide), ?_⟩
                    refine ⟨fun c24 => ?_, fun c24 => ?_⟩
                    · skip
                      refine ⟨fun c25 => ?_, fun c25 => ?_⟩
                      · skip
                        exact (iv_emp (iv_ne (l := 1) (h := 0) c25 (iv_lit (l := 0) (h := 0) (by decide)) (iv_lit (l := 0) (h := 0) (by decide)) (by decide)) (by decide)).elim
                      · skip
                        exact hpost _ _ _ _ _ _ _ _ _ (iv_w (iv_lit (l := 0) (h := 0) (by decide)) (by decide)) k_a_at k_a_knows k_a_climbed k_a_level k_f_begun
                    · skip
                      exact (iv_emp (iv_eqa (l := 1) (h := 0) c24 (iv_lit (l := 1) (h := 1) (by decide)) (iv_lit (l := 0) (h := 0) (by decide)) (by decide)) (by decide)).elim
              · skip
                refine ⟨fun c26 => ?_, fun c26 => ?_⟩
                · skip
                  refine ⟨fun c27 => ?_, fun c27 => ?_⟩
                  · skip
                    exact (iv_emp (iv_ne (l := 1) (h := 0) c27 (iv_lit (l := 0) (h := 0) (by decide)) (iv_lit (l := 0) (h := 0) (by decide)) (by decide)) (by decide)).elim
                  · skip
                    exact hpost _ _ _ _ _ _ _ _ _ (iv_w (iv_lit (l := 0) (h := 0) (by decide)) (by decide)) k_a_at k_a_knows k_a_climbed k_a_level k_f_begun
                · skip
                  exact (iv_emp (iv_eqa (l := 1) (h := 0) c26 (iv_lit (l := 1) (h := 1) (by decide)) (iv_lit (l := 0) (h := 0) (by decide)) (by decide)) (by decide)).elim
        · skip
          exact s_m_does_83 k_a_lands k_a_evenings k_f_land k_f_huts k_f_singers k_f_evening k_a_at k_a_knows k_a_climbed k_a_level k_f_begun hx1 hr1 hr2 hpost
        · skip
          exact s_m_does_83 k_a_lands k_a_evenings k_f_land k_f_huts k_f_singers k_f_evening k_a_at k_a_knows k_a_climbed k_a_level k_f_begun hx1 hr1 hr2 hpost
        · skip
          refine ⟨fun c28 => ?_, fun c28 => ?_⟩
          · skip
            refine ⟨iv_nb (iv_lit (l := 0) (h := 0) (by decide)) (by decide), ?_⟩
            refine ⟨fun c29 => ?_, fun c29 => ?_⟩
            · skip
              refine ⟨fun c30 => ?_, fun c30 => ?_⟩
              · skip
                refine ⟨iv_nb (iv_lit (l := 0) (h := 0) (by decide)) (by decide), ?_⟩
                exact hpost _ _ _ _ _ _ _ _ _ (iv_w (iv_lit (l := 0) (h := 0) (by decide)) (by decide)) k_a_at k_a_knows k_a_climbed k_a_level k_f_begun
              · skip
                exact (iv_emp (iv_ne (l := 1) (h := 0) c30 (iv_lit (l := 0) (h := 0) (by decide)) (iv_lit (l := 0) (h := 0) (by decide)) (by decide)) (by decide)).elim
            · skip
              exact (iv_emp (iv_ne (l := 1) (h := 0) c29 (iv_lit (l := 0) (h := 0) (by decide)) (iv_lit (l := 0) (h := 0) (by decide)) (by decide)) (by decide)).elim
          · skip
            refine ⟨fun c31 => ?_, fun c31 => ?_⟩
            · skip
              refine ⟨iv_nb (iv_lit (l := 0) (h := 0) (by decide)) (by decide), ?_⟩
              refine ⟨fun c32 => ?_, fun c32 => ?_⟩
              · skip
                refine ⟨fun c33 => ?_, fun c33 => ?_⟩
                · skip
                  refine ⟨iv_nb (iv_lit (l := 0) (h := 0) (by decide)) (by decide), ?_⟩
                  exact hpost _ _ _ _ _ _ _ _ _ (iv_w (iv_lit (l := 0) (h := 0) (by decide)) (by decide)) k_a_at k_a_knows k_a_climbed k_a_level k_f_begun
                · skip
                  exact (iv_emp (iv_ne (l := 1) (h := 0) c33 (iv_lit (l := 0) (h := 0) (by decide)) (iv_lit (l := 0) (h := 0) (by decide)) (by decide)) (by decide)).elim
              · skip
                exact (iv_emp (iv_ne (l := 1) (h := 0) c32 (iv_lit (l := 0) (h := 0) (by decide)) (iv_lit (l := 0) (h := 0) (by decide)) (by decide)) (by decide)).elim
            · skip
              refine ⟨iv_nb (iv_lit (l := 1) (h := 1) (by decide)) (by decide), ?_⟩
              refine ⟨fun c34 => ?_, fun c34 => ?_⟩
              · skip
                exact (iv_emp (iv_eqa (l := 1) (h := 0) c34 (iv_lit (l := 1) (h := 1) (by decide)) (iv_lit (l := 0) (h := 0) (by decide)) (by decide)) (by decide)).elim
              · skip
                refine ⟨iv_in hr1 (by decide), ?_⟩
                refine sp_of (a := 0) (b := 9) k_a_lands k_f_land (iv_add (l := 51) (h := 131) (iv_add (l := 51) (h := 123) (iv_lit (l := 51) (h := 51) (by decide)) (iv_mul (l := 0) (h := 72) (iv_lit (l := 9) (h := 9) (by decide)) (k_a_at _) (by decide)) (by decide)) (iv_leb (l := 0) (h := 8) (r_nlt c28) (iv_lit (l := 0) (h := 0) (by decide)) hr2 (by decide)) (by decide)) (by decide +kernel) (fun r35 hr35 er35 => ?_)
                refine ⟨fun c36 => ?_, fun c36 => ?_⟩
                · skip
                  refine ⟨iv_nb (iv_lit (l := 0) (h := 0) (by decide)) (by decide), ?_⟩
                  exact hpost _ _ _ _ _ _ _ _ _ (iv_w (iv_lit (l := 0) (h := 0) (by decide)) (by decide)) k_a_at k_a_knows k_a_climbed k_a_level k_f_begun
                · skip
                  refine ⟨iv_in hr1 (by decide), ?_⟩
                  refine ⟨fun c37 => ?_, fun c37 => ?_⟩
                  · skip
                    refine ⟨iv_nb (iv_lit (l := 0) (h := 0) (by decide)) (by decide), ?_⟩
                    exact hpost _ _ _ _ _ _ _ _ _ (iv_w (iv_lit (l := 0) (h := 0) (by decide)) (by decide)) k_a_at k_a_knows k_a_climbed k_a_level k_f_begun
                  · skip
                    refine ⟨iv_in hr1 (by decide), ?_⟩
                    refine ⟨iv_in (k_a_at _) (by decide), ?_⟩
                    refine sp_of (a := 0) (b := 9) k_a_lands k_f_land (iv_lit (l := 5) (h := 5) (by decide)) (by decide +kernel) (fun r38 hr38 er38 => ?_)
                    refine ⟨fun c39 => ?_, fun c39 => ?_⟩
                    · skip
                      refine ⟨fun c40 => ?_, fun c40 => ?_⟩
                      · skip
                        exact (iv_emp (iv_ne (l := 1) (h := 0) c40 (iv_lit (l := 0) (h := 0) (by decide)) (iv_lit (l := 0) (h := 0) (by decide)) (by decide)) (by decide)).elim
                      · skip
                        refine ⟨iv_in (iv_leb (l := 0) (h := 8) (r_nlt c28) (iv_lit (l := 0) (h := 0) (by decide)) hr2 (by decide)) (by decide), ?_⟩
                        refine sp_of (a := 0) (b := 9) k_a_lands k_f_land (iv_lit (l := 5) (h := 5) (by decide)) (by decide +kernel) (fun r41 hr41 er41 => ?_)
                        refine ⟨fun c42 => ?_, fun c42 => ?_⟩
                        · skip
                          refine ⟨fun c43 => ?_, fun c43 => ?_⟩
                          · skip
                            refine ⟨iv_in hr1 (by decide), ?_⟩
                            intro a44 ea44
                            have k_a44 := iv_upd ea44 k_a_at (iv_leb (l := 0) (h := 8) (r_nlt c28) (iv_lit (l := 0) (h := 0) (by decide)) hr2 (by decide))
                            intro w45 ew45
                            refine ⟨iv_nb (iv_lit (l := 1) (h := 1) (by decide)) (by decide), ?_⟩
                            exact hpost _ _ _ _ _ _ _ _ _ (iv_w (iv_lit (l := 1) (h := 1) (by decide)) (by decide)) k_a44 k_a_knows k_a_climbed k_a_level k_f_begun
                          · skip
                            exact (iv_emp (iv_ne (l := 1) (h := 0) c43 (iv_lit (l := 0) (h := 0) (by decide)) (iv_lit (l := 0) (h := 0) (by decide)) (by decide)) (by decide)).elim
                        · skip
                          refine ⟨fun c46 => ?_, fun c46 => ?_⟩
                          · skip
                            exact (iv_emp (iv_eqa (l := 1) (h := 0) c46 (iv_lit (l := 1) (h := 1) (by decide)) (iv_lit (l := 0) (h := 0) (by decide)) (by decide)) (by decide)).elim
                          · skip
                            refine ⟨iv_nb (iv_lit (l := 0) (h := 0) (by decide)) (by decide), ?_⟩
                            exact hpost _ _ _ _ _ _ _ _ _ (iv_w (iv_lit (l := 0) (h := 0) (by decide)) (by decide)) k_a_at k_a_knows k_a_climbed k_a_level k_f_begun
                    · skip
                      refine ⟨fun c47 => ?_, fun c47 => ?_⟩
                      · skip
                        refine ⟨iv_nb (iv_lit (l := 0) (h := 0) (by decide)) (by decide), ?_⟩
                        exact hpost _ _ _ _ _ _ _ _ _ (iv_w (iv_lit (l := 0) (h := 0) (by decide)) (by decide)) k_a_at k_a_knows k_a_climbed k_a_level k_f_begun
                      · skip
                        exact (iv_emp (iv_eqa (l := 1) (h := 0) c47 (iv_lit (l := 1) (h := 1) (by decide)) (iv_lit (l := 0) (h := 0) (by decide)) (by decide)) (by decide)).elim
        · skip
          refine ⟨iv_in hr1 (by decide), ?_⟩
          refine sp_of (a := 0) (b := 9) k_a_lands k_f_land (iv_add (l := 16) (h := 24) (iv_lit (l := 16) (h := 16) (by decide)) (k_a_at _) (by decide)) (by decide +kernel) (fun r48 hr48 er48 => ?_)
          refine ⟨fun c49 => ?_, fun c49 => ?_⟩
          · skip
            exact hpost _ _ _ _ _ _ _ _ _ (iv_w (iv_lit (l := 0) (h := 0) (by decide)) (by decide)) k_a_at k_a_knows k_a_climbed k_a_level k_f_begun
          · skip
            refine ⟨iv_in hr1 (by decide), ?_⟩
            refine ⟨fun c50 => ?_, fun c50 => ?_⟩
            · skip
              refine ⟨iv_in hr1 (by decide), ?_⟩
              intro a51 ea51
              have k_a51 := iv_upd ea51 k_a_climbed (iv_w (iv_lit (l := 1) (h := 1) (by decide)) (by decide))
              exact hpost _ _ _ _ _ _ _ _ _ (iv_w (iv_lit (l := 1) (h := 1) (by decide)) (by decide)) k_a_at k_a_knows k_a51 k_a_level k_f_begun
            · skip
              exact hpost _ _ _ _ _ _ _ _ _ (iv_w (iv_lit (l := 0) (h := 0) (by decide)) (by decide)) k_a_at k_a_knows k_a_climbed k_a_level k_f_begun
      · skip
        exact (iv_emp (iv_eqa (l := 1) (h := 0) c6 (iv_lit (l := 1) (h := 1) (by decide)) (iv_lit (l := 0) (h := 0) (by decide)) (by decide)) (by decide)).elim
