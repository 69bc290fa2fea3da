section
-- m_ones
set_option maxRecDepth 20000 in
theorem s_m_ones_24 {P4 : Int32 → Int32 → Prop} {x0 : Int32} {x2 : Int32} {y0 : Int32} {y1 : Int32} {post : Int32 → Prop} (hx0 : iv (-1) 2147483647 x0) (hx2 : iv 0 8 x2) (hy1 : iv 0 1 y1) (m4 : Int) (hm4 : m4 ≤ x2.toInt) (hP4 : ∀ (x1 : Int32) (x2 : Int32), m4 < x2.toInt → iv 0 9 x2 → P4 x1 x2) (hpost : ∀ (r : Int32), post r) : q_m_ones_24 P4 x0 x2 y0 y1 post := by
  intro w1 ew1
  intro w2 ew2
  have hw2 := iv_eq ew2 (iv_add (l := 1) (h := 9) hx2 (iv_lit (l := 1) (h := 1) (by decide)) (by decide))
  exact hP4 _ _ (ml_up hm4 (inc_lt ew2 hx2 (by decide))) (iv_w hw2 (by decide))
set_option maxRecDepth 20000 in
theorem s_m_ones_4 {x0 : Int32} {x1 : Int32} {x2 : Int32} {post : Int32 → Prop} (hx0 : iv (-1) 2147483647 x0) (hx2 : iv 0 9 x2) (hpost : ∀ (r : Int32), post r) : q_m_ones_4 x0 x1 x2 post := by
  intro P hP
  have loop : ∀ (n : Nat) (x1 : Int32) (x2 : Int32), (9 - x2.toInt < (n : Int)) → (iv 0 9 x2) → P x1 x2 := by
    intro n
    induction n with
    | zero => intro x1 x2 hm hx2; exact (ms0_up hm hx2).elim
    | succ n ih =>
      intro x1 x2 hm hx2
      apply hP
      refine ⟨fun c1 => ?_, fun c1 => ?_⟩
      · skip
        exact hpost _
      · skip
        refine ⟨fun c2 => ?_, fun c2 => ?_⟩
        · skip
          refine ⟨fun c3 => ?_, fun c3 => ?_⟩
          · skip
            exact s_m_ones_24 hx0 (iv_lta (l := 0) (h := 8) (r_nle c1) hx2 (iv_lit (l := 9) (h := 9) (by decide)) (by decide)) (iv_w (iv_lit (l := 0) (h := 0) (by decide)) (by decide)) x2.toInt (Int.le_refl _) (fun u0 u1 hq g0 => ih u0 u1 (ms_up hm hq) g0) hpost
          · skip
            exact (iv_emp (iv_ne (l := 1) (h := 0) c3 (iv_lit (l := 0) (h := 0) (by decide)) (iv_lit (l := 0) (h := 0) (by decide)) (by decide)) (by decide)).elim
        · skip
          refine ⟨fun c4 => ?_, fun c4 => ?_⟩
          · skip
            exact (iv_emp (iv_eqa (l := 1) (h := 0) c4 (iv_lit (l := 1) (h := 1) (by decide)) (iv_lit (l := 0) (h := 0) (by decide)) (by decide)) (by decide)).elim
          · skip
            exact s_m_ones_24 hx0 (iv_lta (l := 0) (h := 8) (r_nle c1) hx2 (iv_lit (l := 9) (h := 9) (by decide)) (by decide)) (iv_w (iv_lit (l := 1) (h := 1) (by decide)) (by decide)) x2.toInt (Int.le_refl _) (fun u0 u1 hq g0 => ih u0 u1 (ms_up hm hq) g0) hpost
  exact loop _ _ _ (ms_init_up _ _) hx2
set_option maxRecDepth 20000 in
theorem s_m_ones_0 {x0 : Int32} {post : Int32 → Prop} (hx0 : iv (-1) 2147483647 x0) (hpost : ∀ (r : Int32), post r) : q_m_ones_0 x0 post := by
  exact s_m_ones_4 hx0 (iv_w (iv_lit (l := 0) (h := 0) (by decide)) (by decide)) hpost
-- m_end
set_option maxRecDepth 20000 in
theorem s_m_end_0 {f_code : Int32} {a_size : Nat → Int32} {x1 : Int32} {post : Int32 → (Int32) → (Nat → Int32) → Prop} (k_f_code : iv 0 0 f_code) (k_a_size : ∀ j, iv 0 600 (a_size j)) (hpost : ∀ (r : Int32) (f_code : Int32) (a_size : Nat → Int32), iv (-1) 600 r → (iv 0 0 f_code) → (∀ j, iv 0 600 (a_size j)) → post r f_code a_size) : q_m_end_0 f_code a_size x1 post := by
  refine ⟨fun c1 => ?_, fun c1 => ?_⟩
  · skip
    refine ⟨fun c2 => ?_, fun c2 => ?_⟩
    · skip
      exact (iv_emp (iv_ne (l := 1) (h := 0) c2 (iv_lit (l := 0) (h := 0) (by decide)) (iv_lit (l := 0) (h := 0) (by decide)) (by decide)) (by decide)).elim
    · skip
      exact hpost _ _ _ (iv_w (iv_lit (l := (-1)) (h := (-1)) (by decide)) (by decide)) (iv_lit (l := 0) (h := 0) (by decide)) k_a_size
  · skip
    refine ⟨fun c3 => ?_, fun c3 => ?_⟩
    · skip
      refine ⟨fun c4 => ?_, fun c4 => ?_⟩
      · skip
        exact (iv_emp (iv_ne (l := 1) (h := 0) c4 (iv_lit (l := 0) (h := 0) (by decide)) (iv_lit (l := 0) (h := 0) (by decide)) (by decide)) (by decide)).elim
      · skip
        exact hpost _ _ _ (iv_w (iv_lit (l := (-1)) (h := (-1)) (by decide)) (by decide)) (iv_lit (l := 0) (h := 0) (by decide)) k_a_size
    · skip
      refine ⟨fun c5 => ?_, fun c5 => ?_⟩
      · skip
        intro a6 ea6
        have k_a6 := iv_upd ea6 k_a_size (iv_lea (l := 0) (h := 600) (r_nlt c3) (iv_leb (l := 0) (h := 2147483647) (r_nlt c1) (iv_lit (l := 0) (h := 0) (by decide)) (iv_top x1) (by decide)) (k_a_size _) (by decide))
        exact hpost _ _ _ (iv_w (iv_lea (l := 0) (h := 600) (r_nlt c3) (iv_leb (l := 0) (h := 2147483647) (r_nlt c1) (iv_lit (l := 0) (h := 0) (by decide)) (iv_top x1) (by decide)) (k_a_size _) (by decide)) (by decide)) (iv_lit (l := 0) (h := 0) (by decide)) k_a6
      · skip
        exact (iv_emp (iv_eqa (l := 1) (h := 0) c5 (iv_lit (l := 1) (h := 1) (by decide)) (iv_lit (l := 0) (h := 0) (by decide)) (by decide)) (by decide)).elim
-- m_fault
set_option maxRecDepth 20000 in
theorem s_m_fault_0 {f_code : Int32} {a_fault : Nat → Int32} {a_faultPlace : Nat → Int32} {x1 : Int32} {post : Int32 → (Int32) → Prop} (k_f_code : iv 0 0 f_code) (hpost : ∀ (r : Int32) (f_code : Int32), (iv 0 0 f_code) → post r f_code) : q_m_fault_0 f_code a_fault a_faultPlace x1 post := by
  refine ⟨fun c1 => ?_, fun c1 => ?_⟩
  · skip
    refine ⟨fun c2 => ?_, fun c2 => ?_⟩
    · skip
      exact hpost _ _ (iv_lit (l := 0) (h := 0) (by decide))
    · skip
      exact hpost _ _ (iv_lit (l := 0) (h := 0) (by decide))
  · skip
    exact hpost _ _ (iv_lit (l := 0) (h := 0) (by decide))
-- m_land
set_option maxRecDepth 20000 in
theorem s_m_land_0 {f_code : Int32} {a_many : Nat → Int32} {a_lands : Nat → Int32} {f_land : Int32} {f_huts : Int32} {f_singers : Int32} {x1 : Int32} {x2 : Int32} {post : Int32 → (Int32) → (Int32) → (Int32) → (Int32) → Prop} (k_f_code : iv 0 0 f_code) (k_a_many : ∀ j, iv 0 2 (a_many j)) (k_a_lands : mLand a_lands) (k_f_land : iv 0 1 f_land) (k_f_huts : iv 0 9 f_huts) (k_f_singers : iv 0 6 f_singers) (hpost : ∀ (r : Int32) (f_code : Int32) (f_land : Int32) (f_huts : Int32) (f_singers : Int32), iv (-1) 511 r → (iv 0 0 f_code) → (iv 0 1 f_land) → (iv 0 9 f_huts) → (iv 0 6 f_singers) → post r f_code f_land f_huts f_singers) : q_m_land_0 f_code a_many a_lands f_land f_huts f_singers x1 x2 post := by
  refine ⟨iv_in (iv_lit (l := 0) (h := 0) (by decide)) (by decide), ?_⟩
  refine ⟨fun c1 => ?_, fun c1 => ?_⟩
  · skip
    refine ⟨iv_nb (iv_lit (l := 0) (h := 0) (by decide)) (by decide), ?_⟩
    refine ⟨fun c2 => ?_, fun c2 => ?_⟩
    · skip
      exact (iv_emp (iv_ne (l := 1) (h := 0) c2 (iv_lit (l := 0) (h := 0) (by decide)) (iv_lit (l := 0) (h := 0) (by decide)) (by decide)) (by decide)).elim
    · skip
      refine ⟨fun c3 => ?_, fun c3 => ?_⟩
      · skip
        exact (iv_emp (iv_ne (l := 1) (h := 0) c3 (iv_lit (l := 0) (h := 0) (by decide)) (iv_lit (l := 0) (h := 0) (by decide)) (by decide)) (by decide)).elim
      · skip
        exact hpost _ _ _ _ _ (iv_w (iv_lit (l := (-1)) (h := (-1)) (by decide)) (by decide)) (iv_lit (l := 0) (h := 0) (by decide)) k_f_land k_f_huts k_f_singers
  · skip
    refine ⟨fun c4 => ?_, fun c4 => ?_⟩
    · skip
      refine ⟨iv_nb (iv_lit (l := 0) (h := 0) (by decide)) (by decide), ?_⟩
      refine ⟨fun c5 => ?_, fun c5 => ?_⟩
      · skip
        exact (iv_emp (iv_ne (l := 1) (h := 0) c5 (iv_lit (l := 0) (h := 0) (by decide)) (iv_lit (l := 0) (h := 0) (by decide)) (by decide)) (by decide)).elim
      · skip
        refine ⟨fun c6 => ?_, fun c6 => ?_⟩
        · skip
          exact (iv_emp (iv_ne (l := 1) (h := 0) c6 (iv_lit (l := 0) (h := 0) (by decide)) (iv_lit (l := 0) (h := 0) (by decide)) (by decide)) (by decide)).elim
        · skip
          exact hpost _ _ _ _ _ (iv_w (iv_lit (l := (-1)) (h := (-1)) (by decide)) (by decide)) (iv_lit (l := 0) (h := 0) (by decide)) k_f_land k_f_huts k_f_singers
    · skip
      refine ⟨iv_nb (iv_lit (l := 1) (h := 1) (by decide)) (by decide), ?_⟩
      refine ⟨fun c7 => ?_, fun c7 => ?_⟩
      · skip
        refine sp_of (a := 0) (b := 9) k_a_lands (iv_lea (l := 0) (h := 1) (r_nlt c4) (iv_leb (l := 0) (h := 2147483647) (r_nlt c1) (iv_lit (l := 0) (h := 0) (by decide)) (iv_top x1) (by decide)) (iv_sub (l := (-1)) (h := 1) (k_a_many _) (iv_lit (l := 1) (h := 1) (by decide)) (by decide)) (by decide)) (iv_lit (l := 0) (h := 0) (by decide)) (by decide +kernel) (fun r8 hr8 er8 => ?_)
        refine sp_of (a := 0) (b := 6) k_a_lands (iv_lea (l := 0) (h := 1) (r_nlt c4) (iv_leb (l := 0) (h := 2147483647) (r_nlt c1) (iv_lit (l := 0) (h := 0) (by decide)) (iv_top x1) (by decide)) (iv_sub (l := (-1)) (h := 1) (k_a_many _) (iv_lit (l := 1) (h := 1) (by decide)) (by decide)) (by decide)) (iv_lit (l := 1) (h := 1) (by decide)) (by decide +kernel) (fun r9 hr9 er9 => ?_)
        refine ⟨fun c10 => ?_, fun c10 => ?_⟩
        · skip
          refine ⟨fun c11 => ?_, fun c11 => ?_⟩
          · skip
            refine ⟨fun c12 => ?_, fun c12 => ?_⟩
            · skip
              intro w13 ew13
              refine ⟨fun c14 => ?_, fun c14 => ?_, fun c14 => ?_, fun c14 => ?_, fun c14 => ?_, fun c14 => ?_⟩
              · skip
                refine ⟨fun c15 => ?_, fun c15 => ?_⟩
                · skip
                  refine ⟨fun c16 => ?_, fun c16 => ?_⟩
                  · skip
                    exact hpost _ _ _ _ _ (iv_w (iv_lit (l := (-1)) (h := (-1)) (by decide)) (by decide)) (iv_lit (l := 0) (h := 0) (by decide)) (iv_lea (l := 0) (h := 1) (r_nlt c4) (iv_leb (l := 0) (h := 2147483647) (r_nlt c1) (iv_lit (l := 0) (h := 0) (by decide)) (iv_top x1) (by decide)) (iv_sub (l := (-1)) (h := 1) (k_a_many _) (iv_lit (l := 1) (h := 1) (by decide)) (by decide)) (by decide)) hr8 hr9
                  · skip
                    exact (iv_emp (iv_ne (l := 1) (h := 0) c16 (iv_lit (l := 0) (h := 0) (by decide)) (iv_lit (l := 0) (h := 0) (by decide)) (by decide)) (by decide)).elim
                · skip
                  refine ⟨fun c17 => ?_, fun c17 => ?_⟩
                  · skip
                    refine ⟨fun c18 => ?_, fun c18 => ?_⟩
                    · skip
                      exact hpost _ _ _ _ _ (iv_w (iv_lit (l := (-1)) (h := (-1)) (by decide)) (by decide)) (iv_lit (l := 0) (h := 0) (by decide)) (iv_lea (l := 0) (h := 1) (r_nlt c4) (iv_leb (l := 0) (h := 2147483647) (r_nlt c1) (iv_lit (l := 0) (h := 0) (by decide)) (iv_top x1) (by decide)) (iv_sub (l := (-1)) (h := 1) (k_a_many _) (iv_lit (l := 1) (h := 1) (by decide)) (by decide)) (by decide)) hr8 hr9
                    · skip
                      exact (iv_emp (iv_ne (l := 1) (h := 0) c18 (iv_lit (l := 0) (h := 0) (by decide)) (iv_lit (l := 0) (h := 0) (by decide)) (by decide)) (by decide)).elim
                  · skip
                    refine ⟨fun c19 => ?_, fun c19 => ?_⟩
                    · skip
                      exact (iv_emp (iv_eqa (l := 1) (h := 0) c19 (iv_lit (l := 1) (h := 1) (by decide)) (iv_lit (l := 0) (h := 0) (by decide)) (by decide)) (by decide)).elim
                    · skip
                      refine sp_of (a := 0) (b := 511) k_a_lands (iv_lea (l := 0) (h := 1) (r_nlt c4) (iv_leb (l := 0) (h := 2147483647) (r_nlt c1) (iv_lit (l := 0) (h := 0) (by decide)) (iv_top x1) (by decide)) (iv_sub (l := (-1)) (h := 1) (k_a_many _) (iv_lit (l := 1) (h := 1) (by decide)) (by decide)) (by decide)) (iv_lea (l := 0) (h := 6) (r_nlt c17) (iv_leb (l := 0) (h := 59) (r_nlt c15) (iv_lit (l := 0) (h := 0) (by decide)) (iv_lta (l := (-2147483648)) (h := 59) (r_lt c11) (iv_top x2) (iv_lit (l := 60) (h := 60) (by decide)) (by decide)) (by decide)) (iv_lit (l := 6) (h := 6) (by decide)) (by decide)) (by decide +kernel) (fun r20 hr20 er20 => ?_)
                      exact hpost _ _ _ _ _ (iv_w hr20 (by decide)) (iv_lit (l := 0) (h := 0) (by decide)) (iv_lea (l := 0) (h := 1) (r_nlt c4) (iv_leb (l := 0) (h := 2147483647) (r_nlt c1) (iv_lit (l := 0) (h := 0) (by decide)) (iv_top x1) (by decide)) (iv_sub (l := (-1)) (h := 1) (k_a_many _) (iv_lit (l := 1) (h := 1) (by decide)) (by decide)) (by decide)) hr8 hr9
              · skip
                refine ⟨fun c21 => ?_, fun c21 => ?_⟩
                · skip
                  refine ⟨iv_nb (iv_lit (l := 0) (h := 0) (by decide)) (by decide), ?_⟩
                  refine ⟨fun c22 => ?_, fun c22 => ?_⟩
                  · skip
                    exact hpost _ _ _ _ _ (iv_w (iv_lit (l := (-1)) (h := (-1)) (by decide)) (by decide)) (iv_lit (l := 0) (h := 0) (by decide)) (iv_lea (l := 0) (h := 1) (r_nlt c4) (iv_leb (l := 0) (h := 2147483647) (r_nlt c1) (iv_lit (l := 0) (h := 0) (by decide)) (iv_top x1) (by decide)) (iv_sub (l := (-1)) (h := 1) (k_a_many _) (iv_lit (l := 1) (h := 1) (by decide)) (by decide)) (by decide)) hr8 hr9
                  · skip
                    exact (iv_emp (iv_ne (l := 1) (h := 0) c22 (iv_lit (l := 0) (h := 0) (by decide)) (iv_lit (l := 0) (h := 0) (by decide)) (by decide)) (by decide)).elim
                · skip
                  refine ⟨fun c23 => ?_, fun c23 => ?_⟩
                  · skip
                    refine ⟨iv_nb (iv_lit (l := 0) (h := 0) (by decide)) (by decide), ?_⟩
                    refine ⟨fun c24 => ?_, fun c24 => ?_⟩
                    · skip
                      exact hpost _ _ _ _ _ (iv_w (iv_lit (l := (-1)) (h := (-1)) (by decide)) (by decide)) (iv_lit (l := 0) (h := 0) (by decide)) (iv_lea (l := 0) (h := 1) (r_nlt c4) (iv_leb (l := 0) (h := 2147483647) (r_nlt c1) (iv_lit (l := 0) (h := 0) (by decide)) (iv_top x1) (by decide)) (iv_sub (l := (-1)) (h := 1) (k_a_many _) (iv_lit (l := 1) (h := 1) (by decide)) (by decide)) (by decide)) hr8 hr9
                    · skip
                      exact (iv_emp (iv_ne (l := 1) (h := 0) c24 (iv_lit (l := 0) (h := 0) (by decide)) (iv_lit (l := 0) (h := 0) (by decide)) (by decide)) (by decide)).elim
                  · skip
                    refine ⟨iv_nb (iv_lit (l := 1) (h := 1) (by decide)) (by decide), ?_⟩
                    refine ⟨fun c25 => ?_, fun c25 => ?_⟩
                    · skip
                      exact (iv_emp (iv_eqa (l := 1) (h := 0) c25 (iv_lit (l := 1) (h := 1) (by decide)) (iv_lit (l := 0) (h := 0) (by decide)) (by decide)) (by decide)).elim
                    · skip
                      refine sp_of (a := 0) (b := 99) k_a_lands (iv_lea (l := 0) (h := 1) (r_nlt c4) (iv_leb (l := 0) (h := 2147483647) (r_nlt c1) (iv_lit (l := 0) (h := 0) (by decide)) (iv_top x1) (by decide)) (iv_sub (l := (-1)) (h := 1) (k_a_many _) (iv_lit (l := 1) (h := 1) (by decide)) (by decide)) (by decide)) (iv_add (l := 7) (h := 15) (iv_lit (l := 7) (h := 7) (by decide)) (iv_lea (l := 0) (h := 8) (r_nlt c23) (iv_leb (l := 0) (h := 2147483647) (r_nlt c21) (iv_lit (l := 0) (h := 0) (by decide)) (iv_top w13) (by decide)) (iv_sub (l := (-1)) (h := 8) hr8 (iv_lit (l := 1) (h := 1) (by decide)) (by decide)) (by decide)) (by decide)) (by decide +kernel) (fun r26 hr26 er26 => ?_)
                      exact hpost _ _ _ _ _ (iv_w hr26 (by decide)) (iv_lit (l := 0) (h := 0) (by decide)) (iv_lea (l := 0) (h := 1) (r_nlt c4) (iv_leb (l := 0) (h := 2147483647) (r_nlt c1) (iv_lit (l := 0) (h := 0) (by decide)) (iv_top x1) (by decide)) (iv_sub (l := (-1)) (h := 1) (k_a_many _) (iv_lit (l := 1) (h := 1) (by decide)) (by decide)) (by decide)) hr8 hr9
              · skip
                refine ⟨fun c27 => ?_, fun c27 => ?_⟩
                · skip
                  refine ⟨iv_nb (iv_lit (l := 0) (h := 0) (by decide)) (by decide), ?_⟩
                  refine ⟨fun c28 => ?_, fun c28 => ?_⟩
                  · skip
                    exact hpost _ _ _ _ _ (iv_w (iv_lit (l := (-1)) (h := (-1)) (by decide)) (by decide)) (iv_lit (l := 0) (h := 0) (by decide)) (iv_lea (l := 0) (h := 1) (r_nlt c4) (iv_leb (l := 0) (h := 2147483647) (r_nlt c1) (iv_lit (l := 0) (h := 0) (by decide)) (iv_top x1) (by decide)) (iv_sub (l := (-1)) (h := 1) (k_a_many _) (iv_lit (l := 1) (h := 1) (by decide)) (by decide)) (by decide)) hr8 hr9
                  · skip
                    exact (iv_emp (iv_ne (l := 1) (h := 0) c28 (iv_lit (l := 0) (h := 0) (by decide)) (iv_lit (l := 0) (h := 0) (by decide)) (by decide)) (by decide)).elim
                · skip
                  refine ⟨fun c29 => ?_, fun c29 => ?_⟩
                  · skip
                    refine ⟨iv_nb (iv_lit (l := 0) (h := 0) (by decide)) (by decide), ?_⟩
                    refine ⟨fun c30 => ?_, fun c30 => ?_⟩
                    · skip
                      exact hpost _ _ _ _ _ (iv_w (iv_lit (l := (-1)) (h := (-1)) (by decide)) (by decide)) (iv_lit (l := 0) (h := 0) (by decide)) (iv_lea (l := 0) (h := 1) (r_nlt c4) (iv_leb (l := 0) (h := 2147483647) (r_nlt c1) (iv_lit (l := 0) (h := 0) (by decide)) (iv_top x1) (by decide)) (iv_sub (l := (-1)) (h := 1) (k_a_many _) (iv_lit (l := 1) (h := 1) (by decide)) (by decide)) (by decide)) hr8 hr9
                    · skip
                      exact (iv_emp (iv_ne (l := 1) (h := 0) c30 (iv_lit (l := 0) (h := 0) (by decide)) (iv_lit (l := 0) (h := 0) (by decide)) (by decide)) (by decide)).elim
                  · skip
                    refine ⟨iv_nb (iv_lit (l := 1) (h := 1) (by decide)) (by decide), ?_⟩
                    refine ⟨fun c31 => ?_, fun c31 => ?_⟩
                    · skip
                      exact (iv_emp (iv_eqa (l := 1) (h := 0) c31 (iv_lit (l := 1) (h := 1) (by decide)) (iv_lit (l := 0) (h := 0) (by decide)) (by decide)) (by decide)).elim
                    · skip
                      refine sp_of (a := 0) (b := 9) k_a_lands (iv_lea (l := 0) (h := 1) (r_nlt c4) (iv_leb (l := 0) (h := 2147483647) (r_nlt c1) (iv_lit (l := 0) (h := 0) (by decide)) (iv_top x1) (by decide)) (iv_sub (l := (-1)) (h := 1) (k_a_many _) (iv_lit (l := 1) (h := 1) (by decide)) (by decide)) (by decide)) (iv_add (l := 16) (h := 24) (iv_lit (l := 16) (h := 16) (by decide)) (iv_lea (l := 0) (h := 8) (r_nlt c29) (iv_leb (l := 0) (h := 2147483647) (r_nlt c27) (iv_lit (l := 0) (h := 0) (by decide)) (iv_top w13) (by decide)) (iv_sub (l := (-1)) (h := 8) hr8 (iv_lit (l := 1) (h := 1) (by decide)) (by decide)) (by decide)) (by decide)) (by decide +kernel) (fun r32 hr32 er32 => ?_)
                      exact hpost _ _ _ _ _ (iv_w hr32 (by decide)) (iv_lit (l := 0) (h := 0) (by decide)) (iv_lea (l := 0) (h := 1) (r_nlt c4) (iv_leb (l := 0) (h := 2147483647) (r_nlt c1) (iv_lit (l := 0) (h := 0) (by decide)) (iv_top x1) (by decide)) (iv_sub (l := (-1)) (h := 1) (k_a_many _) (iv_lit (l := 1) (h := 1) (by decide)) (by decide)) (by decide)) hr8 hr9
              · skip
                refine ⟨fun c33 => ?_, fun c33 => ?_⟩
                · skip
                  refine ⟨iv_nb (iv_lit (l := 0) (h := 0) (by decide)) (by decide), ?_⟩
                  refine ⟨fun c34 => ?_, fun c34 => ?_⟩
                  · skip
                    exact hpost _ _ _ _ _ (iv_w (iv_lit (l := (-1)) (h := (-1)) (by decide)) (by decide)) (iv_lit (l := 0) (h := 0) (by decide)) (iv_lea (l := 0) (h := 1) (r_nlt c4) (iv_leb (l := 0) (h := 2147483647) (r_nlt c1) (iv_lit (l := 0) (h := 0) (by decide)) (iv_top x1) (by decide)) (iv_sub (l := (-1)) (h := 1) (k_a_many _) (iv_lit (l := 1) (h := 1) (by decide)) (by decide)) (by decide)) hr8 hr9
                  · skip
                    exact (iv_emp (iv_ne (l := 1) (h := 0) c34 (iv_lit (l := 0) (h := 0) (by decide)) (iv_lit (l := 0) (h := 0) (by decide)) (by decide)) (by decide)).elim
                · skip
                  refine ⟨fun c35 => ?_, fun c35 => ?_⟩
                  · skip
                    refine ⟨iv_nb (iv_lit (l := 0) (h := 0) (by decide)) (by decide), ?_⟩
                    refine ⟨fun c36 => ?_, fun c36 => ?_⟩
                    · skip
                      exact hpost _ _ _ _ _ (iv_w (iv_lit (l := (-1)) (h := (-1)) (by decide)) (by decide)) (iv_lit (l := 0) (h := 0) (by decide)) (iv_lea (l := 0) (h := 1) (r_nlt c4) (iv_leb (l := 0) (h := 2147483647) (r_nlt c1) (iv_lit (l := 0) (h := 0) (by decide)) (iv_top x1) (by decide)) (iv_sub (l := (-1)) (h := 1) (k_a_many _) (iv_lit (l := 1) (h := 1) (by decide)) (by decide)) (by decide)) hr8 hr9
                    · skip
                      exact (iv_emp (iv_ne (l := 1) (h := 0) c36 (iv_lit (l := 0) (h := 0) (by decide)) (iv_lit (l := 0) (h := 0) (by decide)) (by decide)) (by decide)).elim
                  · skip
                    refine ⟨iv_nb (iv_lit (l := 1) (h := 1) (by decide)) (by decide), ?_⟩
                    refine ⟨fun c37 => ?_, fun c37 => ?_⟩
                    · skip
                      exact (iv_emp (iv_eqa (l := 1) (h := 0) c37 (iv_lit (l := 1) (h := 1) (by decide)) (iv_lit (l := 0) (h := 0) (by decide)) (by decide)) (by decide)).elim
                    · skip
                      refine sp_of (a := 0) (b := 8) k_a_lands (iv_lea (l := 0) (h := 1) (r_nlt c4) (iv_leb (l := 0) (h := 2147483647) (r_nlt c1) (iv_lit (l := 0) (h := 0) (by decide)) (iv_top x1) (by decide)) (iv_sub (l := (-1)) (h := 1) (k_a_many _) (iv_lit (l := 1) (h := 1) (by decide)) (by decide)) (by decide)) (iv_add (l := 25) (h := 30) (iv_lit (l := 25) (h := 25) (by decide)) (iv_lea (l := 0) (h := 5) (r_nlt c35) (iv_leb (l := 0) (h := 2147483647) (r_nlt c33) (iv_lit (l := 0) (h := 0) (by decide)) (iv_top w13) (by decide)) (iv_sub (l := (-1)) (h := 5) hr9 (iv_lit (l := 1) (h := 1) (by decide)) (by decide)) (by decide)) (by decide)) (by decide +kernel) (fun r38 hr38 er38 => ?_)
                      exact hpost _ _ _ _ _ (iv_w hr38 (by decide)) (iv_lit (l := 0) (h := 0) (by decide)) (iv_lea (l := 0) (h := 1) (r_nlt c4) (iv_leb (l := 0) (h := 2147483647) (r_nlt c1) (iv_lit (l := 0) (h := 0) (by decide)) (iv_top x1) (by decide)) (iv_sub (l := (-1)) (h := 1) (k_a_many _) (iv_lit (l := 1) (h := 1) (by decide)) (by decide)) (by decide)) hr8 hr9
              · skip
                refine ⟨fun c39 => ?_, fun c39 => ?_⟩
                · skip
                  refine ⟨iv_nb (iv_lit (l := 0) (h := 0) (by decide)) (by decide), ?_⟩
                  refine ⟨fun c40 => ?_, fun c40 => ?_⟩
                  · skip
                    exact hpost _ _ _ _ _ (iv_w (iv_lit (l := (-1)) (h := (-1)) (by decide)) (by decide)) (iv_lit (l := 0) (h := 0) (by decide)) (iv_lea (l := 0) (h := 1) (r_nlt c4) (iv_leb (l := 0) (h := 2147483647) (r_nlt c1) (iv_lit (l := 0) (h := 0) (by decide)) (iv_top x1) (by decide)) (iv_sub (l := (-1)) (h := 1) (k_a_many _) (iv_lit (l := 1) (h := 1) (by decide)) (by decide)) (by decide)) hr8 hr9
                  · skip
                    exact (iv_emp (iv_ne (l := 1) (h := 0) c40 (iv_lit (l := 0) (h := 0) (by decide)) (iv_lit (l := 0) (h := 0) (by decide)) (by decide)) (by decide)).elim
                · skip
                  refine ⟨fun c41 => ?_, fun c41 => ?_⟩
                  · skip
                    refine ⟨iv_nb (iv_lit (l := 0) (h := 0) (by decide)) (by decide), ?_⟩
                    refine ⟨fun c42 => ?_, fun c42 => ?_⟩
                    · skip
                      exact hpost _ _ _ _ _ (iv_w (iv_lit (l := (-1)) (h := (-1)) (by decide)) (by decide)) (iv_lit (l := 0) (h := 0) (by decide)) (iv_lea (l := 0) (h := 1) (r_nlt c4) (iv_leb (l := 0) (h := 2147483647) (r_nlt c1) (iv_lit (l := 0) (h := 0) (by decide)) (iv_top x1) (by decide)) (iv_sub (l := (-1)) (h := 1) (k_a_many _) (iv_lit (l := 1) (h := 1) (by decide)) (by decide)) (by decide)) hr8 hr9
                    · skip
                      exact (iv_emp (iv_ne (l := 1) (h := 0) c42 (iv_lit (l := 0) (h := 0) (by decide)) (iv_lit (l := 0) (h := 0) (by decide)) (by decide)) (by decide)).elim
                  · skip
                    refine ⟨iv_nb (iv_lit (l := 1) (h := 1) (by decide)) (by decide), ?_⟩
                    refine ⟨fun c43 => ?_, fun c43 => ?_⟩
                    · skip
                      exact (iv_emp (iv_eqa (l := 1) (h := 0) c43 (iv_lit (l := 1) (h := 1) (by decide)) (iv_lit (l := 0) (h := 0) (by decide)) (by decide)) (by decide)).elim
                    · skip
                      refine sp_of (a := 0) (b := 9) k_a_lands (iv_lea (l := 0) (h := 1) (r_nlt c4) (iv_leb (l := 0) (h := 2147483647) (r_nlt c1) (iv_lit (l := 0) (h := 0) (by decide)) (iv_top x1) (by decide)) (iv_sub (l := (-1)) (h := 1) (k_a_many _) (iv_lit (l := 1) (h := 1) (by decide)) (by decide)) (by decide)) (iv_add (l := 31) (h := 36) (iv_lit (l := 31) (h := 31) (by decide)) (iv_lea (l := 0) (h := 5) (r_nlt c41) (iv_leb (l := 0) (h := 2147483647) (r_nlt c39) (iv_lit (l := 0) (h := 0) (by decide)) (iv_top w13) (by decide)) (iv_sub (l := (-1)) (h := 5) hr9 (iv_lit (l := 1) (h := 1) (by decide)) (by decide)) (by decide)) (by decide)) (by decide +kernel) (fun r44 hr44 er44 => ?_)
                      exact hpost _ _ _ _ _ (iv_w hr44 (by decide)) (iv_lit (l := 0) (h := 0) (by decide)) (iv_lea (l := 0) (h := 1) (r_nlt c4) (iv_leb (l := 0) (h := 2147483647) (r_nlt c1) (iv_lit (l := 0) (h := 0) (by decide)) (iv_top x1) (by decide)) (iv_sub (l := (-1)) (h := 1) (k_a_many _) (iv_lit (l := 1) (h := 1) (by decide)) (by decide)) (by decide)) hr8 hr9
              · skip
                refine ⟨fun c45 => ?_, fun c45 => ?_⟩
                · skip
                  refine ⟨iv_nb (iv_lit (l := 0) (h := 0) (by decide)) (by decide), ?_⟩
                  refine ⟨fun c46 => ?_, fun c46 => ?_⟩
                  · skip
                    exact hpost _ _ _ _ _ (iv_w (iv_lit (l := (-1)) (h := (-1)) (by decide)) (by decide)) (iv_lit (l := 0) (h := 0) (by decide)) (iv_lea (l := 0) (h := 1) (r_nlt c4) (iv_leb (l := 0) (h := 2147483647) (r_nlt c1) (iv_lit (l := 0) (h := 0) (by decide)) (iv_top x1) (by decide)) (iv_sub (l := (-1)) (h := 1) (k_a_many _) (iv_lit (l := 1) (h := 1) (by decide)) (by decide)) (by decide)) hr8 hr9
                  · skip
                    exact (iv_emp (iv_ne (l := 1) (h := 0) c46 (iv_lit (l := 0) (h := 0) (by decide)) (iv_lit (l := 0) (h := 0) (by decide)) (by decide)) (by decide)).elim
                · skip
                  refine ⟨fun c47 => ?_, fun c47 => ?_⟩
                  · skip
                    refine ⟨iv_nb (iv_lit (l := 0) (h := 0) (by decide)) (by decide), ?_⟩
                    refine ⟨fun c48 => ?_, fun c48 => ?_⟩
                    · skip
                      exact hpost _ _ _ _ _ (iv_w (iv_lit (l := (-1)) (h := (-1)) (by decide)) (by decide)) (iv_lit (l := 0) (h := 0) (by decide)) (iv_lea (l := 0) (h := 1) (r_nlt c4) (iv_leb (l := 0) (h := 2147483647) (r_nlt c1) (iv_lit (l := 0) (h := 0) (by decide)) (iv_top x1) (by decide)) (iv_sub (l := (-1)) (h := 1) (k_a_many _) (iv_lit (l := 1) (h := 1) (by decide)) (by decide)) (by decide)) hr8 hr9
                    · skip
                      exact (iv_emp (iv_ne (l := 1) (h := 0) c48 (iv_lit (l := 0) (h := 0) (by decide)) (iv_lit (l := 0) (h := 0) (by decide)) (by decide)) (by decide)).elim
                  · skip
                    refine ⟨iv_nb (iv_lit (l := 1) (h := 1) (by decide)) (by decide), ?_⟩
                    refine ⟨fun c49 => ?_, fun c49 => ?_⟩
                    · skip
                      exact (iv_emp (iv_eqa (l := 1) (h := 0) c49 (iv_lit (l := 1) (h := 1) (by decide)) (iv_lit (l := 0) (h := 0) (by decide)) (by decide)) (by decide)).elim
                    · skip
                      refine sp_of (a := 0) (b := 31) k_a_lands (iv_lea (l := 0) (h := 1) (r_nlt c4) (iv_leb (l := 0) (h := 2147483647) (r_nlt c1) (iv_lit (l := 0) (h := 0) (by decide)) (iv_top x1) (by decide)) (iv_sub (l := (-1)) (h := 1) (k_a_many _) (iv_lit (l := 1) (h := 1) (by decide)) (by decide)) (by decide)) (iv_add (l := 37) (h := 42) (iv_lit (l := 37) (h := 37) (by decide)) (iv_lea (l := 0) (h := 5) (r_nlt c47) (iv_leb (l := 0) (h := 2147483647) (r_nlt c45) (iv_lit (l := 0) (h := 0) (by decide)) (iv_top w13) (by decide)) (iv_sub (l := (-1)) (h := 5) hr9 (iv_lit (l := 1) (h := 1) (by decide)) (by decide)) (by decide)) (by decide)) (by decide +kernel) (fun r50 hr50 er50 => ?_)
                      exact hpost _ _ _ _ _ (iv_w hr50 (by decide)) (iv_lit (l := 0) (h := 0) (by decide)) (iv_lea (l := 0) (h := 1) (r_nlt c4) (iv_leb (l := 0) (h := 2147483647) (r_nlt c1) (iv_lit (l := 0) (h := 0) (by decide)) (iv_top x1) (by decide)) (iv_sub (l := (-1)) (h := 1) (k_a_many _) (iv_lit (l := 1) (h := 1) (by decide)) (by decide)) (by decide)) hr8 hr9
            · skip
              exact (iv_emp (iv_ne (l := 1) (h := 0) c12 (iv_lit (l := 0) (h := 0) (by decide)) (iv_lit (l := 0) (h := 0) (by decide)) (by decide)) (by decide)).elim
          · skip
            refine ⟨fun c51 => ?_, fun c51 => ?_⟩
            · skip
              refine ⟨fun c52 => ?_, fun c52 => ?_⟩
              · skip
                intro w53 ew53
                have hw53 := iv_eq ew53 (iv_rem (l := 0) (h := 9) (iv_ltb (l := 141) (h := 2147483647) (r_lt c51) (iv_lit (l := 140) (h := 140) (by decide)) (iv_leb (l := 60) (h := 2147483647) (r_nlt c11) (iv_lit (l := 60) (h := 60) (by decide)) (iv_top x2) (by decide)) (by decide)) (iv_lit (l := 10) (h := 10) (by decide)) (by decide))
                refine ⟨fun c54 => ?_, fun c54 => ?_, fun c54 => ?_, fun c54 => ?_, fun c54 => ?_, fun c54 => ?_⟩
                · skip
                  refine ⟨fun c55 => ?_, fun c55 => ?_⟩
                  · skip
                    exact (iv_emp (iv_lta (l := 141) (h := (-1)) (r_lt c55) (iv_ltb (l := 141) (h := 2147483647) (r_lt c51) (iv_lit (l := 140) (h := 140) (by decide)) (iv_leb (l := 60) (h := 2147483647) (r_nlt c11) (iv_lit (l := 60) (h := 60) (by decide)) (iv_top x2) (by decide)) (by decide)) (iv_lit (l := 0) (h := 0) (by decide)) (by decide)) (by decide)).elim
                  · skip
                    refine ⟨fun c56 => ?_, fun c56 => ?_⟩
                    · skip
                      refine ⟨fun c57 => ?_, fun c57 => ?_⟩
                      · skip
                        exact hpost _ _ _ _ _ (iv_w (iv_lit (l := (-1)) (h := (-1)) (by decide)) (by decide)) (iv_lit (l := 0) (h := 0) (by decide)) (iv_lea (l := 0) (h := 1) (r_nlt c4) (iv_leb (l := 0) (h := 2147483647) (r_nlt c1) (iv_lit (l := 0) (h := 0) (by decide)) (iv_top x1) (by decide)) (iv_sub (l := (-1)) (h := 1) (k_a_many _) (iv_lit (l := 1) (h := 1) (by decide)) (by decide)) (by decide)) hr8 hr9
                      · skip
                        exact (iv_emp (iv_ne (l := 1) (h := 0) c57 (iv_lit (l := 0) (h := 0) (by decide)) (iv_lit (l := 0) (h := 0) (by decide)) (by decide)) (by decide)).elim
                    · skip
                      exact (iv_emp (iv_lea (l := 141) (h := 6) (r_nlt c56) (iv_ltb (l := 141) (h := 2147483647) (r_lt c51) (iv_lit (l := 140) (h := 140) (by decide)) (iv_leb (l := 60) (h := 2147483647) (r_nlt c11) (iv_lit (l := 60) (h := 60) (by decide)) (iv_top x2) (by decide)) (by decide)) (iv_lit (l := 6) (h := 6) (by decide)) (by decide)) (by decide)).elim
                · skip
                  refine ⟨fun c58 => ?_, fun c58 => ?_⟩
                  · skip
                    exact (iv_emp (iv_lta (l := 0) (h := (-1)) (r_lt c58) hw53 (iv_lit (l := 0) (h := 0) (by decide)) (by decide)) (by decide)).elim
                  · skip
                    refine ⟨fun c59 => ?_, fun c59 => ?_⟩
                    · skip
                      refine ⟨iv_nb (iv_lit (l := 0) (h := 0) (by decide)) (by decide), ?_⟩
                      refine ⟨fun c60 => ?_, fun c60 => ?_⟩
                      · skip
                        exact hpost _ _ _ _ _ (iv_w (iv_lit (l := (-1)) (h := (-1)) (by decide)) (by decide)) (iv_lit (l := 0) (h := 0) (by decide)) (iv_lea (l := 0) (h := 1) (r_nlt c4) (iv_leb (l := 0) (h := 2147483647) (r_nlt c1) (iv_lit (l := 0) (h := 0) (by decide)) (iv_top x1) (by decide)) (iv_sub (l := (-1)) (h := 1) (k_a_many _) (iv_lit (l := 1) (h := 1) (by decide)) (by decide)) (by decide)) hr8 hr9
                      · skip
                        exact (iv_emp (iv_ne (l := 1) (h := 0) c60 (iv_lit (l := 0) (h := 0) (by decide)) (iv_lit (l := 0) (h := 0) (by decide)) (by decide)) (by decide)).elim
                    · skip
                      refine ⟨iv_nb (iv_lit (l := 1) (h := 1) (by decide)) (by decide), ?_⟩
                      refine ⟨fun c61 => ?_, fun c61 => ?_⟩
                      · skip
                        exact (iv_emp (iv_eqa (l := 1) (h := 0) c61 (iv_lit (l := 1) (h := 1) (by decide)) (iv_lit (l := 0) (h := 0) (by decide)) (by decide)) (by decide)).elim
                      · skip
                        refine sp_of (a := 0) (b := 99) k_a_lands (iv_lea (l := 0) (h := 1) (r_nlt c4) (iv_leb (l := 0) (h := 2147483647) (r_nlt c1) (iv_lit (l := 0) (h := 0) (by decide)) (iv_top x1) (by decide)) (iv_sub (l := (-1)) (h := 1) (k_a_many _) (iv_lit (l := 1) (h := 1) (by decide)) (by decide)) (by decide)) (iv_add (l := 7) (h := 15) (iv_lit (l := 7) (h := 7) (by decide)) (iv_lea (l := 0) (h := 8) (r_nlt c59) hw53 (iv_sub (l := (-1)) (h := 8) hr8 (iv_lit (l := 1) (h := 1) (by decide)) (by decide)) (by decide)) (by decide)) (by decide +kernel) (fun r62 hr62 er62 => ?_)
                        exact hpost _ _ _ _ _ (iv_w hr62 (by decide)) (iv_lit (l := 0) (h := 0) (by decide)) (iv_lea (l := 0) (h := 1) (r_nlt c4) (iv_leb (l := 0) (h := 2147483647) (r_nlt c1) (iv_lit (l := 0) (h := 0) (by decide)) (iv_top x1) (by decide)) (iv_sub (l := (-1)) (h := 1) (k_a_many _) (iv_lit (l := 1) (h := 1) (by decide)) (by decide)) (by decide)) hr8 hr9
                · skip
                  refine ⟨fun c63 => ?_, fun c63 => ?_⟩
                  · skip
                    exact (iv_emp (iv_lta (l := 0) (h := (-1)) (r_lt c63) hw53 (iv_lit (l := 0) (h := 0) (by decide)) (by decide)) (by decide)).elim
                  · skip
                    refine ⟨fun c64 => ?_, fun c64 => ?_⟩
                    · skip
                      refine ⟨iv_nb (iv_lit (l := 0) (h := 0) (by decide)) (by decide), ?_⟩
                      refine ⟨fun c65 => ?_, fun c65 => ?_⟩
                      · skip
                        exact hpost _ _ _ _ _ (iv_w (iv_lit (l := (-1)) (h := (-1)) (by decide)) (by decide)) (iv_lit (l := 0) (h := 0) (by decide)) (iv_lea (l := 0) (h := 1) (r_nlt c4) (iv_leb (l := 0) (h := 2147483647) (r_nlt c1) (iv_lit (l := 0) (h := 0) (by decide)) (iv_top x1) (by decide)) (iv_sub (l := (-1)) (h := 1) (k_a_many _) (iv_lit (l := 1) (h := 1) (by decide)) (by decide)) (by decide)) hr8 hr9
                      · skip
                        exact (iv_emp (iv_ne (l := 1) (h := 0) c65 (iv_lit (l := 0) (h := 0) (by decide)) (iv_lit (l := 0) (h := 0) (by decide)) (by decide)) (by decide)).elim
                    · skip
                      refine ⟨iv_nb (iv_lit (l := 1) (h := 1) (by decide)) (by decide), ?_⟩
                      refine ⟨fun c66 => ?_, fun c66 => ?_⟩
                      · skip
                        exact (iv_emp (iv_eqa (l := 1) (h := 0) c66 (iv_lit (l := 1) (h := 1) (by decide)) (iv_lit (l := 0) (h := 0) (by decide)) (by decide)) (by decide)).elim
                      · skip
                        refine sp_of (a := 0) (b := 9) k_a_lands (iv_lea (l := 0) (h := 1) (r_nlt c4) (iv_leb (l := 0) (h := 2147483647) (r_nlt c1) (iv_lit (l := 0) (h := 0) (by decide)) (iv_top x1) (by decide)) (iv_sub (l := (-1)) (h := 1) (k_a_many _) (iv_lit (l := 1) (h := 1) (by decide)) (by decide)) (by decide)) (iv_add (l := 16) (h := 24) (iv_lit (l := 16) (h := 16) (by decide)) (iv_lea (l := 0) (h := 8) (r_nlt c64) hw53 (iv_sub (l := (-1)) (h := 8) hr8 (iv_lit (l := 1) (h := 1) (by decide)) (by decide)) (by decide)) (by decide)) (by decide +kernel) (fun r67 hr67 er67 => ?_)
                        exact hpost _ _ _ _ _ (iv_w hr67 (by decide)) (iv_lit (l := 0) (h := 0) (by decide)) (iv_lea (l := 0) (h := 1) (r_nlt c4) (iv_leb (l := 0) (h := 2147483647) (r_nlt c1) (iv_lit (l := 0) (h := 0) (by decide)) (iv_top x1) (by decide)) (iv_sub (l := (-1)) (h := 1) (k_a_many _) (iv_lit (l := 1) (h := 1) (by decide)) (by decide)) (by decide)) hr8 hr9
                · skip
                  refine ⟨fun c68 => ?_, fun c68 => ?_⟩
                  · skip
                    exact (iv_emp (iv_lta (l := 0) (h := (-1)) (r_lt c68) hw53 (iv_lit (l := 0) (h := 0) (by decide)) (by decide)) (by decide)).elim
                  · skip
                    refine ⟨fun c69 => ?_, fun c69 => ?_⟩
                    · skip
                      refine ⟨iv_nb (iv_lit (l := 0) (h := 0) (by decide)) (by decide), ?_⟩
                      refine ⟨fun c70 => ?_, fun c70 => ?_⟩
                      · skip
                        exact hpost _ _ _ _ _ (iv_w (iv_lit (l := (-1)) (h := (-1)) (by decide)) (by decide)) (iv_lit (l := 0) (h := 0) (by decide)) (iv_lea (l := 0) (h := 1) (r_nlt c4) (iv_leb (l := 0) (h := 2147483647) (r_nlt c1) (iv_lit (l := 0) (h := 0) (by decide)) (iv_top x1) (by decide)) (iv_sub (l := (-1)) (h := 1) (k_a_many _) (iv_lit (l := 1) (h := 1) (by decide)) (by decide)) (by decide)) hr8 hr9
                      · skip
                        exact (iv_emp (iv_ne (l := 1) (h := 0) c70 (iv_lit (l := 0) (h := 0) (by decide)) (iv_lit (l := 0) (h := 0) (by decide)) (by decide)) (by decide)).elim
                    · skip
                      refine ⟨iv_nb (iv_lit (l := 1) (h := 1) (by decide)) (by decide), ?_⟩
                      refine ⟨fun c71 => ?_, fun c71 => ?_⟩
                      · skip
                        exact (iv_emp (iv_eqa (l := 1) (h := 0) c71 (iv_lit (l := 1) (h := 1) (by decide)) (iv_lit (l := 0) (h := 0) (by decide)) (by decide)) (by decide)).elim
                      · skip
                        refine sp_of (a := 0) (b := 8) k_a_lands (iv_lea (l := 0) (h := 1) (r_nlt c4) (iv_leb (l := 0) (h := 2147483647) (r_nlt c1) (iv_lit (l := 0) (h := 0) (by decide)) (iv_top x1) (by decide)) (iv_sub (l := (-1)) (h := 1) (k_a_many _) (iv_lit (l := 1) (h := 1) (by decide)) (by decide)) (by decide)) (iv_add (l := 25) (h := 30) (iv_lit (l := 25) (h := 25) (by decide)) (iv_lea (l := 0) (h := 5) (r_nlt c69) hw53 (iv_sub (l := (-1)) (h := 5) hr9 (iv_lit (l := 1) (h := 1) (by decide)) (by decide)) (by decide)) (by decide)) (by decide +kernel) (fun r72 hr72 er72 => ?_)
                        exact hpost _ _ _ _ _ (iv_w hr72 (by decide)) (iv_lit (l := 0) (h := 0) (by decide)) (iv_lea (l := 0) (h := 1) (r_nlt c4) (iv_leb (l := 0) (h := 2147483647) (r_nlt c1) (iv_lit (l := 0) (h := 0) (by decide)) (iv_top x1) (by decide)) (iv_sub (l := (-1)) (h := 1) (k_a_many _) (iv_lit (l := 1) (h := 1) (by decide)) (by decide)) (by decide)) hr8 hr9
                · skip
                  refine ⟨fun c73 => ?_, fun c73 => ?_⟩
                  · skip
                    exact (iv_emp (iv_lta (l := 0) (h := (-1)) (r_lt c73) hw53 (iv_lit (l := 0) (h := 0) (by decide)) (by decide)) (by decide)).elim
                  · skip
                    refine ⟨fun c74 => ?_, fun c74 => ?_⟩
                    · skip
                      refine ⟨iv_nb (iv_lit (l := 0) (h := 0) (by decide)) (by decide), ?_⟩
                      refine ⟨fun c75 => ?_, fun c75 => ?_⟩
                      · skip
                        exact hpost _ _ _ _ _ (iv_w (iv_lit (l := (-1)) (h := (-1)) (by decide)) (by decide)) (iv_lit (l := 0) (h := 0) (by decide)) (iv_lea (l := 0) (h := 1) (r_nlt c4) (iv_leb (l := 0) (h := 2147483647) (r_nlt c1) (iv_lit (l := 0) (h := 0) (by decide)) (iv_top x1) (by decide)) (iv_sub (l := (-1)) (h := 1) (k_a_many _) (iv_lit (l := 1) (h := 1) (by decide)) (by decide)) (by decide)) hr8 hr9
                      · skip
                        exact (iv_emp (iv_ne (l := 1) (h := 0) c75 (iv_lit (l := 0) (h := 0) (by decide)) (iv_lit (l := 0) (h := 0) (by decide)) (by decide)) (by decide)).elim
                    · skip
                      refine ⟨iv_nb (iv_lit (l := 1) (h := 1) (by decide)) (by decide), ?_⟩
                      refine ⟨fun c76 => ?_, fun c76 => ?_⟩
                      · skip
                        exact (iv_emp (iv_eqa (l := 1) (h := 0) c76 (iv_lit (l := 1) (h := 1) (by decide)) (iv_lit (l := 0) (h := 0) (by decide)) (by decide)) (by decide)).elim
                      · skip
                        refine sp_of (a := 0) (b := 9) k_a_lands (iv_lea (l := 0) (h := 1) (r_nlt c4) (iv_leb (l := 0) (h := 2147483647) (r_nlt c1) (iv_lit (l := 0) (h := 0) (by decide)) (iv_top x1) (by decide)) (iv_sub (l := (-1)) (h := 1) (k_a_many _) (iv_lit (l := 1) (h := 1) (by decide)) (by decide)) (by decide)) (iv_add (l := 31) (h := 36) (iv_lit (l := 31) (h := 31) (by decide)) (iv_lea (l := 0) (h := 5) (r_nlt c74) hw53 (iv_sub (l := (-1)) (h := 5) hr9 (iv_lit (l := 1) (h := 1) (by decide)) (by decide)) (by decide)) (by decide)) (by decide +kernel) (fun r77 hr77 er77 => ?_)
                        exact hpost _ _ _ _ _ (iv_w hr77 (by decide)) (iv_lit (l := 0) (h := 0) (by decide)) (iv_lea (l := 0) (h := 1) (r_nlt c4) (iv_leb (l := 0) (h := 2147483647) (r_nlt c1) (iv_lit (l := 0) (h := 0) (by decide)) (iv_top x1) (by decide)) (iv_sub (l := (-1)) (h := 1) (k_a_many _) (iv_lit (l := 1) (h := 1) (by decide)) (by decide)) (by decide)) hr8 hr9
                · skip
                  refine ⟨fun c78 => ?_, fun c78 => ?_⟩
                  · skip
                    exact (iv_emp (iv_lta (l := 0) (h := (-1)) (r_lt c78) hw53 (iv_lit (l := 0) (h := 0) (by decide)) (by decide)) (by decide)).elim
                  · skip
                    refine ⟨fun c79 => ?_, fun c79 => ?_⟩
                    · skip
                      refine ⟨iv_nb (iv_lit (l := 0) (h := 0) (by decide)) (by decide), ?_⟩
                      refine ⟨fun c80 => ?_, fun c80 => ?_⟩
                      · skip
                        exact hpost _ _ _ _ _ (iv_w (iv_lit (l := (-1)) (h := (-1)) (by decide)) (by decide)) (iv_lit (l := 0) (h := 0) (by decide)) (iv_lea (l := 0) (h := 1) (r_nlt c4) (iv_leb (l := 0) (h := 2147483647) (r_nlt c1) (iv_lit (l := 0) (h := 0) (by decide)) (iv_top x1) (by decide)) (iv_sub (l := (-1)) (h := 1) (k_a_many _) (iv_lit (l := 1) (h := 1) (by decide)) (by decide)) (by decide)) hr8 hr9
                      · skip
                        exact (iv_emp (iv_ne (l := 1) (h := 0) c80 (iv_lit (l := 0) (h := 0) (by decide)) (iv_lit (l := 0) (h := 0) (by decide)) (by decide)) (by decide)).elim
                    · skip
                      refine ⟨iv_nb (iv_lit (l := 1) (h := 1) (by decide)) (by decide), ?_⟩
                      refine ⟨fun c81 => ?_, fun c81 => ?_⟩
                      · skip
                        exact (iv_emp (iv_eqa (l := 1) (h := 0) c81 (iv_lit (l := 1) (h := 1) (by decide)) (iv_lit (l := 0) (h := 0) (by decide)) (by decide)) (by decide)).elim
                      · skip
                        refine sp_of (a := 0) (b := 31) k_a_lands (iv_lea (l := 0) (h := 1) (r_nlt c4) (iv_leb (l := 0) (h := 2147483647) (r_nlt c1) (iv_lit (l := 0) (h := 0) (by decide)) (iv_top x1) (by decide)) (iv_sub (l := (-1)) (h := 1) (k_a_many _) (iv_lit (l := 1) (h := 1) (by decide)) (by decide)) (by decide)) (iv_add (l := 37) (h := 42) (iv_lit (l := 37) (h := 37) (by decide)) (iv_lea (l := 0) (h := 5) (r_nlt c79) hw53 (iv_sub (l := (-1)) (h := 5) hr9 (iv_lit (l := 1) (h := 1) (by decide)) (by decide)) (by decide)) (by decide)) (by decide +kernel) (fun r82 hr82 er82 => ?_)
                        exact hpost _ _ _ _ _ (iv_w hr82 (by decide)) (iv_lit (l := 0) (h := 0) (by decide)) (iv_lea (l := 0) (h := 1) (r_nlt c4) (iv_leb (l := 0) (h := 2147483647) (r_nlt c1) (iv_lit (l := 0) (h := 0) (by decide)) (iv_top x1) (by decide)) (iv_sub (l := (-1)) (h := 1) (k_a_many _) (iv_lit (l := 1) (h := 1) (by decide)) (by decide)) (by decide)) hr8 hr9
              · skip
                exact (iv_emp (iv_ne (l := 1) (h := 0) c52 (iv_lit (l := 0) (h := 0) (by decide)) (iv_lit (l := 0) (h := 0) (by decide)) (by decide)) (by decide)).elim
            · skip
              refine ⟨fun c83 => ?_, fun c83 => ?_⟩
              · skip
                exact (iv_emp (iv_eqa (l := 1) (h := 0) c83 (iv_lit (l := 1) (h := 1) (by decide)) (iv_lit (l := 0) (h := 0) (by decide)) (by decide)) (by decide)).elim
              · skip
                intro w84 ew84
                have hw84 := iv_eq ew84 (iv_div (l := 0) (h := 8) (iv_sub (l := 0) (h := 80) (iv_lea (l := 60) (h := 140) (r_nlt c51) (iv_leb (l := 60) (h := 2147483647) (r_nlt c11) (iv_lit (l := 60) (h := 60) (by decide)) (iv_top x2) (by decide)) (iv_lit (l := 140) (h := 140) (by decide)) (by decide)) (iv_lit (l := 60) (h := 60) (by decide)) (by decide)) (iv_lit (l := 9) (h := 9) (by decide)) (by decide))
                intro w85 ew85
                have hw85 := iv_eq ew85 (iv_rem (l := 0) (h := 8) (iv_sub (l := 0) (h := 80) (iv_lea (l := 60) (h := 140) (r_nlt c51) (iv_leb (l := 60) (h := 2147483647) (r_nlt c11) (iv_lit (l := 60) (h := 60) (by decide)) (iv_top x2) (by decide)) (iv_lit (l := 140) (h := 140) (by decide)) (by decide)) (iv_lit (l := 60) (h := 60) (by decide)) (by decide)) (iv_lit (l := 9) (h := 9) (by decide)) (by decide))
                refine ⟨fun c86 => ?_, fun c86 => ?_⟩
                · skip
                  exact (iv_emp (iv_lta (l := 0) (h := (-1)) (r_lt c86) hw84 (iv_lit (l := 0) (h := 0) (by decide)) (by decide)) (by decide)).elim
                · skip
                  refine ⟨fun c87 => ?_, fun c87 => ?_⟩
                  · skip
                    refine ⟨iv_nb (iv_lit (l := 0) (h := 0) (by decide)) (by decide), ?_⟩
                    refine ⟨fun c88 => ?_, fun c88 => ?_⟩
                    · skip
                      exact hpost _ _ _ _ _ (iv_w (iv_lit (l := (-1)) (h := (-1)) (by decide)) (by decide)) (iv_lit (l := 0) (h := 0) (by decide)) (iv_lea (l := 0) (h := 1) (r_nlt c4) (iv_leb (l := 0) (h := 2147483647) (r_nlt c1) (iv_lit (l := 0) (h := 0) (by decide)) (iv_top x1) (by decide)) (iv_sub (l := (-1)) (h := 1) (k_a_many _) (iv_lit (l := 1) (h := 1) (by decide)) (by decide)) (by decide)) hr8 hr9
                    · skip
                      exact (iv_emp (iv_ne (l := 1) (h := 0) c88 (iv_lit (l := 0) (h := 0) (by decide)) (iv_lit (l := 0) (h := 0) (by decide)) (by decide)) (by decide)).elim
                  · skip
                    refine ⟨iv_nb (iv_lit (l := 1) (h := 1) (by decide)) (by decide), ?_⟩
                    refine ⟨fun c89 => ?_, fun c89 => ?_⟩
                    · skip
                      exact (iv_emp (iv_eqa (l := 1) (h := 0) c89 (iv_lit (l := 1) (h := 1) (by decide)) (iv_lit (l := 0) (h := 0) (by decide)) (by decide)) (by decide)).elim
                    · skip
                      refine ⟨fun c90 => ?_, fun c90 => ?_⟩
                      · skip
                        exact (iv_emp (iv_lta (l := 0) (h := (-1)) (r_lt c90) hw85 (iv_lit (l := 0) (h := 0) (by decide)) (by decide)) (by decide)).elim
                      · skip
                        refine ⟨fun c91 => ?_, fun c91 => ?_⟩
                        · skip
                          refine ⟨iv_nb (iv_lit (l := 0) (h := 0) (by decide)) (by decide), ?_⟩
                          refine ⟨fun c92 => ?_, fun c92 => ?_⟩
                          · skip
                            exact hpost _ _ _ _ _ (iv_w (iv_lit (l := (-1)) (h := (-1)) (by decide)) (by decide)) (iv_lit (l := 0) (h := 0) (by decide)) (iv_lea (l := 0) (h := 1) (r_nlt c4) (iv_leb (l := 0) (h := 2147483647) (r_nlt c1) (iv_lit (l := 0) (h := 0) (by decide)) (iv_top x1) (by decide)) (iv_sub (l := (-1)) (h := 1) (k_a_many _) (iv_lit (l := 1) (h := 1) (by decide)) (by decide)) (by decide)) hr8 hr9
                          · skip
                            exact (iv_emp (iv_ne (l := 1) (h := 0) c92 (iv_lit (l := 0) (h := 0) (by decide)) (iv_lit (l := 0) (h := 0) (by decide)) (by decide)) (by decide)).elim
                        · skip
                          refine ⟨iv_nb (iv_lit (l := 1) (h := 1) (by decide)) (by decide), ?_⟩
                          refine ⟨fun c93 => ?_, fun c93 => ?_⟩
                          · skip
                            exact (iv_emp (iv_eqa (l := 1) (h := 0) c93 (iv_lit (l := 1) (h := 1) (by decide)) (iv_lit (l := 0) (h := 0) (by decide)) (by decide)) (by decide)).elim
                          · skip
                            refine sp_of (a := 0) (b := 9) k_a_lands (iv_lea (l := 0) (h := 1) (r_nlt c4) (iv_leb (l := 0) (h := 2147483647) (r_nlt c1) (iv_lit (l := 0) (h := 0) (by decide)) (iv_top x1) (by decide)) (iv_sub (l := (-1)) (h := 1) (k_a_many _) (iv_lit (l := 1) (h := 1) (by decide)) (by decide)) (by decide)) (iv_add (l := 51) (h := 131) (iv_add (l := 51) (h := 123) (iv_lit (l := 51) (h := 51) (by decide)) (iv_mul (l := 0) (h := 72) (iv_lit (l := 9) (h := 9) (by decide)) hw84 (by decide)) (by decide)) hw85 (by decide)) (by decide +kernel) (fun r94 hr94 er94 => ?_)
                            exact hpost _ _ _ _ _ (iv_w hr94 (by decide)) (iv_lit (l := 0) (h := 0) (by decide)) (iv_lea (l := 0) (h := 1) (r_nlt c4) (iv_leb (l := 0) (h := 2147483647) (r_nlt c1) (iv_lit (l := 0) (h := 0) (by decide)) (iv_top x1) (by decide)) (iv_sub (l := (-1)) (h := 1) (k_a_many _) (iv_lit (l := 1) (h := 1) (by decide)) (by decide)) (by decide)) hr8 hr9
        · skip
          exact (iv_emp (iv_eqa (l := 1) (h := 0) c10 (iv_lit (l := 1) (h := 1) (by decide)) (iv_lit (l := 0) (h := 0) (by decide)) (by decide)) (by decide)).elim
      · skip
        exact (iv_emp (iv_eqa (l := 1) (h := 0) c7 (iv_lit (l := 1) (h := 1) (by decide)) (iv_lit (l := 0) (h := 0) (by decide)) (by decide)) (by decide)).elim
-- m_echo
set_option maxRecDepth 20000 in
theorem s_m_echo_0 {f_code : Int32} {a_many : Nat → Int32} {a_lands : Nat → Int32} {f_land : Int32} {f_huts : Int32} {f_singers : Int32} {x1 : Int32} {x2 : Int32} {x3 : Int32} {post : Int32 → (Int32) → (Int32) → (Int32) → (Int32) → Prop} (k_f_code : iv 0 0 f_code) (k_a_many : ∀ j, iv 0 2 (a_many j)) (k_a_lands : mLand a_lands) (k_f_land : iv 0 1 f_land) (k_f_huts : iv 0 9 f_huts) (k_f_singers : iv 0 6 f_singers) (hpost : ∀ (r : Int32) (f_code : Int32) (f_land : Int32) (f_huts : Int32) (f_singers : Int32), iv (-1) 8 r → (iv 0 0 f_code) → (iv 0 1 f_land) → (iv 0 9 f_huts) → (iv 0 6 f_singers) → post r f_code f_land f_huts f_singers) : q_m_echo_0 f_code a_many a_lands f_land f_huts f_singers x1 x2 x3 post := by
  refine ⟨iv_in (iv_lit (l := 0) (h := 0) (by decide)) (by decide), ?_⟩
  refine ⟨fun c1 => ?_, fun c1 => ?_⟩
  · skip
    refine ⟨iv_nb (iv_lit (l := 0) (h := 0) (by decide)) (by decide), ?_⟩
    refine ⟨fun c2 => ?_, fun c2 => ?_⟩
    · skip
      exact (iv_emp (iv_ne (l := 1) (h := 0) c2 (iv_lit (l := 0) (h := 0) (by decide)) (iv_lit (l := 0) (h := 0) (by decide)) (by decide)) (by decide)).elim
    · skip
      refine ⟨fun c3 => ?_, fun c3 => ?_⟩
      · skip
        exact hpost _ _ _ _ _ (iv_w (iv_lit (l := (-1)) (h := (-1)) (by decide)) (by decide)) (iv_lit (l := 0) (h := 0) (by decide)) k_f_land k_f_huts k_f_singers
      · skip
        exact (iv_emp (iv_ne (l := 1) (h := 0) c3 (iv_lit (l := 0) (h := 0) (by decide)) (iv_lit (l := 0) (h := 0) (by decide)) (by decide)) (by decide)).elim
  · skip
    refine ⟨fun c4 => ?_, fun c4 => ?_⟩
    · skip
      refine ⟨iv_nb (iv_lit (l := 0) (h := 0) (by decide)) (by decide), ?_⟩
      refine ⟨fun c5 => ?_, fun c5 => ?_⟩
      · skip
        exact (iv_emp (iv_ne (l := 1) (h := 0) c5 (iv_lit (l := 0) (h := 0) (by decide)) (iv_lit (l := 0) (h := 0) (by decide)) (by decide)) (by decide)).elim
      · skip
        refine ⟨fun c6 => ?_, fun c6 => ?_⟩
        · skip
          exact hpost _ _ _ _ _ (iv_w (iv_lit (l := (-1)) (h := (-1)) (by decide)) (by decide)) (iv_lit (l := 0) (h := 0) (by decide)) k_f_land k_f_huts k_f_singers
        · skip
          exact (iv_emp (iv_ne (l := 1) (h := 0) c6 (iv_lit (l := 0) (h := 0) (by decide)) (iv_lit (l := 0) (h := 0) (by decide)) (by decide)) (by decide)).elim
    · skip
      refine ⟨iv_nb (iv_lit (l := 1) (h := 1) (by decide)) (by decide), ?_⟩
      refine ⟨fun c7 => ?_, fun c7 => ?_⟩
      · skip
        refine sp_of (a := 0) (b := 9) k_a_lands (iv_lea (l := 0) (h := 1) (r_nlt c4) (iv_leb (l := 0) (h := 2147483647) (r_nlt c1) (iv_lit (l := 0) (h := 0) (by decide)) (iv_top x1) (by decide)) (iv_sub (l := (-1)) (h := 1) (k_a_many _) (iv_lit (l := 1) (h := 1) (by decide)) (by decide)) (by decide)) (iv_lit (l := 0) (h := 0) (by decide)) (by decide +kernel) (fun r8 hr8 er8 => ?_)
        refine sp_of (a := 0) (b := 6) k_a_lands (iv_lea (l := 0) (h := 1) (r_nlt c4) (iv_leb (l := 0) (h := 2147483647) (r_nlt c1) (iv_lit (l := 0) (h := 0) (by decide)) (iv_top x1) (by decide)) (iv_sub (l := (-1)) (h := 1) (k_a_many _) (iv_lit (l := 1) (h := 1) (by decide)) (by decide)) (by decide)) (iv_lit (l := 1) (h := 1) (by decide)) (by decide +kernel) (fun r9 hr9 er9 => ?_)
        refine ⟨fun c10 => ?_, fun c10 => ?_⟩
        · skip
          exact (iv_emp (iv_eqa (l := 1) (h := 0) c10 (iv_lit (l := 1) (h := 1) (by decide)) (iv_lit (l := 0) (h := 0) (by decide)) (by decide)) (by decide)).elim
        · skip
          refine sp_of (a := 0) (b := 4) k_a_lands (iv_lea (l := 0) (h := 1) (r_nlt c4) (iv_leb (l := 0) (h := 2147483647) (r_nlt c1) (iv_lit (l := 0) (h := 0) (by decide)) (iv_top x1) (by decide)) (iv_sub (l := (-1)) (h := 1) (k_a_many _) (iv_lit (l := 1) (h := 1) (by decide)) (by decide)) (by decide)) (iv_lit (l := 4) (h := 4) (by decide)) (by decide +kernel) (fun r11 hr11 er11 => ?_)
          refine ⟨fun c12 => ?_, fun c12 => ?_⟩
          · skip
            refine ⟨fun c13 => ?_, fun c13 => ?_⟩
            · skip
              exact hpost _ _ _ _ _ (iv_w (iv_lit (l := (-1)) (h := (-1)) (by decide)) (by decide)) (iv_lit (l := 0) (h := 0) (by decide)) (iv_lea (l := 0) (h := 1) (r_nlt c4) (iv_leb (l := 0) (h := 2147483647) (r_nlt c1) (iv_lit (l := 0) (h := 0) (by decide)) (iv_top x1) (by decide)) (iv_sub (l := (-1)) (h := 1) (k_a_many _) (iv_lit (l := 1) (h := 1) (by decide)) (by decide)) (by decide)) hr8 hr9
            · skip
              exact (iv_emp (iv_ne (l := 1) (h := 0) c13 (iv_lit (l := 0) (h := 0) (by decide)) (iv_lit (l := 0) (h := 0) (by decide)) (by decide)) (by decide)).elim
          · skip
            refine ⟨fun c14 => ?_, fun c14 => ?_⟩
            · skip
              refine ⟨fun c15 => ?_, fun c15 => ?_⟩
              · skip
                exact hpost _ _ _ _ _ (iv_w (iv_lit (l := (-1)) (h := (-1)) (by decide)) (by decide)) (iv_lit (l := 0) (h := 0) (by decide)) (iv_lea (l := 0) (h := 1) (r_nlt c4) (iv_leb (l := 0) (h := 2147483647) (r_nlt c1) (iv_lit (l := 0) (h := 0) (by decide)) (iv_top x1) (by decide)) (iv_sub (l := (-1)) (h := 1) (k_a_many _) (iv_lit (l := 1) (h := 1) (by decide)) (by decide)) (by decide)) hr8 hr9
              · skip
                exact (iv_emp (iv_ne (l := 1) (h := 0) c15 (iv_lit (l := 0) (h := 0) (by decide)) (iv_lit (l := 0) (h := 0) (by decide)) (by decide)) (by decide)).elim
            · skip
              refine ⟨fun c16 => ?_, fun c16 => ?_⟩
              · skip
                exact (iv_emp (iv_eqa (l := 1) (h := 0) c16 (iv_lit (l := 1) (h := 1) (by decide)) (iv_lit (l := 0) (h := 0) (by decide)) (by decide)) (by decide)).elim
              · skip
                refine ⟨fun c17 => ?_, fun c17 => ?_⟩
                · skip
                  refine ⟨fun c18 => ?_, fun c18 => ?_⟩
                  · skip
                    exact hpost _ _ _ _ _ (iv_w (iv_lit (l := (-1)) (h := (-1)) (by decide)) (by decide)) (iv_lit (l := 0) (h := 0) (by decide)) (iv_lea (l := 0) (h := 1) (r_nlt c4) (iv_leb (l := 0) (h := 2147483647) (r_nlt c1) (iv_lit (l := 0) (h := 0) (by decide)) (iv_top x1) (by decide)) (iv_sub (l := (-1)) (h := 1) (k_a_many _) (iv_lit (l := 1) (h := 1) (by decide)) (by decide)) (by decide)) hr8 hr9
                  · skip
                    exact (iv_emp (iv_ne (l := 1) (h := 0) c18 (iv_lit (l := 0) (h := 0) (by decide)) (iv_lit (l := 0) (h := 0) (by decide)) (by decide)) (by decide)).elim
                · skip
                  refine ⟨fun c19 => ?_, fun c19 => ?_⟩
                  · skip
                    refine ⟨fun c20 => ?_, fun c20 => ?_⟩
                    · skip
                      exact hpost _ _ _ _ _ (iv_w (iv_lit (l := (-1)) (h := (-1)) (by decide)) (by decide)) (iv_lit (l := 0) (h := 0) (by decide)) (iv_lea (l := 0) (h := 1) (r_nlt c4) (iv_leb (l := 0) (h := 2147483647) (r_nlt c1) (iv_lit (l := 0) (h := 0) (by decide)) (iv_top x1) (by decide)) (iv_sub (l := (-1)) (h := 1) (k_a_many _) (iv_lit (l := 1) (h := 1) (by decide)) (by decide)) (by decide)) hr8 hr9
                    · skip
                      exact (iv_emp (iv_ne (l := 1) (h := 0) c20 (iv_lit (l := 0) (h := 0) (by decide)) (iv_lit (l := 0) (h := 0) (by decide)) (by decide)) (by decide)).elim
                  · skip
                    refine ⟨fun c21 => ?_, fun c21 => ?_⟩
                    · skip
                      exact (iv_emp (iv_eqa (l := 1) (h := 0) c21 (iv_lit (l := 1) (h := 1) (by decide)) (iv_lit (l := 0) (h := 0) (by decide)) (by decide)) (by decide)).elim
                    · skip
                      refine sp_of (a := 0) (b := 8) k_a_lands (iv_lea (l := 0) (h := 1) (r_nlt c4) (iv_leb (l := 0) (h := 2147483647) (r_nlt c1) (iv_lit (l := 0) (h := 0) (by decide)) (iv_top x1) (by decide)) (iv_sub (l := (-1)) (h := 1) (k_a_many _) (iv_lit (l := 1) (h := 1) (by decide)) (by decide)) (by decide)) (iv_add (l := 43) (h := 50) (iv_add (l := 43) (h := 49) (iv_lit (l := 43) (h := 43) (by decide)) (iv_mul (l := 0) (h := 6) (iv_lit (l := 2) (h := 2) (by decide)) (iv_lea (l := 0) (h := 3) (r_nlt c14) (iv_leb (l := 0) (h := 2147483647) (r_nlt c12) (iv_lit (l := 0) (h := 0) (by decide)) (iv_top x2) (by decide)) (iv_sub (l := (-1)) (h := 3) hr11 (iv_lit (l := 1) (h := 1) (by decide)) (by decide)) (by decide)) (by decide)) (by decide)) (iv_lea (l := 0) (h := 1) (r_nlt c19) (iv_leb (l := 0) (h := 2147483647) (r_nlt c17) (iv_lit (l := 0) (h := 0) (by decide)) (iv_top x3) (by decide)) (iv_lit (l := 1) (h := 1) (by decide)) (by decide)) (by decide)) (by decide +kernel) (fun r22 hr22 er22 => ?_)
                      exact hpost _ _ _ _ _ (iv_w hr22 (by decide)) (iv_lit (l := 0) (h := 0) (by decide)) (iv_lea (l := 0) (h := 1) (r_nlt c4) (iv_leb (l := 0) (h := 2147483647) (r_nlt c1) (iv_lit (l := 0) (h := 0) (by decide)) (iv_top x1) (by decide)) (iv_sub (l := (-1)) (h := 1) (k_a_many _) (iv_lit (l := 1) (h := 1) (by decide)) (by decide)) (by decide)) hr8 hr9
      · skip
        exact (iv_emp (iv_eqa (l := 1) (h := 0) c7 (iv_lit (l := 1) (h := 1) (by decide)) (iv_lit (l := 0) (h := 0) (by decide)) (by decide)) (by decide)).elim
-- m_deed
set_option maxRecDepth 20000 in
theorem s_m_deed_0 {f_code : Int32} {a_many : Nat → Int32} {a_evenings : Nat → Int32} {f_evening : Int32} {x1 : Int32} {x2 : Int32} {x3 : Int32} {post : Int32 → (Int32) → (Int32) → Prop} (k_f_code : iv 0 0 f_code) (k_a_many : ∀ j, iv 0 2 (a_many j)) (k_a_evenings : mEve a_evenings) (hpost : ∀ (r : Int32) (f_code : Int32) (f_evening : Int32), iv (-2) 40 r → (iv 0 0 f_code) → post r f_code f_evening) : q_m_deed_0 f_code a_many a_evenings f_evening x1 x2 x3 post := by
  refine ⟨iv_in (iv_lit (l := 1) (h := 1) (by decide)) (by decide), ?_⟩
  refine ⟨fun c1 => ?_, fun c1 => ?_⟩
  · skip
    refine ⟨iv_nb (iv_lit (l := 0) (h := 0) (by decide)) (by decide), ?_⟩
    refine ⟨iv_nb (iv_lit (l := 0) (h := 0) (by decide)) (by decide), ?_⟩
    refine ⟨fun c2 => ?_, fun c2 => ?_⟩
    · skip
      exact (iv_emp (iv_ne (l := 1) (h := 0) c2 (iv_lit (l := 0) (h := 0) (by decide)) (iv_lit (l := 0) (h := 0) (by decide)) (by decide)) (by decide)).elim
    · skip
      exact hpost _ _ _ (iv_w (iv_lit (l := (-2)) (h := (-2)) (by decide)) (by decide)) (iv_lit (l := 0) (h := 0) (by decide))
  · skip
    refine ⟨fun c3 => ?_, fun c3 => ?_⟩
    · skip
      refine ⟨iv_nb (iv_lit (l := 0) (h := 0) (by decide)) (by decide), ?_⟩
      refine ⟨iv_nb (iv_lit (l := 0) (h := 0) (by decide)) (by decide), ?_⟩
      refine ⟨fun c4 => ?_, fun c4 => ?_⟩
      · skip
        exact (iv_emp (iv_ne (l := 1) (h := 0) c4 (iv_lit (l := 0) (h := 0) (by decide)) (iv_lit (l := 0) (h := 0) (by decide)) (by decide)) (by decide)).elim
      · skip
        exact hpost _ _ _ (iv_w (iv_lit (l := (-2)) (h := (-2)) (by decide)) (by decide)) (iv_lit (l := 0) (h := 0) (by decide))
    · skip
      refine ⟨iv_nb (iv_lit (l := 1) (h := 1) (by decide)) (by decide), ?_⟩
      refine ⟨iv_nb (iv_lit (l := 1) (h := 1) (by decide)) (by decide), ?_⟩
      refine ⟨fun c5 => ?_, fun c5 => ?_⟩
      · skip
        refine ⟨fun c6 => ?_, fun c6 => ?_⟩
        · skip
          refine sp_deeds k_a_evenings (iv_lea (l := 0) (h := 1) (r_nlt c3) (iv_leb (l := 0) (h := 2147483647) (r_nlt c1) (iv_lit (l := 0) (h := 0) (by decide)) (iv_top x1) (by decide)) (iv_sub (l := (-1)) (h := 1) (k_a_many _) (iv_lit (l := 1) (h := 1) (by decide)) (by decide)) (by decide)) (fun r7 hr7 => ?_)
          refine ⟨fun c8 => ?_, fun c8 => ?_⟩
          · skip
            refine ⟨fun c9 => ?_, fun c9 => ?_⟩
            · skip
              exact hpost _ _ _ (iv_w (iv_lit (l := (-2)) (h := (-2)) (by decide)) (by decide)) (iv_lit (l := 0) (h := 0) (by decide))
            · skip
              exact (iv_emp (iv_ne (l := 1) (h := 0) c9 (iv_lit (l := 0) (h := 0) (by decide)) (iv_lit (l := 0) (h := 0) (by decide)) (by decide)) (by decide)).elim
          · skip
            refine ⟨fun c10 => ?_, fun c10 => ?_⟩
            · skip
              refine ⟨fun c11 => ?_, fun c11 => ?_⟩
              · skip
                exact hpost _ _ _ (iv_w (iv_lit (l := (-2)) (h := (-2)) (by decide)) (by decide)) (iv_lit (l := 0) (h := 0) (by decide))
              · skip
                exact (iv_emp (iv_ne (l := 1) (h := 0) c11 (iv_lit (l := 0) (h := 0) (by decide)) (iv_lit (l := 0) (h := 0) (by decide)) (by decide)) (by decide)).elim
            · skip
              refine ⟨fun c12 => ?_, fun c12 => ?_⟩
              · skip
                exact (iv_emp (iv_eqa (l := 1) (h := 0) c12 (iv_lit (l := 1) (h := 1) (by decide)) (iv_lit (l := 0) (h := 0) (by decide)) (by decide)) (by decide)).elim
              · skip
                refine ⟨fun c13 => ?_, fun c13 => ?_⟩
                · skip
                  refine ⟨fun c14 => ?_, fun c14 => ?_⟩
                  · skip
                    exact hpost _ _ _ (iv_w (iv_lit (l := (-2)) (h := (-2)) (by decide)) (by decide)) (iv_lit (l := 0) (h := 0) (by decide))
                  · skip
                    exact (iv_emp (iv_ne (l := 1) (h := 0) c14 (iv_lit (l := 0) (h := 0) (by decide)) (iv_lit (l := 0) (h := 0) (by decide)) (by decide)) (by decide)).elim
                · skip
                  refine ⟨fun c15 => ?_, fun c15 => ?_⟩
                  · skip
                    refine ⟨fun c16 => ?_, fun c16 => ?_⟩
                    · skip
                      exact hpost _ _ _ (iv_w (iv_lit (l := (-2)) (h := (-2)) (by decide)) (by decide)) (iv_lit (l := 0) (h := 0) (by decide))
                    · skip
                      exact (iv_emp (iv_ne (l := 1) (h := 0) c16 (iv_lit (l := 0) (h := 0) (by decide)) (iv_lit (l := 0) (h := 0) (by decide)) (by decide)) (by decide)).elim
                  · skip
                    refine ⟨fun c17 => ?_, fun c17 => ?_⟩
                    · skip
                      exact (iv_emp (iv_eqa (l := 1) (h := 0) c17 (iv_lit (l := 1) (h := 1) (by decide)) (iv_lit (l := 0) (h := 0) (by decide)) (by decide)) (by decide)).elim
                    · skip
                      refine sp_deedOf_w k_a_evenings (iv_lea (l := 0) (h := 1) (r_nlt c3) (iv_leb (l := 0) (h := 2147483647) (r_nlt c1) (iv_lit (l := 0) (h := 0) (by decide)) (iv_top x1) (by decide)) (iv_sub (l := (-1)) (h := 1) (k_a_many _) (iv_lit (l := 1) (h := 1) (by decide)) (by decide)) (by decide)) (iv_lea (l := 0) (h := 39) (r_nlt c10) (iv_leb (l := 0) (h := 2147483647) (r_nlt c8) (iv_lit (l := 0) (h := 0) (by decide)) (iv_top x2) (by decide)) (iv_sub (l := (-1)) (h := 39) hr7 (iv_lit (l := 1) (h := 1) (by decide)) (by decide)) (by decide)) (iv_lea (l := 0) (h := 2) (r_nlt c15) (iv_leb (l := 0) (h := 2147483647) (r_nlt c13) (iv_lit (l := 0) (h := 0) (by decide)) (iv_top x3) (by decide)) (iv_lit (l := 2) (h := 2) (by decide)) (by decide)) (fun r18 hr18 => ?_)
                      exact hpost _ _ _ (iv_w hr18 (by decide)) (iv_lit (l := 0) (h := 0) (by decide))
        · skip
          refine ⟨fun c19 => ?_, fun c19 => ?_⟩
          · skip
            exact hpost _ _ _ (iv_w (iv_lit (l := (-2)) (h := (-2)) (by decide)) (by decide)) (iv_lit (l := 0) (h := 0) (by decide))
          · skip
            refine sp_deeds k_a_evenings (iv_lea (l := 0) (h := 1) (r_nlt c3) (iv_leb (l := 0) (h := 2147483647) (r_nlt c1) (iv_lit (l := 0) (h := 0) (by decide)) (iv_top x1) (by decide)) (iv_sub (l := (-1)) (h := 1) (k_a_many _) (iv_lit (l := 1) (h := 1) (by decide)) (by decide)) (by decide)) (fun r20 hr20 => ?_)
            exact hpost _ _ _ (iv_w hr20 (by decide)) (iv_lit (l := 0) (h := 0) (by decide))
      · skip
        exact (iv_emp (iv_eqa (l := 1) (h := 0) c5 (iv_lit (l := 1) (h := 1) (by decide)) (iv_lit (l := 0) (h := 0) (by decide)) (by decide)) (by decide)).elim
-- m_begin
set_option maxRecDepth 20000 in
theorem s_m_begin_51 {a_lands : Nat → Int32} {f_land : Int32} {a_at : Nat → Int32} {a_knows : Nat → Int32} {a_climbed : Nat → Int32} {a_snow : Nat → Int32} {f_begun : Int32} {f_minute : Int32} {f_avalanches : Int32} {x1 : Int32} {post : (Nat → Int32) → (Nat → Int32) → (Nat → Int32) → (Nat → Int32) → (Int32) → (Int32) → (Int32) → Prop} (k_a_lands : mLand a_lands) (k_f_land : iv 0 1 f_land) (k_a_at : ∀ j, iv 0 8 (a_at j)) (k_a_knows : ∀ j, iv 0 31 (a_knows j)) (k_a_climbed : ∀ j, iv 0 1 (a_climbed j)) (k_f_begun : iv 0 31 f_begun) (hx1 : iv 0 9 x1) (hpost : ∀ (a_at : Nat → Int32) (a_knows : Nat → Int32) (a_climbed : Nat → Int32) (a_snow : Nat → Int32) (f_begun : Int32) (f_minute : Int32) (f_avalanches : Int32), (∀ j, iv 0 8 (a_at j)) → (∀ j, iv 0 31 (a_knows j)) → (∀ j, iv 0 1 (a_climbed j)) → (iv 0 0 f_begun) → (iv 0 0 f_minute) → (iv 0 0 f_avalanches) → post a_at a_knows a_climbed a_snow f_begun f_minute f_avalanches) : q_m_begin_51 a_lands f_land a_at a_knows a_climbed a_snow f_begun f_minute f_avalanches x1 post := by
  intro P hP
  have loop : ∀ (n : Nat) (x1 : Int32) (a_snow : Nat → Int32), (9 - x1.toInt < (n : Int)) → (iv 0 9 x1) → P x1 a_snow := by
    intro n
    induction n with
    | zero => intro x1 a_snow hm hx1; exact (ms0_up hm hx1).elim
    | succ n ih =>
      intro x1 a_snow hm hx1
      apply hP
      refine ⟨fun c1 => ?_, fun c1 => ?_⟩
      · skip
        exact hpost _ _ _ _ _ _ _ k_a_at k_a_knows k_a_climbed (iv_lit (l := 0) (h := 0) (by decide)) (iv_lit (l := 0) (h := 0) (by decide)) (iv_lit (l := 0) (h := 0) (by decide))
      · skip
        refine ⟨iv_in (iv_lta (l := 0) (h := 8) (r_nle c1) hx1 (iv_lit (l := 9) (h := 9) (by decide)) (by decide)) (by decide), ?_⟩
        intro a2 ea2
        intro w3 ew3
        have hw3 := iv_eq ew3 (iv_add (l := 1) (h := 9) (iv_lta (l := 0) (h := 8) (r_nle c1) hx1 (iv_lit (l := 9) (h := 9) (by decide)) (by decide)) (iv_lit (l := 1) (h := 1) (by decide)) (by decide))
        exact ih _ _ (ms_up hm (inc_lt ew3 (iv_lta (l := 0) (h := 8) (r_nle c1) hx1 (iv_lit (l := 9) (h := 9) (by decide)) (by decide)) (by decide))) (iv_w hw3 (by decide))
  exact loop _ _ _ (ms_init_up _ _) hx1
set_option maxRecDepth 20000 in
theorem s_m_begin_2 {a_lands : Nat → Int32} {f_land : Int32} {a_at : Nat → Int32} {a_knows : Nat → Int32} {a_climbed : Nat → Int32} {a_snow : Nat → Int32} {f_begun : Int32} {f_minute : Int32} {f_avalanches : Int32} {x1 : Int32} {post : (Nat → Int32) → (Nat → Int32) → (Nat → Int32) → (Nat → Int32) → (Int32) → (Int32) → (Int32) → Prop} (k_a_lands : mLand a_lands) (k_f_land : iv 0 1 f_land) (k_a_at : ∀ j, iv 0 8 (a_at j)) (k_a_knows : ∀ j, iv 0 31 (a_knows j)) (k_a_climbed : ∀ j, iv 0 1 (a_climbed j)) (k_f_begun : iv 0 31 f_begun) (hx1 : iv 0 6 x1) (hpost : ∀ (a_at : Nat → Int32) (a_knows : Nat → Int32) (a_climbed : Nat → Int32) (a_snow : Nat → Int32) (f_begun : Int32) (f_minute : Int32) (f_avalanches : Int32), (∀ j, iv 0 8 (a_at j)) → (∀ j, iv 0 31 (a_knows j)) → (∀ j, iv 0 1 (a_climbed j)) → (iv 0 0 f_begun) → (iv 0 0 f_minute) → (iv 0 0 f_avalanches) → post a_at a_knows a_climbed a_snow f_begun f_minute f_avalanches) : q_m_begin_2 a_lands f_land a_at a_knows a_climbed a_snow f_begun f_minute f_avalanches x1 post := by
  intro P hP
  have loop : ∀ (n : Nat) (x1 : Int32) (a_at : Nat → Int32) (a_knows : Nat → Int32) (a_climbed : Nat → Int32), (6 - x1.toInt < (n : Int)) → (iv 0 6 x1) → (∀ j, iv 0 8 (a_at j)) → (∀ j, iv 0 31 (a_knows j)) → (∀ j, iv 0 1 (a_climbed j)) → P x1 a_at a_knows a_climbed := by
    intro n
    induction n with
    | zero => intro x1 a_at a_knows a_climbed hm hx1 k_a_at k_a_knows k_a_climbed; exact (ms0_up hm hx1).elim
    | succ n ih =>
      intro x1 a_at a_knows a_climbed hm hx1 k_a_at k_a_knows k_a_climbed
      apply hP
      refine ⟨fun c1 => ?_, fun c1 => ?_⟩
      · skip
        exact s_m_begin_51 k_a_lands k_f_land k_a_at k_a_knows k_a_climbed k_f_begun (iv_w (iv_lit (l := 0) (h := 0) (by decide)) (by decide)) hpost
      · skip
        refine sp_of (a := 0) (b := 8) k_a_lands k_f_land (iv_add (l := 25) (h := 30) (iv_lit (l := 25) (h := 25) (by decide)) (iv_lta (l := 0) (h := 5) (r_nle c1) hx1 (iv_lit (l := 6) (h := 6) (by decide)) (by decide)) (by decide)) (by decide +kernel) (fun r2 hr2 er2 => ?_)
        refine ⟨iv_in (iv_lta (l := 0) (h := 5) (r_nle c1) hx1 (iv_lit (l := 6) (h := 6) (by decide)) (by decide)) (by decide), ?_⟩
        intro a3 ea3
        have k_a3 := iv_upd ea3 k_a_at hr2
        refine sp_of (a := 0) (b := 31) k_a_lands k_f_land (iv_add (l := 37) (h := 42) (iv_lit (l := 37) (h := 37) (by decide)) (iv_lta (l := 0) (h := 5) (r_nle c1) hx1 (iv_lit (l := 6) (h := 6) (by decide)) (by decide)) (by decide)) (by decide +kernel) (fun r4 hr4 er4 => ?_)
        refine ⟨iv_in (iv_lta (l := 0) (h := 5) (r_nle c1) hx1 (iv_lit (l := 6) (h := 6) (by decide)) (by decide)) (by decide), ?_⟩
        intro a5 ea5
        have k_a5 := iv_upd ea5 k_a_knows hr4
        refine ⟨iv_in (iv_lta (l := 0) (h := 5) (r_nle c1) hx1 (iv_lit (l := 6) (h := 6) (by decide)) (by decide)) (by decide), ?_⟩
        intro a6 ea6
        have k_a6 := iv_upd ea6 k_a_climbed (iv_w (iv_lit (l := 0) (h := 0) (by decide)) (by decide))
        intro w7 ew7
        have hw7 := iv_eq ew7 (iv_add (l := 1) (h := 6) (iv_lta (l := 0) (h := 5) (r_nle c1) hx1 (iv_lit (l := 6) (h := 6) (by decide)) (by decide)) (iv_lit (l := 1) (h := 1) (by decide)) (by decide))
        exact ih _ _ _ _ (ms_up hm (inc_lt ew7 (iv_lta (l := 0) (h := 5) (r_nle c1) hx1 (iv_lit (l := 6) (h := 6) (by decide)) (by decide)) (by decide))) (iv_w hw7 (by decide)) k_a3 k_a5 k_a6
  exact loop _ _ _ _ _ (ms_init_up _ _) hx1 k_a_at k_a_knows k_a_climbed
set_option maxRecDepth 20000 in
theorem s_m_begin_0 {a_lands : Nat → Int32} {f_land : Int32} {a_at : Nat → Int32} {a_knows : Nat → Int32} {a_climbed : Nat → Int32} {a_snow : Nat → Int32} {f_begun : Int32} {f_minute : Int32} {f_avalanches : Int32} {post : (Nat → Int32) → (Nat → Int32) → (Nat → Int32) → (Nat → Int32) → (Int32) → (Int32) → (Int32) → Prop} (k_a_lands : mLand a_lands) (k_f_land : iv 0 1 f_land) (k_a_at : ∀ j, iv 0 8 (a_at j)) (k_a_knows : ∀ j, iv 0 31 (a_knows j)) (k_a_climbed : ∀ j, iv 0 1 (a_climbed j)) (k_f_begun : iv 0 31 f_begun) (hpost : ∀ (a_at : Nat → Int32) (a_knows : Nat → Int32) (a_climbed : Nat → Int32) (a_snow : Nat → Int32) (f_begun : Int32) (f_minute : Int32) (f_avalanches : Int32), (∀ j, iv 0 8 (a_at j)) → (∀ j, iv 0 31 (a_knows j)) → (∀ j, iv 0 1 (a_climbed j)) → (iv 0 0 f_begun) → (iv 0 0 f_minute) → (iv 0 0 f_avalanches) → post a_at a_knows a_climbed a_snow f_begun f_minute f_avalanches) : q_m_begin_0 a_lands f_land a_at a_knows a_climbed a_snow f_begun f_minute f_avalanches post := by
  exact s_m_begin_2 k_a_lands k_f_land k_a_at k_a_knows k_a_climbed k_f_begun (iv_w (iv_lit (l := 0) (h := 0) (by decide)) (by decide)) hpost
-- m_hearing
set_option maxRecDepth 20000 in
theorem s_m_hearing_48 {P6 : Int32 → Int32 → Prop} {a_lands : Nat → Int32} {f_land : Int32} {x1 : Int32} {x3 : Int32} {y0 : Int32} {y1 : Int32} {post : Int32 → Prop} (k_a_lands : mLand a_lands) (k_f_land : iv 0 1 f_land) (hx1 : iv 0 8 x1) (hx3 : iv 0 3 x3) (hy0 : iv 0 511 y0) (hy1 : iv 0 256 y1) (m6 : Int) (hm6 : m6 ≤ x3.toInt) (hP6 : ∀ (x2 : Int32) (x3 : Int32), m6 < x3.toInt → iv 0 511 x2 → iv 0 4 x3 → P6 x2 x3) (hpost : ∀ (r : Int32), iv 0 511 r → post r) : q_m_hearing_48 P6 a_lands f_land x1 x3 y0 y1 post := by
  intro w1 ew1
  have hw1 := iv_eq ew1 (iv_or 9 (l := 0) (h := 511) hy0 hy1 (by decide))
  intro w2 ew2
  have hw2 := iv_eq ew2 (iv_add (l := 1) (h := 4) hx3 (iv_lit (l := 1) (h := 1) (by decide)) (by decide))
  exact hP6 _ _ (ml_up hm6 (inc_lt ew2 hx3 (by decide))) hw1 (iv_w hw2 (by decide))
set_option maxRecDepth 20000 in
theorem s_m_hearing_6 {a_lands : Nat → Int32} {f_land : Int32} {x1 : Int32} {x2 : Int32} {x3 : Int32} {post : Int32 → Prop} (k_a_lands : mLand a_lands) (k_f_land : iv 0 1 f_land) (hx1 : iv 0 8 x1) (hx2 : iv 0 511 x2) (hx3 : iv 0 4 x3) (hpost : ∀ (r : Int32), iv 0 511 r → post r) : q_m_hearing_6 a_lands f_land x1 x2 x3 post := by
  intro P hP
  have loop : ∀ (n : Nat) (x2 : Int32) (x3 : Int32), (4 - x3.toInt < (n : Int)) → (iv 0 511 x2) → (iv 0 4 x3) → P x2 x3 := by
    intro n
    induction n with
    | zero => intro x2 x3 hm hx2 hx3; exact (ms0_up hm hx3).elim
    | succ n ih =>
      intro x2 x3 hm hx2 hx3
      apply hP
      refine sp_of (a := 0) (b := 4) k_a_lands k_f_land (iv_lit (l := 4) (h := 4) (by decide)) (by decide +kernel) (fun r1 hr1 er1 => ?_)
      refine ⟨fun c2 => ?_, fun c2 => ?_⟩
      · skip
        refine sp_of (a := 0) (b := 511) k_a_lands k_f_land (iv_lit (l := 3) (h := 3) (by decide)) (by decide +kernel) (fun r3 hr3 er3 => ?_)
        exact hpost _ (iv_andl (l := 0) (h := 511) hx2 (by decide))
      · skip
        refine sp_of (a := 0) (b := 8) k_a_lands k_f_land (iv_add (l := 43) (h := 49) (iv_lit (l := 43) (h := 43) (by decide)) (iv_mul (l := 0) (h := 6) (iv_lit (l := 2) (h := 2) (by decide)) (iv_lta (l := 0) (h := 3) (r_nle c2) hx3 hr1 (by decide)) (by decide)) (by decide)) (by decide +kernel) (fun r4 hr4 er4 => ?_)
        refine ⟨fun c5 => ?_, fun c5 => ?_⟩
        · skip
          exact s_m_hearing_48 k_a_lands k_f_land hx1 (iv_lta (l := 0) (h := 3) (r_nle c2) hx3 hr1 (by decide)) hx2 (iv_w (iv_lit (l := 0) (h := 0) (by decide)) (by decide)) x3.toInt (Int.le_refl _) (fun u0 u1 hq g0 g1 => ih u0 u1 (ms_up hm hq) g0 g1) hpost
        · skip
          refine sp_of (a := 0) (b := 8) k_a_lands k_f_land (iv_add (l := 44) (h := 50) (iv_add (l := 43) (h := 49) (iv_lit (l := 43) (h := 43) (by decide)) (iv_mul (l := 0) (h := 6) (iv_lit (l := 2) (h := 2) (by decide)) (iv_lta (l := 0) (h := 3) (r_nle c2) hx3 hr1 (by decide)) (by decide)) (by decide)) (iv_lit (l := 1) (h := 1) (by decide)) (by decide)) (by decide +kernel) (fun r6 hr6 er6 => ?_)
          exact s_m_hearing_48 k_a_lands k_f_land hx1 (iv_lta (l := 0) (h := 3) (r_nle c2) hx3 hr1 (by decide)) hx2 (iv_w (iv_shl1 (l := 1) (h := 256) (iv_lit (l := 1) (h := 1) (by decide)) hr6 (by decide)) (by decide)) x3.toInt (Int.le_refl _) (fun u0 u1 hq g0 g1 => ih u0 u1 (ms_up hm hq) g0 g1) hpost
  exact loop _ _ _ (ms_init_up _ _) hx2 hx3
set_option maxRecDepth 20000 in
theorem s_m_hearing_0 {a_lands : Nat → Int32} {f_land : Int32} {x1 : Int32} {post : Int32 → Prop} (k_a_lands : mLand a_lands) (k_f_land : iv 0 1 f_land) (hx1 : iv 0 8 x1) (hpost : ∀ (r : Int32), iv 0 511 r → post r) : q_m_hearing_0 a_lands f_land x1 post := by
  intro w1 ew1
  have hw1 := iv_eq ew1 (iv_shl1 (l := 1) (h := 256) (iv_lit (l := 1) (h := 1) (by decide)) hx1 (by decide))
  exact s_m_hearing_6 k_a_lands k_f_land hx1 (iv_w hw1 (by decide)) (iv_w (iv_lit (l := 0) (h := 0) (by decide)) (by decide)) hpost
-- m_sounds
set_option maxRecDepth 20000 in
theorem s_m_sounds_75 {P37 : Int32 → (Nat → Int32) → Prop} {a_lands : Nat → Int32} {f_land : Int32} {f_singers : Int32} {a_at : Nat → Int32} {a_knows : Nat → Int32} {a_climbed : Nat → Int32} {a_level : Nat → Int32} {f_begun : Int32} {x2 : Int32} {x3 : Int32} {x4 : Int32} {y0 : Int32} {y1 : Int32} {y2 : Int32} {post : (Nat → Int32) → (Nat → Int32) → (Int32) → Prop} (k_a_lands : mLand a_lands) (k_f_land : iv 0 1 f_land) (k_f_singers : iv 1 6 f_singers) (k_a_at : ∀ j, iv 0 8 (a_at j)) (k_a_knows : ∀ j, iv 0 31 (a_knows j)) (k_a_climbed : ∀ j, iv 0 1 (a_climbed j)) (k_a_level : ∀ j, iv (-9) 108 (a_level j)) (k_f_begun : iv 0 31 f_begun) (hx2 : iv 0 4 x2) (hx3 : iv 0 511 x3) (hx4 : iv 0 5 x4) (hy0 : iv 0 5 y0) (hy1 : iv 0 31 y1) (hy2 : iv 0 16 y2) (m37 : Int) (hm37 : m37 ≤ x4.toInt) (hP37 : ∀ (x4 : Int32) (a_knows : Nat → Int32), m37 < x4.toInt → iv 0 6 x4 → (∀ j, iv 0 31 (a_knows j)) → P37 x4 a_knows) (hpost : ∀ (a_knows : Nat → Int32) (a_level : Nat → Int32) (f_begun : Int32), (∀ j, iv 0 31 (a_knows j)) → (∀ j, iv (-9) 108 (a_level j)) → (iv 0 31 f_begun) → post a_knows a_level f_begun) : q_m_sounds_75 P37 a_lands f_land f_singers a_at a_knows a_climbed a_level f_begun x2 x3 x4 y0 y1 y2 post := by
  intro w1 ew1
  have hw1 := iv_eq ew1 (iv_or 5 (l := 0) (h := 31) hy1 hy2 (by decide))
  refine ⟨iv_in hy0 (by decide), ?_⟩
  intro a2 ea2
  have k_a2 := iv_upd ea2 k_a_knows hw1
  intro w3 ew3
  have hw3 := iv_eq ew3 (iv_add (l := 1) (h := 6) hx4 (iv_lit (l := 1) (h := 1) (by decide)) (by decide))
  exact hP37 _ _ (ml_up hm37 (inc_lt ew3 hx4 (by decide))) (iv_w hw3 (by decide)) k_a2
set_option maxRecDepth 20000 in
theorem s_m_sounds_37 {a_lands : Nat → Int32} {f_land : Int32} {f_singers : Int32} {a_at : Nat → Int32} {a_knows : Nat → Int32} {a_climbed : Nat → Int32} {a_level : Nat → Int32} {f_begun : Int32} {x2 : Int32} {x3 : Int32} {x4 : Int32} {post : (Nat → Int32) → (Nat → Int32) → (Int32) → Prop} (k_a_lands : mLand a_lands) (k_f_land : iv 0 1 f_land) (k_f_singers : iv 0 6 f_singers) (k_a_at : ∀ j, iv 0 8 (a_at j)) (k_a_knows : ∀ j, iv 0 31 (a_knows j)) (k_a_climbed : ∀ j, iv 0 1 (a_climbed j)) (k_a_level : ∀ j, iv (-9) 108 (a_level j)) (k_f_begun : iv 0 31 f_begun) (hx2 : iv 0 4 x2) (hx3 : iv 0 511 x3) (hx4 : iv 0 6 x4) (hpost : ∀ (a_knows : Nat → Int32) (a_level : Nat → Int32) (f_begun : Int32), (∀ j, iv 0 31 (a_knows j)) → (∀ j, iv (-9) 108 (a_level j)) → (iv 0 31 f_begun) → post a_knows a_level f_begun) : q_m_sounds_37 a_lands f_land f_singers a_at a_knows a_climbed a_level f_begun x2 x3 x4 post := by
  intro P hP
  have loop : ∀ (n : Nat) (x4 : Int32) (a_knows : Nat → Int32), (6 - x4.toInt < (n : Int)) → (iv 0 6 x4) → (∀ j, iv 0 31 (a_knows j)) → P x4 a_knows := by
    intro n
    induction n with
    | zero => intro x4 a_knows hm hx4 k_a_knows; exact (ms0_up hm hx4).elim
    | succ n ih =>
      intro x4 a_knows hm hx4 k_a_knows
      apply hP
      refine ⟨fun c1 => ?_, fun c1 => ?_⟩
      · skip
        exact hpost _ _ _ k_a_knows k_a_level k_f_begun
      · skip
        refine ⟨iv_in (iv_lta (l := 0) (h := 5) (r_nle c1) hx4 k_f_singers (by decide)) (by decide), ?_⟩
        refine ⟨iv_in (iv_lta (l := 0) (h := 5) (r_nle c1) hx4 k_f_singers (by decide)) (by decide), ?_⟩
        refine ⟨fun c2 => ?_, fun c2 => ?_⟩
        · skip
          refine ⟨fun c3 => ?_, fun c3 => ?_⟩
          · skip
            exact s_m_sounds_75 k_a_lands k_f_land (iv_ltb (l := 1) (h := 6) (r_nle c1) hx4 k_f_singers (by decide)) k_a_at k_a_knows k_a_climbed k_a_level k_f_begun hx2 hx3 (iv_lta (l := 0) (h := 5) (r_nle c1) hx4 k_f_singers (by decide)) (iv_lta (l := 0) (h := 5) (r_nle c1) hx4 k_f_singers (by decide)) (k_a_knows _) (iv_w (iv_lit (l := 0) (h := 0) (by decide)) (by decide)) x4.toInt (Int.le_refl _) (fun u0 u1 hq g0 g1 => ih u0 u1 (ms_up hm hq) g0 g1) hpost
          · skip
            exact (iv_emp (iv_ne (l := 1) (h := 0) c3 (iv_lit (l := 0) (h := 0) (by decide)) (iv_lit (l := 0) (h := 0) (by decide)) (by decide)) (by decide)).elim
        · skip
          refine ⟨fun c4 => ?_, fun c4 => ?_⟩
          · skip
            exact (iv_emp (iv_eqa (l := 1) (h := 0) c4 (iv_lit (l := 1) (h := 1) (by decide)) (iv_lit (l := 0) (h := 0) (by decide)) (by decide)) (by decide)).elim
          · skip
            exact s_m_sounds_75 k_a_lands k_f_land (iv_ltb (l := 1) (h := 6) (r_nle c1) hx4 k_f_singers (by decide)) k_a_at k_a_knows k_a_climbed k_a_level k_f_begun hx2 hx3 (iv_lta (l := 0) (h := 5) (r_nle c1) hx4 k_f_singers (by decide)) (iv_lta (l := 0) (h := 5) (r_nle c1) hx4 k_f_singers (by decide)) (k_a_knows _) (iv_w (iv_shl1 (l := 1) (h := 16) (iv_lit (l := 1) (h := 1) (by decide)) hx2 (by decide)) (by decide)) x4.toInt (Int.le_refl _) (fun u0 u1 hq g0 g1 => ih u0 u1 (ms_up hm hq) g0 g1) hpost
  exact loop _ _ _ (ms_init_up _ _) hx4 k_a_knows
set_option maxRecDepth 20000 in
theorem s_m_sounds_0 {a_lands : Nat → Int32} {f_land : Int32} {f_singers : Int32} {a_at : Nat → Int32} {a_knows : Nat → Int32} {a_climbed : Nat → Int32} {a_level : Nat → Int32} {f_begun : Int32} {x1 : Int32} {x2 : Int32} {post : (Nat → Int32) → (Nat → Int32) → (Int32) → Prop} (k_a_lands : mLand a_lands) (k_f_land : iv 0 1 f_land) (k_f_singers : iv 0 6 f_singers) (k_a_at : ∀ j, iv 0 8 (a_at j)) (k_a_knows : ∀ j, iv 0 31 (a_knows j)) (k_a_climbed : ∀ j, iv 0 1 (a_climbed j)) (k_a_level : ∀ j, iv (-9) 108 (a_level j)) (k_f_begun : iv 0 31 f_begun) (hx1 : iv 0 5 x1) (hx2 : iv 0 4 x2) (hpost : ∀ (a_knows : Nat → Int32) (a_level : Nat → Int32) (f_begun : Int32), (∀ j, iv 0 31 (a_knows j)) → (∀ j, iv (-9) 108 (a_level j)) → (iv 0 31 f_begun) → post a_knows a_level f_begun) : q_m_sounds_0 a_lands f_land f_singers a_at a_knows a_climbed a_level f_begun x1 x2 post := by
  refine ⟨iv_in hx1 (by decide), ?_⟩
  refine s_m_hearing_0 k_a_lands k_f_land (k_a_at _) (fun r1 hr1 => ?_)
  refine ⟨iv_in hx1 (by decide), ?_⟩
  refine sp_of (a := 0) (b := 99) k_a_lands k_f_land (iv_add (l := 7) (h := 15) (iv_lit (l := 7) (h := 7) (by decide)) (k_a_at _) (by decide)) (by decide +kernel) (fun r2 hr2 er2 => ?_)
  refine sp_of (a := 0) (b := 9) k_a_lands k_f_land (iv_add (l := 31) (h := 36) (iv_lit (l := 31) (h := 31) (by decide)) hx1 (by decide)) (by decide +kernel) (fun r3 hr3 er3 => ?_)
  refine ⟨iv_in hx1 (by decide), ?_⟩
  refine ⟨iv_in hx1 (by decide), ?_⟩
  refine sp_of (a := 0) (b := 9) k_a_lands k_f_land (iv_add (l := 16) (h := 24) (iv_lit (l := 16) (h := 16) (by decide)) (k_a_at _) (by decide)) (by decide +kernel) (fun r4 hr4 er4 => ?_)
  refine ⟨iv_in hx2 (by decide), ?_⟩
  intro a5 ea5
  have k_a5 := iv_upd ea5 k_a_level (iv_add (l := (-9)) (h := 108) (iv_sub (l := (-9)) (h := 99) hr2 hr3 (by decide)) (iv_mul (l := 0) (h := 9) (k_a_climbed _) hr4 (by decide)) (by decide))
  intro w6 ew6
  have hw6 := iv_eq ew6 (iv_or 5 (l := 0) (h := 31) k_f_begun (iv_shl1 (l := 1) (h := 16) (iv_lit (l := 1) (h := 1) (by decide)) hx2 (by decide)) (by decide))
  exact s_m_sounds_37 k_a_lands k_f_land k_f_singers k_a_at k_a_knows k_a_climbed k_a5 hw6 hx2 hr1 (iv_w (iv_lit (l := 0) (h := 0) (by decide)) (by decide)) hpost
-- m_sings
set_option maxRecDepth 20000 in
theorem s_m_sings_78 {a_lands : Nat → Int32} {f_land : Int32} {f_singers : Int32} {a_at : Nat → Int32} {a_knows : Nat → Int32} {a_climbed : Nat → Int32} {a_snow : Nat → Int32} {a_level : Nat → Int32} {f_begun : Int32} {f_avalanches : Int32} {x1 : Int32} {x2 : Int32} {y0 : Int32} {y1 : Int32} {post : (Nat → Int32) → (Nat → Int32) → (Nat → Int32) → (Int32) → (Int32) → Prop} (k_a_lands : mLand a_lands) (k_f_land : iv 0 1 f_land) (k_f_singers : iv 0 6 f_singers) (k_a_at : ∀ j, iv 0 8 (a_at j)) (k_a_knows : ∀ j, iv 0 31 (a_knows j)) (k_a_climbed : ∀ j, iv 0 1 (a_climbed j)) (k_a_level : ∀ j, iv (-9) 108 (a_level j)) (k_f_begun : iv 0 31 f_begun) (hx1 : iv 0 5 x1) (hx2 : iv 0 4 x2) (hy1 : iv 0 1 y1) (hpost : ∀ (a_knows : Nat → Int32) (a_snow : Nat → Int32) (a_level : Nat → Int32) (f_begun : Int32) (f_avalanches : Int32), (∀ j, iv 0 31 (a_knows j)) → (∀ j, iv (-9) 108 (a_level j)) → (iv 0 31 f_begun) → post a_knows a_snow a_level f_begun f_avalanches) : q_m_sings_78 a_lands f_land f_singers a_at a_knows a_climbed a_snow a_level f_begun f_avalanches x1 x2 y0 y1 post := by
  intro w1 ew1
  refine s_m_sounds_0 k_a_lands k_f_land k_f_singers k_a_at k_a_knows k_a_climbed k_a_level k_f_begun hx1 hx2 (fun o2 o3 o4 k_o2 k_o3 k_o4 => ?_)
  exact hpost _ _ _ _ _ k_o2 k_o3 k_o4
set_option maxRecDepth 20000 in
theorem s_m_sings_61 {a_lands : Nat → Int32} {f_land : Int32} {f_singers : Int32} {a_at : Nat → Int32} {a_knows : Nat → Int32} {a_climbed : Nat → Int32} {a_snow : Nat → Int32} {a_level : Nat → Int32} {f_begun : Int32} {f_avalanches : Int32} {x1 : Int32} {x2 : Int32} {x4 : Int32} {y0 : Int32} {y1 : Int32} {y2 : Int32} {post : (Nat → Int32) → (Nat → Int32) → (Nat → Int32) → (Int32) → (Int32) → Prop} (k_a_lands : mLand a_lands) (k_f_land : iv 0 1 f_land) (k_f_singers : iv 0 6 f_singers) (k_a_at : ∀ j, iv 0 8 (a_at j)) (k_a_knows : ∀ j, iv 0 31 (a_knows j)) (k_a_climbed : ∀ j, iv 0 1 (a_climbed j)) (k_a_level : ∀ j, iv (-9) 108 (a_level j)) (k_f_begun : iv 0 31 f_begun) (hx1 : iv 0 5 x1) (hx2 : iv 0 4 x2) (hx4 : iv 0 1 x4) (hy0 : iv 0 8 y0) (hy2 : iv 0 1 y2) (hpost : ∀ (a_knows : Nat → Int32) (a_snow : Nat → Int32) (a_level : Nat → Int32) (f_begun : Int32) (f_avalanches : Int32), (∀ j, iv 0 31 (a_knows j)) → (∀ j, iv (-9) 108 (a_level j)) → (iv 0 31 f_begun) → post a_knows a_snow a_level f_begun f_avalanches) : q_m_sings_61 a_lands f_land f_singers a_at a_knows a_climbed a_snow a_level f_begun f_avalanches x1 x2 x4 y0 y1 y2 post := by
  intro w1 ew1
  refine ⟨iv_in hy0 (by decide), ?_⟩
  intro a2 ea2
  refine ⟨fun c3 => ?_, fun c3 => ?_⟩
  · skip
    exact s_m_sings_78 k_a_lands k_f_land k_f_singers k_a_at k_a_knows k_a_climbed k_a_level k_f_begun hx1 hx2 (iv_w (iv_lit (l := 0) (h := 0) (by decide)) (by decide)) hpost
  · skip
    exact s_m_sings_78 k_a_lands k_f_land k_f_singers k_a_at k_a_knows k_a_climbed k_a_level k_f_begun hx1 hx2 (iv_w (iv_lit (l := 1) (h := 1) (by decide)) (by decide)) hpost
set_option maxRecDepth 20000 in
theorem s_m_sings_37 {a_lands : Nat → Int32} {f_land : Int32} {f_singers : Int32} {a_at : Nat → Int32} {a_knows : Nat → Int32} {a_climbed : Nat → Int32} {a_snow : Nat → Int32} {a_level : Nat → Int32} {f_begun : Int32} {f_avalanches : Int32} {x1 : Int32} {x2 : Int32} {y0 : Int32} {post : (Nat → Int32) → (Nat → Int32) → (Nat → Int32) → (Int32) → (Int32) → Prop} (k_a_lands : mLand a_lands) (k_f_land : iv 0 1 f_land) (k_f_singers : iv 0 6 f_singers) (k_a_at : ∀ j, iv 0 8 (a_at j)) (k_a_knows : ∀ j, iv 0 31 (a_knows j)) (k_a_climbed : ∀ j, iv 0 1 (a_climbed j)) (k_a_level : ∀ j, iv (-9) 108 (a_level j)) (k_f_begun : iv 0 31 f_begun) (hx1 : iv 0 5 x1) (hx2 : iv 0 4 x2) (hy0 : iv 0 1 y0) (hpost : ∀ (a_knows : Nat → Int32) (a_snow : Nat → Int32) (a_level : Nat → Int32) (f_begun : Int32) (f_avalanches : Int32), (∀ j, iv 0 31 (a_knows j)) → (∀ j, iv (-9) 108 (a_level j)) → (iv 0 31 f_begun) → post a_knows a_snow a_level f_begun f_avalanches) : q_m_sings_37 a_lands f_land f_singers a_at a_knows a_climbed a_snow a_level f_begun f_avalanches x1 x2 y0 post := by
  refine ⟨iv_in hx1 (by decide), ?_⟩
  refine ⟨iv_in (k_a_at _) (by decide), ?_⟩
  refine ⟨fun c1 => ?_, fun c1 => ?_⟩
  · skip
    exact s_m_sings_61 k_a_lands k_f_land k_f_singers k_a_at k_a_knows k_a_climbed k_a_level k_f_begun hx1 hx2 (iv_w (iv_eqa (l := 0) (h := 0) c1 hy0 (iv_lit (l := 0) (h := 0) (by decide)) (by decide)) (by decide)) (k_a_at _) (iv_w (iv_lit (l := 0) (h := 0) (by decide)) (by decide)) hpost
  · skip
    exact s_m_sings_61 k_a_lands k_f_land k_f_singers k_a_at k_a_knows k_a_climbed k_a_level k_f_begun hx1 hx2 (iv_w (iv_ne (l := 1) (h := 1) c1 hy0 (iv_lit (l := 0) (h := 0) (by decide)) (by decide)) (by decide)) (k_a_at _) (iv_w (iv_lit (l := 1) (h := 1) (by decide)) (by decide)) hpost
set_option maxRecDepth 20000 in
theorem s_m_sings_32 {a_lands : Nat → Int32} {f_land : Int32} {f_singers : Int32} {a_at : Nat → Int32} {a_knows : Nat → Int32} {a_climbed : Nat → Int32} {a_snow : Nat → Int32} {a_level : Nat → Int32} {f_begun : Int32} {f_avalanches : Int32} {x1 : Int32} {x2 : Int32} {post : (Nat → Int32) → (Nat → Int32) → (Nat → Int32) → (Int32) → (Int32) → Prop} (k_a_lands : mLand a_lands) (k_f_land : iv 0 1 f_land) (k_f_singers : iv 0 6 f_singers) (k_a_at : ∀ j, iv 0 8 (a_at j)) (k_a_knows : ∀ j, iv 0 31 (a_knows j)) (k_a_climbed : ∀ j, iv 0 1 (a_climbed j)) (k_a_level : ∀ j, iv (-9) 108 (a_level j)) (k_f_begun : iv 0 31 f_begun) (hx1 : iv 0 5 x1) (hx2 : iv 0 4 x2) (hpost : ∀ (a_knows : Nat → Int32) (a_snow : Nat → Int32) (a_level : Nat → Int32) (f_begun : Int32) (f_avalanches : Int32), (∀ j, iv 0 31 (a_knows j)) → (∀ j, iv (-9) 108 (a_level j)) → (iv 0 31 f_begun) → post a_knows a_snow a_level f_begun f_avalanches) : q_m_sings_32 a_lands f_land f_singers a_at a_knows a_climbed a_snow a_level f_begun f_avalanches x1 x2 post := by
  exact s_m_sings_37 k_a_lands k_f_land k_f_singers k_a_at k_a_knows k_a_climbed k_a_level k_f_begun hx1 hx2 (iv_w (iv_lit (l := 1) (h := 1) (by decide)) (by decide)) hpost
set_option maxRecDepth 20000 in
theorem s_m_sings_36 {a_lands : Nat → Int32} {f_land : Int32} {f_singers : Int32} {a_at : Nat → Int32} {a_knows : Nat → Int32} {a_climbed : Nat → Int32} {a_snow : Nat → Int32} {a_level : Nat → Int32} {f_begun : Int32} {f_avalanches : Int32} {x1 : Int32} {x2 : Int32} {post : (Nat → Int32) → (Nat → Int32) → (Nat → Int32) → (Int32) → (Int32) → Prop} (k_a_lands : mLand a_lands) (k_f_land : iv 0 1 f_land) (k_f_singers : iv 0 6 f_singers) (k_a_at : ∀ j, iv 0 8 (a_at j)) (k_a_knows : ∀ j, iv 0 31 (a_knows j)) (k_a_climbed : ∀ j, iv 0 1 (a_climbed j)) (k_a_level : ∀ j, iv (-9) 108 (a_level j)) (k_f_begun : iv 0 31 f_begun) (hx1 : iv 0 5 x1) (hx2 : iv 0 4 x2) (hpost : ∀ (a_knows : Nat → Int32) (a_snow : Nat → Int32) (a_level : Nat → Int32) (f_begun : Int32) (f_avalanches : Int32), (∀ j, iv 0 31 (a_knows j)) → (∀ j, iv (-9) 108 (a_level j)) → (iv 0 31 f_begun) → post a_knows a_snow a_level f_begun f_avalanches) : q_m_sings_36 a_lands f_land f_singers a_at a_knows a_climbed a_snow a_level f_begun f_avalanches x1 x2 post := by
  exact s_m_sings_37 k_a_lands k_f_land k_f_singers k_a_at k_a_knows k_a_climbed k_a_level k_f_begun hx1 hx2 (iv_w (iv_lit (l := 0) (h := 0) (by decide)) (by decide)) hpost
set_option maxRecDepth 20000 in
theorem s_m_sings_0 {a_lands : Nat → Int32} {f_land : Int32} {f_singers : Int32} {a_at : Nat → Int32} {a_knows : Nat → Int32} {a_climbed : Nat → Int32} {a_snow : Nat → Int32} {a_level : Nat → Int32} {f_begun : Int32} {f_avalanches : Int32} {x1 : Int32} {x2 : Int32} {x3 : Int32} {post : (Nat → Int32) → (Nat → Int32) → (Nat → Int32) → (Int32) → (Int32) → Prop} (k_a_lands : mLand a_lands) (k_f_land : iv 0 1 f_land) (k_f_singers : iv 0 6 f_singers) (k_a_at : ∀ j, iv 0 8 (a_at j)) (k_a_knows : ∀ j, iv 0 31 (a_knows j)) (k_a_climbed : ∀ j, iv 0 1 (a_climbed j)) (k_a_level : ∀ j, iv (-9) 108 (a_level j)) (k_f_begun : iv 0 31 f_begun) (hx1 : iv 0 5 x1) (hx2 : iv 0 4 x2) (hx3 : iv 0 1 x3) (hpost : ∀ (a_knows : Nat → Int32) (a_snow : Nat → Int32) (a_level : Nat → Int32) (f_begun : Int32) (f_avalanches : Int32), (∀ j, iv 0 31 (a_knows j)) → (∀ j, iv (-9) 108 (a_level j)) → (iv 0 31 f_begun) → post a_knows a_snow a_level f_begun f_avalanches) : q_m_sings_0 a_lands f_land f_singers a_at a_knows a_climbed a_snow a_level f_begun f_avalanches x1 x2 x3 post := by
  refine ⟨iv_in hx1 (by decide), ?_⟩
  refine sp_of (a := 0) (b := 99) k_a_lands k_f_land (iv_add (l := 7) (h := 15) (iv_lit (l := 7) (h := 7) (by decide)) (k_a_at _) (by decide)) (by decide +kernel) (fun r1 hr1 er1 => ?_)
  refine sp_of (a := 0) (b := 9) k_a_lands k_f_land (iv_add (l := 31) (h := 36) (iv_lit (l := 31) (h := 31) (by decide)) hx1 (by decide)) (by decide +kernel) (fun r2 hr2 er2 => ?_)
  refine ⟨iv_in hx1 (by decide), ?_⟩
  refine ⟨iv_in hx1 (by decide), ?_⟩
  refine sp_of (a := 0) (b := 9) k_a_lands k_f_land (iv_add (l := 16) (h := 24) (iv_lit (l := 16) (h := 16) (by decide)) (k_a_at _) (by decide)) (by decide +kernel) (fun r3 hr3 er3 => ?_)
  refine ⟨iv_in hx2 (by decide), ?_⟩
  refine ⟨fun c4 => ?_, fun c4 => ?_⟩
  · skip
    exact s_m_sings_32 k_a_lands k_f_land k_f_singers k_a_at k_a_knows k_a_climbed k_a_level k_f_begun hx1 hx2 hpost
  · skip
    refine ⟨fun c5 => ?_, fun c5 => ?_⟩
    · skip
      exact s_m_sings_36 k_a_lands k_f_land k_f_singers k_a_at k_a_knows k_a_climbed k_a_level k_f_begun hx1 hx2 hpost
    · skip
      refine ⟨iv_in hx1 (by decide), ?_⟩
      refine sp_of (a := 0) (b := 99) k_a_lands k_f_land (iv_add (l := 7) (h := 15) (iv_lit (l := 7) (h := 7) (by decide)) (k_a_at _) (by decide)) (by decide +kernel) (fun r6 hr6 er6 => ?_)
      refine sp_of (a := 0) (b := 9) k_a_lands k_f_land (iv_add (l := 31) (h := 36) (iv_lit (l := 31) (h := 31) (by decide)) hx1 (by decide)) (by decide +kernel) (fun r7 hr7 er7 => ?_)
      refine ⟨iv_in hx1 (by decide), ?_⟩
      refine ⟨iv_in hx1 (by decide), ?_⟩
      refine sp_of (a := 0) (b := 9) k_a_lands k_f_land (iv_add (l := 16) (h := 24) (iv_lit (l := 16) (h := 16) (by decide)) (k_a_at _) (by decide)) (by decide +kernel) (fun r8 hr8 er8 => ?_)
      refine ⟨iv_in hx2 (by decide), ?_⟩
      refine ⟨fun c9 => ?_, fun c9 => ?_⟩
      · skip
        exact s_m_sings_36 k_a_lands k_f_land k_f_singers k_a_at k_a_knows k_a_climbed k_a_level k_f_begun hx1 hx2 hpost
      · skip
        exact s_m_sings_32 k_a_lands k_f_land k_f_singers k_a_at k_a_knows k_a_climbed k_a_level k_f_begun hx1 hx2 hpost
-- m_does
set_option maxRecDepth 20000 in
theorem s_m_does_112 {a_lands : Nat → Int32} {a_evenings : Nat → Int32} {f_land : Int32} {f_huts : Int32} {f_singers : Int32} {f_evening : Int32} {a_at : Nat → Int32} {a_knows : Nat → Int32} {a_climbed : Nat → Int32} {a_snow : Nat → Int32} {a_level : Nat → Int32} {f_begun : Int32} {f_minute : Int32} {f_avalanches : Int32} {y0 : Int32} {y1 : Int32} {y2 : Int32} {post : Int32 → (Nat → Int32) → (Nat → Int32) → (Nat → Int32) → (Nat → Int32) → (Nat → Int32) → (Int32) → (Int32) → (Int32) → Prop} (k_a_lands : mLand a_lands) (k_a_evenings : mEve a_evenings) (k_f_land : iv 0 1 f_land) (k_f_huts : iv 0 9 f_huts) (k_f_singers : iv 0 6 f_singers) (k_f_evening : iv 0 1 f_evening) (k_a_at : ∀ j, iv 0 8 (a_at j)) (k_a_knows : ∀ j, iv 0 31 (a_knows j)) (k_a_climbed : ∀ j, iv 0 1 (a_climbed j)) (k_a_level : ∀ j, iv (-9) 108 (a_level j)) (k_f_begun : iv 0 31 f_begun) (hy0 : iv 0 5 y0) (hy1 : iv 0 4 y1) (hy2 : iv 0 1 y2) (hpost : ∀ (r : Int32) (a_at : Nat → Int32) (a_knows : Nat → Int32) (a_climbed : Nat → Int32) (a_snow : Nat → Int32) (a_level : Nat → Int32) (f_begun : Int32) (f_minute : Int32) (f_avalanches : Int32), iv 0 1 r → (∀ j, iv 0 8 (a_at j)) → (∀ j, iv 0 31 (a_knows j)) → (∀ j, iv 0 1 (a_climbed j)) → (∀ j, iv (-9) 108 (a_level j)) → (iv 0 31 f_begun) → post r a_at a_knows a_climbed a_snow a_level f_begun f_minute f_avalanches) : q_m_does_112 a_lands a_evenings f_land f_huts f_singers f_evening a_at a_knows a_climbed a_snow a_level f_begun f_minute f_avalanches y0 y1 y2 post := by
  refine s_m_sings_0 k_a_lands k_f_land k_f_singers k_a_at k_a_knows k_a_climbed k_a_level k_f_begun hy0 hy1 hy2 (fun o1 o2 o3 o4 o5 k_o1 k_o3 k_o4 => ?_)
  exact hpost _ _ _ _ _ _ _ _ _ (iv_w (iv_lit (l := 1) (h := 1) (by decide)) (by decide)) k_a_at k_o1 k_a_climbed k_o3 k_o4
set_option maxRecDepth 20000 in
theorem s_m_does_83 {a_lands : Nat → Int32} {a_evenings : Nat → Int32} {f_land : Int32} {f_huts : Int32} {f_singers : Int32} {f_evening : Int32} {a_at : Nat → Int32} {a_knows : Nat → Int32} {a_climbed : Nat → Int32} {a_snow : Nat → Int32} {a_level : Nat → Int32} {f_begun : Int32} {f_minute : Int32} {f_avalanches : Int32} {x1 : Int32} {x2 : Int32} {x3 : Int32} {post : Int32 → (Nat → Int32) → (Nat → Int32) → (Nat → Int32) → (Nat → Int32) → (Nat → Int32) → (Int32) → (Int32) → (Int32) → Prop} (k_a_lands : mLand a_lands) (k_a_evenings : mEve a_evenings) (k_f_land : iv 0 1 f_land) (k_f_huts : iv 0 9 f_huts) (k_f_singers : iv 0 6 f_singers) (k_f_evening : iv 0 1 f_evening) (k_a_at : ∀ j, iv 0 8 (a_at j)) (k_a_knows : ∀ j, iv 0 31 (a_knows j)) (k_a_climbed : ∀ j, iv 0 1 (a_climbed j)) (k_a_level : ∀ j, iv (-9) 108 (a_level j)) (k_f_begun : iv 0 31 f_begun) (hx1 : iv 0 39 x1) (hx2 : iv 0 5 x2) (hx3 : iv (-1) 8 x3) (hpost : ∀ (r : Int32) (a_at : Nat → Int32) (a_knows : Nat → Int32) (a_climbed : Nat → Int32) (a_snow : Nat → Int32) (a_level : Nat → Int32) (f_begun : Int32) (f_minute : Int32) (f_avalanches : Int32), iv 0 1 r → (∀ j, iv 0 8 (a_at j)) → (∀ j, iv 0 31 (a_knows j)) → (∀ j, iv 0 1 (a_climbed j)) → (∀ j, iv (-9) 108 (a_level j)) → (iv 0 31 f_begun) → post r a_at a_knows a_climbed a_snow a_level f_begun f_minute f_avalanches) : q_m_does_83 a_lands a_evenings f_land f_huts f_singers f_evening a_at a_knows a_climbed a_snow a_level f_begun f_minute f_avalanches x1 x2 x3 post := by
  refine ⟨iv_in hx2 (by decide), ?_⟩
  refine ⟨fun c1 => ?_, fun c1 => ?_⟩
  · skip
    refine ⟨fun c2 => ?_, fun c2 => ?_⟩
    · skip
      refine ⟨fun c3 => ?_, fun c3 => ?_⟩
      · skip
        exact (iv_emp (iv_ne (l := 1) (h := 0) c3 (iv_lit (l := 0) (h := 0) (by decide)) (iv_lit (l := 0) (h := 0) (by decide)) (by decide)) (by decide)).elim
      · skip
        exact hpost _ _ _ _ _ _ _ _ _ (iv_w (iv_lit (l := 0) (h := 0) (by decide)) (by decide)) k_a_at k_a_knows k_a_climbed k_a_level k_f_begun
    · skip
      exact (iv_emp (iv_ne (l := 1) (h := 0) c2 (iv_lit (l := 0) (h := 0) (by decide)) (iv_lit (l := 0) (h := 0) (by decide)) (by decide)) (by decide)).elim
  · skip
    refine ⟨fun c4 => ?_, fun c4 => ?_⟩
    · skip
      exact (iv_emp (iv_eqa (l := 1) (h := 0) c4 (iv_lit (l := 1) (h := 1) (by decide)) (iv_lit (l := 0) (h := 0) (by decide)) (by decide)) (by decide)).elim
    · skip
      refine ⟨fun c5 => ?_, fun c5 => ?_⟩
      · skip
        refine ⟨fun c6 => ?_, fun c6 => ?_⟩
        · skip
          refine ⟨fun c7 => ?_, fun c7 => ?_⟩
          · skip
            exact (iv_emp (iv_ne (l := 1) (h := 0) c7 (iv_lit (l := 0) (h := 0) (by decide)) (iv_lit (l := 0) (h := 0) (by decide)) (by decide)) (by decide)).elim
          · skip
            exact hpost _ _ _ _ _ _ _ _ _ (iv_w (iv_lit (l := 0) (h := 0) (by decide)) (by decide)) k_a_at k_a_knows k_a_climbed k_a_level k_f_begun
        · skip
          exact (iv_emp (iv_ne (l := 1) (h := 0) c6 (iv_lit (l := 0) (h := 0) (by decide)) (iv_lit (l := 0) (h := 0) (by decide)) (by decide)) (by decide)).elim
      · skip
        refine ⟨fun c8 => ?_, fun c8 => ?_⟩
        · skip
          exact (iv_emp (iv_eqa (l := 1) (h := 0) c8 (iv_lit (l := 1) (h := 1) (by decide)) (iv_lit (l := 0) (h := 0) (by decide)) (by decide)) (by decide)).elim
        · skip
          refine ⟨iv_in hx2 (by decide), ?_⟩
          refine sp_of (a := 0) (b := 511) k_a_lands k_f_land (iv_lit (l := 3) (h := 3) (by decide)) (by decide +kernel) (fun r9 hr9 er9 => ?_)
          refine ⟨fun c10 => ?_, fun c10 => ?_⟩
          · skip
            refine ⟨iv_nb (iv_lit (l := 0) (h := 0) (by decide)) (by decide), ?_⟩
            refine ⟨fun c11 => ?_, fun c11 => ?_⟩
            · skip
              exact (iv_emp (iv_ne (l := 1) (h := 0) c11 (iv_lit (l := 0) (h := 0) (by decide)) (iv_lit (l := 0) (h := 0) (by decide)) (by decide)) (by decide)).elim
            · skip
              refine ⟨fun c12 => ?_, fun c12 => ?_⟩
              · skip
                refine sp_deedOf_0 k_a_evenings k_f_evening hx1 (fun r13 hr13 => ?_)
                refine ⟨fun c14 => ?_, fun c14 => ?_⟩
                · skip
                  exact s_m_does_112 k_a_lands k_a_evenings k_f_land k_f_huts k_f_singers k_f_evening k_a_at k_a_knows k_a_climbed k_a_level k_f_begun hx2 (iv_bitk 5 (l := 0) (h := 4) (c1.trans (iv_one (iv_lit (l := 1) (h := 1) (by decide)))) (k_a_knows _) hx3 (by decide)) (iv_w (iv_lit (l := 0) (h := 0) (by decide)) (by decide)) hpost
                · skip
                  exact s_m_does_112 k_a_lands k_a_evenings k_f_land k_f_huts k_f_singers k_f_evening k_a_at k_a_knows k_a_climbed k_a_level k_f_begun hx2 (iv_bitk 5 (l := 0) (h := 4) (c1.trans (iv_one (iv_lit (l := 1) (h := 1) (by decide)))) (k_a_knows _) hx3 (by decide)) (iv_w (iv_lit (l := 1) (h := 1) (by decide)) (by decide)) hpost
              · skip
                exact (iv_emp (iv_eqa (l := 1) (h := 0) c12 (iv_lit (l := 1) (h := 1) (by decide)) (iv_lit (l := 0) (h := 0) (by decide)) (by decide)) (by decide)).elim
          · skip
            refine ⟨iv_nb (iv_lit (l := 1) (h := 1) (by decide)) (by decide), ?_⟩
            refine ⟨fun c15 => ?_, fun c15 => ?_⟩
            · skip
              refine ⟨fun c16 => ?_, fun c16 => ?_⟩
              · skip
                exact (iv_emp (iv_ne (l := 1) (h := 0) c16 (iv_lit (l := 0) (h := 0) (by decide)) (iv_lit (l := 0) (h := 0) (by decide)) (by decide)) (by decide)).elim
              · skip
                exact hpost _ _ _ _ _ _ _ _ _ (iv_w (iv_lit (l := 0) (h := 0) (by decide)) (by decide)) k_a_at k_a_knows k_a_climbed k_a_level k_f_begun
            · skip
              exact (iv_emp (iv_eqa (l := 1) (h := 0) c15 (iv_lit (l := 1) (h := 1) (by decide)) (iv_lit (l := 0) (h := 0) (by decide)) (by decide)) (by decide)).elim
set_option maxRecDepth 20000 in
theorem s_m_does_0 {a_lands : Nat → Int32} {a_evenings : Nat → Int32} {f_land : Int32} {f_huts : Int32} {f_singers : Int32} {f_evening : Int32} {a_at : Nat → Int32} {a_knows : Nat → Int32} {a_climbed : Nat → Int32} {a_snow : Nat → Int32} {a_level : Nat → Int32} {f_begun : Int32} {f_minute : Int32} {f_avalanches : Int32} {x1 : Int32} {post : Int32 → (Nat → Int32) → (Nat → Int32) → (Nat → Int32) → (Nat → Int32) → (Nat → Int32) → (Int32) → (Int32) → (Int32) → Prop} (k_a_lands : mLand a_lands) (k_a_evenings : mEve a_evenings) (k_f_land : iv 0 1 f_land) (k_f_huts : iv 0 9 f_huts) (k_f_singers : iv 0 6 f_singers) (k_f_evening : iv 0 1 f_evening) (k_a_at : ∀ j, iv 0 8 (a_at j)) (k_a_knows : ∀ j, iv 0 31 (a_knows j)) (k_a_climbed : ∀ j, iv 0 1 (a_climbed j)) (k_a_level : ∀ j, iv (-9) 108 (a_level j)) (k_f_begun : iv 0 31 f_begun) (hx1 : iv 0 39 x1) (hpost : ∀ (r : Int32) (a_at : Nat → Int32) (a_knows : Nat → Int32) (a_climbed : Nat → Int32) (a_snow : Nat → Int32) (a_level : Nat → Int32) (f_begun : Int32) (f_minute : Int32) (f_avalanches : Int32), iv 0 1 r → (∀ j, iv 0 8 (a_at j)) → (∀ j, iv 0 31 (a_knows j)) → (∀ j, iv 0 1 (a_climbed j)) → (∀ j, iv (-9) 108 (a_level j)) → (iv 0 31 f_begun) → post r a_at a_knows a_climbed a_snow a_level f_begun f_minute f_avalanches) : q_m_does_0 a_lands a_evenings f_land f_huts f_singers f_evening a_at a_knows a_climbed a_snow a_level f_begun f_minute f_avalanches x1 post := by
  refine sp_deedOf_1 k_a_evenings k_f_evening hx1 (fun r1 hr1 => ?_)
  refine sp_deedOf_2 k_a_evenings k_f_evening hx1 (fun r2 hr2 => ?_)
  refine ⟨fun c3 => ?_, fun c3 => ?_⟩
  · skip
    exact (iv_emp (iv_lta (l := 0) (h := (-1)) (r_lt c3) hr1 (iv_lit (l := 0) (h := 0) (by decide)) (by decide)) (by decide)).elim
  · skip
    refine ⟨fun c4 => ?_, fun c4 => ?_⟩
    · skip
      refine ⟨iv_nb (iv_lit (l := 0) (h := 0) (by decide)) (by decide), ?_⟩
      refine ⟨fun c5 => ?_, fun c5 => ?_⟩
      · skip
        exact (iv_emp (iv_ne (l := 1) (h := 0) c5 (iv_lit (l := 0) (h := 0) (by decide)) (iv_lit (l := 0) (h := 0) (by decide)) (by decide)) (by decide)).elim
      · skip
        exact hpost _ _ _ _ _ _ _ _ _ (iv_w (iv_lit (l := 0) (h := 0) (by decide)) (by decide)) k_a_at k_a_knows k_a_climbed k_a_level k_f_begun
    · skip
      refine ⟨iv_nb (iv_lit (l := 1) (h := 1) (by decide)) (by decide), ?_⟩
      refine ⟨fun c6 => ?_, fun c6 => ?_⟩
      · skip
        refine sp_deedOf_0 k_a_evenings k_f_evening hx1 (fun r7 hr7 => ?_)
        refine ⟨fun c8 => ?_, fun c8 => ?_, fun c8 => ?_, fun c8 => ?_, fun c8 => ?_, fun c8 => ?_⟩
        · skip
          refine ⟨iv_in hr1 (by decide), ?_⟩
          refine ⟨fun c9 => ?_, fun c9 => ?_⟩
          · skip
            refine ⟨iv_in hr1 (by decide), ?_⟩
            intro a10 ea10
            have k_a10 := iv_upd ea10 k_a_climbed (iv_w (iv_lit (l := 0) (h := 0) (by decide)) (by decide))
            exact hpost _ _ _ _ _ _ _ _ _ (iv_w (iv_lit (l := 1) (h := 1) (by decide)) (by decide)) k_a_at k_a_knows k_a10 k_a_level k_f_begun
          · skip
            exact hpost _ _ _ _ _ _ _ _ _ (iv_w (iv_lit (l := 0) (h := 0) (by decide)) (by decide)) k_a_at k_a_knows k_a_climbed k_a_level k_f_begun
        · skip
          refine ⟨iv_in hr1 (by decide), ?_⟩
          refine ⟨fun c11 => ?_, fun c11 => ?_⟩
          · skip
            refine ⟨fun c12 => ?_, fun c12 => ?_⟩
            · skip
              refine ⟨fun c13 => ?_, fun c13 => ?_⟩
              · skip
                exact (iv_emp (iv_ne (l := 1) (h := 0) c13 (iv_lit (l := 0) (h := 0) (by decide)) (iv_lit (l := 0) (h := 0) (by decide)) (by decide)) (by decide)).elim
              · skip
                exact hpost _ _ _ _ _ _ _ _ _ (iv_w (iv_lit (l := 0) (h := 0) (by decide)) (by decide)) k_a_at k_a_knows k_a_climbed k_a_level k_f_begun
            · skip
              exact (iv_emp (iv_ne (l := 1) (h := 0) c12 (iv_lit (l := 0) (h := 0) (by decide)) (iv_lit (l := 0) (h := 0) (by decide)) (by decide)) (by decide)).elim
          · skip
            refine ⟨fun c14 => ?_, fun c14 => ?_⟩
            · skip
              exact (iv_emp (iv_eqa (l := 1) (h := 0) c14 (iv_lit (l := 1) (h := 1) (by decide)) (iv_lit (l := 0) (h := 0) (by decide)) (by decide)) (by decide)).elim
            · skip
              refine ⟨fun c15 => ?_, fun c15 => ?_⟩
              · skip
                refine ⟨fun c16 => ?_, fun c16 => ?_⟩
                · skip
                  exact (iv_emp (iv_ne (l := 1) (h := 0) c16 (iv_lit (l := 0) (h := 0) (by decide)) (iv_lit (l := 0) (h := 0) (by decide)) (by decide)) (by decide)).elim
                · skip
                  refine ⟨iv_in hr1 (by decide), ?_⟩
                  refine sp_of (a := 0) (b := 511) k_a_lands k_f_land (iv_lit (l := 3) (h := 3) (by decide)) (by decide +kernel) (fun r17 hr17 er17 => ?_)
                  refine ⟨fun c18 => ?_, fun c18 => ?_⟩
                  · skip
                    refine ⟨iv_nb (iv_lit (l := 0) (h := 0) (by decide)) (by decide), ?_⟩
                    refine ⟨fun c19 => ?_, fun c19 => ?_⟩
                    · skip
                      exact (iv_emp (iv_ne (l := 1) (h := 0) c19 (iv_lit (l := 0) (h := 0) (by decide)) (iv_lit (l := 0) (h := 0) (by decide)) (by decide)) (by decide)).elim
                    · skip
                      refine ⟨fun c20 => ?_, fun c20 => ?_⟩
                      · skip
                        refine s_m_sounds_0 k_a_lands k_f_land k_f_singers k_a_at k_a_knows k_a_climbed k_a_level k_f_begun hr1 (iv_bitk 5 (l := 0) (h := 4) (c11.trans (iv_one (iv_lit (l := 1) (h := 1) (by decide)))) (k_a_knows _) hr2 (by decide)) (fun o21 o22 o23 k_o21 k_o22 k_o23 => ?_)
                        exact hpost _ _ _ _ _ _ _ _ _ (iv_w (iv_lit (l := 1) (h := 1) (by decide)) (by decide)) k_a_at k_o21 k_a_climbed k_o22 k_o23
                      · skip
                        exact (iv_emp (iv_eqa (l := 1) (h := 0) c20 (iv_lit (l := 1) (h := 1) (by decide)) (iv_lit (l := 0) (h := 0) (by decide)) (by decide)) (by decide)).elim
                  · skip
                    refine ⟨iv_nb (iv_lit (l := 1) (h := 1) (by decide)) (by decide), ?_⟩
                    refine ⟨fun c24 => ?_, fun c24 => ?_⟩
                    · skip
                      refine ⟨fun c25 => ?_, fun c25 => ?_⟩
                      · skip
                        exact (iv_emp (iv_ne (l := 1) (h := 0) c25 (iv_lit (l := 0) (h := 0) (by decide)) (iv_lit (l := 0) (h := 0) (by decide)) (by decide)) (by decide)).elim
                      · skip
                        exact hpost _ _ _ _ _ _ _ _ _ (iv_w (iv_lit (l := 0) (h := 0) (by decide)) (by decide)) k_a_at k_a_knows k_a_climbed k_a_level k_f_begun
                    · skip
                      exact (iv_emp (iv_eqa (l := 1) (h := 0) c24 (iv_lit (l := 1) (h := 1) (by decide)) (iv_lit (l := 0) (h := 0) (by decide)) (by decide)) (by decide)).elim
              · skip
                refine ⟨fun c26 => ?_, fun c26 => ?_⟩
                · skip
                  refine ⟨fun c27 => ?_, fun c27 => ?_⟩
                  · skip
                    exact (iv_emp (iv_ne (l := 1) (h := 0) c27 (iv_lit (l := 0) (h := 0) (by decide)) (iv_lit (l := 0) (h := 0) (by decide)) (by decide)) (by decide)).elim
                  · skip
                    exact hpost _ _ _ _ _ _ _ _ _ (iv_w (iv_lit (l := 0) (h := 0) (by decide)) (by decide)) k_a_at k_a_knows k_a_climbed k_a_level k_f_begun
                · skip
                  exact (iv_emp (iv_eqa (l := 1) (h := 0) c26 (iv_lit (l := 1) (h := 1) (by decide)) (iv_lit (l := 0) (h := 0) (by decide)) (by decide)) (by decide)).elim
        · skip
          exact s_m_does_83 k_a_lands k_a_evenings k_f_land k_f_huts k_f_singers k_f_evening k_a_at k_a_knows k_a_climbed k_a_level k_f_begun hx1 hr1 hr2 hpost
        · skip
          exact s_m_does_83 k_a_lands k_a_evenings k_f_land k_f_huts k_f_singers k_f_evening k_a_at k_a_knows k_a_climbed k_a_level k_f_begun hx1 hr1 hr2 hpost
        · skip
          refine ⟨fun c28 => ?_, fun c28 => ?_⟩
          · skip
            refine ⟨iv_nb (iv_lit (l := 0) (h := 0) (by decide)) (by decide), ?_⟩
            refine ⟨fun c29 => ?_, fun c29 => ?_⟩
            · skip
              refine ⟨fun c30 => ?_, fun c30 => ?_⟩
              · skip
                refine ⟨iv_nb (iv_lit (l := 0) (h := 0) (by decide)) (by decide), ?_⟩
                exact hpost _ _ _ _ _ _ _ _ _ (iv_w (iv_lit (l := 0) (h := 0) (by decide)) (by decide)) k_a_at k_a_knows k_a_climbed k_a_level k_f_begun
              · skip
                exact (iv_emp (iv_ne (l := 1) (h := 0) c30 (iv_lit (l := 0) (h := 0) (by decide)) (iv_lit (l := 0) (h := 0) (by decide)) (by decide)) (by decide)).elim
            · skip
              exact (iv_emp (iv_ne (l := 1) (h := 0) c29 (iv_lit (l := 0) (h := 0) (by decide)) (iv_lit (l := 0) (h := 0) (by decide)) (by decide)) (by decide)).elim
          · skip
            refine ⟨fun c31 => ?_, fun c31 => ?_⟩
            · skip
              refine ⟨iv_nb (iv_lit (l := 0) (h := 0) (by decide)) (by decide), ?_⟩
              refine ⟨fun c32 => ?_, fun c32 => ?_⟩
              · skip
                refine ⟨fun c33 => ?_, fun c33 => ?_⟩
                · skip
                  refine ⟨iv_nb (iv_lit (l := 0) (h := 0) (by decide)) (by decide), ?_⟩
                  exact hpost _ _ _ _ _ _ _ _ _ (iv_w (iv_lit (l := 0) (h := 0) (by decide)) (by decide)) k_a_at k_a_knows k_a_climbed k_a_level k_f_begun
                · skip
                  exact (iv_emp (iv_ne (l := 1) (h := 0) c33 (iv_lit (l := 0) (h := 0) (by decide)) (iv_lit (l := 0) (h := 0) (by decide)) (by decide)) (by decide)).elim
              · skip
                exact (iv_emp (iv_ne (l := 1) (h := 0) c32 (iv_lit (l := 0) (h := 0) (by decide)) (iv_lit (l := 0) (h := 0) (by decide)) (by decide)) (by decide)).elim
            · skip
              refine ⟨iv_nb (iv_lit (l := 1) (h := 1) (by decide)) (by decide), ?_⟩
              refine ⟨fun c34 => ?_, fun c34 => ?_⟩
              · skip
                exact (iv_emp (iv_eqa (l := 1) (h := 0) c34 (iv_lit (l := 1) (h := 1) (by decide)) (iv_lit (l := 0) (h := 0) (by decide)) (by decide)) (by decide)).elim
              · skip
                refine ⟨iv_in hr1 (by decide), ?_⟩
                refine sp_of (a := 0) (b := 9) k_a_lands k_f_land (iv_add (l := 51) (h := 131) (iv_add (l := 51) (h := 123) (iv_lit (l := 51) (h := 51) (by decide)) (iv_mul (l := 0) (h := 72) (iv_lit (l := 9) (h := 9) (by decide)) (k_a_at _) (by decide)) (by decide)) (iv_leb (l := 0) (h := 8) (r_nlt c28) (iv_lit (l := 0) (h := 0) (by decide)) hr2 (by decide)) (by decide)) (by decide +kernel) (fun r35 hr35 er35 => ?_)
                refine ⟨fun c36 => ?_, fun c36 => ?_⟩
                · skip
                  refine ⟨iv_nb (iv_lit (l := 0) (h := 0) (by decide)) (by decide), ?_⟩
                  exact hpost _ _ _ _ _ _ _ _ _ (iv_w (iv_lit (l := 0) (h := 0) (by decide)) (by decide)) k_a_at k_a_knows k_a_climbed k_a_level k_f_begun
                · skip
                  refine ⟨iv_in hr1 (by decide), ?_⟩
                  refine ⟨fun c37 => ?_, fun c37 => ?_⟩
                  · skip
                    refine ⟨iv_nb (iv_lit (l := 0) (h := 0) (by decide)) (by decide), ?_⟩
                    exact hpost _ _ _ _ _ _ _ _ _ (iv_w (iv_lit (l := 0) (h := 0) (by decide)) (by decide)) k_a_at k_a_knows k_a_climbed k_a_level k_f_begun
                  · skip
                    refine ⟨iv_in hr1 (by decide), ?_⟩
                    refine ⟨iv_in (k_a_at _) (by decide), ?_⟩
                    refine sp_of (a := 0) (b := 9) k_a_lands k_f_land (iv_lit (l := 5) (h := 5) (by decide)) (by decide +kernel) (fun r38 hr38 er38 => ?_)
                    refine ⟨fun c39 => ?_, fun c39 => ?_⟩
                    · skip
                      refine ⟨fun c40 => ?_, fun c40 => ?_⟩
                      · skip
                        exact (iv_emp (iv_ne (l := 1) (h := 0) c40 (iv_lit (l := 0) (h := 0) (by decide)) (iv_lit (l := 0) (h := 0) (by decide)) (by decide)) (by decide)).elim
                      · skip
                        refine ⟨iv_in (iv_leb (l := 0) (h := 8) (r_nlt c28) (iv_lit (l := 0) (h := 0) (by decide)) hr2 (by decide)) (by decide), ?_⟩
                        refine sp_of (a := 0) (b := 9) k_a_lands k_f_land (iv_lit (l := 5) (h := 5) (by decide)) (by decide +kernel) (fun r41 hr41 er41 => ?_)
                        refine ⟨fun c42 => ?_, fun c42 => ?_⟩
                        · skip
                          refine ⟨fun c43 => ?_, fun c43 => ?_⟩
                          · skip
                            refine ⟨iv_in hr1 (by decide), ?_⟩
                            intro a44 ea44
                            have k_a44 := iv_upd ea44 k_a_at (iv_leb (l := 0) (h := 8) (r_nlt c28) (iv_lit (l := 0) (h := 0) (by decide)) hr2 (by decide))
                            intro w45 ew45
                            refine ⟨iv_nb (iv_lit (l := 1) (h := 1) (by decide)) (by decide), ?_⟩
                            exact hpost _ _ _ _ _ _ _ _ _ (iv_w (iv_lit (l := 1) (h := 1) (by decide)) (by decide)) k_a44 k_a_knows k_a_climbed k_a_level k_f_begun
                          · skip
                            exact (iv_emp (iv_ne (l := 1) (h := 0) c43 (iv_lit (l := 0) (h := 0) (by decide)) (iv_lit (l := 0) (h := 0) (by decide)) (by decide)) (by decide)).elim
                        · skip
                          refine ⟨fun c46 => ?_, fun c46 => ?_⟩
                          · skip
                            exact (iv_emp (iv_eqa (l := 1) (h := 0) c46 (iv_lit (l := 1) (h := 1) (by decide)) (iv_lit (l := 0) (h := 0) (by decide)) (by decide)) (by decide)).elim
                          · skip
                            refine ⟨iv_nb (iv_lit (l := 0) (h := 0) (by decide)) (by decide), ?_⟩
                            exact hpost _ _ _ _ _ _ _ _ _ (iv_w (iv_lit (l := 0) (h := 0) (by decide)) (by decide)) k_a_at k_a_knows k_a_climbed k_a_level k_f_begun
                    · skip
                      refine ⟨fun c47 => ?_, fun c47 => ?_⟩
                      · skip
                        refine ⟨iv_nb (iv_lit (l := 0) (h := 0) (by decide)) (by decide), ?_⟩
                        exact hpost _ _ _ _ _ _ _ _ _ (iv_w (iv_lit (l := 0) (h := 0) (by decide)) (by decide)) k_a_at k_a_knows k_a_climbed k_a_level k_f_begun
                      · skip
                        exact (iv_emp (iv_eqa (l := 1) (h := 0) c47 (iv_lit (l := 1) (h := 1) (by decide)) (iv_lit (l := 0) (h := 0) (by decide)) (by decide)) (by decide)).elim
        · skip
          refine ⟨iv_in hr1 (by decide), ?_⟩
          refine sp_of (a := 0) (b := 9) k_a_lands k_f_land (iv_add (l := 16) (h := 24) (iv_lit (l := 16) (h := 16) (by decide)) (k_a_at _) (by decide)) (by decide +kernel) (fun r48 hr48 er48 => ?_)
          refine ⟨fun c49 => ?_, fun c49 => ?_⟩
          · skip
            exact hpost _ _ _ _ _ _ _ _ _ (iv_w (iv_lit (l := 0) (h := 0) (by decide)) (by decide)) k_a_at k_a_knows k_a_climbed k_a_level k_f_begun
          · skip
            refine ⟨iv_in hr1 (by decide), ?_⟩
            refine ⟨fun c50 => ?_, fun c50 => ?_⟩
            · skip
              refine ⟨iv_in hr1 (by decide), ?_⟩
              intro a51 ea51
              have k_a51 := iv_upd ea51 k_a_climbed (iv_w (iv_lit (l := 1) (h := 1) (by decide)) (by decide))
              exact hpost _ _ _ _ _ _ _ _ _ (iv_w (iv_lit (l := 1) (h := 1) (by decide)) (by decide)) k_a_at k_a_knows k_a51 k_a_level k_f_begun
            · skip
              exact hpost _ _ _ _ _ _ _ _ _ (iv_w (iv_lit (l := 0) (h := 0) (by decide)) (by decide)) k_a_at k_a_knows k_a_climbed k_a_level k_f_begun
      · skip
        exact (iv_emp (iv_eqa (l := 1) (h := 0) c6 (iv_lit (l := 1) (h := 1) (by decide)) (iv_lit (l := 0) (h := 0) (by decide)) (by decide)) (by decide)).elim
end
section
-- m_play
set_option maxRecDepth 20000 in
theorem s_m_play_6 {a_lands : Nat → Int32} {a_evenings : Nat → Int32} {f_land : Int32} {f_huts : Int32} {f_singers : Int32} {f_evening : Int32} {a_at : Nat → Int32} {a_knows : Nat → Int32} {a_climbed : Nat → Int32} {a_snow : Nat → Int32} {a_level : Nat → Int32} {f_begun : Int32} {f_minute : Int32} {f_avalanches : Int32} {x1 : Int32} {x2 : Int32} {post : Int32 → (Nat → Int32) → (Nat → Int32) → (Nat → Int32) → (Nat → Int32) → (Nat → Int32) → (Int32) → (Int32) → (Int32) → Prop} (k_a_lands : mLand a_lands) (k_a_evenings : mEve a_evenings) (k_f_land : iv 0 1 f_land) (k_f_huts : iv 0 9 f_huts) (k_f_singers : iv 0 6 f_singers) (k_f_evening : iv 0 1 f_evening) (k_a_at : ∀ j, iv 0 8 (a_at j)) (k_a_knows : ∀ j, iv 0 31 (a_knows j)) (k_a_climbed : ∀ j, iv 0 1 (a_climbed j)) (k_a_level : ∀ j, iv (-9) 108 (a_level j)) (k_f_begun : iv 0 31 f_begun) (hx1 : iv 0 40 x1) (hx2 : iv 0 40 x2) (hpost : ∀ (r : Int32) (a_at : Nat → Int32) (a_knows : Nat → Int32) (a_climbed : Nat → Int32) (a_snow : Nat → Int32) (a_level : Nat → Int32) (f_begun : Int32) (f_minute : Int32) (f_avalanches : Int32), iv 0 40 r → (∀ j, iv 0 8 (a_at j)) → (∀ j, iv 0 31 (a_knows j)) → (∀ j, iv 0 1 (a_climbed j)) → (∀ j, iv (-9) 108 (a_level j)) → (iv 0 31 f_begun) → post r a_at a_knows a_climbed a_snow a_level f_begun f_minute f_avalanches) : q_m_play_6 a_lands a_evenings f_land f_huts f_singers f_evening a_at a_knows a_climbed a_snow a_level f_begun f_minute f_avalanches x1 x2 post := by
  intro P hP
  have loop : ∀ (n : Nat) (x2 : Int32) (a_at : Nat → Int32) (a_knows : Nat → Int32) (a_climbed : Nat → Int32) (a_snow : Nat → Int32) (a_level : Nat → Int32) (f_begun : Int32) (f_minute : Int32) (f_avalanches : Int32), (40 - x2.toInt < (n : Int)) → (iv 0 40 x2) → (∀ j, iv 0 8 (a_at j)) → (∀ j, iv 0 31 (a_knows j)) → (∀ j, iv 0 1 (a_climbed j)) → (∀ j, iv (-9) 108 (a_level j)) → (iv 0 31 f_begun) → P x2 a_at a_knows a_climbed a_snow a_level f_begun f_minute f_avalanches := by
    intro n
    induction n with
    | zero => intro x2 a_at a_knows a_climbed a_snow a_level f_begun f_minute f_avalanches hm hx2 k_a_at k_a_knows k_a_climbed k_a_level k_f_begun; exact (ms0_up hm hx2).elim
    | succ n ih =>
      intro x2 a_at a_knows a_climbed a_snow a_level f_begun f_minute f_avalanches hm hx2 k_a_at k_a_knows k_a_climbed k_a_level k_f_begun
      apply hP
      refine ⟨fun c1 => ?_, fun c1 => ?_⟩
      · skip
        exact hpost _ _ _ _ _ _ _ _ _ hx2 k_a_at k_a_knows k_a_climbed k_a_level k_f_begun
      · skip
        refine s_m_does_0 k_a_lands k_a_evenings k_f_land k_f_huts k_f_singers k_f_evening k_a_at k_a_knows k_a_climbed k_a_level k_f_begun (iv_lta (l := 0) (h := 39) (r_nle c1) hx2 hx1 (by decide)) (fun r2 o3 o4 o5 o6 o7 o8 o9 o10 hr2 k_o3 k_o4 k_o5 k_o7 k_o8 => ?_)
        refine ⟨fun c11 => ?_, fun c11 => ?_⟩
        · skip
          exact hpost _ _ _ _ _ _ _ _ _ (iv_w (iv_lta (l := 0) (h := 39) (r_nle c1) hx2 hx1 (by decide)) (by decide)) k_o3 k_o4 k_o5 k_o7 k_o8
        · skip
          intro w12 ew12
          have hw12 := iv_eq ew12 (iv_add (l := 1) (h := 40) (iv_lta (l := 0) (h := 39) (r_nle c1) hx2 hx1 (by decide)) (iv_lit (l := 1) (h := 1) (by decide)) (by decide))
          exact ih _ _ _ _ _ _ _ _ _ (ms_up hm (inc_lt ew12 (iv_lta (l := 0) (h := 39) (r_nle c1) hx2 hx1 (by decide)) (by decide))) (iv_w hw12 (by decide)) k_o3 k_o4 k_o5 k_o7 k_o8
  exact loop _ _ _ _ _ _ _ _ _ _ (ms_init_up _ _) hx2 k_a_at k_a_knows k_a_climbed k_a_level k_f_begun
set_option maxRecDepth 20000 in
theorem s_m_play_0 {a_lands : Nat → Int32} {a_evenings : Nat → Int32} {f_land : Int32} {f_huts : Int32} {f_singers : Int32} {f_evening : Int32} {a_at : Nat → Int32} {a_knows : Nat → Int32} {a_climbed : Nat → Int32} {a_snow : Nat → Int32} {a_level : Nat → Int32} {f_begun : Int32} {f_minute : Int32} {f_avalanches : Int32} {x1 : Int32} {post : Int32 → (Nat → Int32) → (Nat → Int32) → (Nat → Int32) → (Nat → Int32) → (Nat → Int32) → (Int32) → (Int32) → (Int32) → Prop} (k_a_lands : mLand a_lands) (k_a_evenings : mEve a_evenings) (k_f_land : iv 0 1 f_land) (k_f_huts : iv 0 9 f_huts) (k_f_singers : iv 0 6 f_singers) (k_f_evening : iv 0 1 f_evening) (k_a_at : ∀ j, iv 0 8 (a_at j)) (k_a_knows : ∀ j, iv 0 31 (a_knows j)) (k_a_climbed : ∀ j, iv 0 1 (a_climbed j)) (k_a_level : ∀ j, iv (-9) 108 (a_level j)) (k_f_begun : iv 0 31 f_begun) (hx1 : iv 0 40 x1) (hpost : ∀ (r : Int32) (a_at : Nat → Int32) (a_knows : Nat → Int32) (a_climbed : Nat → Int32) (a_snow : Nat → Int32) (a_level : Nat → Int32) (f_begun : Int32) (f_minute : Int32) (f_avalanches : Int32), iv 0 40 r → (∀ j, iv 0 8 (a_at j)) → (∀ j, iv 0 31 (a_knows j)) → (∀ j, iv 0 1 (a_climbed j)) → (∀ j, iv (-9) 108 (a_level j)) → (iv 0 31 f_begun) → post r a_at a_knows a_climbed a_snow a_level f_begun f_minute f_avalanches) : q_m_play_0 a_lands a_evenings f_land f_huts f_singers f_evening a_at a_knows a_climbed a_snow a_level f_begun f_minute f_avalanches x1 post := by
  refine s_m_begin_0 k_a_lands k_f_land k_a_at k_a_knows k_a_climbed k_f_begun (fun o1 o2 o3 o4 o5 o6 o7 k_o1 k_o2 k_o3 k_o5 k_o6 k_o7 => ?_)
  exact s_m_play_6 k_a_lands k_a_evenings k_f_land k_f_huts k_f_singers k_f_evening k_o1 k_o2 k_o3 k_a_level (iv_w k_o5 (by decide)) hx1 (iv_w (iv_lit (l := 0) (h := 0) (by decide)) (by decide)) hpost
-- m_stop
set_option maxRecDepth 20000 in
theorem s_m_stop_0 {f_code : Int32} {a_many : Nat → Int32} {a_lands : Nat → Int32} {a_evenings : Nat → Int32} {f_land : Int32} {f_huts : Int32} {f_singers : Int32} {f_evening : Int32} {a_at : Nat → Int32} {a_knows : Nat → Int32} {a_climbed : Nat → Int32} {a_snow : Nat → Int32} {a_level : Nat → Int32} {f_begun : Int32} {f_minute : Int32} {f_avalanches : Int32} {x1 : Int32} {x2 : Int32} {post : Int32 → (Int32) → (Int32) → (Int32) → (Int32) → (Int32) → (Nat → Int32) → (Nat → Int32) → (Nat → Int32) → (Nat → Int32) → (Nat → Int32) → (Int32) → (Int32) → (Int32) → Prop} (k_f_code : iv 0 0 f_code) (k_a_many : ∀ j, iv 0 2 (a_many j)) (k_a_lands : mLand a_lands) (k_a_evenings : mEve a_evenings) (k_f_land : iv 0 1 f_land) (k_f_huts : iv 0 9 f_huts) (k_f_singers : iv 0 6 f_singers) (k_a_at : ∀ j, iv 0 8 (a_at j)) (k_a_knows : ∀ j, iv 0 31 (a_knows j)) (k_a_climbed : ∀ j, iv 0 1 (a_climbed j)) (k_a_level : ∀ j, iv (-9) 108 (a_level j)) (k_f_begun : iv 0 31 f_begun) (hpost : ∀ (r : Int32) (f_code : Int32) (f_land : Int32) (f_huts : Int32) (f_singers : Int32) (f_evening : Int32) (a_at : Nat → Int32) (a_knows : Nat → Int32) (a_climbed : Nat → Int32) (a_snow : Nat → Int32) (a_level : Nat → Int32) (f_begun : Int32) (f_minute : Int32) (f_avalanches : Int32), iv (-1) 40 r → (iv 0 0 f_code) → (iv 0 1 f_land) → (iv 0 9 f_huts) → (iv 0 6 f_singers) → (∀ j, iv 0 8 (a_at j)) → (∀ j, iv 0 31 (a_knows j)) → (∀ j, iv 0 1 (a_climbed j)) → (∀ j, iv (-9) 108 (a_level j)) → (iv 0 31 f_begun) → post r f_code f_land f_huts f_singers f_evening a_at a_knows a_climbed a_snow a_level f_begun f_minute f_avalanches) : q_m_stop_0 f_code a_many a_lands a_evenings f_land f_huts f_singers f_evening a_at a_knows a_climbed a_snow a_level f_begun f_minute f_avalanches x1 x2 post := by
  refine ⟨iv_in (iv_lit (l := 1) (h := 1) (by decide)) (by decide), ?_⟩
  refine ⟨fun c1 => ?_, fun c1 => ?_⟩
  · skip
    refine ⟨iv_nb (iv_lit (l := 0) (h := 0) (by decide)) (by decide), ?_⟩
    refine ⟨iv_nb (iv_lit (l := 0) (h := 0) (by decide)) (by decide), ?_⟩
    refine ⟨fun c2 => ?_, fun c2 => ?_⟩
    · skip
      refine ⟨fun c3 => ?_, fun c3 => ?_⟩
      · skip
        exact hpost _ _ _ _ _ _ _ _ _ _ _ _ _ _ (iv_w (iv_lit (l := (-1)) (h := (-1)) (by decide)) (by decide)) (iv_lit (l := 0) (h := 0) (by decide)) k_f_land k_f_huts k_f_singers k_a_at k_a_knows k_a_climbed k_a_level k_f_begun
      · skip
        exact (iv_emp (iv_ne (l := 1) (h := 0) c3 (iv_lit (l := 0) (h := 0) (by decide)) (iv_lit (l := 0) (h := 0) (by decide)) (by decide)) (by decide)).elim
    · skip
      exact (iv_emp (iv_ne (l := 1) (h := 0) c2 (iv_lit (l := 0) (h := 0) (by decide)) (iv_lit (l := 0) (h := 0) (by decide)) (by decide)) (by decide)).elim
  · skip
    refine ⟨fun c4 => ?_, fun c4 => ?_⟩
    · skip
      refine ⟨iv_nb (iv_lit (l := 0) (h := 0) (by decide)) (by decide), ?_⟩
      refine ⟨iv_nb (iv_lit (l := 0) (h := 0) (by decide)) (by decide), ?_⟩
      refine ⟨fun c5 => ?_, fun c5 => ?_⟩
      · skip
        refine ⟨fun c6 => ?_, fun c6 => ?_⟩
        · skip
          exact hpost _ _ _ _ _ _ _ _ _ _ _ _ _ _ (iv_w (iv_lit (l := (-1)) (h := (-1)) (by decide)) (by decide)) (iv_lit (l := 0) (h := 0) (by decide)) k_f_land k_f_huts k_f_singers k_a_at k_a_knows k_a_climbed k_a_level k_f_begun
        · skip
          exact (iv_emp (iv_ne (l := 1) (h := 0) c6 (iv_lit (l := 0) (h := 0) (by decide)) (iv_lit (l := 0) (h := 0) (by decide)) (by decide)) (by decide)).elim
      · skip
        exact (iv_emp (iv_ne (l := 1) (h := 0) c5 (iv_lit (l := 0) (h := 0) (by decide)) (iv_lit (l := 0) (h := 0) (by decide)) (by decide)) (by decide)).elim
    · skip
      refine ⟨iv_nb (iv_lit (l := 1) (h := 1) (by decide)) (by decide), ?_⟩
      refine ⟨iv_nb (iv_lit (l := 1) (h := 1) (by decide)) (by decide), ?_⟩
      refine ⟨fun c7 => ?_, fun c7 => ?_⟩
      · skip
        exact (iv_emp (iv_eqa (l := 1) (h := 0) c7 (iv_lit (l := 1) (h := 1) (by decide)) (iv_lit (l := 0) (h := 0) (by decide)) (by decide)) (by decide)).elim
      · skip
        refine ⟨iv_in (iv_lit (l := 0) (h := 0) (by decide)) (by decide), ?_⟩
        refine ⟨fun c8 => ?_, fun c8 => ?_⟩
        · skip
          refine ⟨iv_nb (iv_lit (l := 0) (h := 0) (by decide)) (by decide), ?_⟩
          refine ⟨fun c9 => ?_, fun c9 => ?_⟩
          · skip
            exact (iv_emp (iv_ne (l := 1) (h := 0) c9 (iv_lit (l := 0) (h := 0) (by decide)) (iv_lit (l := 0) (h := 0) (by decide)) (by decide)) (by decide)).elim
          · skip
            refine ⟨fun c10 => ?_, fun c10 => ?_⟩
            · skip
              refine ⟨fun c11 => ?_, fun c11 => ?_⟩
              · skip
                exact hpost _ _ _ _ _ _ _ _ _ _ _ _ _ _ (iv_w (iv_lit (l := (-1)) (h := (-1)) (by decide)) (by decide)) (iv_lit (l := 0) (h := 0) (by decide)) k_f_land k_f_huts k_f_singers k_a_at k_a_knows k_a_climbed k_a_level k_f_begun
              · skip
                exact (iv_emp (iv_ne (l := 1) (h := 0) c11 (iv_lit (l := 0) (h := 0) (by decide)) (iv_lit (l := 0) (h := 0) (by decide)) (by decide)) (by decide)).elim
            · skip
              exact (iv_emp (iv_ne (l := 1) (h := 0) c10 (iv_lit (l := 0) (h := 0) (by decide)) (iv_lit (l := 0) (h := 0) (by decide)) (by decide)) (by decide)).elim
        · skip
          refine ⟨fun c12 => ?_, fun c12 => ?_⟩
          · skip
            refine ⟨iv_nb (iv_lit (l := 0) (h := 0) (by decide)) (by decide), ?_⟩
            refine ⟨fun c13 => ?_, fun c13 => ?_⟩
            · skip
              exact (iv_emp (iv_ne (l := 1) (h := 0) c13 (iv_lit (l := 0) (h := 0) (by decide)) (iv_lit (l := 0) (h := 0) (by decide)) (by decide)) (by decide)).elim
            · skip
              refine ⟨fun c14 => ?_, fun c14 => ?_⟩
              · skip
                refine ⟨fun c15 => ?_, fun c15 => ?_⟩
                · skip
                  exact hpost _ _ _ _ _ _ _ _ _ _ _ _ _ _ (iv_w (iv_lit (l := (-1)) (h := (-1)) (by decide)) (by decide)) (iv_lit (l := 0) (h := 0) (by decide)) k_f_land k_f_huts k_f_singers k_a_at k_a_knows k_a_climbed k_a_level k_f_begun
                · skip
                  exact (iv_emp (iv_ne (l := 1) (h := 0) c15 (iv_lit (l := 0) (h := 0) (by decide)) (iv_lit (l := 0) (h := 0) (by decide)) (by decide)) (by decide)).elim
              · skip
                exact (iv_emp (iv_ne (l := 1) (h := 0) c14 (iv_lit (l := 0) (h := 0) (by decide)) (iv_lit (l := 0) (h := 0) (by decide)) (by decide)) (by decide)).elim
          · skip
            refine ⟨iv_nb (iv_lit (l := 1) (h := 1) (by decide)) (by decide), ?_⟩
            refine ⟨fun c16 => ?_, fun c16 => ?_⟩
            · skip
              refine sp_of (a := 0) (b := 9) k_a_lands (iv_lea (l := 0) (h := 1) (r_nlt c12) (iv_leb (l := 0) (h := 2147483647) (r_nlt c8) (iv_lit (l := 0) (h := 0) (by decide)) (iv_top x1) (by decide)) (iv_sub (l := (-1)) (h := 1) (k_a_many _) (iv_lit (l := 1) (h := 1) (by decide)) (by decide)) (by decide)) (iv_lit (l := 0) (h := 0) (by decide)) (by decide +kernel) (fun r17 hr17 er17 => ?_)
              refine sp_of (a := 0) (b := 6) k_a_lands (iv_lea (l := 0) (h := 1) (r_nlt c12) (iv_leb (l := 0) (h := 2147483647) (r_nlt c8) (iv_lit (l := 0) (h := 0) (by decide)) (iv_top x1) (by decide)) (iv_sub (l := (-1)) (h := 1) (k_a_many _) (iv_lit (l := 1) (h := 1) (by decide)) (by decide)) (by decide)) (iv_lit (l := 1) (h := 1) (by decide)) (by decide +kernel) (fun r18 hr18 er18 => ?_)
              refine ⟨fun c19 => ?_, fun c19 => ?_⟩
              · skip
                exact (iv_emp (iv_eqa (l := 1) (h := 0) c19 (iv_lit (l := 1) (h := 1) (by decide)) (iv_lit (l := 0) (h := 0) (by decide)) (by decide)) (by decide)).elim
              · skip
                refine ⟨fun c20 => ?_, fun c20 => ?_⟩
                · skip
                  exact (iv_emp (iv_eqa (l := 1) (h := 0) c20 (iv_lit (l := 1) (h := 1) (by decide)) (iv_lit (l := 0) (h := 0) (by decide)) (by decide)) (by decide)).elim
                · skip
                  refine sp_deeds k_a_evenings (iv_lea (l := 0) (h := 1) (r_nlt c4) (iv_leb (l := 0) (h := 2147483647) (r_nlt c1) (iv_lit (l := 0) (h := 0) (by decide)) (iv_top x2) (by decide)) (iv_sub (l := (-1)) (h := 1) (k_a_many _) (iv_lit (l := 1) (h := 1) (by decide)) (by decide)) (by decide)) (fun r21 hr21 => ?_)
                  refine s_m_play_0 k_a_lands k_a_evenings (iv_lea (l := 0) (h := 1) (r_nlt c12) (iv_leb (l := 0) (h := 2147483647) (r_nlt c8) (iv_lit (l := 0) (h := 0) (by decide)) (iv_top x1) (by decide)) (iv_sub (l := (-1)) (h := 1) (k_a_many _) (iv_lit (l := 1) (h := 1) (by decide)) (by decide)) (by decide)) hr17 hr18 (iv_lea (l := 0) (h := 1) (r_nlt c4) (iv_leb (l := 0) (h := 2147483647) (r_nlt c1) (iv_lit (l := 0) (h := 0) (by decide)) (iv_top x2) (by decide)) (iv_sub (l := (-1)) (h := 1) (k_a_many _) (iv_lit (l := 1) (h := 1) (by decide)) (by decide)) (by decide)) k_a_at k_a_knows k_a_climbed k_a_level k_f_begun hr21 (fun r22 o23 o24 o25 o26 o27 o28 o29 o30 hr22 k_o23 k_o24 k_o25 k_o27 k_o28 => ?_)
                  exact hpost _ _ _ _ _ _ _ _ _ _ _ _ _ _ (iv_w hr22 (by decide)) (iv_lit (l := 0) (h := 0) (by decide)) (iv_lea (l := 0) (h := 1) (r_nlt c12) (iv_leb (l := 0) (h := 2147483647) (r_nlt c8) (iv_lit (l := 0) (h := 0) (by decide)) (iv_top x1) (by decide)) (iv_sub (l := (-1)) (h := 1) (k_a_many _) (iv_lit (l := 1) (h := 1) (by decide)) (by decide)) (by decide)) hr17 hr18 k_o23 k_o24 k_o25 k_o27 k_o28
            · skip
              exact (iv_emp (iv_eqa (l := 1) (h := 0) c16 (iv_lit (l := 1) (h := 1) (by decide)) (iv_lit (l := 0) (h := 0) (by decide)) (by decide)) (by decide)).elim
-- m_reach
set_option maxRecDepth 20000 in
theorem s_m_reach_92 {P11 : Int32 → Int32 → Prop} {P33 : Int32 → Int32 → Prop} {P45 : Int32 → Int32 → Prop} {a_lands : Nat → Int32} {f_land : Int32} {f_huts : Int32} {a_at : Nat → Int32} {a_snow : Nat → Int32} {x1 : Int32} {x3 : Int32} {x4 : Int32} {x5 : Int32} {y0 : Int32} {y1 : Int32} {post : Int32 → Prop} (k_a_lands : mLand a_lands) (k_f_land : iv 0 1 f_land) (k_f_huts : iv 1 9 f_huts) (k_a_at : ∀ j, iv 0 8 (a_at j)) (hx1 : iv 0 5 x1) (hx3 : iv 0 8 x3) (hx4 : iv 0 8 x4) (hx5 : iv 0 8 x5) (hy0 : iv 0 511 y0) (hy1 : iv 0 256 y1) (m11 : Int) (hm11 : m11 ≤ x3.toInt) (hP11 : ∀ (x2 : Int32) (x3 : Int32), m11 < x3.toInt → iv 0 511 x2 → iv 0 9 x3 → P11 x2 x3) (m33 : Int) (hm33 : m33 ≤ x4.toInt) (hP33 : ∀ (x2 : Int32) (x4 : Int32), m33 < x4.toInt → iv 0 511 x2 → iv 0 9 x4 → P33 x2 x4) (m45 : Int) (hm45 : m45 ≤ x5.toInt) (hP45 : ∀ (x2 : Int32) (x5 : Int32), m45 < x5.toInt → iv 0 511 x2 → iv 0 9 x5 → P45 x2 x5) (hpost : ∀ (r : Int32), iv 0 511 r → post r) : q_m_reach_92 P11 P33 P45 a_lands f_land f_huts a_at a_snow x1 x3 x4 x5 y0 y1 post := by
  intro w1 ew1
  have hw1 := iv_eq ew1 (iv_or 9 (l := 0) (h := 511) hy0 hy1 (by decide))
  intro w2 ew2
  have hw2 := iv_eq ew2 (iv_add (l := 1) (h := 9) hx5 (iv_lit (l := 1) (h := 1) (by decide)) (by decide))
  exact hP45 _ _ (ml_up hm45 (inc_lt ew2 hx5 (by decide))) hw1 (iv_w hw2 (by decide))
set_option maxRecDepth 20000 in
theorem s_m_reach_91 {P11 : Int32 → Int32 → Prop} {P33 : Int32 → Int32 → Prop} {P45 : Int32 → Int32 → Prop} {a_lands : Nat → Int32} {f_land : Int32} {f_huts : Int32} {a_at : Nat → Int32} {a_snow : Nat → Int32} {x1 : Int32} {x3 : Int32} {x4 : Int32} {x5 : Int32} {y0 : Int32} {post : Int32 → Prop} (k_a_lands : mLand a_lands) (k_f_land : iv 0 1 f_land) (k_f_huts : iv 1 9 f_huts) (k_a_at : ∀ j, iv 0 8 (a_at j)) (hx1 : iv 0 5 x1) (hx3 : iv 0 8 x3) (hx4 : iv 0 8 x4) (hx5 : iv 0 8 x5) (hy0 : iv 0 511 y0) (m11 : Int) (hm11 : m11 ≤ x3.toInt) (hP11 : ∀ (x2 : Int32) (x3 : Int32), m11 < x3.toInt → iv 0 511 x2 → iv 0 9 x3 → P11 x2 x3) (m33 : Int) (hm33 : m33 ≤ x4.toInt) (hP33 : ∀ (x2 : Int32) (x4 : Int32), m33 < x4.toInt → iv 0 511 x2 → iv 0 9 x4 → P33 x2 x4) (m45 : Int) (hm45 : m45 ≤ x5.toInt) (hP45 : ∀ (x2 : Int32) (x5 : Int32), m45 < x5.toInt → iv 0 511 x2 → iv 0 9 x5 → P45 x2 x5) (hpost : ∀ (r : Int32), iv 0 511 r → post r) : q_m_reach_91 P11 P33 P45 a_lands f_land f_huts a_at a_snow x1 x3 x4 x5 y0 post := by
  exact s_m_reach_92 k_a_lands k_f_land k_f_huts k_a_at hx1 hx3 hx4 hx5 hy0 (iv_w (iv_lit (l := 0) (h := 0) (by decide)) (by decide)) m11 hm11 hP11 m33 hm33 hP33 m45 hm45 hP45 hpost
set_option maxRecDepth 20000 in
theorem s_m_reach_45 {P11 : Int32 → Int32 → Prop} {P33 : Int32 → Int32 → Prop} {a_lands : Nat → Int32} {f_land : Int32} {f_huts : Int32} {a_at : Nat → Int32} {a_snow : Nat → Int32} {x1 : Int32} {x2 : Int32} {x3 : Int32} {x4 : Int32} {x5 : Int32} {post : Int32 → Prop} (k_a_lands : mLand a_lands) (k_f_land : iv 0 1 f_land) (k_f_huts : iv 1 9 f_huts) (k_a_at : ∀ j, iv 0 8 (a_at j)) (hx1 : iv 0 5 x1) (hx2 : iv 0 511 x2) (hx3 : iv 0 8 x3) (hx4 : iv 0 8 x4) (hx5 : iv 0 9 x5) (m11 : Int) (hm11 : m11 ≤ x3.toInt) (hP11 : ∀ (x2 : Int32) (x3 : Int32), m11 < x3.toInt → iv 0 511 x2 → iv 0 9 x3 → P11 x2 x3) (m33 : Int) (hm33 : m33 ≤ x4.toInt) (hP33 : ∀ (x2 : Int32) (x4 : Int32), m33 < x4.toInt → iv 0 511 x2 → iv 0 9 x4 → P33 x2 x4) (hpost : ∀ (r : Int32), iv 0 511 r → post r) : q_m_reach_45 P11 P33 a_lands f_land f_huts a_at a_snow x1 x2 x3 x4 x5 post := by
  intro P hP
  have loop : ∀ (n : Nat) (x2 : Int32) (x5 : Int32), (9 - x5.toInt < (n : Int)) → (iv 0 511 x2) → (iv 0 9 x5) → P x2 x5 := by
    intro n
    induction n with
    | zero => intro x2 x5 hm hx2 hx5; exact (ms0_up hm hx5).elim
    | succ n ih =>
      intro x2 x5 hm hx2 hx5
      apply hP
      refine ⟨fun c1 => ?_, fun c1 => ?_⟩
      · skip
        intro w2 ew2
        have hw2 := iv_eq ew2 (iv_add (l := 1) (h := 9) hx4 (iv_lit (l := 1) (h := 1) (by decide)) (by decide))
        exact hP33 _ _ (ml_up hm33 (inc_lt ew2 hx4 (by decide))) hx2 (iv_w hw2 (by decide))
      · skip
        refine ⟨fun c3 => ?_, fun c3 => ?_⟩
        · skip
          refine ⟨fun c4 => ?_, fun c4 => ?_⟩
          · skip
            exact s_m_reach_91 k_a_lands k_f_land k_f_huts k_a_at hx1 hx3 hx4 (iv_lta (l := 0) (h := 8) (r_nle c1) hx5 k_f_huts (by decide)) hx2 m11 hm11 hP11 m33 hm33 hP33 x5.toInt (Int.le_refl _) (fun u0 u1 hq g0 g1 => ih u0 u1 (ms_up hm hq) g0 g1) hpost
          · skip
            exact (iv_emp (iv_ne (l := 1) (h := 0) c4 (iv_lit (l := 0) (h := 0) (by decide)) (iv_lit (l := 0) (h := 0) (by decide)) (by decide)) (by decide)).elim
        · skip
          refine ⟨fun c5 => ?_, fun c5 => ?_⟩
          · skip
            exact (iv_emp (iv_eqa (l := 1) (h := 0) c5 (iv_lit (l := 1) (h := 1) (by decide)) (iv_lit (l := 0) (h := 0) (by decide)) (by decide)) (by decide)).elim
          · skip
            refine sp_of (a := 0) (b := 9) k_a_lands k_f_land (iv_add (l := 51) (h := 131) (iv_add (l := 51) (h := 123) (iv_lit (l := 51) (h := 51) (by decide)) (iv_mul (l := 0) (h := 72) (iv_lit (l := 9) (h := 9) (by decide)) hx4 (by decide)) (by decide)) (iv_lta (l := 0) (h := 8) (r_nle c1) hx5 k_f_huts (by decide)) (by decide)) (by decide +kernel) (fun r6 hr6 er6 => ?_)
            refine ⟨fun c7 => ?_, fun c7 => ?_⟩
            · skip
              exact s_m_reach_91 k_a_lands k_f_land k_f_huts k_a_at hx1 hx3 hx4 (iv_lta (l := 0) (h := 8) (r_nle c1) hx5 k_f_huts (by decide)) hx2 m11 hm11 hP11 m33 hm33 hP33 x5.toInt (Int.le_refl _) (fun u0 u1 hq g0 g1 => ih u0 u1 (ms_up hm hq) g0 g1) hpost
            · skip
              refine ⟨iv_in (iv_lta (l := 0) (h := 8) (r_nle c1) hx5 k_f_huts (by decide)) (by decide), ?_⟩
              refine sp_of (a := 0) (b := 9) k_a_lands k_f_land (iv_lit (l := 5) (h := 5) (by decide)) (by decide +kernel) (fun r8 hr8 er8 => ?_)
              refine ⟨fun c9 => ?_, fun c9 => ?_⟩
              · skip
                refine ⟨fun c10 => ?_, fun c10 => ?_⟩
                · skip
                  exact (iv_emp (iv_ne (l := 1) (h := 0) c10 (iv_lit (l := 0) (h := 0) (by decide)) (iv_lit (l := 0) (h := 0) (by decide)) (by decide)) (by decide)).elim
                · skip
                  exact s_m_reach_92 k_a_lands k_f_land k_f_huts k_a_at hx1 hx3 hx4 (iv_lta (l := 0) (h := 8) (r_nle c1) hx5 k_f_huts (by decide)) hx2 (iv_w (iv_shl1 (l := 1) (h := 256) (iv_lit (l := 1) (h := 1) (by decide)) (iv_lta (l := 0) (h := 8) (r_nle c1) hx5 k_f_huts (by decide)) (by decide)) (by decide)) m11 hm11 hP11 m33 hm33 hP33 x5.toInt (Int.le_refl _) (fun u0 u1 hq g0 g1 => ih u0 u1 (ms_up hm hq) g0 g1) hpost
              · skip
                refine ⟨fun c11 => ?_, fun c11 => ?_⟩
                · skip
                  exact s_m_reach_91 k_a_lands k_f_land k_f_huts k_a_at hx1 hx3 hx4 (iv_lta (l := 0) (h := 8) (r_nle c1) hx5 k_f_huts (by decide)) hx2 m11 hm11 hP11 m33 hm33 hP33 x5.toInt (Int.le_refl _) (fun u0 u1 hq g0 g1 => ih u0 u1 (ms_up hm hq) g0 g1) hpost
                · skip
                  exact (iv_emp (iv_eqa (l := 1) (h := 0) c11 (iv_lit (l := 1) (h := 1) (by decide)) (iv_lit (l := 0) (h := 0) (by decide)) (by decide)) (by decide)).elim
  exact loop _ _ _ (ms_init_up _ _) hx2 hx5
set_option maxRecDepth 20000 in
theorem s_m_reach_33 {P11 : Int32 → Int32 → Prop} {a_lands : Nat → Int32} {f_land : Int32} {f_huts : Int32} {a_at : Nat → Int32} {a_snow : Nat → Int32} {x1 : Int32} {x2 : Int32} {x3 : Int32} {x4 : Int32} {post : Int32 → Prop} (k_a_lands : mLand a_lands) (k_f_land : iv 0 1 f_land) (k_f_huts : iv 0 9 f_huts) (k_a_at : ∀ j, iv 0 8 (a_at j)) (hx1 : iv 0 5 x1) (hx2 : iv 0 511 x2) (hx3 : iv 0 8 x3) (hx4 : iv 0 9 x4) (m11 : Int) (hm11 : m11 ≤ x3.toInt) (hP11 : ∀ (x2 : Int32) (x3 : Int32), m11 < x3.toInt → iv 0 511 x2 → iv 0 9 x3 → P11 x2 x3) (hpost : ∀ (r : Int32), iv 0 511 r → post r) : q_m_reach_33 P11 a_lands f_land f_huts a_at a_snow x1 x2 x3 x4 post := by
  intro P hP
  have loop : ∀ (n : Nat) (x2 : Int32) (x4 : Int32), (9 - x4.toInt < (n : Int)) → (iv 0 511 x2) → (iv 0 9 x4) → P x2 x4 := by
    intro n
    induction n with
    | zero => intro x2 x4 hm hx2 hx4; exact (ms0_up hm hx4).elim
    | succ n ih =>
      intro x2 x4 hm hx2 hx4
      apply hP
      refine ⟨fun c1 => ?_, fun c1 => ?_⟩
      · skip
        intro w2 ew2
        have hw2 := iv_eq ew2 (iv_add (l := 1) (h := 9) hx3 (iv_lit (l := 1) (h := 1) (by decide)) (by decide))
        exact hP11 _ _ (ml_up hm11 (inc_lt ew2 hx3 (by decide))) hx2 (iv_w hw2 (by decide))
      · skip
        exact s_m_reach_45 k_a_lands k_f_land (iv_ltb (l := 1) (h := 9) (r_nle c1) hx4 k_f_huts (by decide)) k_a_at hx1 hx2 hx3 (iv_lta (l := 0) (h := 8) (r_nle c1) hx4 k_f_huts (by decide)) (iv_w (iv_lit (l := 0) (h := 0) (by decide)) (by decide)) m11 hm11 hP11 x4.toInt (Int.le_refl _) (fun u0 u1 hq g0 g1 => ih u0 u1 (ms_up hm hq) g0 g1) hpost
  exact loop _ _ _ (ms_init_up _ _) hx2 hx4
set_option maxRecDepth 20000 in
theorem s_m_reach_11 {a_lands : Nat → Int32} {f_land : Int32} {f_huts : Int32} {a_at : Nat → Int32} {a_snow : Nat → Int32} {x1 : Int32} {x2 : Int32} {x3 : Int32} {post : Int32 → Prop} (k_a_lands : mLand a_lands) (k_f_land : iv 0 1 f_land) (k_f_huts : iv 0 9 f_huts) (k_a_at : ∀ j, iv 0 8 (a_at j)) (hx1 : iv 0 5 x1) (hx2 : iv 0 511 x2) (hx3 : iv 0 9 x3) (hpost : ∀ (r : Int32), iv 0 511 r → post r) : q_m_reach_11 a_lands f_land f_huts a_at a_snow x1 x2 x3 post := by
  intro P hP
  have loop : ∀ (n : Nat) (x2 : Int32) (x3 : Int32), (9 - x3.toInt < (n : Int)) → (iv 0 511 x2) → (iv 0 9 x3) → P x2 x3 := by
    intro n
    induction n with
    | zero => intro x2 x3 hm hx2 hx3; exact (ms0_up hm hx3).elim
    | succ n ih =>
      intro x2 x3 hm hx2 hx3
      apply hP
      refine ⟨fun c1 => ?_, fun c1 => ?_⟩
      · skip
        exact hpost _ hx2
      · skip
        refine ⟨iv_in hx1 (by decide), ?_⟩
        refine ⟨iv_in (k_a_at _) (by decide), ?_⟩
        refine sp_of (a := 0) (b := 9) k_a_lands k_f_land (iv_lit (l := 5) (h := 5) (by decide)) (by decide +kernel) (fun r2 hr2 er2 => ?_)
        refine ⟨fun c3 => ?_, fun c3 => ?_⟩
        · skip
          refine ⟨fun c4 => ?_, fun c4 => ?_⟩
          · skip
            exact (iv_emp (iv_ne (l := 1) (h := 0) c4 (iv_lit (l := 0) (h := 0) (by decide)) (iv_lit (l := 0) (h := 0) (by decide)) (by decide)) (by decide)).elim
          · skip
            exact s_m_reach_33 k_a_lands k_f_land k_f_huts k_a_at hx1 hx2 (iv_lta (l := 0) (h := 8) (r_nle c1) hx3 (iv_lit (l := 9) (h := 9) (by decide)) (by decide)) (iv_w (iv_lit (l := 0) (h := 0) (by decide)) (by decide)) x3.toInt (Int.le_refl _) (fun u0 u1 hq g0 g1 => ih u0 u1 (ms_up hm hq) g0 g1) hpost
        · skip
          refine ⟨fun c5 => ?_, fun c5 => ?_⟩
          · skip
            exact hpost _ hx2
          · skip
            exact (iv_emp (iv_eqa (l := 1) (h := 0) c5 (iv_lit (l := 1) (h := 1) (by decide)) (iv_lit (l := 0) (h := 0) (by decide)) (by decide)) (by decide)).elim
  exact loop _ _ _ (ms_init_up _ _) hx2 hx3
set_option maxRecDepth 20000 in
theorem s_m_reach_0 {a_lands : Nat → Int32} {f_land : Int32} {f_huts : Int32} {a_at : Nat → Int32} {a_snow : Nat → Int32} {x1 : Int32} {post : Int32 → Prop} (k_a_lands : mLand a_lands) (k_f_land : iv 0 1 f_land) (k_f_huts : iv 0 9 f_huts) (k_a_at : ∀ j, iv 0 8 (a_at j)) (hx1 : iv 0 5 x1) (hpost : ∀ (r : Int32), iv 0 511 r → post r) : q_m_reach_0 a_lands f_land f_huts a_at a_snow x1 post := by
  refine ⟨iv_in hx1 (by decide), ?_⟩
  intro w1 ew1
  have hw1 := iv_eq ew1 (iv_shl1 (l := 1) (h := 256) (iv_lit (l := 1) (h := 1) (by decide)) (k_a_at _) (by decide))
  exact s_m_reach_11 k_a_lands k_f_land k_f_huts k_a_at hx1 (iv_w hw1 (by decide)) (iv_w (iv_lit (l := 0) (h := 0) (by decide)) (by decide)) hpost
-- m_isDone
set_option maxRecDepth 20000 in
theorem s_m_isDone_88 {P2 : Int32 → Prop} {P44 : Int32 → Prop} {a_lands : Nat → Int32} {f_land : Int32} {f_huts : Int32} {f_singers : Int32} {a_at : Nat → Int32} {a_knows : Nat → Int32} {a_snow : Nat → Int32} {a_level : Nat → Int32} {x1 : Int32} {x2 : Int32} {x3 : Int32} {x4 : Int32} {post : Int32 → Prop} (k_a_lands : mLand a_lands) (k_f_land : iv 0 1 f_land) (k_f_huts : iv 1 9 f_huts) (k_f_singers : iv 1 6 f_singers) (k_a_at : ∀ j, iv 0 8 (a_at j)) (k_a_knows : ∀ j, iv 0 31 (a_knows j)) (k_a_level : ∀ j, iv (-9) 108 (a_level j)) (hx1 : iv 0 4 x1) (hx2 : iv 0 5 x2) (hx3 : iv 0 511 x3) (hx4 : iv 0 8 x4) (m2 : Int) (hm2 : m2 ≤ x2.toInt) (hP2 : ∀ (x2 : Int32), m2 < x2.toInt → iv 0 6 x2 → P2 x2) (m44 : Int) (hm44 : m44 ≤ x4.toInt) (hP44 : ∀ (x4 : Int32), m44 < x4.toInt → iv 0 9 x4 → P44 x4) (hpost : ∀ (r : Int32), iv 0 1 r → post r) : q_m_isDone_88 P2 P44 a_lands f_land f_huts f_singers a_at a_knows a_snow a_level x1 x2 x3 x4 post := by
  intro w1 ew1
  have hw1 := iv_eq ew1 (iv_add (l := 1) (h := 9) hx4 (iv_lit (l := 1) (h := 1) (by decide)) (by decide))
  exact hP44 _ (ml_up hm44 (inc_lt ew1 hx4 (by decide))) (iv_w hw1 (by decide))
set_option maxRecDepth 20000 in
theorem s_m_isDone_44 {P2 : Int32 → Prop} {a_lands : Nat → Int32} {f_land : Int32} {f_huts : Int32} {f_singers : Int32} {a_at : Nat → Int32} {a_knows : Nat → Int32} {a_snow : Nat → Int32} {a_level : Nat → Int32} {x1 : Int32} {x2 : Int32} {x3 : Int32} {x4 : Int32} {post : Int32 → Prop} (k_a_lands : mLand a_lands) (k_f_land : iv 0 1 f_land) (k_f_huts : iv 0 9 f_huts) (k_f_singers : iv 1 6 f_singers) (k_a_at : ∀ j, iv 0 8 (a_at j)) (k_a_knows : ∀ j, iv 0 31 (a_knows j)) (k_a_level : ∀ j, iv (-9) 108 (a_level j)) (hx1 : iv 0 4 x1) (hx2 : iv 0 5 x2) (hx3 : iv 0 511 x3) (hx4 : iv 0 9 x4) (m2 : Int) (hm2 : m2 ≤ x2.toInt) (hP2 : ∀ (x2 : Int32), m2 < x2.toInt → iv 0 6 x2 → P2 x2) (hpost : ∀ (r : Int32), iv 0 1 r → post r) : q_m_isDone_44 P2 a_lands f_land f_huts f_singers a_at a_knows a_snow a_level x1 x2 x3 x4 post := by
  intro P hP
  have loop : ∀ (n : Nat) (x4 : Int32), (9 - x4.toInt < (n : Int)) → (iv 0 9 x4) → P x4 := by
    intro n
    induction n with
    | zero => intro x4 hm hx4; exact (ms0_up hm hx4).elim
    | succ n ih =>
      intro x4 hm hx4
      apply hP
      refine ⟨fun c1 => ?_, fun c1 => ?_⟩
      · skip
        intro w2 ew2
        have hw2 := iv_eq ew2 (iv_add (l := 1) (h := 6) hx2 (iv_lit (l := 1) (h := 1) (by decide)) (by decide))
        exact hP2 _ (ml_up hm2 (inc_lt ew2 hx2 (by decide))) (iv_w hw2 (by decide))
      · skip
        refine ⟨fun c3 => ?_, fun c3 => ?_⟩
        · skip
          refine ⟨fun c4 => ?_, fun c4 => ?_⟩
          · skip
            exact s_m_isDone_88 k_a_lands k_f_land (iv_ltb (l := 1) (h := 9) (r_nle c1) hx4 k_f_huts (by decide)) k_f_singers k_a_at k_a_knows k_a_level hx1 hx2 hx3 (iv_lta (l := 0) (h := 8) (r_nle c1) hx4 k_f_huts (by decide)) m2 hm2 hP2 x4.toInt (Int.le_refl _) (fun u0 hq g0 => ih u0 (ms_up hm hq) g0) hpost
          · skip
            exact (iv_emp (iv_ne (l := 1) (h := 0) c4 (iv_lit (l := 0) (h := 0) (by decide)) (iv_lit (l := 0) (h := 0) (by decide)) (by decide)) (by decide)).elim
        · skip
          refine ⟨fun c5 => ?_, fun c5 => ?_⟩
          · skip
            exact (iv_emp (iv_eqa (l := 1) (h := 0) c5 (iv_lit (l := 1) (h := 1) (by decide)) (iv_lit (l := 0) (h := 0) (by decide)) (by decide)) (by decide)).elim
          · skip
            refine sp_of (a := 0) (b := 99) k_a_lands k_f_land (iv_add (l := 7) (h := 15) (iv_lit (l := 7) (h := 7) (by decide)) (iv_lta (l := 0) (h := 8) (r_nle c1) hx4 k_f_huts (by decide)) (by decide)) (by decide +kernel) (fun r6 hr6 er6 => ?_)
            refine sp_of (a := 0) (b := 9) k_a_lands k_f_land (iv_add (l := 31) (h := 36) (iv_lit (l := 31) (h := 31) (by decide)) hx2 (by decide)) (by decide +kernel) (fun r7 hr7 er7 => ?_)
            refine ⟨iv_in hx1 (by decide), ?_⟩
            refine ⟨fun c8 => ?_, fun c8 => ?_⟩
            · skip
              exact s_m_isDone_88 k_a_lands k_f_land (iv_ltb (l := 1) (h := 9) (r_nle c1) hx4 k_f_huts (by decide)) k_f_singers k_a_at k_a_knows k_a_level hx1 hx2 hx3 (iv_lta (l := 0) (h := 8) (r_nle c1) hx4 k_f_huts (by decide)) m2 hm2 hP2 x4.toInt (Int.le_refl _) (fun u0 hq g0 => ih u0 (ms_up hm hq) g0) hpost
            · skip
              exact hpost _ (iv_w (iv_lit (l := 0) (h := 0) (by decide)) (by decide))
  exact loop _ _ (ms_init_up _ _) hx4
set_option maxRecDepth 20000 in
theorem s_m_isDone_40 {P2 : Int32 → Prop} {a_lands : Nat → Int32} {f_land : Int32} {f_huts : Int32} {f_singers : Int32} {a_at : Nat → Int32} {a_knows : Nat → Int32} {a_snow : Nat → Int32} {a_level : Nat → Int32} {x1 : Int32} {x2 : Int32} {y0 : Int32} {post : Int32 → Prop} (k_a_lands : mLand a_lands) (k_f_land : iv 0 1 f_land) (k_f_huts : iv 0 9 f_huts) (k_f_singers : iv 1 6 f_singers) (k_a_at : ∀ j, iv 0 8 (a_at j)) (k_a_knows : ∀ j, iv 0 31 (a_knows j)) (k_a_level : ∀ j, iv (-9) 108 (a_level j)) (hx1 : iv 0 4 x1) (hx2 : iv 0 5 x2) (hy0 : iv 0 511 y0) (m2 : Int) (hm2 : m2 ≤ x2.toInt) (hP2 : ∀ (x2 : Int32), m2 < x2.toInt → iv 0 6 x2 → P2 x2) (hpost : ∀ (r : Int32), iv 0 1 r → post r) : q_m_isDone_40 P2 a_lands f_land f_huts f_singers a_at a_knows a_snow a_level x1 x2 y0 post := by
  exact s_m_isDone_44 k_a_lands k_f_land k_f_huts k_f_singers k_a_at k_a_knows k_a_level hx1 hx2 hy0 (iv_w (iv_lit (l := 0) (h := 0) (by decide)) (by decide)) m2 hm2 hP2 hpost
set_option maxRecDepth 20000 in
theorem s_m_isDone_2 {a_lands : Nat → Int32} {f_land : Int32} {f_huts : Int32} {f_singers : Int32} {a_at : Nat → Int32} {a_knows : Nat → Int32} {a_snow : Nat → Int32} {a_level : Nat → Int32} {x1 : Int32} {x2 : Int32} {post : Int32 → Prop} (k_a_lands : mLand a_lands) (k_f_land : iv 0 1 f_land) (k_f_huts : iv 0 9 f_huts) (k_f_singers : iv 0 6 f_singers) (k_a_at : ∀ j, iv 0 8 (a_at j)) (k_a_knows : ∀ j, iv 0 31 (a_knows j)) (k_a_level : ∀ j, iv (-9) 108 (a_level j)) (hx1 : iv 0 4 x1) (hx2 : iv 0 6 x2) (hpost : ∀ (r : Int32), iv 0 1 r → post r) : q_m_isDone_2 a_lands f_land f_huts f_singers a_at a_knows a_snow a_level x1 x2 post := by
  intro P hP
  have loop : ∀ (n : Nat) (x2 : Int32), (6 - x2.toInt < (n : Int)) → (iv 0 6 x2) → P x2 := by
    intro n
    induction n with
    | zero => intro x2 hm hx2; exact (ms0_up hm hx2).elim
    | succ n ih =>
      intro x2 hm hx2
      apply hP
      refine ⟨fun c1 => ?_, fun c1 => ?_⟩
      · skip
        exact hpost _ (iv_w (iv_lit (l := 1) (h := 1) (by decide)) (by decide))
      · skip
        refine ⟨iv_in (iv_lta (l := 0) (h := 5) (r_nle c1) hx2 k_f_singers (by decide)) (by decide), ?_⟩
        refine ⟨fun c2 => ?_, fun c2 => ?_⟩
        · skip
          refine ⟨fun c3 => ?_, fun c3 => ?_⟩
          · skip
            exact s_m_isDone_40 k_a_lands k_f_land k_f_huts (iv_ltb (l := 1) (h := 6) (r_nle c1) hx2 k_f_singers (by decide)) k_a_at k_a_knows k_a_level hx1 (iv_lta (l := 0) (h := 5) (r_nle c1) hx2 k_f_singers (by decide)) (iv_w (iv_lit (l := 0) (h := 0) (by decide)) (by decide)) x2.toInt (Int.le_refl _) (fun u0 hq g0 => ih u0 (ms_up hm hq) g0) hpost
          · skip
            exact (iv_emp (iv_ne (l := 1) (h := 0) c3 (iv_lit (l := 0) (h := 0) (by decide)) (iv_lit (l := 0) (h := 0) (by decide)) (by decide)) (by decide)).elim
        · skip
          refine ⟨fun c4 => ?_, fun c4 => ?_⟩
          · skip
            exact (iv_emp (iv_eqa (l := 1) (h := 0) c4 (iv_lit (l := 1) (h := 1) (by decide)) (iv_lit (l := 0) (h := 0) (by decide)) (by decide)) (by decide)).elim
          · skip
            refine s_m_reach_0 k_a_lands k_f_land k_f_huts k_a_at (iv_lta (l := 0) (h := 5) (r_nle c1) hx2 k_f_singers (by decide)) (fun r5 hr5 => ?_)
            refine sp_of (a := 0) (b := 511) k_a_lands k_f_land (iv_lit (l := 3) (h := 3) (by decide)) (by decide +kernel) (fun r6 hr6 er6 => ?_)
            exact s_m_isDone_40 k_a_lands k_f_land k_f_huts (iv_ltb (l := 1) (h := 6) (r_nle c1) hx2 k_f_singers (by decide)) k_a_at k_a_knows k_a_level hx1 (iv_lta (l := 0) (h := 5) (r_nle c1) hx2 k_f_singers (by decide)) (iv_andl (l := 0) (h := 511) hr5 (by decide)) x2.toInt (Int.le_refl _) (fun u0 hq g0 => ih u0 (ms_up hm hq) g0) hpost
  exact loop _ _ (ms_init_up _ _) hx2
set_option maxRecDepth 20000 in
theorem s_m_isDone_0 {a_lands : Nat → Int32} {f_land : Int32} {f_huts : Int32} {f_singers : Int32} {a_at : Nat → Int32} {a_knows : Nat → Int32} {a_snow : Nat → Int32} {a_level : Nat → Int32} {x1 : Int32} {post : Int32 → Prop} (k_a_lands : mLand a_lands) (k_f_land : iv 0 1 f_land) (k_f_huts : iv 0 9 f_huts) (k_f_singers : iv 0 6 f_singers) (k_a_at : ∀ j, iv 0 8 (a_at j)) (k_a_knows : ∀ j, iv 0 31 (a_knows j)) (k_a_level : ∀ j, iv (-9) 108 (a_level j)) (hx1 : iv 0 4 x1) (hpost : ∀ (r : Int32), iv 0 1 r → post r) : q_m_isDone_0 a_lands f_land f_huts f_singers a_at a_knows a_snow a_level x1 post := by
  exact s_m_isDone_2 k_a_lands k_f_land k_f_huts k_f_singers k_a_at k_a_knows k_a_level hx1 (iv_w (iv_lit (l := 0) (h := 0) (by decide)) (by decide)) hpost
-- m_doneFor
set_option maxRecDepth 20000 in
theorem s_m_doneFor_36 {P4 : Int32 → Int32 → Prop} {a_lands : Nat → Int32} {f_land : Int32} {f_huts : Int32} {f_singers : Int32} {a_at : Nat → Int32} {a_knows : Nat → Int32} {a_snow : Nat → Int32} {a_level : Nat → Int32} {f_begun : Int32} {x2 : Int32} {y0 : Int32} {y1 : Int32} {post : Int32 → Prop} (k_a_lands : mLand a_lands) (k_f_land : iv 0 1 f_land) (k_f_huts : iv 0 9 f_huts) (k_f_singers : iv 0 6 f_singers) (k_a_at : ∀ j, iv 0 8 (a_at j)) (k_a_knows : ∀ j, iv 0 31 (a_knows j)) (k_a_level : ∀ j, iv (-9) 108 (a_level j)) (k_f_begun : iv 0 31 f_begun) (hx2 : iv 0 4 x2) (hy0 : iv 0 31 y0) (hy1 : iv 0 16 y1) (m4 : Int) (hm4 : m4 ≤ x2.toInt) (hP4 : ∀ (x1 : Int32) (x2 : Int32), m4 < x2.toInt → iv 0 31 x1 → iv 0 5 x2 → P4 x1 x2) (hpost : ∀ (r : Int32), iv 0 31 r → post r) : q_m_doneFor_36 P4 a_lands f_land f_huts f_singers a_at a_knows a_snow a_level f_begun x2 y0 y1 post := by
  intro w1 ew1
  have hw1 := iv_eq ew1 (iv_or 5 (l := 0) (h := 31) hy0 hy1 (by decide))
  intro w2 ew2
  have hw2 := iv_eq ew2 (iv_add (l := 1) (h := 5) hx2 (iv_lit (l := 1) (h := 1) (by decide)) (by decide))
  exact hP4 _ _ (ml_up hm4 (inc_lt ew2 hx2 (by decide))) hw1 (iv_w hw2 (by decide))
set_option maxRecDepth 20000 in
theorem s_m_doneFor_35 {P4 : Int32 → Int32 → Prop} {a_lands : Nat → Int32} {f_land : Int32} {f_huts : Int32} {f_singers : Int32} {a_at : Nat → Int32} {a_knows : Nat → Int32} {a_snow : Nat → Int32} {a_level : Nat → Int32} {f_begun : Int32} {x2 : Int32} {y0 : Int32} {post : Int32 → Prop} (k_a_lands : mLand a_lands) (k_f_land : iv 0 1 f_land) (k_f_huts : iv 0 9 f_huts) (k_f_singers : iv 0 6 f_singers) (k_a_at : ∀ j, iv 0 8 (a_at j)) (k_a_knows : ∀ j, iv 0 31 (a_knows j)) (k_a_level : ∀ j, iv (-9) 108 (a_level j)) (k_f_begun : iv 0 31 f_begun) (hx2 : iv 0 4 x2) (hy0 : iv 0 31 y0) (m4 : Int) (hm4 : m4 ≤ x2.toInt) (hP4 : ∀ (x1 : Int32) (x2 : Int32), m4 < x2.toInt → iv 0 31 x1 → iv 0 5 x2 → P4 x1 x2) (hpost : ∀ (r : Int32), iv 0 31 r → post r) : q_m_doneFor_35 P4 a_lands f_land f_huts f_singers a_at a_knows a_snow a_level f_begun x2 y0 post := by
  exact s_m_doneFor_36 k_a_lands k_f_land k_f_huts k_f_singers k_a_at k_a_knows k_a_level k_f_begun hx2 hy0 (iv_w (iv_lit (l := 0) (h := 0) (by decide)) (by decide)) m4 hm4 hP4 hpost
set_option maxRecDepth 20000 in
theorem s_m_doneFor_4 {a_lands : Nat → Int32} {f_land : Int32} {f_huts : Int32} {f_singers : Int32} {a_at : Nat → Int32} {a_knows : Nat → Int32} {a_snow : Nat → Int32} {a_level : Nat → Int32} {f_begun : Int32} {x1 : Int32} {x2 : Int32} {post : Int32 → Prop} (k_a_lands : mLand a_lands) (k_f_land : iv 0 1 f_land) (k_f_huts : iv 0 9 f_huts) (k_f_singers : iv 0 6 f_singers) (k_a_at : ∀ j, iv 0 8 (a_at j)) (k_a_knows : ∀ j, iv 0 31 (a_knows j)) (k_a_level : ∀ j, iv (-9) 108 (a_level j)) (k_f_begun : iv 0 31 f_begun) (hx1 : iv 0 31 x1) (hx2 : iv 0 5 x2) (hpost : ∀ (r : Int32), iv 0 31 r → post r) : q_m_doneFor_4 a_lands f_land f_huts f_singers a_at a_knows a_snow a_level f_begun x1 x2 post := by
  intro P hP
  have loop : ∀ (n : Nat) (x1 : Int32) (x2 : Int32), (5 - x2.toInt < (n : Int)) → (iv 0 31 x1) → (iv 0 5 x2) → P x1 x2 := by
    intro n
    induction n with
    | zero => intro x1 x2 hm hx1 hx2; exact (ms0_up hm hx2).elim
    | succ n ih =>
      intro x1 x2 hm hx1 hx2
      apply hP
      refine ⟨fun c1 => ?_, fun c1 => ?_⟩
      · skip
        exact hpost _ hx1
      · skip
        refine ⟨fun c2 => ?_, fun c2 => ?_⟩
        · skip
          refine ⟨fun c3 => ?_, fun c3 => ?_⟩
          · skip
            exact s_m_doneFor_35 k_a_lands k_f_land k_f_huts k_f_singers k_a_at k_a_knows k_a_level k_f_begun (iv_lta (l := 0) (h := 4) (r_nle c1) hx2 (iv_lit (l := 5) (h := 5) (by decide)) (by decide)) hx1 x2.toInt (Int.le_refl _) (fun u0 u1 hq g0 g1 => ih u0 u1 (ms_up hm hq) g0 g1) hpost
          · skip
            exact (iv_emp (iv_ne (l := 1) (h := 0) c3 (iv_lit (l := 0) (h := 0) (by decide)) (iv_lit (l := 0) (h := 0) (by decide)) (by decide)) (by decide)).elim
        · skip
          refine ⟨fun c4 => ?_, fun c4 => ?_⟩
          · skip
            exact (iv_emp (iv_eqa (l := 1) (h := 0) c4 (iv_lit (l := 1) (h := 1) (by decide)) (iv_lit (l := 0) (h := 0) (by decide)) (by decide)) (by decide)).elim
          · skip
            refine s_m_isDone_0 k_a_lands k_f_land k_f_huts k_f_singers k_a_at k_a_knows k_a_level (iv_lta (l := 0) (h := 4) (r_nle c1) hx2 (iv_lit (l := 5) (h := 5) (by decide)) (by decide)) (fun r5 hr5 => ?_)
            refine ⟨fun c6 => ?_, fun c6 => ?_⟩
            · skip
              exact s_m_doneFor_35 k_a_lands k_f_land k_f_huts k_f_singers k_a_at k_a_knows k_a_level k_f_begun (iv_lta (l := 0) (h := 4) (r_nle c1) hx2 (iv_lit (l := 5) (h := 5) (by decide)) (by decide)) hx1 x2.toInt (Int.le_refl _) (fun u0 u1 hq g0 g1 => ih u0 u1 (ms_up hm hq) g0 g1) hpost
            · skip
              exact s_m_doneFor_36 k_a_lands k_f_land k_f_huts k_f_singers k_a_at k_a_knows k_a_level k_f_begun (iv_lta (l := 0) (h := 4) (r_nle c1) hx2 (iv_lit (l := 5) (h := 5) (by decide)) (by decide)) hx1 (iv_w (iv_shl1 (l := 1) (h := 16) (iv_lit (l := 1) (h := 1) (by decide)) (iv_lta (l := 0) (h := 4) (r_nle c1) hx2 (iv_lit (l := 5) (h := 5) (by decide)) (by decide)) (by decide)) (by decide)) x2.toInt (Int.le_refl _) (fun u0 u1 hq g0 g1 => ih u0 u1 (ms_up hm hq) g0 g1) hpost
  exact loop _ _ _ (ms_init_up _ _) hx1 hx2
set_option maxRecDepth 20000 in
theorem s_m_doneFor_0 {a_lands : Nat → Int32} {f_land : Int32} {f_huts : Int32} {f_singers : Int32} {a_at : Nat → Int32} {a_knows : Nat → Int32} {a_snow : Nat → Int32} {a_level : Nat → Int32} {f_begun : Int32} {post : Int32 → Prop} (k_a_lands : mLand a_lands) (k_f_land : iv 0 1 f_land) (k_f_huts : iv 0 9 f_huts) (k_f_singers : iv 0 6 f_singers) (k_a_at : ∀ j, iv 0 8 (a_at j)) (k_a_knows : ∀ j, iv 0 31 (a_knows j)) (k_a_level : ∀ j, iv (-9) 108 (a_level j)) (k_f_begun : iv 0 31 f_begun) (hpost : ∀ (r : Int32), iv 0 31 r → post r) : q_m_doneFor_0 a_lands f_land f_huts f_singers a_at a_knows a_snow a_level f_begun post := by
  exact s_m_doneFor_4 k_a_lands k_f_land k_f_huts k_f_singers k_a_at k_a_knows k_a_level k_f_begun (iv_w (iv_lit (l := 0) (h := 0) (by decide)) (by decide)) (iv_w (iv_lit (l := 0) (h := 0) (by decide)) (by decide)) hpost
-- m_fame
set_option maxRecDepth 20000 in
theorem s_m_fame_31 {P4 : Int32 → Int32 → Prop} {f_singers : Int32} {a_knows : Nat → Int32} {x1 : Int32} {x3 : Int32} {y0 : Int32} {y1 : Int32} {post : Int32 → Prop} (k_f_singers : iv 1 6 f_singers) (k_a_knows : ∀ j, iv 0 31 (a_knows j)) (hx1 : iv 0 4 x1) (hx3 : iv 0 5 x3) (hy1 : iv 0 1 y1) (m4 : Int) (hm4 : m4 ≤ x3.toInt) (hP4 : ∀ (x2 : Int32) (x3 : Int32), m4 < x3.toInt → iv 0 6 x3 → P4 x2 x3) (hpost : ∀ (r : Int32), post r) : q_m_fame_31 P4 f_singers a_knows x1 x3 y0 y1 post := by
  intro w1 ew1
  intro w2 ew2
  have hw2 := iv_eq ew2 (iv_add (l := 1) (h := 6) hx3 (iv_lit (l := 1) (h := 1) (by decide)) (by decide))
  exact hP4 _ _ (ml_up hm4 (inc_lt ew2 hx3 (by decide))) (iv_w hw2 (by decide))
set_option maxRecDepth 20000 in
theorem s_m_fame_4 {f_singers : Int32} {a_knows : Nat → Int32} {x1 : Int32} {x2 : Int32} {x3 : Int32} {post : Int32 → Prop} (k_f_singers : iv 0 6 f_singers) (k_a_knows : ∀ j, iv 0 31 (a_knows j)) (hx1 : iv 0 4 x1) (hx3 : iv 0 6 x3) (hpost : ∀ (r : Int32), post r) : q_m_fame_4 f_singers a_knows x1 x2 x3 post := by
  intro P hP
  have loop : ∀ (n : Nat) (x2 : Int32) (x3 : Int32), (6 - x3.toInt < (n : Int)) → (iv 0 6 x3) → P x2 x3 := by
    intro n
    induction n with
    | zero => intro x2 x3 hm hx3; exact (ms0_up hm hx3).elim
    | succ n ih =>
      intro x2 x3 hm hx3
      apply hP
      refine ⟨fun c1 => ?_, fun c1 => ?_⟩
      · skip
        exact hpost _
      · skip
        refine ⟨iv_in (iv_lta (l := 0) (h := 5) (r_nle c1) hx3 k_f_singers (by decide)) (by decide), ?_⟩
        refine ⟨fun c2 => ?_, fun c2 => ?_⟩
        · skip
          refine ⟨fun c3 => ?_, fun c3 => ?_⟩
          · skip
            exact s_m_fame_31 (iv_ltb (l := 1) (h := 6) (r_nle c1) hx3 k_f_singers (by decide)) k_a_knows hx1 (iv_lta (l := 0) (h := 5) (r_nle c1) hx3 k_f_singers (by decide)) (iv_w (iv_lit (l := 0) (h := 0) (by decide)) (by decide)) x3.toInt (Int.le_refl _) (fun u0 u1 hq g0 => ih u0 u1 (ms_up hm hq) g0) hpost
          · skip
            exact (iv_emp (iv_ne (l := 1) (h := 0) c3 (iv_lit (l := 0) (h := 0) (by decide)) (iv_lit (l := 0) (h := 0) (by decide)) (by decide)) (by decide)).elim
        · skip
          refine ⟨fun c4 => ?_, fun c4 => ?_⟩
          · skip
            exact (iv_emp (iv_eqa (l := 1) (h := 0) c4 (iv_lit (l := 1) (h := 1) (by decide)) (iv_lit (l := 0) (h := 0) (by decide)) (by decide)) (by decide)).elim
          · skip
            exact s_m_fame_31 (iv_ltb (l := 1) (h := 6) (r_nle c1) hx3 k_f_singers (by decide)) k_a_knows hx1 (iv_lta (l := 0) (h := 5) (r_nle c1) hx3 k_f_singers (by decide)) (iv_w (iv_lit (l := 1) (h := 1) (by decide)) (by decide)) x3.toInt (Int.le_refl _) (fun u0 u1 hq g0 => ih u0 u1 (ms_up hm hq) g0) hpost
  exact loop _ _ _ (ms_init_up _ _) hx3
set_option maxRecDepth 20000 in
theorem s_m_fame_0 {f_singers : Int32} {a_knows : Nat → Int32} {x1 : Int32} {post : Int32 → Prop} (k_f_singers : iv 0 6 f_singers) (k_a_knows : ∀ j, iv 0 31 (a_knows j)) (hx1 : iv 0 4 x1) (hpost : ∀ (r : Int32), post r) : q_m_fame_0 f_singers a_knows x1 post := by
  exact s_m_fame_4 k_f_singers k_a_knows hx1 (iv_w (iv_lit (l := 0) (h := 0) (by decide)) (by decide)) hpost
-- m_seers
set_option maxRecDepth 20000 in
theorem s_m_seers_36 {P4 : Int32 → Int32 → Prop} {f_singers : Int32} {a_knows : Nat → Int32} {f_begun : Int32} {x2 : Int32} {y0 : Int32} {y1 : Int32} {post : Int32 → Prop} (k_f_singers : iv 1 6 f_singers) (k_a_knows : ∀ j, iv 0 31 (a_knows j)) (k_f_begun : iv 0 31 f_begun) (hx2 : iv 0 5 x2) (hy0 : iv 0 63 y0) (hy1 : iv 0 32 y1) (m4 : Int) (hm4 : m4 ≤ x2.toInt) (hP4 : ∀ (x1 : Int32) (x2 : Int32), m4 < x2.toInt → iv 0 63 x1 → iv 0 6 x2 → P4 x1 x2) (hpost : ∀ (r : Int32), iv 0 63 r → post r) : q_m_seers_36 P4 f_singers a_knows f_begun x2 y0 y1 post := by
  intro w1 ew1
  have hw1 := iv_eq ew1 (iv_or 6 (l := 0) (h := 63) hy0 hy1 (by decide))
  intro w2 ew2
  have hw2 := iv_eq ew2 (iv_add (l := 1) (h := 6) hx2 (iv_lit (l := 1) (h := 1) (by decide)) (by decide))
  exact hP4 _ _ (ml_up hm4 (inc_lt ew2 hx2 (by decide))) hw1 (iv_w hw2 (by decide))
set_option maxRecDepth 20000 in
theorem s_m_seers_4 {f_singers : Int32} {a_knows : Nat → Int32} {f_begun : Int32} {x1 : Int32} {x2 : Int32} {post : Int32 → Prop} (k_f_singers : iv 0 6 f_singers) (k_a_knows : ∀ j, iv 0 31 (a_knows j)) (k_f_begun : iv 0 31 f_begun) (hx1 : iv 0 63 x1) (hx2 : iv 0 6 x2) (hpost : ∀ (r : Int32), iv 0 63 r → post r) : q_m_seers_4 f_singers a_knows f_begun x1 x2 post := by
  intro P hP
  have loop : ∀ (n : Nat) (x1 : Int32) (x2 : Int32), (6 - x2.toInt < (n : Int)) → (iv 0 63 x1) → (iv 0 6 x2) → P x1 x2 := by
    intro n
    induction n with
    | zero => intro x1 x2 hm hx1 hx2; exact (ms0_up hm hx2).elim
    | succ n ih =>
      intro x1 x2 hm hx1 hx2
      apply hP
      refine ⟨fun c1 => ?_, fun c1 => ?_⟩
      · skip
        exact hpost _ hx1
      · skip
        refine ⟨iv_in (iv_lta (l := 0) (h := 5) (r_nle c1) hx2 k_f_singers (by decide)) (by decide), ?_⟩
        refine ⟨fun c2 => ?_, fun c2 => ?_⟩
        · skip
          exact s_m_seers_36 (iv_ltb (l := 1) (h := 6) (r_nle c1) hx2 k_f_singers (by decide)) k_a_knows k_f_begun (iv_lta (l := 0) (h := 5) (r_nle c1) hx2 k_f_singers (by decide)) hx1 (iv_w (iv_lit (l := 0) (h := 0) (by decide)) (by decide)) x2.toInt (Int.le_refl _) (fun u0 u1 hq g0 g1 => ih u0 u1 (ms_up hm hq) g0 g1) hpost
        · skip
          exact s_m_seers_36 (iv_ltb (l := 1) (h := 6) (r_nle c1) hx2 k_f_singers (by decide)) k_a_knows k_f_begun (iv_lta (l := 0) (h := 5) (r_nle c1) hx2 k_f_singers (by decide)) hx1 (iv_w (iv_shl1 (l := 1) (h := 32) (iv_lit (l := 1) (h := 1) (by decide)) (iv_lta (l := 0) (h := 5) (r_nle c1) hx2 k_f_singers (by decide)) (by decide)) (by decide)) x2.toInt (Int.le_refl _) (fun u0 u1 hq g0 g1 => ih u0 u1 (ms_up hm hq) g0 g1) hpost
  exact loop _ _ _ (ms_init_up _ _) hx1 hx2
set_option maxRecDepth 20000 in
theorem s_m_seers_0 {f_singers : Int32} {a_knows : Nat → Int32} {f_begun : Int32} {post : Int32 → Prop} (k_f_singers : iv 0 6 f_singers) (k_a_knows : ∀ j, iv 0 31 (a_knows j)) (k_f_begun : iv 0 31 f_begun) (hpost : ∀ (r : Int32), iv 0 63 r → post r) : q_m_seers_0 f_singers a_knows f_begun post := by
  exact s_m_seers_4 k_f_singers k_a_knows k_f_begun (iv_w (iv_lit (l := 0) (h := 0) (by decide)) (by decide)) (iv_w (iv_lit (l := 0) (h := 0) (by decide)) (by decide)) hpost
-- m_ofSinger
set_option maxRecDepth 20000 in
theorem s_m_ofSinger_0 {a_lands : Nat → Int32} {f_land : Int32} {f_singers : Int32} {a_at : Nat → Int32} {a_knows : Nat → Int32} {a_climbed : Nat → Int32} {x1 : Int32} {post : Int32 → Prop} (k_a_lands : mLand a_lands) (k_f_land : iv 0 1 f_land) (k_f_singers : iv 0 6 f_singers) (k_a_at : ∀ j, iv 0 8 (a_at j)) (k_a_knows : ∀ j, iv 0 31 (a_knows j)) (k_a_climbed : ∀ j, iv 0 1 (a_climbed j)) (hx1 : iv 30 69 x1) (hpost : ∀ (r : Int32), iv (-1000) 108 r → post r) : q_m_ofSinger_0 a_lands f_land f_singers a_at a_knows a_climbed x1 post := by
  intro w1 ew1
  have hw1 := iv_eq ew1 (iv_rem (l := 0) (h := 9) hx1 (iv_lit (l := 10) (h := 10) (by decide)) (by decide))
  refine ⟨fun c2 => ?_, fun c2 => ?_⟩
  · skip
    exact (iv_emp (iv_lta (l := 0) (h := (-1)) (r_lt c2) hw1 (iv_lit (l := 0) (h := 0) (by decide)) (by decide)) (by decide)).elim
  · skip
    refine ⟨fun c3 => ?_, fun c3 => ?_⟩
    · skip
      refine ⟨iv_nb (iv_lit (l := 0) (h := 0) (by decide)) (by decide), ?_⟩
      refine ⟨fun c4 => ?_, fun c4 => ?_⟩
      · skip
        exact (iv_emp (iv_ne (l := 1) (h := 0) c4 (iv_lit (l := 0) (h := 0) (by decide)) (iv_lit (l := 0) (h := 0) (by decide)) (by decide)) (by decide)).elim
      · skip
        exact hpost _ (iv_w (iv_lit (l := (-1000)) (h := (-1000)) (by decide)) (by decide))
    · skip
      refine ⟨iv_nb (iv_lit (l := 1) (h := 1) (by decide)) (by decide), ?_⟩
      refine ⟨fun c5 => ?_, fun c5 => ?_⟩
      · skip
        refine ⟨fun c6 => ?_, fun c6 => ?_, fun c6 => ?_, fun c6 => ?_⟩
        · skip
          refine ⟨iv_in (iv_lea (l := 0) (h := 5) (r_nlt c3) hw1 (iv_sub (l := (-1)) (h := 5) k_f_singers (iv_lit (l := 1) (h := 1) (by decide)) (by decide)) (by decide)) (by decide), ?_⟩
          refine sp_of (a := 0) (b := 99) k_a_lands k_f_land (iv_add (l := 7) (h := 15) (iv_lit (l := 7) (h := 7) (by decide)) (k_a_at _) (by decide)) (by decide +kernel) (fun r7 hr7 er7 => ?_)
          refine sp_of (a := 0) (b := 9) k_a_lands k_f_land (iv_add (l := 31) (h := 36) (iv_lit (l := 31) (h := 31) (by decide)) (iv_lea (l := 0) (h := 5) (r_nlt c3) hw1 (iv_sub (l := (-1)) (h := 5) k_f_singers (iv_lit (l := 1) (h := 1) (by decide)) (by decide)) (by decide)) (by decide)) (by decide +kernel) (fun r8 hr8 er8 => ?_)
          refine ⟨iv_in (iv_lea (l := 0) (h := 5) (r_nlt c3) hw1 (iv_sub (l := (-1)) (h := 5) k_f_singers (iv_lit (l := 1) (h := 1) (by decide)) (by decide)) (by decide)) (by decide), ?_⟩
          refine ⟨iv_in (iv_lea (l := 0) (h := 5) (r_nlt c3) hw1 (iv_sub (l := (-1)) (h := 5) k_f_singers (iv_lit (l := 1) (h := 1) (by decide)) (by decide)) (by decide)) (by decide), ?_⟩
          refine sp_of (a := 0) (b := 9) k_a_lands k_f_land (iv_add (l := 16) (h := 24) (iv_lit (l := 16) (h := 16) (by decide)) (k_a_at _) (by decide)) (by decide +kernel) (fun r9 hr9 er9 => ?_)
          exact hpost _ (iv_w (iv_add (l := (-9)) (h := 108) (iv_sub (l := (-9)) (h := 99) hr7 hr8 (by decide)) (iv_mul (l := 0) (h := 9) (k_a_climbed _) hr9 (by decide)) (by decide)) (by decide))
        · skip
          refine ⟨iv_in (iv_lea (l := 0) (h := 5) (r_nlt c3) hw1 (iv_sub (l := (-1)) (h := 5) k_f_singers (iv_lit (l := 1) (h := 1) (by decide)) (by decide)) (by decide)) (by decide), ?_⟩
          exact hpost _ (iv_w (k_a_at _) (by decide))
        · skip
          refine ⟨iv_in (iv_lea (l := 0) (h := 5) (r_nlt c3) hw1 (iv_sub (l := (-1)) (h := 5) k_f_singers (iv_lit (l := 1) (h := 1) (by decide)) (by decide)) (by decide)) (by decide), ?_⟩
          exact hpost _ (iv_w (k_a_knows _) (by decide))
        · skip
          refine ⟨iv_in (iv_lea (l := 0) (h := 5) (r_nlt c3) hw1 (iv_sub (l := (-1)) (h := 5) k_f_singers (iv_lit (l := 1) (h := 1) (by decide)) (by decide)) (by decide)) (by decide), ?_⟩
          exact hpost _ (iv_w (k_a_climbed _) (by decide))
      · skip
        exact (iv_emp (iv_eqa (l := 1) (h := 0) c5 (iv_lit (l := 1) (h := 1) (by decide)) (iv_lit (l := 0) (h := 0) (by decide)) (by decide)) (by decide)).elim
-- m_ofState
set_option maxRecDepth 20000 in
theorem s_m_ofState_0 {a_lands : Nat → Int32} {f_land : Int32} {f_huts : Int32} {f_singers : Int32} {a_at : Nat → Int32} {a_knows : Nat → Int32} {a_climbed : Nat → Int32} {a_snow : Nat → Int32} {a_level : Nat → Int32} {f_begun : Int32} {f_minute : Int32} {f_avalanches : Int32} {x1 : Int32} {post : Int32 → Prop} (k_a_lands : mLand a_lands) (k_f_land : iv 0 1 f_land) (k_f_huts : iv 0 9 f_huts) (k_f_singers : iv 0 6 f_singers) (k_a_at : ∀ j, iv 0 8 (a_at j)) (k_a_knows : ∀ j, iv 0 31 (a_knows j)) (k_a_climbed : ∀ j, iv 0 1 (a_climbed j)) (k_a_level : ∀ j, iv (-9) 108 (a_level j)) (k_f_begun : iv 0 31 f_begun) (hpost : ∀ (r : Int32), post r) : q_m_ofState_0 a_lands f_land f_huts f_singers a_at a_knows a_climbed a_snow a_level f_begun f_minute f_avalanches x1 post := by
  refine ⟨fun c1 => ?_, fun c1 => ?_⟩
  · skip
    refine ⟨fun c2 => ?_, fun c2 => ?_⟩
    · skip
      refine ⟨fun c3 => ?_, fun c3 => ?_⟩
      · skip
        refine ⟨fun c4 => ?_, fun c4 => ?_⟩
        · skip
          refine ⟨fun c5 => ?_, fun c5 => ?_⟩
          · skip
            refine ⟨fun c6 => ?_, fun c6 => ?_⟩
            · skip
              refine ⟨fun c7 => ?_, fun c7 => ?_⟩
              · skip
                refine ⟨fun c8 => ?_, fun c8 => ?_⟩
                · skip
                  refine ⟨fun c9 => ?_, fun c9 => ?_, fun c9 => ?_, fun c9 => ?_, fun c9 => ?_, fun c9 => ?_⟩
                  · skip
                    exact hpost _
                  · skip
                    exact hpost _
                  · skip
                    exact hpost _
                  · skip
                    refine s_m_seers_0 k_f_singers k_a_knows k_f_begun (fun r10 hr10 => ?_)
                    exact hpost _
                  · skip
                    exact hpost _
                  · skip
                    refine s_m_doneFor_0 k_a_lands k_f_land k_f_huts k_f_singers k_a_at k_a_knows k_a_level k_f_begun (fun r11 hr11 => ?_)
                    exact hpost _
                · skip
                  exact (iv_emp (iv_ne (l := 1) (h := 0) c8 (iv_lit (l := 0) (h := 0) (by decide)) (iv_lit (l := 0) (h := 0) (by decide)) (by decide)) (by decide)).elim
              · skip
                exact (iv_emp (iv_lea (l := 70) (h := 9) (r_nlt c7) (iv_lit (l := 70) (h := 70) (by decide)) (iv_lta (l := (-2147483648)) (h := 9) (r_lt c1) (iv_top x1) (iv_lit (l := 10) (h := 10) (by decide)) (by decide)) (by decide)) (by decide)).elim
            · skip
              exact (iv_emp (iv_ne (l := 1) (h := 0) c6 (iv_lit (l := 0) (h := 0) (by decide)) (iv_lit (l := 0) (h := 0) (by decide)) (by decide)) (by decide)).elim
          · skip
            exact (iv_emp (iv_lea (l := 30) (h := 9) (r_nlt c5) (iv_lit (l := 30) (h := 30) (by decide)) (iv_lta (l := (-2147483648)) (h := 9) (r_lt c1) (iv_top x1) (iv_lit (l := 10) (h := 10) (by decide)) (by decide)) (by decide)) (by decide)).elim
        · skip
          exact (iv_emp (iv_ne (l := 1) (h := 0) c4 (iv_lit (l := 0) (h := 0) (by decide)) (iv_lit (l := 0) (h := 0) (by decide)) (by decide)) (by decide)).elim
      · skip
        exact (iv_emp (iv_lea (l := 20) (h := 9) (r_nlt c3) (iv_lit (l := 20) (h := 20) (by decide)) (iv_lta (l := (-2147483648)) (h := 9) (r_lt c1) (iv_top x1) (iv_lit (l := 10) (h := 10) (by decide)) (by decide)) (by decide)) (by decide)).elim
    · skip
      exact (iv_emp (iv_ne (l := 1) (h := 0) c2 (iv_lit (l := 0) (h := 0) (by decide)) (iv_lit (l := 0) (h := 0) (by decide)) (by decide)) (by decide)).elim
  · skip
    refine ⟨fun c12 => ?_, fun c12 => ?_⟩
    · skip
      refine ⟨fun c13 => ?_, fun c13 => ?_⟩
      · skip
        refine ⟨fun c14 => ?_, fun c14 => ?_⟩
        · skip
          refine ⟨fun c15 => ?_, fun c15 => ?_⟩
          · skip
            refine ⟨fun c16 => ?_, fun c16 => ?_⟩
            · skip
              refine ⟨fun c17 => ?_, fun c17 => ?_⟩
              · skip
                refine ⟨fun c18 => ?_, fun c18 => ?_⟩
                · skip
                  refine ⟨fun c19 => ?_, fun c19 => ?_⟩
                  · skip
                    refine ⟨fun c20 => ?_, fun c20 => ?_, fun c20 => ?_, fun c20 => ?_, fun c20 => ?_, fun c20 => ?_⟩
                    · skip
                      exact hpost _
                    · skip
                      exact (iv_emp (iv_eqa (l := 15) (h := 0) c20 (iv_lta (l := 15) (h := 19) (r_lt c14) (iv_ltb (l := 15) (h := 2147483647) (r_lt c12) (iv_lit (l := 14) (h := 14) (by decide)) (iv_leb (l := 10) (h := 2147483647) (r_nlt c1) (iv_lit (l := 10) (h := 10) (by decide)) (iv_top x1) (by decide)) (by decide)) (iv_lit (l := 20) (h := 20) (by decide)) (by decide)) (iv_lit (l := 0) (h := 0) (by decide)) (by decide)) (by decide)).elim
                    · skip
                      exact (iv_emp (iv_eqa (l := 15) (h := 1) c20 (iv_lta (l := 15) (h := 19) (r_lt c14) (iv_ltb (l := 15) (h := 2147483647) (r_lt c12) (iv_lit (l := 14) (h := 14) (by decide)) (iv_leb (l := 10) (h := 2147483647) (r_nlt c1) (iv_lit (l := 10) (h := 10) (by decide)) (iv_top x1) (by decide)) (by decide)) (iv_lit (l := 20) (h := 20) (by decide)) (by decide)) (iv_lit (l := 1) (h := 1) (by decide)) (by decide)) (by decide)).elim
                    · skip
                      exact (iv_emp (iv_eqa (l := 15) (h := 2) c20 (iv_lta (l := 15) (h := 19) (r_lt c14) (iv_ltb (l := 15) (h := 2147483647) (r_lt c12) (iv_lit (l := 14) (h := 14) (by decide)) (iv_leb (l := 10) (h := 2147483647) (r_nlt c1) (iv_lit (l := 10) (h := 10) (by decide)) (iv_top x1) (by decide)) (by decide)) (iv_lit (l := 20) (h := 20) (by decide)) (by decide)) (iv_lit (l := 2) (h := 2) (by decide)) (by decide)) (by decide)).elim
                    · skip
                      exact (iv_emp (iv_eqa (l := 15) (h := 3) c20 (iv_lta (l := 15) (h := 19) (r_lt c14) (iv_ltb (l := 15) (h := 2147483647) (r_lt c12) (iv_lit (l := 14) (h := 14) (by decide)) (iv_leb (l := 10) (h := 2147483647) (r_nlt c1) (iv_lit (l := 10) (h := 10) (by decide)) (iv_top x1) (by decide)) (by decide)) (iv_lit (l := 20) (h := 20) (by decide)) (by decide)) (iv_lit (l := 3) (h := 3) (by decide)) (by decide)) (by decide)).elim
                    · skip
                      exact (iv_emp (iv_eqa (l := 15) (h := 4) c20 (iv_lta (l := 15) (h := 19) (r_lt c14) (iv_ltb (l := 15) (h := 2147483647) (r_lt c12) (iv_lit (l := 14) (h := 14) (by decide)) (iv_leb (l := 10) (h := 2147483647) (r_nlt c1) (iv_lit (l := 10) (h := 10) (by decide)) (iv_top x1) (by decide)) (by decide)) (iv_lit (l := 20) (h := 20) (by decide)) (by decide)) (iv_lit (l := 4) (h := 4) (by decide)) (by decide)) (by decide)).elim
                  · skip
                    exact (iv_emp (iv_ne (l := 1) (h := 0) c19 (iv_lit (l := 0) (h := 0) (by decide)) (iv_lit (l := 0) (h := 0) (by decide)) (by decide)) (by decide)).elim
                · skip
                  exact (iv_emp (iv_lea (l := 70) (h := 19) (r_nlt c18) (iv_lit (l := 70) (h := 70) (by decide)) (iv_lta (l := 15) (h := 19) (r_lt c14) (iv_ltb (l := 15) (h := 2147483647) (r_lt c12) (iv_lit (l := 14) (h := 14) (by decide)) (iv_leb (l := 10) (h := 2147483647) (r_nlt c1) (iv_lit (l := 10) (h := 10) (by decide)) (iv_top x1) (by decide)) (by decide)) (iv_lit (l := 20) (h := 20) (by decide)) (by decide)) (by decide)) (by decide)).elim
              · skip
                exact (iv_emp (iv_ne (l := 1) (h := 0) c17 (iv_lit (l := 0) (h := 0) (by decide)) (iv_lit (l := 0) (h := 0) (by decide)) (by decide)) (by decide)).elim
            · skip
              exact (iv_emp (iv_lea (l := 30) (h := 19) (r_nlt c16) (iv_lit (l := 30) (h := 30) (by decide)) (iv_lta (l := 15) (h := 19) (r_lt c14) (iv_ltb (l := 15) (h := 2147483647) (r_lt c12) (iv_lit (l := 14) (h := 14) (by decide)) (iv_leb (l := 10) (h := 2147483647) (r_nlt c1) (iv_lit (l := 10) (h := 10) (by decide)) (iv_top x1) (by decide)) (by decide)) (iv_lit (l := 20) (h := 20) (by decide)) (by decide)) (by decide)) (by decide)).elim
          · skip
            exact (iv_emp (iv_ne (l := 1) (h := 0) c15 (iv_lit (l := 0) (h := 0) (by decide)) (iv_lit (l := 0) (h := 0) (by decide)) (by decide)) (by decide)).elim
        · skip
          refine ⟨fun c21 => ?_, fun c21 => ?_⟩
          · skip
            refine ⟨fun c22 => ?_, fun c22 => ?_⟩
            · skip
              refine ⟨fun c23 => ?_, fun c23 => ?_⟩
              · skip
                refine ⟨fun c24 => ?_, fun c24 => ?_⟩
                · skip
                  refine ⟨fun c25 => ?_, fun c25 => ?_⟩
                  · skip
                    refine ⟨fun c26 => ?_, fun c26 => ?_⟩
                    · skip
                      refine ⟨fun c27 => ?_, fun c27 => ?_, fun c27 => ?_, fun c27 => ?_, fun c27 => ?_, fun c27 => ?_⟩
                      · skip
                        exact hpost _
                      · skip
                        exact (iv_emp (iv_eqa (l := 25) (h := 0) c27 (iv_lta (l := 25) (h := 29) (r_lt c23) (iv_ltb (l := 25) (h := 2147483647) (r_lt c21) (iv_lit (l := 24) (h := 24) (by decide)) (iv_leb (l := 20) (h := 2147483647) (r_nlt c14) (iv_lit (l := 20) (h := 20) (by decide)) (iv_ltb (l := 15) (h := 2147483647) (r_lt c12) (iv_lit (l := 14) (h := 14) (by decide)) (iv_leb (l := 10) (h := 2147483647) (r_nlt c1) (iv_lit (l := 10) (h := 10) (by decide)) (iv_top x1) (by decide)) (by decide)) (by decide)) (by decide)) (iv_lit (l := 30) (h := 30) (by decide)) (by decide)) (iv_lit (l := 0) (h := 0) (by decide)) (by decide)) (by decide)).elim
                      · skip
                        exact (iv_emp (iv_eqa (l := 25) (h := 1) c27 (iv_lta (l := 25) (h := 29) (r_lt c23) (iv_ltb (l := 25) (h := 2147483647) (r_lt c21) (iv_lit (l := 24) (h := 24) (by decide)) (iv_leb (l := 20) (h := 2147483647) (r_nlt c14) (iv_lit (l := 20) (h := 20) (by decide)) (iv_ltb (l := 15) (h := 2147483647) (r_lt c12) (iv_lit (l := 14) (h := 14) (by decide)) (iv_leb (l := 10) (h := 2147483647) (r_nlt c1) (iv_lit (l := 10) (h := 10) (by decide)) (iv_top x1) (by decide)) (by decide)) (by decide)) (by decide)) (iv_lit (l := 30) (h := 30) (by decide)) (by decide)) (iv_lit (l := 1) (h := 1) (by decide)) (by decide)) (by decide)).elim
                      · skip
                        exact (iv_emp (iv_eqa (l := 25) (h := 2) c27 (iv_lta (l := 25) (h := 29) (r_lt c23) (iv_ltb (l := 25) (h := 2147483647) (r_lt c21) (iv_lit (l := 24) (h := 24) (by decide)) (iv_leb (l := 20) (h := 2147483647) (r_nlt c14) (iv_lit (l := 20) (h := 20) (by decide)) (iv_ltb (l := 15) (h := 2147483647) (r_lt c12) (iv_lit (l := 14) (h := 14) (by decide)) (iv_leb (l := 10) (h := 2147483647) (r_nlt c1) (iv_lit (l := 10) (h := 10) (by decide)) (iv_top x1) (by decide)) (by decide)) (by decide)) (by decide)) (iv_lit (l := 30) (h := 30) (by decide)) (by decide)) (iv_lit (l := 2) (h := 2) (by decide)) (by decide)) (by decide)).elim
                      · skip
                        exact (iv_emp (iv_eqa (l := 25) (h := 3) c27 (iv_lta (l := 25) (h := 29) (r_lt c23) (iv_ltb (l := 25) (h := 2147483647) (r_lt c21) (iv_lit (l := 24) (h := 24) (by decide)) (iv_leb (l := 20) (h := 2147483647) (r_nlt c14) (iv_lit (l := 20) (h := 20) (by decide)) (iv_ltb (l := 15) (h := 2147483647) (r_lt c12) (iv_lit (l := 14) (h := 14) (by decide)) (iv_leb (l := 10) (h := 2147483647) (r_nlt c1) (iv_lit (l := 10) (h := 10) (by decide)) (iv_top x1) (by decide)) (by decide)) (by decide)) (by decide)) (iv_lit (l := 30) (h := 30) (by decide)) (by decide)) (iv_lit (l := 3) (h := 3) (by decide)) (by decide)) (by decide)).elim
                      · skip
                        exact (iv_emp (iv_eqa (l := 25) (h := 4) c27 (iv_lta (l := 25) (h := 29) (r_lt c23) (iv_ltb (l := 25) (h := 2147483647) (r_lt c21) (iv_lit (l := 24) (h := 24) (by decide)) (iv_leb (l := 20) (h := 2147483647) (r_nlt c14) (iv_lit (l := 20) (h := 20) (by decide)) (iv_ltb (l := 15) (h := 2147483647) (r_lt c12) (iv_lit (l := 14) (h := 14) (by decide)) (iv_leb (l := 10) (h := 2147483647) (r_nlt c1) (iv_lit (l := 10) (h := 10) (by decide)) (iv_top x1) (by decide)) (by decide)) (by decide)) (by decide)) (iv_lit (l := 30) (h := 30) (by decide)) (by decide)) (iv_lit (l := 4) (h := 4) (by decide)) (by decide)) (by decide)).elim
                    · skip
                      exact (iv_emp (iv_ne (l := 1) (h := 0) c26 (iv_lit (l := 0) (h := 0) (by decide)) (iv_lit (l := 0) (h := 0) (by decide)) (by decide)) (by decide)).elim
                  · skip
                    exact (iv_emp (iv_lea (l := 70) (h := 29) (r_nlt c25) (iv_lit (l := 70) (h := 70) (by decide)) (iv_lta (l := 25) (h := 29) (r_lt c23) (iv_ltb (l := 25) (h := 2147483647) (r_lt c21) (iv_lit (l := 24) (h := 24) (by decide)) (iv_leb (l := 20) (h := 2147483647) (r_nlt c14) (iv_lit (l := 20) (h := 20) (by decide)) (iv_ltb (l := 15) (h := 2147483647) (r_lt c12) (iv_lit (l := 14) (h := 14) (by decide)) (iv_leb (l := 10) (h := 2147483647) (r_nlt c1) (iv_lit (l := 10) (h := 10) (by decide)) (iv_top x1) (by decide)) (by decide)) (by decide)) (by decide)) (iv_lit (l := 30) (h := 30) (by decide)) (by decide)) (by decide)) (by decide)).elim
                · skip
                  exact (iv_emp (iv_ne (l := 1) (h := 0) c24 (iv_lit (l := 0) (h := 0) (by decide)) (iv_lit (l := 0) (h := 0) (by decide)) (by decide)) (by decide)).elim
              · skip
                refine ⟨fun c28 => ?_, fun c28 => ?_⟩
                · skip
                  refine ⟨fun c29 => ?_, fun c29 => ?_⟩
                  · skip
                    refine ⟨fun c30 => ?_, fun c30 => ?_⟩
                    · skip
                      exact (iv_emp (iv_lta (l := 70) (h := 69) (r_lt c30) (iv_ltb (l := 70) (h := 2147483647) (r_lt c28) (iv_lit (l := 69) (h := 69) (by decide)) (iv_leb (l := 30) (h := 2147483647) (r_nlt c23) (iv_lit (l := 30) (h := 30) (by decide)) (iv_ltb (l := 25) (h := 2147483647) (r_lt c21) (iv_lit (l := 24) (h := 24) (by decide)) (iv_leb (l := 20) (h := 2147483647) (r_nlt c14) (iv_lit (l := 20) (h := 20) (by decide)) (iv_ltb (l := 15) (h := 2147483647) (r_lt c12) (iv_lit (l := 14) (h := 14) (by decide)) (iv_leb (l := 10) (h := 2147483647) (r_nlt c1) (iv_lit (l := 10) (h := 10) (by decide)) (iv_top x1) (by decide)) (by decide)) (by decide)) (by decide)) (by decide)) (by decide)) (iv_lit (l := 70) (h := 70) (by decide)) (by decide)) (by decide)).elim
                    · skip
                      refine ⟨fun c31 => ?_, fun c31 => ?_⟩
                      · skip
                        refine ⟨fun c32 => ?_, fun c32 => ?_⟩
                        · skip
                          refine ⟨fun c33 => ?_, fun c33 => ?_, fun c33 => ?_, fun c33 => ?_, fun c33 => ?_, fun c33 => ?_⟩
                          · skip
                            exact hpost _
                          · skip
                            exact (iv_emp (iv_eqa (l := 80) (h := 0) c33 (iv_ltb (l := 80) (h := 2147483647) (r_lt c31) (iv_lit (l := 79) (h := 79) (by decide)) (iv_ltb (l := 70) (h := 2147483647) (r_lt c28) (iv_lit (l := 69) (h := 69) (by decide)) (iv_leb (l := 30) (h := 2147483647) (r_nlt c23) (iv_lit (l := 30) (h := 30) (by decide)) (iv_ltb (l := 25) (h := 2147483647) (r_lt c21) (iv_lit (l := 24) (h := 24) (by decide)) (iv_leb (l := 20) (h := 2147483647) (r_nlt c14) (iv_lit (l := 20) (h := 20) (by decide)) (iv_ltb (l := 15) (h := 2147483647) (r_lt c12) (iv_lit (l := 14) (h := 14) (by decide)) (iv_leb (l := 10) (h := 2147483647) (r_nlt c1) (iv_lit (l := 10) (h := 10) (by decide)) (iv_top x1) (by decide)) (by decide)) (by decide)) (by decide)) (by decide)) (by decide)) (by decide)) (iv_lit (l := 0) (h := 0) (by decide)) (by decide)) (by decide)).elim
                          · skip
                            exact (iv_emp (iv_eqa (l := 80) (h := 1) c33 (iv_ltb (l := 80) (h := 2147483647) (r_lt c31) (iv_lit (l := 79) (h := 79) (by decide)) (iv_ltb (l := 70) (h := 2147483647) (r_lt c28) (iv_lit (l := 69) (h := 69) (by decide)) (iv_leb (l := 30) (h := 2147483647) (r_nlt c23) (iv_lit (l := 30) (h := 30) (by decide)) (iv_ltb (l := 25) (h := 2147483647) (r_lt c21) (iv_lit (l := 24) (h := 24) (by decide)) (iv_leb (l := 20) (h := 2147483647) (r_nlt c14) (iv_lit (l := 20) (h := 20) (by decide)) (iv_ltb (l := 15) (h := 2147483647) (r_lt c12) (iv_lit (l := 14) (h := 14) (by decide)) (iv_leb (l := 10) (h := 2147483647) (r_nlt c1) (iv_lit (l := 10) (h := 10) (by decide)) (iv_top x1) (by decide)) (by decide)) (by decide)) (by decide)) (by decide)) (by decide)) (by decide)) (iv_lit (l := 1) (h := 1) (by decide)) (by decide)) (by decide)).elim
                          · skip
                            exact (iv_emp (iv_eqa (l := 80) (h := 2) c33 (iv_ltb (l := 80) (h := 2147483647) (r_lt c31) (iv_lit (l := 79) (h := 79) (by decide)) (iv_ltb (l := 70) (h := 2147483647) (r_lt c28) (iv_lit (l := 69) (h := 69) (by decide)) (iv_leb (l := 30) (h := 2147483647) (r_nlt c23) (iv_lit (l := 30) (h := 30) (by decide)) (iv_ltb (l := 25) (h := 2147483647) (r_lt c21) (iv_lit (l := 24) (h := 24) (by decide)) (iv_leb (l := 20) (h := 2147483647) (r_nlt c14) (iv_lit (l := 20) (h := 20) (by decide)) (iv_ltb (l := 15) (h := 2147483647) (r_lt c12) (iv_lit (l := 14) (h := 14) (by decide)) (iv_leb (l := 10) (h := 2147483647) (r_nlt c1) (iv_lit (l := 10) (h := 10) (by decide)) (iv_top x1) (by decide)) (by decide)) (by decide)) (by decide)) (by decide)) (by decide)) (by decide)) (iv_lit (l := 2) (h := 2) (by decide)) (by decide)) (by decide)).elim
                          · skip
                            exact (iv_emp (iv_eqa (l := 80) (h := 3) c33 (iv_ltb (l := 80) (h := 2147483647) (r_lt c31) (iv_lit (l := 79) (h := 79) (by decide)) (iv_ltb (l := 70) (h := 2147483647) (r_lt c28) (iv_lit (l := 69) (h := 69) (by decide)) (iv_leb (l := 30) (h := 2147483647) (r_nlt c23) (iv_lit (l := 30) (h := 30) (by decide)) (iv_ltb (l := 25) (h := 2147483647) (r_lt c21) (iv_lit (l := 24) (h := 24) (by decide)) (iv_leb (l := 20) (h := 2147483647) (r_nlt c14) (iv_lit (l := 20) (h := 20) (by decide)) (iv_ltb (l := 15) (h := 2147483647) (r_lt c12) (iv_lit (l := 14) (h := 14) (by decide)) (iv_leb (l := 10) (h := 2147483647) (r_nlt c1) (iv_lit (l := 10) (h := 10) (by decide)) (iv_top x1) (by decide)) (by decide)) (by decide)) (by decide)) (by decide)) (by decide)) (by decide)) (iv_lit (l := 3) (h := 3) (by decide)) (by decide)) (by decide)).elim
                          · skip
                            exact (iv_emp (iv_eqa (l := 80) (h := 4) c33 (iv_ltb (l := 80) (h := 2147483647) (r_lt c31) (iv_lit (l := 79) (h := 79) (by decide)) (iv_ltb (l := 70) (h := 2147483647) (r_lt c28) (iv_lit (l := 69) (h := 69) (by decide)) (iv_leb (l := 30) (h := 2147483647) (r_nlt c23) (iv_lit (l := 30) (h := 30) (by decide)) (iv_ltb (l := 25) (h := 2147483647) (r_lt c21) (iv_lit (l := 24) (h := 24) (by decide)) (iv_leb (l := 20) (h := 2147483647) (r_nlt c14) (iv_lit (l := 20) (h := 20) (by decide)) (iv_ltb (l := 15) (h := 2147483647) (r_lt c12) (iv_lit (l := 14) (h := 14) (by decide)) (iv_leb (l := 10) (h := 2147483647) (r_nlt c1) (iv_lit (l := 10) (h := 10) (by decide)) (iv_top x1) (by decide)) (by decide)) (by decide)) (by decide)) (by decide)) (by decide)) (by decide)) (iv_lit (l := 4) (h := 4) (by decide)) (by decide)) (by decide)).elim
                        · skip
                          exact (iv_emp (iv_ne (l := 1) (h := 0) c32 (iv_lit (l := 0) (h := 0) (by decide)) (iv_lit (l := 0) (h := 0) (by decide)) (by decide)) (by decide)).elim
                      · skip
                        refine ⟨fun c34 => ?_, fun c34 => ?_⟩
                        · skip
                          exact (iv_emp (iv_eqa (l := 1) (h := 0) c34 (iv_lit (l := 1) (h := 1) (by decide)) (iv_lit (l := 0) (h := 0) (by decide)) (by decide)) (by decide)).elim
                        · skip
                          refine ⟨fun c35 => ?_, fun c35 => ?_⟩
                          · skip
                            exact (iv_emp (iv_lta (l := 0) (h := (-1)) (r_lt c35) (iv_sub (l := 0) (h := 9) (iv_lea (l := 70) (h := 79) (r_nlt c31) (iv_ltb (l := 70) (h := 2147483647) (r_lt c28) (iv_lit (l := 69) (h := 69) (by decide)) (iv_leb (l := 30) (h := 2147483647) (r_nlt c23) (iv_lit (l := 30) (h := 30) (by decide)) (iv_ltb (l := 25) (h := 2147483647) (r_lt c21) (iv_lit (l := 24) (h := 24) (by decide)) (iv_leb (l := 20) (h := 2147483647) (r_nlt c14) (iv_lit (l := 20) (h := 20) (by decide)) (iv_ltb (l := 15) (h := 2147483647) (r_lt c12) (iv_lit (l := 14) (h := 14) (by decide)) (iv_leb (l := 10) (h := 2147483647) (r_nlt c1) (iv_lit (l := 10) (h := 10) (by decide)) (iv_top x1) (by decide)) (by decide)) (by decide)) (by decide)) (by decide)) (by decide)) (iv_lit (l := 79) (h := 79) (by decide)) (by decide)) (iv_lit (l := 70) (h := 70) (by decide)) (by decide)) (iv_lit (l := 0) (h := 0) (by decide)) (by decide)) (by decide)).elim
                          · skip
                            refine ⟨fun c36 => ?_, fun c36 => ?_⟩
                            · skip
                              refine ⟨iv_nb (iv_lit (l := 0) (h := 0) (by decide)) (by decide), ?_⟩
                              refine ⟨fun c37 => ?_, fun c37 => ?_⟩
                              · skip
                                exact hpost _
                              · skip
                                exact (iv_emp (iv_ne (l := 1) (h := 0) c37 (iv_lit (l := 0) (h := 0) (by decide)) (iv_lit (l := 0) (h := 0) (by decide)) (by decide)) (by decide)).elim
                            · skip
                              refine ⟨iv_nb (iv_lit (l := 1) (h := 1) (by decide)) (by decide), ?_⟩
                              refine ⟨fun c38 => ?_, fun c38 => ?_⟩
                              · skip
                                exact (iv_emp (iv_eqa (l := 1) (h := 0) c38 (iv_lit (l := 1) (h := 1) (by decide)) (iv_lit (l := 0) (h := 0) (by decide)) (by decide)) (by decide)).elim
                              · skip
                                refine ⟨iv_in (iv_lea (l := 0) (h := 8) (r_nlt c36) (iv_sub (l := 0) (h := 9) (iv_lea (l := 70) (h := 79) (r_nlt c31) (iv_ltb (l := 70) (h := 2147483647) (r_lt c28) (iv_lit (l := 69) (h := 69) (by decide)) (iv_leb (l := 30) (h := 2147483647) (r_nlt c23) (iv_lit (l := 30) (h := 30) (by decide)) (iv_ltb (l := 25) (h := 2147483647) (r_lt c21) (iv_lit (l := 24) (h := 24) (by decide)) (iv_leb (l := 20) (h := 2147483647) (r_nlt c14) (iv_lit (l := 20) (h := 20) (by decide)) (iv_ltb (l := 15) (h := 2147483647) (r_lt c12) (iv_lit (l := 14) (h := 14) (by decide)) (iv_leb (l := 10) (h := 2147483647) (r_nlt c1) (iv_lit (l := 10) (h := 10) (by decide)) (iv_top x1) (by decide)) (by decide)) (by decide)) (by decide)) (by decide)) (by decide)) (iv_lit (l := 79) (h := 79) (by decide)) (by decide)) (iv_lit (l := 70) (h := 70) (by decide)) (by decide)) (iv_sub (l := (-1)) (h := 8) k_f_huts (iv_lit (l := 1) (h := 1) (by decide)) (by decide)) (by decide)) (by decide), ?_⟩
                                exact hpost _
                  · skip
                    exact (iv_emp (iv_ne (l := 1) (h := 0) c29 (iv_lit (l := 0) (h := 0) (by decide)) (iv_lit (l := 0) (h := 0) (by decide)) (by decide)) (by decide)).elim
                · skip
                  refine ⟨fun c39 => ?_, fun c39 => ?_⟩
                  · skip
                    exact (iv_emp (iv_eqa (l := 1) (h := 0) c39 (iv_lit (l := 1) (h := 1) (by decide)) (iv_lit (l := 0) (h := 0) (by decide)) (by decide)) (by decide)).elim
                  · skip
                    refine s_m_ofSinger_0 k_a_lands k_f_land k_f_singers k_a_at k_a_knows k_a_climbed (iv_lea (l := 30) (h := 69) (r_nlt c28) (iv_leb (l := 30) (h := 2147483647) (r_nlt c23) (iv_lit (l := 30) (h := 30) (by decide)) (iv_ltb (l := 25) (h := 2147483647) (r_lt c21) (iv_lit (l := 24) (h := 24) (by decide)) (iv_leb (l := 20) (h := 2147483647) (r_nlt c14) (iv_lit (l := 20) (h := 20) (by decide)) (iv_ltb (l := 15) (h := 2147483647) (r_lt c12) (iv_lit (l := 14) (h := 14) (by decide)) (iv_leb (l := 10) (h := 2147483647) (r_nlt c1) (iv_lit (l := 10) (h := 10) (by decide)) (iv_top x1) (by decide)) (by decide)) (by decide)) (by decide)) (by decide)) (iv_lit (l := 69) (h := 69) (by decide)) (by decide)) (fun r40 hr40 => ?_)
                    exact hpost _
            · skip
              exact (iv_emp (iv_ne (l := 1) (h := 0) c22 (iv_lit (l := 0) (h := 0) (by decide)) (iv_lit (l := 0) (h := 0) (by decide)) (by decide)) (by decide)).elim
          · skip
            refine ⟨fun c41 => ?_, fun c41 => ?_⟩
            · skip
              exact (iv_emp (iv_eqa (l := 1) (h := 0) c41 (iv_lit (l := 1) (h := 1) (by decide)) (iv_lit (l := 0) (h := 0) (by decide)) (by decide)) (by decide)).elim
            · skip
              refine s_m_fame_0 k_f_singers k_a_knows (iv_sub (l := 0) (h := 4) (iv_lea (l := 20) (h := 24) (r_nlt c21) (iv_leb (l := 20) (h := 2147483647) (r_nlt c14) (iv_lit (l := 20) (h := 20) (by decide)) (iv_ltb (l := 15) (h := 2147483647) (r_lt c12) (iv_lit (l := 14) (h := 14) (by decide)) (iv_leb (l := 10) (h := 2147483647) (r_nlt c1) (iv_lit (l := 10) (h := 10) (by decide)) (iv_top x1) (by decide)) (by decide)) (by decide)) (iv_lit (l := 24) (h := 24) (by decide)) (by decide)) (iv_lit (l := 20) (h := 20) (by decide)) (by decide)) (fun r42 => ?_)
              exact hpost _
      · skip
        exact (iv_emp (iv_ne (l := 1) (h := 0) c13 (iv_lit (l := 0) (h := 0) (by decide)) (iv_lit (l := 0) (h := 0) (by decide)) (by decide)) (by decide)).elim
    · skip
      refine ⟨fun c43 => ?_, fun c43 => ?_⟩
      · skip
        exact (iv_emp (iv_eqa (l := 1) (h := 0) c43 (iv_lit (l := 1) (h := 1) (by decide)) (iv_lit (l := 0) (h := 0) (by decide)) (by decide)) (by decide)).elim
      · skip
        refine ⟨fun c44 => ?_, fun c44 => ?_⟩
        · skip
          refine ⟨fun c45 => ?_, fun c45 => ?_⟩
          · skip
            exact hpost _
          · skip
            exact (iv_emp (iv_ne (l := 1) (h := 0) c45 (iv_lit (l := 0) (h := 0) (by decide)) (iv_lit (l := 0) (h := 0) (by decide)) (by decide)) (by decide)).elim
        · skip
          refine ⟨fun c46 => ?_, fun c46 => ?_⟩
          · skip
            exact (iv_emp (iv_eqa (l := 1) (h := 0) c46 (iv_lit (l := 1) (h := 1) (by decide)) (iv_lit (l := 0) (h := 0) (by decide)) (by decide)) (by decide)).elim
          · skip
            refine ⟨iv_in (iv_sub (l := 0) (h := 4) (iv_lea (l := 10) (h := 14) (r_nlt c12) (iv_leb (l := 10) (h := 2147483647) (r_nlt c1) (iv_lit (l := 10) (h := 10) (by decide)) (iv_top x1) (by decide)) (iv_lit (l := 14) (h := 14) (by decide)) (by decide)) (iv_lit (l := 10) (h := 10) (by decide)) (by decide)) (by decide), ?_⟩
            exact hpost _
-- m_state
set_option maxRecDepth 20000 in
theorem s_m_state_0 {f_code : Int32} {a_many : Nat → Int32} {a_lands : Nat → Int32} {a_evenings : Nat → Int32} {f_land : Int32} {f_huts : Int32} {f_singers : Int32} {f_evening : Int32} {a_at : Nat → Int32} {a_knows : Nat → Int32} {a_climbed : Nat → Int32} {a_snow : Nat → Int32} {a_level : Nat → Int32} {f_begun : Int32} {f_minute : Int32} {f_avalanches : Int32} {x1 : Int32} {x2 : Int32} {x3 : Int32} {x4 : Int32} {post : Int32 → (Int32) → (Int32) → (Int32) → (Int32) → (Int32) → (Nat → Int32) → (Nat → Int32) → (Nat → Int32) → (Nat → Int32) → (Nat → Int32) → (Int32) → (Int32) → (Int32) → Prop} (k_f_code : iv 0 0 f_code) (k_a_many : ∀ j, iv 0 2 (a_many j)) (k_a_lands : mLand a_lands) (k_a_evenings : mEve a_evenings) (k_f_land : iv 0 1 f_land) (k_f_huts : iv 0 9 f_huts) (k_f_singers : iv 0 6 f_singers) (k_a_at : ∀ j, iv 0 8 (a_at j)) (k_a_knows : ∀ j, iv 0 31 (a_knows j)) (k_a_climbed : ∀ j, iv 0 1 (a_climbed j)) (k_a_level : ∀ j, iv (-9) 108 (a_level j)) (k_f_begun : iv 0 31 f_begun) (hpost : ∀ (r : Int32) (f_code : Int32) (f_land : Int32) (f_huts : Int32) (f_singers : Int32) (f_evening : Int32) (a_at : Nat → Int32) (a_knows : Nat → Int32) (a_climbed : Nat → Int32) (a_snow : Nat → Int32) (a_level : Nat → Int32) (f_begun : Int32) (f_minute : Int32) (f_avalanches : Int32), (iv 0 0 f_code) → (iv 0 1 f_land) → (iv 0 9 f_huts) → (iv 0 6 f_singers) → (∀ j, iv 0 8 (a_at j)) → (∀ j, iv 0 31 (a_knows j)) → (∀ j, iv 0 1 (a_climbed j)) → (∀ j, iv (-9) 108 (a_level j)) → (iv 0 31 f_begun) → post r f_code f_land f_huts f_singers f_evening a_at a_knows a_climbed a_snow a_level f_begun f_minute f_avalanches) : q_m_state_0 f_code a_many a_lands a_evenings f_land f_huts f_singers f_evening a_at a_knows a_climbed a_snow a_level f_begun f_minute f_avalanches x1 x2 x3 x4 post := by
  refine ⟨iv_in (iv_lit (l := 1) (h := 1) (by decide)) (by decide), ?_⟩
  refine ⟨fun c1 => ?_, fun c1 => ?_⟩
  · skip
    refine ⟨iv_nb (iv_lit (l := 0) (h := 0) (by decide)) (by decide), ?_⟩
    refine ⟨iv_nb (iv_lit (l := 0) (h := 0) (by decide)) (by decide), ?_⟩
    refine ⟨fun c2 => ?_, fun c2 => ?_⟩
    · skip
      refine ⟨fun c3 => ?_, fun c3 => ?_⟩
      · skip
        exact hpost _ _ _ _ _ _ _ _ _ _ _ _ _ _ (iv_lit (l := 0) (h := 0) (by decide)) k_f_land k_f_huts k_f_singers k_a_at k_a_knows k_a_climbed k_a_level k_f_begun
      · skip
        exact (iv_emp (iv_ne (l := 1) (h := 0) c3 (iv_lit (l := 0) (h := 0) (by decide)) (iv_lit (l := 0) (h := 0) (by decide)) (by decide)) (by decide)).elim
    · skip
      exact (iv_emp (iv_ne (l := 1) (h := 0) c2 (iv_lit (l := 0) (h := 0) (by decide)) (iv_lit (l := 0) (h := 0) (by decide)) (by decide)) (by decide)).elim
  · skip
    refine ⟨fun c4 => ?_, fun c4 => ?_⟩
    · skip
      refine ⟨iv_nb (iv_lit (l := 0) (h := 0) (by decide)) (by decide), ?_⟩
      refine ⟨iv_nb (iv_lit (l := 0) (h := 0) (by decide)) (by decide), ?_⟩
      refine ⟨fun c5 => ?_, fun c5 => ?_⟩
      · skip
        refine ⟨fun c6 => ?_, fun c6 => ?_⟩
        · skip
          exact hpost _ _ _ _ _ _ _ _ _ _ _ _ _ _ (iv_lit (l := 0) (h := 0) (by decide)) k_f_land k_f_huts k_f_singers k_a_at k_a_knows k_a_climbed k_a_level k_f_begun
        · skip
          exact (iv_emp (iv_ne (l := 1) (h := 0) c6 (iv_lit (l := 0) (h := 0) (by decide)) (iv_lit (l := 0) (h := 0) (by decide)) (by decide)) (by decide)).elim
      · skip
        exact (iv_emp (iv_ne (l := 1) (h := 0) c5 (iv_lit (l := 0) (h := 0) (by decide)) (iv_lit (l := 0) (h := 0) (by decide)) (by decide)) (by decide)).elim
    · skip
      refine ⟨iv_nb (iv_lit (l := 1) (h := 1) (by decide)) (by decide), ?_⟩
      refine ⟨iv_nb (iv_lit (l := 1) (h := 1) (by decide)) (by decide), ?_⟩
      refine ⟨fun c7 => ?_, fun c7 => ?_⟩
      · skip
        exact (iv_emp (iv_eqa (l := 1) (h := 0) c7 (iv_lit (l := 1) (h := 1) (by decide)) (iv_lit (l := 0) (h := 0) (by decide)) (by decide)) (by decide)).elim
      · skip
        refine ⟨iv_in (iv_lit (l := 0) (h := 0) (by decide)) (by decide), ?_⟩
        refine ⟨fun c8 => ?_, fun c8 => ?_⟩
        · skip
          refine ⟨iv_nb (iv_lit (l := 0) (h := 0) (by decide)) (by decide), ?_⟩
          refine ⟨fun c9 => ?_, fun c9 => ?_⟩
          · skip
            exact (iv_emp (iv_ne (l := 1) (h := 0) c9 (iv_lit (l := 0) (h := 0) (by decide)) (iv_lit (l := 0) (h := 0) (by decide)) (by decide)) (by decide)).elim
          · skip
            refine ⟨fun c10 => ?_, fun c10 => ?_⟩
            · skip
              refine ⟨fun c11 => ?_, fun c11 => ?_⟩
              · skip
                exact hpost _ _ _ _ _ _ _ _ _ _ _ _ _ _ (iv_lit (l := 0) (h := 0) (by decide)) k_f_land k_f_huts k_f_singers k_a_at k_a_knows k_a_climbed k_a_level k_f_begun
              · skip
                exact (iv_emp (iv_ne (l := 1) (h := 0) c11 (iv_lit (l := 0) (h := 0) (by decide)) (iv_lit (l := 0) (h := 0) (by decide)) (by decide)) (by decide)).elim
            · skip
              exact (iv_emp (iv_ne (l := 1) (h := 0) c10 (iv_lit (l := 0) (h := 0) (by decide)) (iv_lit (l := 0) (h := 0) (by decide)) (by decide)) (by decide)).elim
        · skip
          refine ⟨fun c12 => ?_, fun c12 => ?_⟩
          · skip
            refine ⟨iv_nb (iv_lit (l := 0) (h := 0) (by decide)) (by decide), ?_⟩
            refine ⟨fun c13 => ?_, fun c13 => ?_⟩
            · skip
              exact (iv_emp (iv_ne (l := 1) (h := 0) c13 (iv_lit (l := 0) (h := 0) (by decide)) (iv_lit (l := 0) (h := 0) (by decide)) (by decide)) (by decide)).elim
            · skip
              refine ⟨fun c14 => ?_, fun c14 => ?_⟩
              · skip
                refine ⟨fun c15 => ?_, fun c15 => ?_⟩
                · skip
                  exact hpost _ _ _ _ _ _ _ _ _ _ _ _ _ _ (iv_lit (l := 0) (h := 0) (by decide)) k_f_land k_f_huts k_f_singers k_a_at k_a_knows k_a_climbed k_a_level k_f_begun
                · skip
                  exact (iv_emp (iv_ne (l := 1) (h := 0) c15 (iv_lit (l := 0) (h := 0) (by decide)) (iv_lit (l := 0) (h := 0) (by decide)) (by decide)) (by decide)).elim
              · skip
                exact (iv_emp (iv_ne (l := 1) (h := 0) c14 (iv_lit (l := 0) (h := 0) (by decide)) (iv_lit (l := 0) (h := 0) (by decide)) (by decide)) (by decide)).elim
          · skip
            refine ⟨iv_nb (iv_lit (l := 1) (h := 1) (by decide)) (by decide), ?_⟩
            refine ⟨fun c16 => ?_, fun c16 => ?_⟩
            · skip
              refine sp_of (a := 0) (b := 9) k_a_lands (iv_lea (l := 0) (h := 1) (r_nlt c12) (iv_leb (l := 0) (h := 2147483647) (r_nlt c8) (iv_lit (l := 0) (h := 0) (by decide)) (iv_top x1) (by decide)) (iv_sub (l := (-1)) (h := 1) (k_a_many _) (iv_lit (l := 1) (h := 1) (by decide)) (by decide)) (by decide)) (iv_lit (l := 0) (h := 0) (by decide)) (by decide +kernel) (fun r17 hr17 er17 => ?_)
              refine sp_of (a := 0) (b := 6) k_a_lands (iv_lea (l := 0) (h := 1) (r_nlt c12) (iv_leb (l := 0) (h := 2147483647) (r_nlt c8) (iv_lit (l := 0) (h := 0) (by decide)) (iv_top x1) (by decide)) (iv_sub (l := (-1)) (h := 1) (k_a_many _) (iv_lit (l := 1) (h := 1) (by decide)) (by decide)) (by decide)) (iv_lit (l := 1) (h := 1) (by decide)) (by decide +kernel) (fun r18 hr18 er18 => ?_)
              refine ⟨fun c19 => ?_, fun c19 => ?_⟩
              · skip
                exact (iv_emp (iv_eqa (l := 1) (h := 0) c19 (iv_lit (l := 1) (h := 1) (by decide)) (iv_lit (l := 0) (h := 0) (by decide)) (by decide)) (by decide)).elim
              · skip
                refine ⟨fun c20 => ?_, fun c20 => ?_⟩
                · skip
                  exact (iv_emp (iv_eqa (l := 1) (h := 0) c20 (iv_lit (l := 1) (h := 1) (by decide)) (iv_lit (l := 0) (h := 0) (by decide)) (by decide)) (by decide)).elim
                · skip
                  refine sp_deeds k_a_evenings (iv_lea (l := 0) (h := 1) (r_nlt c4) (iv_leb (l := 0) (h := 2147483647) (r_nlt c1) (iv_lit (l := 0) (h := 0) (by decide)) (iv_top x2) (by decide)) (iv_sub (l := (-1)) (h := 1) (k_a_many _) (iv_lit (l := 1) (h := 1) (by decide)) (by decide)) (by decide)) (fun r21 hr21 => ?_)
                  refine ⟨fun c22 => ?_, fun c22 => ?_⟩
                  · skip
                    refine ⟨fun c23 => ?_, fun c23 => ?_⟩
                    · skip
                      exact hpost _ _ _ _ _ _ _ _ _ _ _ _ _ _ (iv_lit (l := 0) (h := 0) (by decide)) (iv_lea (l := 0) (h := 1) (r_nlt c12) (iv_leb (l := 0) (h := 2147483647) (r_nlt c8) (iv_lit (l := 0) (h := 0) (by decide)) (iv_top x1) (by decide)) (iv_sub (l := (-1)) (h := 1) (k_a_many _) (iv_lit (l := 1) (h := 1) (by decide)) (by decide)) (by decide)) hr17 hr18 k_a_at k_a_knows k_a_climbed k_a_level k_f_begun
                    · skip
                      exact (iv_emp (iv_ne (l := 1) (h := 0) c23 (iv_lit (l := 0) (h := 0) (by decide)) (iv_lit (l := 0) (h := 0) (by decide)) (by decide)) (by decide)).elim
                  · skip
                    refine ⟨fun c24 => ?_, fun c24 => ?_⟩
                    · skip
                      refine ⟨fun c25 => ?_, fun c25 => ?_⟩
                      · skip
                        exact hpost _ _ _ _ _ _ _ _ _ _ _ _ _ _ (iv_lit (l := 0) (h := 0) (by decide)) (iv_lea (l := 0) (h := 1) (r_nlt c12) (iv_leb (l := 0) (h := 2147483647) (r_nlt c8) (iv_lit (l := 0) (h := 0) (by decide)) (iv_top x1) (by decide)) (iv_sub (l := (-1)) (h := 1) (k_a_many _) (iv_lit (l := 1) (h := 1) (by decide)) (by decide)) (by decide)) hr17 hr18 k_a_at k_a_knows k_a_climbed k_a_level k_f_begun
                      · skip
                        exact (iv_emp (iv_ne (l := 1) (h := 0) c25 (iv_lit (l := 0) (h := 0) (by decide)) (iv_lit (l := 0) (h := 0) (by decide)) (by decide)) (by decide)).elim
                    · skip
                      refine ⟨fun c26 => ?_, fun c26 => ?_⟩
                      · skip
                        exact (iv_emp (iv_eqa (l := 1) (h := 0) c26 (iv_lit (l := 1) (h := 1) (by decide)) (iv_lit (l := 0) (h := 0) (by decide)) (by decide)) (by decide)).elim
                      · skip
                        refine s_m_play_0 k_a_lands k_a_evenings (iv_lea (l := 0) (h := 1) (r_nlt c12) (iv_leb (l := 0) (h := 2147483647) (r_nlt c8) (iv_lit (l := 0) (h := 0) (by decide)) (iv_top x1) (by decide)) (iv_sub (l := (-1)) (h := 1) (k_a_many _) (iv_lit (l := 1) (h := 1) (by decide)) (by decide)) (by decide)) hr17 hr18 (iv_lea (l := 0) (h := 1) (r_nlt c4) (iv_leb (l := 0) (h := 2147483647) (r_nlt c1) (iv_lit (l := 0) (h := 0) (by decide)) (iv_top x2) (by decide)) (iv_sub (l := (-1)) (h := 1) (k_a_many _) (iv_lit (l := 1) (h := 1) (by decide)) (by decide)) (by decide)) k_a_at k_a_knows k_a_climbed k_a_level k_f_begun (iv_lea (l := 0) (h := 40) (r_nlt c24) (iv_leb (l := 0) (h := 2147483647) (r_nlt c22) (iv_lit (l := 0) (h := 0) (by decide)) (iv_top x3) (by decide)) hr21 (by decide)) (fun r27 o28 o29 o30 o31 o32 o33 o34 o35 hr27 k_o28 k_o29 k_o30 k_o32 k_o33 => ?_)
                        refine ⟨fun c36 => ?_, fun c36 => ?_⟩
                        · skip
                          exact hpost _ _ _ _ _ _ _ _ _ _ _ _ _ _ (iv_lit (l := 0) (h := 0) (by decide)) (iv_lea (l := 0) (h := 1) (r_nlt c12) (iv_leb (l := 0) (h := 2147483647) (r_nlt c8) (iv_lit (l := 0) (h := 0) (by decide)) (iv_top x1) (by decide)) (iv_sub (l := (-1)) (h := 1) (k_a_many _) (iv_lit (l := 1) (h := 1) (by decide)) (by decide)) (by decide)) hr17 hr18 k_o28 k_o29 k_o30 k_o32 k_o33
                        · skip
                          refine s_m_ofState_0 k_a_lands (iv_lea (l := 0) (h := 1) (r_nlt c12) (iv_leb (l := 0) (h := 2147483647) (r_nlt c8) (iv_lit (l := 0) (h := 0) (by decide)) (iv_top x1) (by decide)) (iv_sub (l := (-1)) (h := 1) (k_a_many _) (iv_lit (l := 1) (h := 1) (by decide)) (by decide)) (by decide)) hr17 hr18 k_o28 k_o29 k_o30 k_o32 k_o33 (fun r37 => ?_)
                          exact hpost _ _ _ _ _ _ _ _ _ _ _ _ _ _ (iv_lit (l := 0) (h := 0) (by decide)) (iv_lea (l := 0) (h := 1) (r_nlt c12) (iv_leb (l := 0) (h := 2147483647) (r_nlt c8) (iv_lit (l := 0) (h := 0) (by decide)) (iv_top x1) (by decide)) (iv_sub (l := (-1)) (h := 1) (k_a_many _) (iv_lit (l := 1) (h := 1) (by decide)) (by decide)) (by decide)) hr17 hr18 k_o28 k_o29 k_o30 k_o32 k_o33
            · skip
              exact (iv_emp (iv_eqa (l := 1) (h := 0) c16 (iv_lit (l := 1) (h := 1) (by decide)) (iv_lit (l := 0) (h := 0) (by decide)) (by decide)) (by decide)).elim
-- m_findRun
set_option maxRecDepth 20000 in
theorem s_m_findRun_46 {P11 : Int32 → (Nat → Int32) → Prop} {a_lands : Nat → Int32} {f_land : Int32} {f_huts : Int32} {a_run : Nat → Int32} {x1 : Int32} {x3 : Int32} {x4 : Int32} {y0 : Int32} {y1 : Int32} {post : (Nat → Int32) → Prop} (k_a_lands : mLand a_lands) (k_f_land : iv 0 1 f_land) (k_f_huts : iv 0 9 f_huts) (k_a_run : ∀ j, iv 0 1000000 (a_run j)) (hx1 : iv 0 8 x1) (hx3 : iv 0 511 x3) (hx4 : iv 0 8 x4) (hy0 : iv 0 8 y0) (hy1 : iv 0 1000000 y1) (m11 : Int) (hm11 : m11 ≤ x4.toInt) (hP11 : ∀ (x4 : Int32) (a_run : Nat → Int32), m11 < x4.toInt → iv 0 9 x4 → (∀ j, iv 0 1000000 (a_run j)) → P11 x4 a_run) (hpost : ∀ (a_run : Nat → Int32), (∀ j, iv 0 1000000 (a_run j)) → post a_run) : q_m_findRun_46 P11 a_lands f_land f_huts a_run x1 x3 x4 y0 y1 post := by
  refine ⟨iv_in hy0 (by decide), ?_⟩
  intro a1 ea1
  have k_a1 := iv_upd ea1 k_a_run hy1
  intro w2 ew2
  have hw2 := iv_eq ew2 (iv_add (l := 1) (h := 9) hx4 (iv_lit (l := 1) (h := 1) (by decide)) (by decide))
  exact hP11 _ _ (ml_up hm11 (inc_lt ew2 hx4 (by decide))) (iv_w hw2 (by decide)) k_a1
set_option maxRecDepth 20000 in
theorem s_m_findRun_43 {P11 : Int32 → (Nat → Int32) → Prop} {a_lands : Nat → Int32} {f_land : Int32} {f_huts : Int32} {a_run : Nat → Int32} {x1 : Int32} {x3 : Int32} {x4 : Int32} {y0 : Int32} {post : (Nat → Int32) → Prop} (k_a_lands : mLand a_lands) (k_f_land : iv 0 1 f_land) (k_f_huts : iv 0 9 f_huts) (k_a_run : ∀ j, iv 0 1000000 (a_run j)) (hx1 : iv 0 8 x1) (hx3 : iv 0 511 x3) (hx4 : iv 0 8 x4) (hy0 : iv 0 8 y0) (m11 : Int) (hm11 : m11 ≤ x4.toInt) (hP11 : ∀ (x4 : Int32) (a_run : Nat → Int32), m11 < x4.toInt → iv 0 9 x4 → (∀ j, iv 0 1000000 (a_run j)) → P11 x4 a_run) (hpost : ∀ (a_run : Nat → Int32), (∀ j, iv 0 1000000 (a_run j)) → post a_run) : q_m_findRun_43 P11 a_lands f_land f_huts a_run x1 x3 x4 y0 post := by
  exact s_m_findRun_46 k_a_lands k_f_land k_f_huts k_a_run hx1 hx3 hx4 hy0 (iv_w (iv_lit (l := 1000000) (h := 1000000) (by decide)) (by decide)) m11 hm11 hP11 hpost
set_option maxRecDepth 20000 in
theorem s_m_findRun_270 {P56 : Int32 → (Nat → Int32) → Prop} {P194 : Int32 → (Nat → Int32) → Prop} {a_lands : Nat → Int32} {f_land : Int32} {f_huts : Int32} {a_run : Nat → Int32} {x3 : Int32} {x4 : Int32} {x5 : Int32} {y0 : Int32} {y1 : Int32} {post : (Nat → Int32) → Prop} (k_a_lands : mLand a_lands) (k_f_land : iv 0 1 f_land) (k_f_huts : iv 1 9 f_huts) (k_a_run : ∀ j, iv 0 1000000 (a_run j)) (hx3 : iv 0 511 x3) (hx4 : iv 0 8 x4) (hx5 : iv 0 3 x5) (hy0 : iv 0 8 y0) (hy1 : iv 0 1000000 y1) (m56 : Int) (hm56 : m56 ≤ x4.toInt) (hP56 : ∀ (x4 : Int32) (a_run : Nat → Int32), m56 < x4.toInt → iv 0 9 x4 → (∀ j, iv 0 1000000 (a_run j)) → P56 x4 a_run) (m194 : Int) (hm194 : m194 ≤ x5.toInt) (hP194 : ∀ (x5 : Int32) (a_run : Nat → Int32), m194 < x5.toInt → iv 0 4 x5 → (∀ j, iv 0 1000000 (a_run j)) → P194 x5 a_run) (hpost : ∀ (a_run : Nat → Int32), (∀ j, iv 0 1000000 (a_run j)) → post a_run) : q_m_findRun_270 P56 P194 a_lands f_land f_huts a_run x3 x4 x5 y0 y1 post := by
  refine ⟨iv_in hy0 (by decide), ?_⟩
  intro a1 ea1
  have k_a1 := iv_upd ea1 k_a_run hy1
  intro w2 ew2
  have hw2 := iv_eq ew2 (iv_add (l := 1) (h := 4) hx5 (iv_lit (l := 1) (h := 1) (by decide)) (by decide))
  exact hP194 _ _ (ml_up hm194 (inc_lt ew2 hx5 (by decide))) (iv_w hw2 (by decide)) k_a1
set_option maxRecDepth 20000 in
theorem s_m_findRun_194 {P56 : Int32 → (Nat → Int32) → Prop} {a_lands : Nat → Int32} {f_land : Int32} {f_huts : Int32} {a_run : Nat → Int32} {x3 : Int32} {x4 : Int32} {x5 : Int32} {post : (Nat → Int32) → Prop} (k_a_lands : mLand a_lands) (k_f_land : iv 0 1 f_land) (k_f_huts : iv 1 9 f_huts) (k_a_run : ∀ j, iv 0 1000000 (a_run j)) (hx3 : iv 0 511 x3) (hx4 : iv 0 8 x4) (hx5 : iv 0 4 x5) (m56 : Int) (hm56 : m56 ≤ x4.toInt) (hP56 : ∀ (x4 : Int32) (a_run : Nat → Int32), m56 < x4.toInt → iv 0 9 x4 → (∀ j, iv 0 1000000 (a_run j)) → P56 x4 a_run) (hpost : ∀ (a_run : Nat → Int32), (∀ j, iv 0 1000000 (a_run j)) → post a_run) : q_m_findRun_194 P56 a_lands f_land f_huts a_run x3 x4 x5 post := by
  intro P hP
  have loop : ∀ (n : Nat) (x5 : Int32) (a_run : Nat → Int32), (4 - x5.toInt < (n : Int)) → (iv 0 4 x5) → (∀ j, iv 0 1000000 (a_run j)) → P x5 a_run := by
    intro n
    induction n with
    | zero => intro x5 a_run hm hx5 k_a_run; exact (ms0_up hm hx5).elim
    | succ n ih =>
      intro x5 a_run hm hx5 k_a_run
      apply hP
      refine sp_of (a := 0) (b := 4) k_a_lands k_f_land (iv_lit (l := 4) (h := 4) (by decide)) (by decide +kernel) (fun r1 hr1 er1 => ?_)
      refine ⟨fun c2 => ?_, fun c2 => ?_⟩
      · skip
        intro w3 ew3
        have hw3 := iv_eq ew3 (iv_add (l := 1) (h := 9) hx4 (iv_lit (l := 1) (h := 1) (by decide)) (by decide))
        exact hP56 _ _ (ml_up hm56 (inc_lt ew3 hx4 (by decide))) (iv_w hw3 (by decide)) k_a_run
      · skip
        refine sp_of (a := 0) (b := 8) k_a_lands k_f_land (iv_add (l := 44) (h := 50) (iv_add (l := 43) (h := 49) (iv_lit (l := 43) (h := 43) (by decide)) (iv_mul (l := 0) (h := 6) (iv_lit (l := 2) (h := 2) (by decide)) (iv_lta (l := 0) (h := 3) (r_nle c2) hx5 hr1 (by decide)) (by decide)) (by decide)) (iv_lit (l := 1) (h := 1) (by decide)) (by decide)) (by decide +kernel) (fun r4 hr4 er4 => ?_)
        refine ⟨fun c5 => ?_, fun c5 => ?_⟩
        · skip
          refine ⟨fun c6 => ?_, fun c6 => ?_⟩
          · skip
            refine ⟨iv_in hr4 (by decide), ?_⟩
            refine sp_of (a := 0) (b := 8) k_a_lands k_f_land (iv_add (l := 43) (h := 49) (iv_lit (l := 43) (h := 43) (by decide)) (iv_mul (l := 0) (h := 6) (iv_lit (l := 2) (h := 2) (by decide)) (iv_lta (l := 0) (h := 3) (r_nle c2) hx5 hr1 (by decide)) (by decide)) (by decide)) (by decide +kernel) (fun r7 hr7 er7 => ?_)
            refine ⟨iv_in hr7 (by decide), ?_⟩
            refine ⟨fun c8 => ?_, fun c8 => ?_⟩
            · skip
              exact s_m_findRun_270 k_a_lands k_f_land k_f_huts k_a_run hx3 hx4 (iv_lta (l := 0) (h := 3) (r_nle c2) hx5 hr1 (by decide)) hr4 (k_a_run _) m56 hm56 hP56 x5.toInt (Int.le_refl _) (fun u0 u1 hq g0 g1 => ih u0 u1 (ms_up hm hq) g0 g1) hpost
            · skip
              exact s_m_findRun_270 k_a_lands k_f_land k_f_huts k_a_run hx3 hx4 (iv_lta (l := 0) (h := 3) (r_nle c2) hx5 hr1 (by decide)) hr4 (iv_w (iv_lta (l := 0) (h := 999999) (r_nle c8) (k_a_run _) (k_a_run _) (by decide)) (by decide)) m56 hm56 hP56 x5.toInt (Int.le_refl _) (fun u0 u1 hq g0 g1 => ih u0 u1 (ms_up hm hq) g0 g1) hpost
          · skip
            exact (iv_emp (iv_ne (l := 1) (h := 0) c6 (iv_lit (l := 0) (h := 0) (by decide)) (iv_lit (l := 0) (h := 0) (by decide)) (by decide)) (by decide)).elim
        · skip
          refine ⟨fun c9 => ?_, fun c9 => ?_⟩
          · skip
            exact (iv_emp (iv_eqa (l := 1) (h := 0) c9 (iv_lit (l := 1) (h := 1) (by decide)) (iv_lit (l := 0) (h := 0) (by decide)) (by decide)) (by decide)).elim
          · skip
            refine ⟨iv_in hr4 (by decide), ?_⟩
            exact s_m_findRun_270 k_a_lands k_f_land k_f_huts k_a_run hx3 hx4 (iv_lta (l := 0) (h := 3) (r_nle c2) hx5 hr1 (by decide)) hr4 (k_a_run _) m56 hm56 hP56 x5.toInt (Int.le_refl _) (fun u0 u1 hq g0 g1 => ih u0 u1 (ms_up hm hq) g0 g1) hpost
  exact loop _ _ _ (ms_init_up _ _) hx5 k_a_run
set_option maxRecDepth 20000 in
theorem s_m_findRun_178 {P56 : Int32 → (Nat → Int32) → Prop} {P68 : Int32 → (Nat → Int32) → Prop} {P80 : Int32 → (Nat → Int32) → Prop} {a_lands : Nat → Int32} {f_land : Int32} {f_huts : Int32} {a_run : Nat → Int32} {x3 : Int32} {x4 : Int32} {x5 : Int32} {x6 : Int32} {y0 : Int32} {y1 : Int32} {post : (Nat → Int32) → Prop} (k_a_lands : mLand a_lands) (k_f_land : iv 0 1 f_land) (k_f_huts : iv 1 9 f_huts) (k_a_run : ∀ j, iv 0 1000000 (a_run j)) (hx3 : iv 0 511 x3) (hx4 : iv 0 8 x4) (hx5 : iv 0 8 x5) (hx6 : iv 0 8 x6) (hy0 : iv 0 8 y0) (hy1 : iv 0 1000000 y1) (m56 : Int) (hm56 : m56 ≤ x4.toInt) (hP56 : ∀ (x4 : Int32) (a_run : Nat → Int32), m56 < x4.toInt → iv 0 9 x4 → (∀ j, iv 0 1000000 (a_run j)) → P56 x4 a_run) (m68 : Int) (hm68 : m68 ≤ x5.toInt) (hP68 : ∀ (x5 : Int32) (a_run : Nat → Int32), m68 < x5.toInt → iv 0 9 x5 → (∀ j, iv 0 1000000 (a_run j)) → P68 x5 a_run) (m80 : Int) (hm80 : m80 ≤ x6.toInt) (hP80 : ∀ (x6 : Int32) (a_run : Nat → Int32), m80 < x6.toInt → iv 0 9 x6 → (∀ j, iv 0 1000000 (a_run j)) → P80 x6 a_run) (hpost : ∀ (a_run : Nat → Int32), (∀ j, iv 0 1000000 (a_run j)) → post a_run) : q_m_findRun_178 P56 P68 P80 a_lands f_land f_huts a_run x3 x4 x5 x6 y0 y1 post := by
  refine ⟨iv_in hy0 (by decide), ?_⟩
  intro a1 ea1
  have k_a1 := iv_upd ea1 k_a_run hy1
  intro w2 ew2
  have hw2 := iv_eq ew2 (iv_add (l := 1) (h := 9) hx6 (iv_lit (l := 1) (h := 1) (by decide)) (by decide))
  exact hP80 _ _ (ml_up hm80 (inc_lt ew2 hx6 (by decide))) (iv_w hw2 (by decide)) k_a1
set_option maxRecDepth 20000 in
theorem s_m_findRun_129 {P56 : Int32 → (Nat → Int32) → Prop} {P68 : Int32 → (Nat → Int32) → Prop} {P80 : Int32 → (Nat → Int32) → Prop} {a_lands : Nat → Int32} {f_land : Int32} {f_huts : Int32} {a_run : Nat → Int32} {x3 : Int32} {x4 : Int32} {x5 : Int32} {x6 : Int32} {y0 : Int32} {post : (Nat → Int32) → Prop} (k_a_lands : mLand a_lands) (k_f_land : iv 0 1 f_land) (k_f_huts : iv 1 9 f_huts) (k_a_run : ∀ j, iv 0 1000000 (a_run j)) (hx3 : iv 0 511 x3) (hx4 : iv 0 8 x4) (hx5 : iv 0 8 x5) (hx6 : iv 0 8 x6) (hy0 : iv 0 1 y0) (m56 : Int) (hm56 : m56 ≤ x4.toInt) (hP56 : ∀ (x4 : Int32) (a_run : Nat → Int32), m56 < x4.toInt → iv 0 9 x4 → (∀ j, iv 0 1000000 (a_run j)) → P56 x4 a_run) (m68 : Int) (hm68 : m68 ≤ x5.toInt) (hP68 : ∀ (x5 : Int32) (a_run : Nat → Int32), m68 < x5.toInt → iv 0 9 x5 → (∀ j, iv 0 1000000 (a_run j)) → P68 x5 a_run) (m80 : Int) (hm80 : m80 ≤ x6.toInt) (hP80 : ∀ (x6 : Int32) (a_run : Nat → Int32), m80 < x6.toInt → iv 0 9 x6 → (∀ j, iv 0 1000000 (a_run j)) → P80 x6 a_run) (hpost : ∀ (a_run : Nat → Int32), (∀ j, iv 0 1000000 (a_run j)) → post a_run) : q_m_findRun_129 P56 P68 P80 a_lands f_land f_huts a_run x3 x4 x5 x6 y0 post := by
  refine ⟨fun c1 => ?_, fun c1 => ?_⟩
  · skip
    refine ⟨iv_in hx6 (by decide), ?_⟩
    exact s_m_findRun_178 k_a_lands k_f_land k_f_huts k_a_run hx3 hx4 hx5 hx6 hx6 (k_a_run _) m56 hm56 hP56 m68 hm68 hP68 m80 hm80 hP80 hpost
  · skip
    refine ⟨iv_in hx6 (by decide), ?_⟩
    refine ⟨iv_in hx5 (by decide), ?_⟩
    refine sp_of (a := 0) (b := 9) k_a_lands k_f_land (iv_add (l := 51) (h := 131) (iv_add (l := 51) (h := 123) (iv_lit (l := 51) (h := 51) (by decide)) (iv_mul (l := 0) (h := 72) (iv_lit (l := 9) (h := 9) (by decide)) hx5 (by decide)) (by decide)) hx6 (by decide)) (by decide +kernel) (fun r2 hr2 er2 => ?_)
    refine ⟨fun c3 => ?_, fun c3 => ?_⟩
    · skip
      exact s_m_findRun_178 k_a_lands k_f_land k_f_huts k_a_run hx3 hx4 hx5 hx6 hx6 (iv_lea (l := 0) (h := 1000000) (r_le c3) (iv_add (l := 0) (h := 1000009) (k_a_run _) hr2 (by decide)) (k_a_run _) (by decide)) m56 hm56 hP56 m68 hm68 hP68 m80 hm80 hP80 hpost
    · skip
      exact s_m_findRun_178 k_a_lands k_f_land k_f_huts k_a_run hx3 hx4 hx5 hx6 hx6 (k_a_run _) m56 hm56 hP56 m68 hm68 hP68 m80 hm80 hP80 hpost
set_option maxRecDepth 20000 in
theorem s_m_findRun_128 {P56 : Int32 → (Nat → Int32) → Prop} {P68 : Int32 → (Nat → Int32) → Prop} {P80 : Int32 → (Nat → Int32) → Prop} {a_lands : Nat → Int32} {f_land : Int32} {f_huts : Int32} {a_run : Nat → Int32} {x3 : Int32} {x4 : Int32} {x5 : Int32} {x6 : Int32} {post : (Nat → Int32) → Prop} (k_a_lands : mLand a_lands) (k_f_land : iv 0 1 f_land) (k_f_huts : iv 1 9 f_huts) (k_a_run : ∀ j, iv 0 1000000 (a_run j)) (hx3 : iv 0 511 x3) (hx4 : iv 0 8 x4) (hx5 : iv 0 8 x5) (hx6 : iv 0 8 x6) (m56 : Int) (hm56 : m56 ≤ x4.toInt) (hP56 : ∀ (x4 : Int32) (a_run : Nat → Int32), m56 < x4.toInt → iv 0 9 x4 → (∀ j, iv 0 1000000 (a_run j)) → P56 x4 a_run) (m68 : Int) (hm68 : m68 ≤ x5.toInt) (hP68 : ∀ (x5 : Int32) (a_run : Nat → Int32), m68 < x5.toInt → iv 0 9 x5 → (∀ j, iv 0 1000000 (a_run j)) → P68 x5 a_run) (m80 : Int) (hm80 : m80 ≤ x6.toInt) (hP80 : ∀ (x6 : Int32) (a_run : Nat → Int32), m80 < x6.toInt → iv 0 9 x6 → (∀ j, iv 0 1000000 (a_run j)) → P80 x6 a_run) (hpost : ∀ (a_run : Nat → Int32), (∀ j, iv 0 1000000 (a_run j)) → post a_run) : q_m_findRun_128 P56 P68 P80 a_lands f_land f_huts a_run x3 x4 x5 x6 post := by
  exact s_m_findRun_129 k_a_lands k_f_land k_f_huts k_a_run hx3 hx4 hx5 hx6 (iv_w (iv_lit (l := 0) (h := 0) (by decide)) (by decide)) m56 hm56 hP56 m68 hm68 hP68 m80 hm80 hP80 hpost
set_option maxRecDepth 20000 in
theorem s_m_findRun_80 {P56 : Int32 → (Nat → Int32) → Prop} {P68 : Int32 → (Nat → Int32) → Prop} {a_lands : Nat → Int32} {f_land : Int32} {f_huts : Int32} {a_run : Nat → Int32} {x3 : Int32} {x4 : Int32} {x5 : Int32} {x6 : Int32} {post : (Nat → Int32) → Prop} (k_a_lands : mLand a_lands) (k_f_land : iv 0 1 f_land) (k_f_huts : iv 1 9 f_huts) (k_a_run : ∀ j, iv 0 1000000 (a_run j)) (hx3 : iv 0 511 x3) (hx4 : iv 0 8 x4) (hx5 : iv 0 8 x5) (hx6 : iv 0 9 x6) (m56 : Int) (hm56 : m56 ≤ x4.toInt) (hP56 : ∀ (x4 : Int32) (a_run : Nat → Int32), m56 < x4.toInt → iv 0 9 x4 → (∀ j, iv 0 1000000 (a_run j)) → P56 x4 a_run) (m68 : Int) (hm68 : m68 ≤ x5.toInt) (hP68 : ∀ (x5 : Int32) (a_run : Nat → Int32), m68 < x5.toInt → iv 0 9 x5 → (∀ j, iv 0 1000000 (a_run j)) → P68 x5 a_run) (hpost : ∀ (a_run : Nat → Int32), (∀ j, iv 0 1000000 (a_run j)) → post a_run) : q_m_findRun_80 P56 P68 a_lands f_land f_huts a_run x3 x4 x5 x6 post := by
  intro P hP
  have loop : ∀ (n : Nat) (x6 : Int32) (a_run : Nat → Int32), (9 - x6.toInt < (n : Int)) → (iv 0 9 x6) → (∀ j, iv 0 1000000 (a_run j)) → P x6 a_run := by
    intro n
    induction n with
    | zero => intro x6 a_run hm hx6 k_a_run; exact (ms0_up hm hx6).elim
    | succ n ih =>
      intro x6 a_run hm hx6 k_a_run
      apply hP
      refine ⟨fun c1 => ?_, fun c1 => ?_⟩
      · skip
        intro w2 ew2
        have hw2 := iv_eq ew2 (iv_add (l := 1) (h := 9) hx5 (iv_lit (l := 1) (h := 1) (by decide)) (by decide))
        exact hP68 _ _ (ml_up hm68 (inc_lt ew2 hx5 (by decide))) (iv_w hw2 (by decide)) k_a_run
      · skip
        refine sp_of (a := 0) (b := 9) k_a_lands k_f_land (iv_add (l := 51) (h := 131) (iv_add (l := 51) (h := 123) (iv_lit (l := 51) (h := 51) (by decide)) (iv_mul (l := 0) (h := 72) (iv_lit (l := 9) (h := 9) (by decide)) hx5 (by decide)) (by decide)) (iv_lta (l := 0) (h := 8) (r_nle c1) hx6 k_f_huts (by decide)) (by decide)) (by decide +kernel) (fun r3 hr3 er3 => ?_)
        refine ⟨fun c4 => ?_, fun c4 => ?_⟩
        · skip
          exact s_m_findRun_128 k_a_lands k_f_land k_f_huts k_a_run hx3 hx4 hx5 (iv_lta (l := 0) (h := 8) (r_nle c1) hx6 k_f_huts (by decide)) m56 hm56 hP56 m68 hm68 hP68 x6.toInt (Int.le_refl _) (fun u0 u1 hq g0 g1 => ih u0 u1 (ms_up hm hq) g0 g1) hpost
        · skip
          refine sp_of (a := 0) (b := 99) k_a_lands k_f_land (iv_add (l := 7) (h := 15) (iv_lit (l := 7) (h := 7) (by decide)) (iv_lta (l := 0) (h := 8) (r_nle c1) hx6 k_f_huts (by decide)) (by decide)) (by decide +kernel) (fun r5 hr5 er5 => ?_)
          refine sp_of (a := 0) (b := 99) k_a_lands k_f_land (iv_add (l := 7) (h := 15) (iv_lit (l := 7) (h := 7) (by decide)) hx5 (by decide)) (by decide +kernel) (fun r6 hr6 er6 => ?_)
          refine ⟨fun c7 => ?_, fun c7 => ?_⟩
          · skip
            exact s_m_findRun_128 k_a_lands k_f_land k_f_huts k_a_run hx3 hx4 hx5 (iv_lta (l := 0) (h := 8) (r_nle c1) hx6 k_f_huts (by decide)) m56 hm56 hP56 m68 hm68 hP68 x6.toInt (Int.le_refl _) (fun u0 u1 hq g0 g1 => ih u0 u1 (ms_up hm hq) g0 g1) hpost
          · skip
            refine ⟨fun c8 => ?_, fun c8 => ?_⟩
            · skip
              refine ⟨fun c9 => ?_, fun c9 => ?_⟩
              · skip
                exact (iv_emp (iv_ne (l := 1) (h := 0) c9 (iv_lit (l := 0) (h := 0) (by decide)) (iv_lit (l := 0) (h := 0) (by decide)) (by decide)) (by decide)).elim
              · skip
                exact s_m_findRun_129 k_a_lands k_f_land k_f_huts k_a_run hx3 hx4 hx5 (iv_lta (l := 0) (h := 8) (r_nle c1) hx6 k_f_huts (by decide)) (iv_w (iv_lit (l := 1) (h := 1) (by decide)) (by decide)) m56 hm56 hP56 m68 hm68 hP68 x6.toInt (Int.le_refl _) (fun u0 u1 hq g0 g1 => ih u0 u1 (ms_up hm hq) g0 g1) hpost
            · skip
              refine ⟨fun c10 => ?_, fun c10 => ?_⟩
              · skip
                exact s_m_findRun_128 k_a_lands k_f_land k_f_huts k_a_run hx3 hx4 hx5 (iv_lta (l := 0) (h := 8) (r_nle c1) hx6 k_f_huts (by decide)) m56 hm56 hP56 m68 hm68 hP68 x6.toInt (Int.le_refl _) (fun u0 u1 hq g0 g1 => ih u0 u1 (ms_up hm hq) g0 g1) hpost
              · skip
                exact (iv_emp (iv_eqa (l := 1) (h := 0) c10 (iv_lit (l := 1) (h := 1) (by decide)) (iv_lit (l := 0) (h := 0) (by decide)) (by decide)) (by decide)).elim
  exact loop _ _ _ (ms_init_up _ _) hx6 k_a_run
set_option maxRecDepth 20000 in
theorem s_m_findRun_68 {P56 : Int32 → (Nat → Int32) → Prop} {a_lands : Nat → Int32} {f_land : Int32} {f_huts : Int32} {a_run : Nat → Int32} {x3 : Int32} {x4 : Int32} {x5 : Int32} {post : (Nat → Int32) → Prop} (k_a_lands : mLand a_lands) (k_f_land : iv 0 1 f_land) (k_f_huts : iv 1 9 f_huts) (k_a_run : ∀ j, iv 0 1000000 (a_run j)) (hx3 : iv 0 511 x3) (hx4 : iv 0 8 x4) (hx5 : iv 0 9 x5) (m56 : Int) (hm56 : m56 ≤ x4.toInt) (hP56 : ∀ (x4 : Int32) (a_run : Nat → Int32), m56 < x4.toInt → iv 0 9 x4 → (∀ j, iv 0 1000000 (a_run j)) → P56 x4 a_run) (hpost : ∀ (a_run : Nat → Int32), (∀ j, iv 0 1000000 (a_run j)) → post a_run) : q_m_findRun_68 P56 a_lands f_land f_huts a_run x3 x4 x5 post := by
  intro P hP
  have loop : ∀ (n : Nat) (x5 : Int32) (a_run : Nat → Int32), (9 - x5.toInt < (n : Int)) → (iv 0 9 x5) → (∀ j, iv 0 1000000 (a_run j)) → P x5 a_run := by
    intro n
    induction n with
    | zero => intro x5 a_run hm hx5 k_a_run; exact (ms0_up hm hx5).elim
    | succ n ih =>
      intro x5 a_run hm hx5 k_a_run
      apply hP
      refine ⟨fun c1 => ?_, fun c1 => ?_⟩
      · skip
        exact s_m_findRun_194 k_a_lands k_f_land k_f_huts k_a_run hx3 hx4 (iv_w (iv_lit (l := 0) (h := 0) (by decide)) (by decide)) m56 hm56 hP56 hpost
      · skip
        exact s_m_findRun_80 k_a_lands k_f_land k_f_huts k_a_run hx3 hx4 (iv_lta (l := 0) (h := 8) (r_nle c1) hx5 k_f_huts (by decide)) (iv_w (iv_lit (l := 0) (h := 0) (by decide)) (by decide)) m56 hm56 hP56 x5.toInt (Int.le_refl _) (fun u0 u1 hq g0 g1 => ih u0 u1 (ms_up hm hq) g0 g1) hpost
  exact loop _ _ _ (ms_init_up _ _) hx5 k_a_run
set_option maxRecDepth 20000 in
theorem s_m_findRun_56 {a_lands : Nat → Int32} {f_land : Int32} {f_huts : Int32} {a_run : Nat → Int32} {x3 : Int32} {x4 : Int32} {post : (Nat → Int32) → Prop} (k_a_lands : mLand a_lands) (k_f_land : iv 0 1 f_land) (k_f_huts : iv 0 9 f_huts) (k_a_run : ∀ j, iv 0 1000000 (a_run j)) (hx3 : iv 0 511 x3) (hx4 : iv 0 9 x4) (hpost : ∀ (a_run : Nat → Int32), (∀ j, iv 0 1000000 (a_run j)) → post a_run) : q_m_findRun_56 a_lands f_land f_huts a_run x3 x4 post := by
  intro P hP
  have loop : ∀ (n : Nat) (x4 : Int32) (a_run : Nat → Int32), (9 - x4.toInt < (n : Int)) → (iv 0 9 x4) → (∀ j, iv 0 1000000 (a_run j)) → P x4 a_run := by
    intro n
    induction n with
    | zero => intro x4 a_run hm hx4 k_a_run; exact (ms0_up hm hx4).elim
    | succ n ih =>
      intro x4 a_run hm hx4 k_a_run
      apply hP
      refine ⟨fun c1 => ?_, fun c1 => ?_⟩
      · skip
        exact hpost _ k_a_run
      · skip
        exact s_m_findRun_68 k_a_lands k_f_land (iv_ltb (l := 1) (h := 9) (r_nle c1) hx4 k_f_huts (by decide)) k_a_run hx3 (iv_lta (l := 0) (h := 8) (r_nle c1) hx4 k_f_huts (by decide)) (iv_w (iv_lit (l := 0) (h := 0) (by decide)) (by decide)) x4.toInt (Int.le_refl _) (fun u0 u1 hq g0 g1 => ih u0 u1 (ms_up hm hq) g0 g1) hpost
  exact loop _ _ _ (ms_init_up _ _) hx4 k_a_run
set_option maxRecDepth 20000 in
theorem s_m_findRun_11 {a_lands : Nat → Int32} {f_land : Int32} {f_huts : Int32} {a_run : Nat → Int32} {x1 : Int32} {x3 : Int32} {x4 : Int32} {post : (Nat → Int32) → Prop} (k_a_lands : mLand a_lands) (k_f_land : iv 0 1 f_land) (k_f_huts : iv 0 9 f_huts) (k_a_run : ∀ j, iv 0 1000000 (a_run j)) (hx1 : iv 0 8 x1) (hx3 : iv 0 511 x3) (hx4 : iv 0 9 x4) (hpost : ∀ (a_run : Nat → Int32), (∀ j, iv 0 1000000 (a_run j)) → post a_run) : q_m_findRun_11 a_lands f_land f_huts a_run x1 x3 x4 post := by
  intro P hP
  have loop : ∀ (n : Nat) (x4 : Int32) (a_run : Nat → Int32), (9 - x4.toInt < (n : Int)) → (iv 0 9 x4) → (∀ j, iv 0 1000000 (a_run j)) → P x4 a_run := by
    intro n
    induction n with
    | zero => intro x4 a_run hm hx4 k_a_run; exact (ms0_up hm hx4).elim
    | succ n ih =>
      intro x4 a_run hm hx4 k_a_run
      apply hP
      refine ⟨fun c1 => ?_, fun c1 => ?_⟩
      · skip
        exact s_m_findRun_56 k_a_lands k_f_land k_f_huts k_a_run hx3 (iv_w (iv_lit (l := 0) (h := 0) (by decide)) (by decide)) hpost
      · skip
        refine ⟨fun c2 => ?_, fun c2 => ?_⟩
        · skip
          exact s_m_findRun_43 k_a_lands k_f_land k_f_huts k_a_run hx1 hx3 (iv_lta (l := 0) (h := 8) (r_nle c1) hx4 (iv_lit (l := 9) (h := 9) (by decide)) (by decide)) (iv_lta (l := 0) (h := 8) (r_nle c1) hx4 (iv_lit (l := 9) (h := 9) (by decide)) (by decide)) x4.toInt (Int.le_refl _) (fun u0 u1 hq g0 g1 => ih u0 u1 (ms_up hm hq) g0 g1) hpost
        · skip
          refine ⟨fun c3 => ?_, fun c3 => ?_⟩
          · skip
            refine ⟨fun c4 => ?_, fun c4 => ?_⟩
            · skip
              exact (iv_emp (iv_ne (l := 1) (h := 0) c4 (iv_lit (l := 0) (h := 0) (by decide)) (iv_lit (l := 0) (h := 0) (by decide)) (by decide)) (by decide)).elim
            · skip
              exact s_m_findRun_46 k_a_lands k_f_land k_f_huts k_a_run hx1 hx3 (iv_lta (l := 0) (h := 8) (r_nle c1) hx4 (iv_lit (l := 9) (h := 9) (by decide)) (by decide)) (iv_lta (l := 0) (h := 8) (r_nle c1) hx4 (iv_lit (l := 9) (h := 9) (by decide)) (by decide)) (iv_w (iv_lit (l := 0) (h := 0) (by decide)) (by decide)) x4.toInt (Int.le_refl _) (fun u0 u1 hq g0 g1 => ih u0 u1 (ms_up hm hq) g0 g1) hpost
          · skip
            refine ⟨fun c5 => ?_, fun c5 => ?_⟩
            · skip
              exact s_m_findRun_43 k_a_lands k_f_land k_f_huts k_a_run hx1 hx3 (iv_lta (l := 0) (h := 8) (r_nle c1) hx4 (iv_lit (l := 9) (h := 9) (by decide)) (by decide)) (iv_lta (l := 0) (h := 8) (r_nle c1) hx4 (iv_lit (l := 9) (h := 9) (by decide)) (by decide)) x4.toInt (Int.le_refl _) (fun u0 u1 hq g0 g1 => ih u0 u1 (ms_up hm hq) g0 g1) hpost
            · skip
              exact (iv_emp (iv_eqa (l := 1) (h := 0) c5 (iv_lit (l := 1) (h := 1) (by decide)) (iv_lit (l := 0) (h := 0) (by decide)) (by decide)) (by decide)).elim
  exact loop _ _ _ (ms_init_up _ _) hx4 k_a_run
set_option maxRecDepth 20000 in
theorem s_m_findRun_0 {a_lands : Nat → Int32} {f_land : Int32} {f_huts : Int32} {a_run : Nat → Int32} {x1 : Int32} {x2 : Int32} {post : (Nat → Int32) → Prop} (k_a_lands : mLand a_lands) (k_f_land : iv 0 1 f_land) (k_f_huts : iv 0 9 f_huts) (k_a_run : ∀ j, iv 0 1000000 (a_run j)) (hx1 : iv 0 8 x1) (hx2 : iv 0 511 x2) (hpost : ∀ (a_run : Nat → Int32), (∀ j, iv 0 1000000 (a_run j)) → post a_run) : q_m_findRun_0 a_lands f_land f_huts a_run x1 x2 post := by
  refine sp_of (a := 0) (b := 511) k_a_lands k_f_land (iv_lit (l := 3) (h := 3) (by decide)) (by decide +kernel) (fun r1 hr1 er1 => ?_)
  intro w2 ew2
  have hw2 := iv_eq ew2 (iv_or 9 (l := 0) (h := 511) hr1 hx2 (by decide))
  exact s_m_findRun_11 k_a_lands k_f_land k_f_huts k_a_run hx1 hw2 (iv_w (iv_lit (l := 0) (h := 0) (by decide)) (by decide)) hpost
end
section
-- m_comes
set_option maxRecDepth 20000 in
theorem s_m_comes_0 {f_code : Int32} {a_many : Nat → Int32} {a_lands : Nat → Int32} {f_land : Int32} {f_huts : Int32} {f_singers : Int32} {a_run : Nat → Int32} {x1 : Int32} {x2 : Int32} {x3 : Int32} {post : Int32 → (Int32) → (Int32) → (Int32) → (Int32) → (Nat → Int32) → Prop} (k_f_code : iv 0 0 f_code) (k_a_many : ∀ j, iv 0 2 (a_many j)) (k_a_lands : mLand a_lands) (k_f_land : iv 0 1 f_land) (k_f_huts : iv 0 9 f_huts) (k_f_singers : iv 0 6 f_singers) (k_a_run : ∀ j, iv 0 1000000 (a_run j)) (hpost : ∀ (r : Int32) (f_code : Int32) (f_land : Int32) (f_huts : Int32) (f_singers : Int32) (a_run : Nat → Int32), iv (-1) 999999 r → (iv 0 0 f_code) → (iv 0 1 f_land) → (iv 0 9 f_huts) → (iv 0 6 f_singers) → (∀ j, iv 0 1000000 (a_run j)) → post r f_code f_land f_huts f_singers a_run) : q_m_comes_0 f_code a_many a_lands f_land f_huts f_singers a_run x1 x2 x3 post := by
  refine ⟨iv_in (iv_lit (l := 0) (h := 0) (by decide)) (by decide), ?_⟩
  refine ⟨fun c1 => ?_, fun c1 => ?_⟩
  · skip
    refine ⟨iv_nb (iv_lit (l := 0) (h := 0) (by decide)) (by decide), ?_⟩
    refine ⟨fun c2 => ?_, fun c2 => ?_⟩
    · skip
      exact (iv_emp (iv_ne (l := 1) (h := 0) c2 (iv_lit (l := 0) (h := 0) (by decide)) (iv_lit (l := 0) (h := 0) (by decide)) (by decide)) (by decide)).elim
    · skip
      refine ⟨fun c3 => ?_, fun c3 => ?_⟩
      · skip
        exact hpost _ _ _ _ _ _ (iv_w (iv_lit (l := (-1)) (h := (-1)) (by decide)) (by decide)) (iv_lit (l := 0) (h := 0) (by decide)) k_f_land k_f_huts k_f_singers k_a_run
      · skip
        exact (iv_emp (iv_ne (l := 1) (h := 0) c3 (iv_lit (l := 0) (h := 0) (by decide)) (iv_lit (l := 0) (h := 0) (by decide)) (by decide)) (by decide)).elim
  · skip
    refine ⟨fun c4 => ?_, fun c4 => ?_⟩
    · skip
      refine ⟨iv_nb (iv_lit (l := 0) (h := 0) (by decide)) (by decide), ?_⟩
      refine ⟨fun c5 => ?_, fun c5 => ?_⟩
      · skip
        exact (iv_emp (iv_ne (l := 1) (h := 0) c5 (iv_lit (l := 0) (h := 0) (by decide)) (iv_lit (l := 0) (h := 0) (by decide)) (by decide)) (by decide)).elim
      · skip
        refine ⟨fun c6 => ?_, fun c6 => ?_⟩
        · skip
          exact hpost _ _ _ _ _ _ (iv_w (iv_lit (l := (-1)) (h := (-1)) (by decide)) (by decide)) (iv_lit (l := 0) (h := 0) (by decide)) k_f_land k_f_huts k_f_singers k_a_run
        · skip
          exact (iv_emp (iv_ne (l := 1) (h := 0) c6 (iv_lit (l := 0) (h := 0) (by decide)) (iv_lit (l := 0) (h := 0) (by decide)) (by decide)) (by decide)).elim
    · skip
      refine ⟨iv_nb (iv_lit (l := 1) (h := 1) (by decide)) (by decide), ?_⟩
      refine ⟨fun c7 => ?_, fun c7 => ?_⟩
      · skip
        refine sp_of (a := 0) (b := 9) k_a_lands (iv_lea (l := 0) (h := 1) (r_nlt c4) (iv_leb (l := 0) (h := 2147483647) (r_nlt c1) (iv_lit (l := 0) (h := 0) (by decide)) (iv_top x1) (by decide)) (iv_sub (l := (-1)) (h := 1) (k_a_many _) (iv_lit (l := 1) (h := 1) (by decide)) (by decide)) (by decide)) (iv_lit (l := 0) (h := 0) (by decide)) (by decide +kernel) (fun r8 hr8 er8 => ?_)
        refine sp_of (a := 0) (b := 6) k_a_lands (iv_lea (l := 0) (h := 1) (r_nlt c4) (iv_leb (l := 0) (h := 2147483647) (r_nlt c1) (iv_lit (l := 0) (h := 0) (by decide)) (iv_top x1) (by decide)) (iv_sub (l := (-1)) (h := 1) (k_a_many _) (iv_lit (l := 1) (h := 1) (by decide)) (by decide)) (by decide)) (iv_lit (l := 1) (h := 1) (by decide)) (by decide +kernel) (fun r9 hr9 er9 => ?_)
        refine ⟨fun c10 => ?_, fun c10 => ?_⟩
        · skip
          exact (iv_emp (iv_eqa (l := 1) (h := 0) c10 (iv_lit (l := 1) (h := 1) (by decide)) (iv_lit (l := 0) (h := 0) (by decide)) (by decide)) (by decide)).elim
        · skip
          refine ⟨fun c11 => ?_, fun c11 => ?_⟩
          · skip
            refine ⟨iv_nb (iv_lit (l := 0) (h := 0) (by decide)) (by decide), ?_⟩
            refine ⟨fun c12 => ?_, fun c12 => ?_⟩
            · skip
              exact hpost _ _ _ _ _ _ (iv_w (iv_lit (l := (-1)) (h := (-1)) (by decide)) (by decide)) (iv_lit (l := 0) (h := 0) (by decide)) (iv_lea (l := 0) (h := 1) (r_nlt c4) (iv_leb (l := 0) (h := 2147483647) (r_nlt c1) (iv_lit (l := 0) (h := 0) (by decide)) (iv_top x1) (by decide)) (iv_sub (l := (-1)) (h := 1) (k_a_many _) (iv_lit (l := 1) (h := 1) (by decide)) (by decide)) (by decide)) hr8 hr9 k_a_run
            · skip
              exact (iv_emp (iv_ne (l := 1) (h := 0) c12 (iv_lit (l := 0) (h := 0) (by decide)) (iv_lit (l := 0) (h := 0) (by decide)) (by decide)) (by decide)).elim
          · skip
            refine ⟨fun c13 => ?_, fun c13 => ?_⟩
            · skip
              refine ⟨iv_nb (iv_lit (l := 0) (h := 0) (by decide)) (by decide), ?_⟩
              refine ⟨fun c14 => ?_, fun c14 => ?_⟩
              · skip
                exact hpost _ _ _ _ _ _ (iv_w (iv_lit (l := (-1)) (h := (-1)) (by decide)) (by decide)) (iv_lit (l := 0) (h := 0) (by decide)) (iv_lea (l := 0) (h := 1) (r_nlt c4) (iv_leb (l := 0) (h := 2147483647) (r_nlt c1) (iv_lit (l := 0) (h := 0) (by decide)) (iv_top x1) (by decide)) (iv_sub (l := (-1)) (h := 1) (k_a_many _) (iv_lit (l := 1) (h := 1) (by decide)) (by decide)) (by decide)) hr8 hr9 k_a_run
              · skip
                exact (iv_emp (iv_ne (l := 1) (h := 0) c14 (iv_lit (l := 0) (h := 0) (by decide)) (iv_lit (l := 0) (h := 0) (by decide)) (by decide)) (by decide)).elim
            · skip
              refine ⟨iv_nb (iv_lit (l := 1) (h := 1) (by decide)) (by decide), ?_⟩
              refine ⟨fun c15 => ?_, fun c15 => ?_⟩
              · skip
                exact (iv_emp (iv_eqa (l := 1) (h := 0) c15 (iv_lit (l := 1) (h := 1) (by decide)) (iv_lit (l := 0) (h := 0) (by decide)) (by decide)) (by decide)).elim
              · skip
                refine ⟨fun c16 => ?_, fun c16 => ?_⟩
                · skip
                  refine ⟨iv_nb (iv_lit (l := 0) (h := 0) (by decide)) (by decide), ?_⟩
                  refine ⟨fun c17 => ?_, fun c17 => ?_⟩
                  · skip
                    exact (iv_emp (iv_ne (l := 1) (h := 0) c17 (iv_lit (l := 0) (h := 0) (by decide)) (iv_lit (l := 0) (h := 0) (by decide)) (by decide)) (by decide)).elim
                  · skip
                    exact hpost _ _ _ _ _ _ (iv_w (iv_lit (l := (-1)) (h := (-1)) (by decide)) (by decide)) (iv_lit (l := 0) (h := 0) (by decide)) (iv_lea (l := 0) (h := 1) (r_nlt c4) (iv_leb (l := 0) (h := 2147483647) (r_nlt c1) (iv_lit (l := 0) (h := 0) (by decide)) (iv_top x1) (by decide)) (iv_sub (l := (-1)) (h := 1) (k_a_many _) (iv_lit (l := 1) (h := 1) (by decide)) (by decide)) (by decide)) hr8 hr9 k_a_run
                · skip
                  refine ⟨fun c18 => ?_, fun c18 => ?_⟩
                  · skip
                    refine ⟨iv_nb (iv_lit (l := 0) (h := 0) (by decide)) (by decide), ?_⟩
                    refine ⟨fun c19 => ?_, fun c19 => ?_⟩
                    · skip
                      exact (iv_emp (iv_ne (l := 1) (h := 0) c19 (iv_lit (l := 0) (h := 0) (by decide)) (iv_lit (l := 0) (h := 0) (by decide)) (by decide)) (by decide)).elim
                    · skip
                      exact hpost _ _ _ _ _ _ (iv_w (iv_lit (l := (-1)) (h := (-1)) (by decide)) (by decide)) (iv_lit (l := 0) (h := 0) (by decide)) (iv_lea (l := 0) (h := 1) (r_nlt c4) (iv_leb (l := 0) (h := 2147483647) (r_nlt c1) (iv_lit (l := 0) (h := 0) (by decide)) (iv_top x1) (by decide)) (iv_sub (l := (-1)) (h := 1) (k_a_many _) (iv_lit (l := 1) (h := 1) (by decide)) (by decide)) (by decide)) hr8 hr9 k_a_run
                  · skip
                    refine ⟨iv_nb (iv_lit (l := 1) (h := 1) (by decide)) (by decide), ?_⟩
                    refine ⟨fun c20 => ?_, fun c20 => ?_⟩
                    · skip
                      refine s_m_findRun_0 k_a_lands (iv_lea (l := 0) (h := 1) (r_nlt c4) (iv_leb (l := 0) (h := 2147483647) (r_nlt c1) (iv_lit (l := 0) (h := 0) (by decide)) (iv_top x1) (by decide)) (iv_sub (l := (-1)) (h := 1) (k_a_many _) (iv_lit (l := 1) (h := 1) (by decide)) (by decide)) (by decide)) hr8 k_a_run (iv_lea (l := 0) (h := 8) (r_nlt c13) (iv_leb (l := 0) (h := 2147483647) (r_nlt c11) (iv_lit (l := 0) (h := 0) (by decide)) (iv_top x2) (by decide)) (iv_sub (l := (-1)) (h := 8) hr8 (iv_lit (l := 1) (h := 1) (by decide)) (by decide)) (by decide)) (iv_w (iv_lit (l := 0) (h := 0) (by decide)) (by decide)) (fun o21 k_o21 => ?_)
                      refine ⟨iv_in (iv_lea (l := 0) (h := 8) (r_nlt c18) (iv_leb (l := 0) (h := 2147483647) (r_nlt c16) (iv_lit (l := 0) (h := 0) (by decide)) (iv_top x3) (by decide)) (iv_leb (l := 0) (h := 8) (r_nlt c13) (iv_leb (l := 0) (h := 2147483647) (r_nlt c11) (iv_lit (l := 0) (h := 0) (by decide)) (iv_top x2) (by decide)) (iv_sub (l := (-1)) (h := 8) hr8 (iv_lit (l := 1) (h := 1) (by decide)) (by decide)) (by decide)) (by decide)) (by decide), ?_⟩
                      refine ⟨fun c22 => ?_, fun c22 => ?_⟩
                      · skip
                        exact hpost _ _ _ _ _ _ (iv_w (iv_lta (l := 0) (h := 999999) (r_lt c22) (k_o21 _) (iv_lit (l := 1000000) (h := 1000000) (by decide)) (by decide)) (by decide)) (iv_lit (l := 0) (h := 0) (by decide)) (iv_lea (l := 0) (h := 1) (r_nlt c4) (iv_leb (l := 0) (h := 2147483647) (r_nlt c1) (iv_lit (l := 0) (h := 0) (by decide)) (iv_top x1) (by decide)) (iv_sub (l := (-1)) (h := 1) (k_a_many _) (iv_lit (l := 1) (h := 1) (by decide)) (by decide)) (by decide)) hr8 hr9 k_o21
                      · skip
                        exact hpost _ _ _ _ _ _ (iv_w (iv_lit (l := (-1)) (h := (-1)) (by decide)) (by decide)) (iv_lit (l := 0) (h := 0) (by decide)) (iv_lea (l := 0) (h := 1) (r_nlt c4) (iv_leb (l := 0) (h := 2147483647) (r_nlt c1) (iv_lit (l := 0) (h := 0) (by decide)) (iv_top x1) (by decide)) (iv_sub (l := (-1)) (h := 1) (k_a_many _) (iv_lit (l := 1) (h := 1) (by decide)) (by decide)) (by decide)) hr8 hr9 k_o21
                    · skip
                      exact (iv_emp (iv_eqa (l := 1) (h := 0) c20 (iv_lit (l := 1) (h := 1) (by decide)) (iv_lit (l := 0) (h := 0) (by decide)) (by decide)) (by decide)).elim
      · skip
        exact (iv_emp (iv_eqa (l := 1) (h := 0) c7 (iv_lit (l := 1) (h := 1) (by decide)) (iv_lit (l := 0) (h := 0) (by decide)) (by decide)) (by decide)).elim
-- m_lastVillage
set_option maxRecDepth 20000 in
theorem s_m_lastVillage_37 {P4 : Int32 → Int32 → Prop} {a_lands : Nat → Int32} {f_land : Int32} {f_huts : Int32} {a_run : Nat → Int32} {x2 : Int32} {y0 : Int32} {post : Int32 → Prop} (k_a_lands : mLand a_lands) (k_f_land : iv 0 1 f_land) (k_f_huts : iv 1 9 f_huts) (k_a_run : ∀ j, iv 0 1000000 (a_run j)) (hx2 : iv 0 8 x2) (hy0 : iv 0 1000000 y0) (m4 : Int) (hm4 : m4 ≤ x2.toInt) (hP4 : ∀ (x1 : Int32) (x2 : Int32), m4 < x2.toInt → iv 0 1000000 x1 → iv 0 9 x2 → P4 x1 x2) (hpost : ∀ (r : Int32), iv 0 1000000 r → post r) : q_m_lastVillage_37 P4 a_lands f_land f_huts a_run x2 y0 post := by
  intro w1 ew1
  have hw1 := iv_eq ew1 (iv_add (l := 1) (h := 9) hx2 (iv_lit (l := 1) (h := 1) (by decide)) (by decide))
  exact hP4 _ _ (ml_up hm4 (inc_lt ew1 hx2 (by decide))) hy0 (iv_w hw1 (by decide))
set_option maxRecDepth 20000 in
theorem s_m_lastVillage_4 {a_lands : Nat → Int32} {f_land : Int32} {f_huts : Int32} {a_run : Nat → Int32} {x1 : Int32} {x2 : Int32} {post : Int32 → Prop} (k_a_lands : mLand a_lands) (k_f_land : iv 0 1 f_land) (k_f_huts : iv 1 9 f_huts) (k_a_run : ∀ j, iv 0 1000000 (a_run j)) (hx1 : iv 0 1000000 x1) (hx2 : iv 0 9 x2) (hpost : ∀ (r : Int32), iv 0 1000000 r → post r) : q_m_lastVillage_4 a_lands f_land f_huts a_run x1 x2 post := by
  intro P hP
  have loop : ∀ (n : Nat) (x1 : Int32) (x2 : Int32), (9 - x2.toInt < (n : Int)) → (iv 0 1000000 x1) → (iv 0 9 x2) → P x1 x2 := by
    intro n
    induction n with
    | zero => intro x1 x2 hm hx1 hx2; exact (ms0_up hm hx2).elim
    | succ n ih =>
      intro x1 x2 hm hx1 hx2
      apply hP
      refine ⟨fun c1 => ?_, fun c1 => ?_⟩
      · skip
        exact hpost _ hx1
      · skip
        refine sp_of (a := 0) (b := 511) k_a_lands k_f_land (iv_lit (l := 2) (h := 2) (by decide)) (by decide +kernel) (fun r2 hr2 er2 => ?_)
        refine sp_of (a := 0) (b := 511) k_a_lands k_f_land (iv_lit (l := 3) (h := 3) (by decide)) (by decide +kernel) (fun r3 hr3 er3 => ?_)
        refine ⟨fun c4 => ?_, fun c4 => ?_⟩
        · skip
          refine ⟨fun c5 => ?_, fun c5 => ?_⟩
          · skip
            exact s_m_lastVillage_37 k_a_lands k_f_land k_f_huts k_a_run (iv_lta (l := 0) (h := 8) (r_nle c1) hx2 k_f_huts (by decide)) hx1 x2.toInt (Int.le_refl _) (fun u0 u1 hq g0 g1 => ih u0 u1 (ms_up hm hq) g0 g1) hpost
          · skip
            exact (iv_emp (iv_ne (l := 1) (h := 0) c5 (iv_lit (l := 0) (h := 0) (by decide)) (iv_lit (l := 0) (h := 0) (by decide)) (by decide)) (by decide)).elim
        · skip
          refine ⟨fun c6 => ?_, fun c6 => ?_⟩
          · skip
            exact (iv_emp (iv_eqa (l := 1) (h := 0) c6 (iv_lit (l := 1) (h := 1) (by decide)) (iv_lit (l := 0) (h := 0) (by decide)) (by decide)) (by decide)).elim
          · skip
            refine ⟨iv_in (iv_lta (l := 0) (h := 8) (r_nle c1) hx2 k_f_huts (by decide)) (by decide), ?_⟩
            refine ⟨fun c7 => ?_, fun c7 => ?_⟩
            · skip
              exact s_m_lastVillage_37 k_a_lands k_f_land k_f_huts k_a_run (iv_lta (l := 0) (h := 8) (r_nle c1) hx2 k_f_huts (by decide)) (k_a_run _) x2.toInt (Int.le_refl _) (fun u0 u1 hq g0 g1 => ih u0 u1 (ms_up hm hq) g0 g1) hpost
            · skip
              exact s_m_lastVillage_37 k_a_lands k_f_land k_f_huts k_a_run (iv_lta (l := 0) (h := 8) (r_nle c1) hx2 k_f_huts (by decide)) (iv_w (iv_ltb (l := 1) (h := 1000000) (r_nle c7) (k_a_run _) hx1 (by decide)) (by decide)) x2.toInt (Int.le_refl _) (fun u0 u1 hq g0 g1 => ih u0 u1 (ms_up hm hq) g0 g1) hpost
  exact loop _ _ _ (ms_init_up _ _) hx1 hx2
set_option maxRecDepth 20000 in
theorem s_m_lastVillage_0 {a_lands : Nat → Int32} {f_land : Int32} {f_huts : Int32} {a_run : Nat → Int32} {post : Int32 → Prop} (k_a_lands : mLand a_lands) (k_f_land : iv 0 1 f_land) (k_f_huts : iv 1 9 f_huts) (k_a_run : ∀ j, iv 0 1000000 (a_run j)) (hpost : ∀ (r : Int32), iv 0 1000000 r → post r) : q_m_lastVillage_0 a_lands f_land f_huts a_run post := by
  exact s_m_lastVillage_4 k_a_lands k_f_land k_f_huts k_a_run (iv_w (iv_lit (l := 0) (h := 0) (by decide)) (by decide)) (iv_w (iv_lit (l := 0) (h := 0) (by decide)) (by decide)) hpost
-- m_comesBy
set_option maxRecDepth 20000 in
theorem s_m_comesBy_30 {P4 : Int32 → Int32 → Prop} {f_huts : Int32} {a_run : Nat → Int32} {x1 : Int32} {x3 : Int32} {y0 : Int32} {y1 : Int32} {post : Int32 → Prop} (k_f_huts : iv 1 9 f_huts) (k_a_run : ∀ j, iv 0 1000000 (a_run j)) (hx1 : iv 0 999999 x1) (hx3 : iv 0 8 x3) (hy0 : iv 0 511 y0) (hy1 : iv 0 256 y1) (m4 : Int) (hm4 : m4 ≤ x3.toInt) (hP4 : ∀ (x2 : Int32) (x3 : Int32), m4 < x3.toInt → iv 0 511 x2 → iv 0 9 x3 → P4 x2 x3) (hpost : ∀ (r : Int32), iv 0 511 r → post r) : q_m_comesBy_30 P4 f_huts a_run x1 x3 y0 y1 post := by
  intro w1 ew1
  have hw1 := iv_eq ew1 (iv_or 9 (l := 0) (h := 511) hy0 hy1 (by decide))
  intro w2 ew2
  have hw2 := iv_eq ew2 (iv_add (l := 1) (h := 9) hx3 (iv_lit (l := 1) (h := 1) (by decide)) (by decide))
  exact hP4 _ _ (ml_up hm4 (inc_lt ew2 hx3 (by decide))) hw1 (iv_w hw2 (by decide))
set_option maxRecDepth 20000 in
theorem s_m_comesBy_4 {f_huts : Int32} {a_run : Nat → Int32} {x1 : Int32} {x2 : Int32} {x3 : Int32} {post : Int32 → Prop} (k_f_huts : iv 0 9 f_huts) (k_a_run : ∀ j, iv 0 1000000 (a_run j)) (hx1 : iv 0 999999 x1) (hx2 : iv 0 511 x2) (hx3 : iv 0 9 x3) (hpost : ∀ (r : Int32), iv 0 511 r → post r) : q_m_comesBy_4 f_huts a_run x1 x2 x3 post := by
  intro P hP
  have loop : ∀ (n : Nat) (x2 : Int32) (x3 : Int32), (9 - x3.toInt < (n : Int)) → (iv 0 511 x2) → (iv 0 9 x3) → P x2 x3 := by
    intro n
    induction n with
    | zero => intro x2 x3 hm hx2 hx3; exact (ms0_up hm hx3).elim
    | succ n ih =>
      intro x2 x3 hm hx2 hx3
      apply hP
      refine ⟨fun c1 => ?_, fun c1 => ?_⟩
      · skip
        exact hpost _ hx2
      · skip
        refine ⟨iv_in (iv_lta (l := 0) (h := 8) (r_nle c1) hx3 k_f_huts (by decide)) (by decide), ?_⟩
        refine ⟨fun c2 => ?_, fun c2 => ?_⟩
        · skip
          exact s_m_comesBy_30 (iv_ltb (l := 1) (h := 9) (r_nle c1) hx3 k_f_huts (by decide)) k_a_run hx1 (iv_lta (l := 0) (h := 8) (r_nle c1) hx3 k_f_huts (by decide)) hx2 (iv_w (iv_lit (l := 0) (h := 0) (by decide)) (by decide)) x3.toInt (Int.le_refl _) (fun u0 u1 hq g0 g1 => ih u0 u1 (ms_up hm hq) g0 g1) hpost
        · skip
          exact s_m_comesBy_30 (iv_ltb (l := 1) (h := 9) (r_nle c1) hx3 k_f_huts (by decide)) k_a_run hx1 (iv_lta (l := 0) (h := 8) (r_nle c1) hx3 k_f_huts (by decide)) hx2 (iv_w (iv_shl1 (l := 1) (h := 256) (iv_lit (l := 1) (h := 1) (by decide)) (iv_lta (l := 0) (h := 8) (r_nle c1) hx3 k_f_huts (by decide)) (by decide)) (by decide)) x3.toInt (Int.le_refl _) (fun u0 u1 hq g0 g1 => ih u0 u1 (ms_up hm hq) g0 g1) hpost
  exact loop _ _ _ (ms_init_up _ _) hx2 hx3
set_option maxRecDepth 20000 in
theorem s_m_comesBy_0 {f_huts : Int32} {a_run : Nat → Int32} {x1 : Int32} {post : Int32 → Prop} (k_f_huts : iv 0 9 f_huts) (k_a_run : ∀ j, iv 0 1000000 (a_run j)) (hx1 : iv 0 999999 x1) (hpost : ∀ (r : Int32), iv 0 511 r → post r) : q_m_comesBy_0 f_huts a_run x1 post := by
  exact s_m_comesBy_4 k_f_huts k_a_run hx1 (iv_w (iv_lit (l := 0) (h := 0) (by decide)) (by decide)) (iv_w (iv_lit (l := 0) (h := 0) (by decide)) (by decide)) hpost
-- m_allBy
set_option maxRecDepth 20000 in
theorem s_m_allBy_53 {P4 : Int32 → Int32 → (Nat → Int32) → (Nat → Int32) → Prop} {a_lands : Nat → Int32} {f_land : Int32} {f_huts : Int32} {a_run : Nat → Int32} {a_covers : Nat → Int32} {x1 : Int32} {x3 : Int32} {y0 : Int32} {y1 : Int32} {post : Int32 → (Nat → Int32) → (Nat → Int32) → Prop} (k_a_lands : mLand a_lands) (k_f_land : iv 0 1 f_land) (k_f_huts : iv 1 9 f_huts) (k_a_run : ∀ j, iv 0 1000000 (a_run j)) (k_a_covers : ∀ j, iv 0 511 (a_covers j)) (hx1 : iv 0 99 x1) (hx3 : iv 0 8 x3) (hy0 : iv 0 511 y0) (hy1 : iv 0 256 y1) (m4 : Int) (hm4 : m4 ≤ x3.toInt) (hP4 : ∀ (x2 : Int32) (x3 : Int32) (a_run : Nat → Int32) (a_covers : Nat → Int32), m4 < x3.toInt → iv 0 511 x2 → iv 0 9 x3 → (∀ j, iv 0 1000000 (a_run j)) → (∀ j, iv 0 511 (a_covers j)) → P4 x2 x3 a_run a_covers) (hpost : ∀ (r : Int32) (a_run : Nat → Int32) (a_covers : Nat → Int32), iv 0 511 r → (∀ j, iv 0 1000000 (a_run j)) → (∀ j, iv 0 511 (a_covers j)) → post r a_run a_covers) : q_m_allBy_53 P4 a_lands f_land f_huts a_run a_covers x1 x3 y0 y1 post := by
  intro w1 ew1
  have hw1 := iv_eq ew1 (iv_or 9 (l := 0) (h := 511) hy0 hy1 (by decide))
  intro w2 ew2
  have hw2 := iv_eq ew2 (iv_add (l := 1) (h := 9) hx3 (iv_lit (l := 1) (h := 1) (by decide)) (by decide))
  exact hP4 _ _ _ _ (ml_up hm4 (inc_lt ew2 hx3 (by decide))) hw1 (iv_w hw2 (by decide)) k_a_run k_a_covers
set_option maxRecDepth 20000 in
theorem s_m_allBy_52 {P4 : Int32 → Int32 → (Nat → Int32) → (Nat → Int32) → Prop} {a_lands : Nat → Int32} {f_land : Int32} {f_huts : Int32} {a_run : Nat → Int32} {a_covers : Nat → Int32} {x1 : Int32} {x3 : Int32} {y0 : Int32} {post : Int32 → (Nat → Int32) → (Nat → Int32) → Prop} (k_a_lands : mLand a_lands) (k_f_land : iv 0 1 f_land) (k_f_huts : iv 1 9 f_huts) (k_a_run : ∀ j, iv 0 1000000 (a_run j)) (k_a_covers : ∀ j, iv 0 511 (a_covers j)) (hx1 : iv 0 99 x1) (hx3 : iv 0 8 x3) (hy0 : iv 0 511 y0) (m4 : Int) (hm4 : m4 ≤ x3.toInt) (hP4 : ∀ (x2 : Int32) (x3 : Int32) (a_run : Nat → Int32) (a_covers : Nat → Int32), m4 < x3.toInt → iv 0 511 x2 → iv 0 9 x3 → (∀ j, iv 0 1000000 (a_run j)) → (∀ j, iv 0 511 (a_covers j)) → P4 x2 x3 a_run a_covers) (hpost : ∀ (r : Int32) (a_run : Nat → Int32) (a_covers : Nat → Int32), iv 0 511 r → (∀ j, iv 0 1000000 (a_run j)) → (∀ j, iv 0 511 (a_covers j)) → post r a_run a_covers) : q_m_allBy_52 P4 a_lands f_land f_huts a_run a_covers x1 x3 y0 post := by
  exact s_m_allBy_53 k_a_lands k_f_land k_f_huts k_a_run k_a_covers hx1 hx3 hy0 (iv_w (iv_lit (l := 0) (h := 0) (by decide)) (by decide)) m4 hm4 hP4 hpost
set_option maxRecDepth 20000 in
theorem s_m_allBy_4 {a_lands : Nat → Int32} {f_land : Int32} {f_huts : Int32} {a_run : Nat → Int32} {a_covers : Nat → Int32} {x1 : Int32} {x2 : Int32} {x3 : Int32} {post : Int32 → (Nat → Int32) → (Nat → Int32) → Prop} (k_a_lands : mLand a_lands) (k_f_land : iv 0 1 f_land) (k_f_huts : iv 0 9 f_huts) (k_a_run : ∀ j, iv 0 1000000 (a_run j)) (k_a_covers : ∀ j, iv 0 511 (a_covers j)) (hx1 : iv 0 99 x1) (hx2 : iv 0 511 x2) (hx3 : iv 0 9 x3) (hpost : ∀ (r : Int32) (a_run : Nat → Int32) (a_covers : Nat → Int32), iv 0 511 r → (∀ j, iv 0 1000000 (a_run j)) → (∀ j, iv 0 511 (a_covers j)) → post r a_run a_covers) : q_m_allBy_4 a_lands f_land f_huts a_run a_covers x1 x2 x3 post := by
  intro P hP
  have loop : ∀ (n : Nat) (x2 : Int32) (x3 : Int32) (a_run : Nat → Int32) (a_covers : Nat → Int32), (9 - x3.toInt < (n : Int)) → (iv 0 511 x2) → (iv 0 9 x3) → (∀ j, iv 0 1000000 (a_run j)) → (∀ j, iv 0 511 (a_covers j)) → P x2 x3 a_run a_covers := by
    intro n
    induction n with
    | zero => intro x2 x3 a_run a_covers hm hx2 hx3 k_a_run k_a_covers; exact (ms0_up hm hx3).elim
    | succ n ih =>
      intro x2 x3 a_run a_covers hm hx2 hx3 k_a_run k_a_covers
      apply hP
      refine ⟨fun c1 => ?_, fun c1 => ?_⟩
      · skip
        exact hpost _ _ _ hx2 k_a_run k_a_covers
      · skip
        refine s_m_findRun_0 k_a_lands k_f_land (iv_w (iv_ltb (l := 1) (h := 9) (r_nle c1) hx3 k_f_huts (by decide)) (by decide)) k_a_run (iv_lta (l := 0) (h := 8) (r_nle c1) hx3 k_f_huts (by decide)) (iv_w (iv_lit (l := 0) (h := 0) (by decide)) (by decide)) (fun o2 k_o2 => ?_)
        refine s_m_comesBy_0 (iv_w (iv_ltb (l := 1) (h := 9) (r_nle c1) hx3 k_f_huts (by decide)) (by decide)) k_o2 (iv_w hx1 (by decide)) (fun r3 hr3 => ?_)
        refine ⟨iv_in (iv_lta (l := 0) (h := 8) (r_nle c1) hx3 k_f_huts (by decide)) (by decide), ?_⟩
        intro a4 ea4
        have k_a4 := iv_upd ea4 k_a_covers hr3
        refine sp_of (a := 0) (b := 511) k_a_lands k_f_land (iv_lit (l := 3) (h := 3) (by decide)) (by decide +kernel) (fun r5 hr5 er5 => ?_)
        refine ⟨fun c6 => ?_, fun c6 => ?_⟩
        · skip
          refine ⟨iv_nb (iv_lit (l := 0) (h := 0) (by decide)) (by decide), ?_⟩
          refine ⟨fun c7 => ?_, fun c7 => ?_⟩
          · skip
            exact (iv_emp (iv_ne (l := 1) (h := 0) c7 (iv_lit (l := 0) (h := 0) (by decide)) (iv_lit (l := 0) (h := 0) (by decide)) (by decide)) (by decide)).elim
          · skip
            refine s_m_lastVillage_0 k_a_lands k_f_land (iv_ltb (l := 1) (h := 9) (r_nle c1) hx3 k_f_huts (by decide)) k_o2 (fun r8 hr8 => ?_)
            refine ⟨fun c9 => ?_, fun c9 => ?_⟩
            · skip
              exact s_m_allBy_52 k_a_lands k_f_land (iv_ltb (l := 1) (h := 9) (r_nle c1) hx3 k_f_huts (by decide)) k_o2 k_a4 hx1 (iv_lta (l := 0) (h := 8) (r_nle c1) hx3 k_f_huts (by decide)) hx2 x3.toInt (Int.le_refl _) (fun u0 u1 u2 u3 hq g0 g1 g2 g3 => ih u0 u1 u2 u3 (ms_up hm hq) g0 g1 g2 g3) hpost
            · skip
              exact s_m_allBy_53 k_a_lands k_f_land (iv_ltb (l := 1) (h := 9) (r_nle c1) hx3 k_f_huts (by decide)) k_o2 k_a4 hx1 (iv_lta (l := 0) (h := 8) (r_nle c1) hx3 k_f_huts (by decide)) hx2 (iv_w (iv_shl1 (l := 1) (h := 256) (iv_lit (l := 1) (h := 1) (by decide)) (iv_lta (l := 0) (h := 8) (r_nle c1) hx3 k_f_huts (by decide)) (by decide)) (by decide)) x3.toInt (Int.le_refl _) (fun u0 u1 u2 u3 hq g0 g1 g2 g3 => ih u0 u1 u2 u3 (ms_up hm hq) g0 g1 g2 g3) hpost
        · skip
          refine ⟨iv_nb (iv_lit (l := 1) (h := 1) (by decide)) (by decide), ?_⟩
          refine ⟨fun c10 => ?_, fun c10 => ?_⟩
          · skip
            exact s_m_allBy_52 k_a_lands k_f_land (iv_ltb (l := 1) (h := 9) (r_nle c1) hx3 k_f_huts (by decide)) k_o2 k_a4 hx1 (iv_lta (l := 0) (h := 8) (r_nle c1) hx3 k_f_huts (by decide)) hx2 x3.toInt (Int.le_refl _) (fun u0 u1 u2 u3 hq g0 g1 g2 g3 => ih u0 u1 u2 u3 (ms_up hm hq) g0 g1 g2 g3) hpost
          · skip
            exact (iv_emp (iv_eqa (l := 1) (h := 0) c10 (iv_lit (l := 1) (h := 1) (by decide)) (iv_lit (l := 0) (h := 0) (by decide)) (by decide)) (by decide)).elim
  exact loop _ _ _ _ _ (ms_init_up _ _) hx2 hx3 k_a_run k_a_covers
set_option maxRecDepth 20000 in
theorem s_m_allBy_0 {a_lands : Nat → Int32} {f_land : Int32} {f_huts : Int32} {a_run : Nat → Int32} {a_covers : Nat → Int32} {x1 : Int32} {post : Int32 → (Nat → Int32) → (Nat → Int32) → Prop} (k_a_lands : mLand a_lands) (k_f_land : iv 0 1 f_land) (k_f_huts : iv 0 9 f_huts) (k_a_run : ∀ j, iv 0 1000000 (a_run j)) (k_a_covers : ∀ j, iv 0 511 (a_covers j)) (hx1 : iv 0 99 x1) (hpost : ∀ (r : Int32) (a_run : Nat → Int32) (a_covers : Nat → Int32), iv 0 511 r → (∀ j, iv 0 1000000 (a_run j)) → (∀ j, iv 0 511 (a_covers j)) → post r a_run a_covers) : q_m_allBy_0 a_lands f_land f_huts a_run a_covers x1 post := by
  exact s_m_allBy_4 k_a_lands k_f_land k_f_huts k_a_run k_a_covers hx1 (iv_w (iv_lit (l := 0) (h := 0) (by decide)) (by decide)) (iv_w (iv_lit (l := 0) (h := 0) (by decide)) (by decide)) hpost
-- m_fewest
set_option maxRecDepth 20000 in
theorem s_m_fewest_54 {P5 : Int32 → Int32 → Prop} {P22 : Int32 → Int32 → Prop} {f_huts : Int32} {a_covers : Nat → Int32} {x1 : Int32} {x2 : Int32} {x3 : Int32} {x4 : Int32} {x6 : Int32} {y0 : Int32} {y1 : Int32} {post : Int32 → Prop} (k_f_huts : iv 1 9 f_huts) (k_a_covers : ∀ j, iv 0 511 (a_covers j)) (hx1 : iv 0 511 x1) (hx2 : iv 0 511 x2) (hx3 : iv (-1) 2147483647 x3) (hx4 : iv 0 511 x4) (hx6 : iv 0 8 x6) (hy0 : iv 0 511 y0) (hy1 : iv 0 511 y1) (m5 : Int) (hm5 : m5 ≤ x4.toInt) (hP5 : ∀ (x3 : Int32) (x4 : Int32), m5 < x4.toInt → iv (-1) 2147483647 x3 → iv 0 512 x4 → P5 x3 x4) (m22 : Int) (hm22 : m22 ≤ x6.toInt) (hP22 : ∀ (x5 : Int32) (x6 : Int32), m22 < x6.toInt → iv 0 511 x5 → iv 0 9 x6 → P22 x5 x6) (hpost : ∀ (r : Int32), iv (-1) 2147483647 r → post r) : q_m_fewest_54 P5 P22 f_huts a_covers x1 x2 x3 x4 x6 y0 y1 post := by
  intro w1 ew1
  have hw1 := iv_eq ew1 (iv_or 9 (l := 0) (h := 511) hy0 hy1 (by decide))
  intro w2 ew2
  have hw2 := iv_eq ew2 (iv_add (l := 1) (h := 9) hx6 (iv_lit (l := 1) (h := 1) (by decide)) (by decide))
  exact hP22 _ _ (ml_up hm22 (inc_lt ew2 hx6 (by decide))) hw1 (iv_w hw2 (by decide))
set_option maxRecDepth 20000 in
theorem s_m_fewest_116 {P5 : Int32 → Int32 → Prop} {f_huts : Int32} {a_covers : Nat → Int32} {x1 : Int32} {x2 : Int32} {x4 : Int32} {y0 : Int32} {post : Int32 → Prop} (k_f_huts : iv 0 9 f_huts) (k_a_covers : ∀ j, iv 0 511 (a_covers j)) (hx1 : iv 0 511 x1) (hx2 : iv 0 511 x2) (hx4 : iv 0 511 x4) (hy0 : iv (-1) 2147483647 y0) (m5 : Int) (hm5 : m5 ≤ x4.toInt) (hP5 : ∀ (x3 : Int32) (x4 : Int32), m5 < x4.toInt → iv (-1) 2147483647 x3 → iv 0 512 x4 → P5 x3 x4) (hpost : ∀ (r : Int32), iv (-1) 2147483647 r → post r) : q_m_fewest_116 P5 f_huts a_covers x1 x2 x4 y0 post := by
  intro w1 ew1
  have hw1 := iv_eq ew1 (iv_add (l := 1) (h := 512) hx4 (iv_lit (l := 1) (h := 1) (by decide)) (by decide))
  exact hP5 _ _ (ml_up hm5 (inc_lt ew1 hx4 (by decide))) hy0 (iv_w hw1 (by decide))
set_option maxRecDepth 20000 in
theorem s_m_fewest_110 {P5 : Int32 → Int32 → Prop} {f_huts : Int32} {a_covers : Nat → Int32} {x1 : Int32} {x2 : Int32} {x4 : Int32} {post : Int32 → Prop} (k_f_huts : iv 0 9 f_huts) (k_a_covers : ∀ j, iv 0 511 (a_covers j)) (hx1 : iv 0 511 x1) (hx2 : iv 0 511 x2) (hx4 : iv 0 511 x4) (m5 : Int) (hm5 : m5 ≤ x4.toInt) (hP5 : ∀ (x3 : Int32) (x4 : Int32), m5 < x4.toInt → iv (-1) 2147483647 x3 → iv 0 512 x4 → P5 x3 x4) (hpost : ∀ (r : Int32), iv (-1) 2147483647 r → post r) : q_m_fewest_110 P5 f_huts a_covers x1 x2 x4 post := by
  exact s_m_fewest_116 k_f_huts k_a_covers hx1 hx2 hx4 (iv_w hx4 (by decide)) m5 hm5 hP5 hpost
set_option maxRecDepth 20000 in
theorem s_m_fewest_115 {P5 : Int32 → Int32 → Prop} {f_huts : Int32} {a_covers : Nat → Int32} {x1 : Int32} {x2 : Int32} {x3 : Int32} {x4 : Int32} {post : Int32 → Prop} (k_f_huts : iv 0 9 f_huts) (k_a_covers : ∀ j, iv 0 511 (a_covers j)) (hx1 : iv 0 511 x1) (hx2 : iv 0 511 x2) (hx3 : iv (-1) 2147483647 x3) (hx4 : iv 0 511 x4) (m5 : Int) (hm5 : m5 ≤ x4.toInt) (hP5 : ∀ (x3 : Int32) (x4 : Int32), m5 < x4.toInt → iv (-1) 2147483647 x3 → iv 0 512 x4 → P5 x3 x4) (hpost : ∀ (r : Int32), iv (-1) 2147483647 r → post r) : q_m_fewest_115 P5 f_huts a_covers x1 x2 x3 x4 post := by
  exact s_m_fewest_116 k_f_huts k_a_covers hx1 hx2 hx4 hx3 m5 hm5 hP5 hpost
set_option maxRecDepth 20000 in
theorem s_m_fewest_86 {P5 : Int32 → Int32 → Prop} {f_huts : Int32} {a_covers : Nat → Int32} {x1 : Int32} {x2 : Int32} {x3 : Int32} {x4 : Int32} {y0 : Int32} {post : Int32 → Prop} (k_f_huts : iv 0 9 f_huts) (k_a_covers : ∀ j, iv 0 511 (a_covers j)) (hx1 : iv 0 511 x1) (hx2 : iv 0 511 x2) (hx3 : iv (-1) 2147483647 x3) (hx4 : iv 0 511 x4) (hy0 : iv 0 1 y0) (m5 : Int) (hm5 : m5 ≤ x4.toInt) (hP5 : ∀ (x3 : Int32) (x4 : Int32), m5 < x4.toInt → iv (-1) 2147483647 x3 → iv 0 512 x4 → P5 x3 x4) (hpost : ∀ (r : Int32), iv (-1) 2147483647 r → post r) : q_m_fewest_86 P5 f_huts a_covers x1 x2 x3 x4 y0 post := by
  refine ⟨fun c1 => ?_, fun c1 => ?_⟩
  · skip
    exact s_m_fewest_115 k_f_huts k_a_covers hx1 hx2 hx3 hx4 m5 hm5 hP5 hpost
  · skip
    refine ⟨fun c2 => ?_, fun c2 => ?_⟩
    · skip
      exact s_m_fewest_110 k_f_huts k_a_covers hx1 hx2 hx4 m5 hm5 hP5 hpost
    · skip
      refine s_m_ones_0 (iv_w hx4 (by decide)) (fun r3 => ?_)
      refine s_m_ones_0 (iv_w (iv_ne (l := 0) (h := 2147483647) c2 hx3 (iv_lit (l := (-1)) (h := (-1)) (by decide)) (by decide)) (by decide)) (fun r4 => ?_)
      refine ⟨fun c5 => ?_, fun c5 => ?_⟩
      · skip
        exact s_m_fewest_115 k_f_huts k_a_covers hx1 hx2 (iv_w (iv_ne (l := 0) (h := 2147483647) c2 hx3 (iv_lit (l := (-1)) (h := (-1)) (by decide)) (by decide)) (by decide)) hx4 m5 hm5 hP5 hpost
      · skip
        exact s_m_fewest_110 k_f_huts k_a_covers hx1 hx2 hx4 m5 hm5 hP5 hpost
set_option maxRecDepth 20000 in
theorem s_m_fewest_85 {P5 : Int32 → Int32 → Prop} {f_huts : Int32} {a_covers : Nat → Int32} {x1 : Int32} {x2 : Int32} {x3 : Int32} {x4 : Int32} {post : Int32 → Prop} (k_f_huts : iv 0 9 f_huts) (k_a_covers : ∀ j, iv 0 511 (a_covers j)) (hx1 : iv 0 511 x1) (hx2 : iv 0 511 x2) (hx3 : iv (-1) 2147483647 x3) (hx4 : iv 0 511 x4) (m5 : Int) (hm5 : m5 ≤ x4.toInt) (hP5 : ∀ (x3 : Int32) (x4 : Int32), m5 < x4.toInt → iv (-1) 2147483647 x3 → iv 0 512 x4 → P5 x3 x4) (hpost : ∀ (r : Int32), iv (-1) 2147483647 r → post r) : q_m_fewest_85 P5 f_huts a_covers x1 x2 x3 x4 post := by
  exact s_m_fewest_86 k_f_huts k_a_covers hx1 hx2 hx3 hx4 (iv_w (iv_lit (l := 0) (h := 0) (by decide)) (by decide)) m5 hm5 hP5 hpost
set_option maxRecDepth 20000 in
theorem s_m_fewest_22 {P5 : Int32 → Int32 → Prop} {f_huts : Int32} {a_covers : Nat → Int32} {x1 : Int32} {x2 : Int32} {x3 : Int32} {x4 : Int32} {x5 : Int32} {x6 : Int32} {post : Int32 → Prop} (k_f_huts : iv 0 9 f_huts) (k_a_covers : ∀ j, iv 0 511 (a_covers j)) (hx1 : iv 0 511 x1) (hx2 : iv 0 511 x2) (hx3 : iv (-1) 2147483647 x3) (hx4 : iv 0 511 x4) (hx5 : iv 0 511 x5) (hx6 : iv 0 9 x6) (m5 : Int) (hm5 : m5 ≤ x4.toInt) (hP5 : ∀ (x3 : Int32) (x4 : Int32), m5 < x4.toInt → iv (-1) 2147483647 x3 → iv 0 512 x4 → P5 x3 x4) (hpost : ∀ (r : Int32), iv (-1) 2147483647 r → post r) : q_m_fewest_22 P5 f_huts a_covers x1 x2 x3 x4 x5 x6 post := by
  intro P hP
  have loop : ∀ (n : Nat) (x5 : Int32) (x6 : Int32), (9 - x6.toInt < (n : Int)) → (iv 0 511 x5) → (iv 0 9 x6) → P x5 x6 := by
    intro n
    induction n with
    | zero => intro x5 x6 hm hx5 hx6; exact (ms0_up hm hx6).elim
    | succ n ih =>
      intro x5 x6 hm hx5 hx6
      apply hP
      refine ⟨fun c1 => ?_, fun c1 => ?_⟩
      · skip
        refine ⟨fun c2 => ?_, fun c2 => ?_⟩
        · skip
          exact s_m_fewest_85 k_f_huts k_a_covers hx1 hx2 hx3 hx4 m5 hm5 hP5 hpost
        · skip
          refine ⟨fun c3 => ?_, fun c3 => ?_⟩
          · skip
            exact s_m_fewest_85 k_f_huts k_a_covers hx1 hx2 hx3 hx4 m5 hm5 hP5 hpost
          · skip
            exact s_m_fewest_86 k_f_huts k_a_covers hx1 hx2 hx3 hx4 (iv_w (iv_lit (l := 1) (h := 1) (by decide)) (by decide)) m5 hm5 hP5 hpost
      · skip
        refine ⟨fun c4 => ?_, fun c4 => ?_⟩
        · skip
          refine ⟨fun c5 => ?_, fun c5 => ?_⟩
          · skip
            exact s_m_fewest_54 (iv_ltb (l := 1) (h := 9) (r_nle c1) hx6 k_f_huts (by decide)) k_a_covers hx1 hx2 hx3 hx4 (iv_lta (l := 0) (h := 8) (r_nle c1) hx6 k_f_huts (by decide)) hx5 (iv_w (iv_lit (l := 0) (h := 0) (by decide)) (by decide)) m5 hm5 hP5 x6.toInt (Int.le_refl _) (fun u0 u1 hq g0 g1 => ih u0 u1 (ms_up hm hq) g0 g1) hpost
          · skip
            exact (iv_emp (iv_ne (l := 1) (h := 0) c5 (iv_lit (l := 0) (h := 0) (by decide)) (iv_lit (l := 0) (h := 0) (by decide)) (by decide)) (by decide)).elim
        · skip
          refine ⟨fun c6 => ?_, fun c6 => ?_⟩
          · skip
            exact (iv_emp (iv_eqa (l := 1) (h := 0) c6 (iv_lit (l := 1) (h := 1) (by decide)) (iv_lit (l := 0) (h := 0) (by decide)) (by decide)) (by decide)).elim
          · skip
            refine ⟨iv_in (iv_lta (l := 0) (h := 8) (r_nle c1) hx6 k_f_huts (by decide)) (by decide), ?_⟩
            exact s_m_fewest_54 (iv_ltb (l := 1) (h := 9) (r_nle c1) hx6 k_f_huts (by decide)) k_a_covers hx1 hx2 hx3 hx4 (iv_lta (l := 0) (h := 8) (r_nle c1) hx6 k_f_huts (by decide)) hx5 (k_a_covers _) m5 hm5 hP5 x6.toInt (Int.le_refl _) (fun u0 u1 hq g0 g1 => ih u0 u1 (ms_up hm hq) g0 g1) hpost
  exact loop _ _ _ (ms_init_up _ _) hx5 hx6
set_option maxRecDepth 20000 in
theorem s_m_fewest_5 {f_huts : Int32} {a_covers : Nat → Int32} {x1 : Int32} {x2 : Int32} {x3 : Int32} {x4 : Int32} {post : Int32 → Prop} (k_f_huts : iv 0 9 f_huts) (k_a_covers : ∀ j, iv 0 511 (a_covers j)) (hx1 : iv 0 511 x1) (hx2 : iv 0 511 x2) (hx3 : iv (-1) 2147483647 x3) (hx4 : iv 0 512 x4) (hpost : ∀ (r : Int32), iv (-1) 2147483647 r → post r) : q_m_fewest_5 f_huts a_covers x1 x2 x3 x4 post := by
  intro P hP
  have loop : ∀ (n : Nat) (x3 : Int32) (x4 : Int32), (512 - x4.toInt < (n : Int)) → (iv (-1) 2147483647 x3) → (iv 0 512 x4) → P x3 x4 := by
    intro n
    induction n with
    | zero => intro x3 x4 hm hx3 hx4; exact (ms0_up hm hx4).elim
    | succ n ih =>
      intro x3 x4 hm hx3 hx4
      apply hP
      refine ⟨fun c1 => ?_, fun c1 => ?_⟩
      · skip
        exact hpost _ hx3
      · skip
        exact s_m_fewest_22 k_f_huts k_a_covers hx1 hx2 hx3 (iv_lta (l := 0) (h := 511) (r_nle c1) hx4 (iv_shl1 (l := 1) (h := 512) (iv_lit (l := 1) (h := 1) (by decide)) k_f_huts (by decide)) (by decide)) (iv_w (iv_lit (l := 0) (h := 0) (by decide)) (by decide)) (iv_w (iv_lit (l := 0) (h := 0) (by decide)) (by decide)) x4.toInt (Int.le_refl _) (fun u0 u1 hq g0 g1 => ih u0 u1 (ms_up hm hq) g0 g1) hpost
  exact loop _ _ _ (ms_init_up _ _) hx3 hx4
set_option maxRecDepth 20000 in
theorem s_m_fewest_0 {f_huts : Int32} {a_covers : Nat → Int32} {x1 : Int32} {x2 : Int32} {post : Int32 → Prop} (k_f_huts : iv 0 9 f_huts) (k_a_covers : ∀ j, iv 0 511 (a_covers j)) (hx1 : iv 0 511 x1) (hx2 : iv 0 511 x2) (hpost : ∀ (r : Int32), iv (-1) 2147483647 r → post r) : q_m_fewest_0 f_huts a_covers x1 x2 post := by
  exact s_m_fewest_5 k_f_huts k_a_covers hx1 hx2 (iv_w (iv_lit (l := (-1)) (h := (-1)) (by decide)) (by decide)) (iv_w (iv_lit (l := 0) (h := 0) (by decide)) (by decide)) hpost
-- m_villages
set_option maxRecDepth 20000 in
theorem s_m_villages_0 {f_code : Int32} {a_many : Nat → Int32} {a_lands : Nat → Int32} {f_land : Int32} {f_huts : Int32} {f_singers : Int32} {a_run : Nat → Int32} {a_covers : Nat → Int32} {x1 : Int32} {x2 : Int32} {x3 : Int32} {post : Int32 → (Int32) → (Int32) → (Int32) → (Int32) → (Nat → Int32) → (Nat → Int32) → Prop} (k_f_code : iv 0 0 f_code) (k_a_many : ∀ j, iv 0 2 (a_many j)) (k_a_lands : mLand a_lands) (k_f_land : iv 0 1 f_land) (k_f_huts : iv 0 9 f_huts) (k_f_singers : iv 0 6 f_singers) (k_a_run : ∀ j, iv 0 1000000 (a_run j)) (k_a_covers : ∀ j, iv 0 511 (a_covers j)) (hpost : ∀ (r : Int32) (f_code : Int32) (f_land : Int32) (f_huts : Int32) (f_singers : Int32) (a_run : Nat → Int32) (a_covers : Nat → Int32), iv (-2) 2147483647 r → (iv 0 0 f_code) → (iv 0 1 f_land) → (iv 0 9 f_huts) → (iv 0 6 f_singers) → (∀ j, iv 0 1000000 (a_run j)) → (∀ j, iv 0 511 (a_covers j)) → post r f_code f_land f_huts f_singers a_run a_covers) : q_m_villages_0 f_code a_many a_lands f_land f_huts f_singers a_run a_covers x1 x2 x3 post := by
  refine ⟨iv_in (iv_lit (l := 0) (h := 0) (by decide)) (by decide), ?_⟩
  refine ⟨fun c1 => ?_, fun c1 => ?_⟩
  · skip
    refine ⟨iv_nb (iv_lit (l := 0) (h := 0) (by decide)) (by decide), ?_⟩
    refine ⟨fun c2 => ?_, fun c2 => ?_⟩
    · skip
      exact (iv_emp (iv_ne (l := 1) (h := 0) c2 (iv_lit (l := 0) (h := 0) (by decide)) (iv_lit (l := 0) (h := 0) (by decide)) (by decide)) (by decide)).elim
    · skip
      refine ⟨fun c3 => ?_, fun c3 => ?_⟩
      · skip
        exact hpost _ _ _ _ _ _ _ (iv_w (iv_lit (l := (-2)) (h := (-2)) (by decide)) (by decide)) (iv_lit (l := 0) (h := 0) (by decide)) k_f_land k_f_huts k_f_singers k_a_run k_a_covers
      · skip
        exact (iv_emp (iv_ne (l := 1) (h := 0) c3 (iv_lit (l := 0) (h := 0) (by decide)) (iv_lit (l := 0) (h := 0) (by decide)) (by decide)) (by decide)).elim
  · skip
    refine ⟨fun c4 => ?_, fun c4 => ?_⟩
    · skip
      refine ⟨iv_nb (iv_lit (l := 0) (h := 0) (by decide)) (by decide), ?_⟩
      refine ⟨fun c5 => ?_, fun c5 => ?_⟩
      · skip
        exact (iv_emp (iv_ne (l := 1) (h := 0) c5 (iv_lit (l := 0) (h := 0) (by decide)) (iv_lit (l := 0) (h := 0) (by decide)) (by decide)) (by decide)).elim
      · skip
        refine ⟨fun c6 => ?_, fun c6 => ?_⟩
        · skip
          exact hpost _ _ _ _ _ _ _ (iv_w (iv_lit (l := (-2)) (h := (-2)) (by decide)) (by decide)) (iv_lit (l := 0) (h := 0) (by decide)) k_f_land k_f_huts k_f_singers k_a_run k_a_covers
        · skip
          exact (iv_emp (iv_ne (l := 1) (h := 0) c6 (iv_lit (l := 0) (h := 0) (by decide)) (iv_lit (l := 0) (h := 0) (by decide)) (by decide)) (by decide)).elim
    · skip
      refine ⟨iv_nb (iv_lit (l := 1) (h := 1) (by decide)) (by decide), ?_⟩
      refine ⟨fun c7 => ?_, fun c7 => ?_⟩
      · skip
        refine sp_of (a := 0) (b := 9) k_a_lands (iv_lea (l := 0) (h := 1) (r_nlt c4) (iv_leb (l := 0) (h := 2147483647) (r_nlt c1) (iv_lit (l := 0) (h := 0) (by decide)) (iv_top x1) (by decide)) (iv_sub (l := (-1)) (h := 1) (k_a_many _) (iv_lit (l := 1) (h := 1) (by decide)) (by decide)) (by decide)) (iv_lit (l := 0) (h := 0) (by decide)) (by decide +kernel) (fun r8 hr8 er8 => ?_)
        refine sp_of (a := 0) (b := 6) k_a_lands (iv_lea (l := 0) (h := 1) (r_nlt c4) (iv_leb (l := 0) (h := 2147483647) (r_nlt c1) (iv_lit (l := 0) (h := 0) (by decide)) (iv_top x1) (by decide)) (iv_sub (l := (-1)) (h := 1) (k_a_many _) (iv_lit (l := 1) (h := 1) (by decide)) (by decide)) (by decide)) (iv_lit (l := 1) (h := 1) (by decide)) (by decide +kernel) (fun r9 hr9 er9 => ?_)
        refine ⟨fun c10 => ?_, fun c10 => ?_⟩
        · skip
          exact (iv_emp (iv_eqa (l := 1) (h := 0) c10 (iv_lit (l := 1) (h := 1) (by decide)) (iv_lit (l := 0) (h := 0) (by decide)) (by decide)) (by decide)).elim
        · skip
          refine ⟨fun c11 => ?_, fun c11 => ?_⟩
          · skip
            refine ⟨fun c12 => ?_, fun c12 => ?_⟩
            · skip
              exact hpost _ _ _ _ _ _ _ (iv_w (iv_lit (l := (-2)) (h := (-2)) (by decide)) (by decide)) (iv_lit (l := 0) (h := 0) (by decide)) (iv_lea (l := 0) (h := 1) (r_nlt c4) (iv_leb (l := 0) (h := 2147483647) (r_nlt c1) (iv_lit (l := 0) (h := 0) (by decide)) (iv_top x1) (by decide)) (iv_sub (l := (-1)) (h := 1) (k_a_many _) (iv_lit (l := 1) (h := 1) (by decide)) (by decide)) (by decide)) hr8 hr9 k_a_run k_a_covers
            · skip
              exact (iv_emp (iv_ne (l := 1) (h := 0) c12 (iv_lit (l := 0) (h := 0) (by decide)) (iv_lit (l := 0) (h := 0) (by decide)) (by decide)) (by decide)).elim
          · skip
            refine ⟨fun c13 => ?_, fun c13 => ?_⟩
            · skip
              refine ⟨fun c14 => ?_, fun c14 => ?_⟩
              · skip
                exact hpost _ _ _ _ _ _ _ (iv_w (iv_lit (l := (-2)) (h := (-2)) (by decide)) (by decide)) (iv_lit (l := 0) (h := 0) (by decide)) (iv_lea (l := 0) (h := 1) (r_nlt c4) (iv_leb (l := 0) (h := 2147483647) (r_nlt c1) (iv_lit (l := 0) (h := 0) (by decide)) (iv_top x1) (by decide)) (iv_sub (l := (-1)) (h := 1) (k_a_many _) (iv_lit (l := 1) (h := 1) (by decide)) (by decide)) (by decide)) hr8 hr9 k_a_run k_a_covers
              · skip
                exact (iv_emp (iv_ne (l := 1) (h := 0) c14 (iv_lit (l := 0) (h := 0) (by decide)) (iv_lit (l := 0) (h := 0) (by decide)) (by decide)) (by decide)).elim
            · skip
              refine ⟨fun c15 => ?_, fun c15 => ?_⟩
              · skip
                exact (iv_emp (iv_eqa (l := 1) (h := 0) c15 (iv_lit (l := 1) (h := 1) (by decide)) (iv_lit (l := 0) (h := 0) (by decide)) (by decide)) (by decide)).elim
              · skip
                refine ⟨fun c16 => ?_, fun c16 => ?_⟩
                · skip
                  refine ⟨fun c17 => ?_, fun c17 => ?_⟩
                  · skip
                    exact (iv_emp (iv_ne (l := 1) (h := 0) c17 (iv_lit (l := 0) (h := 0) (by decide)) (iv_lit (l := 0) (h := 0) (by decide)) (by decide)) (by decide)).elim
                  · skip
                    exact hpost _ _ _ _ _ _ _ (iv_w (iv_lit (l := (-2)) (h := (-2)) (by decide)) (by decide)) (iv_lit (l := 0) (h := 0) (by decide)) (iv_lea (l := 0) (h := 1) (r_nlt c4) (iv_leb (l := 0) (h := 2147483647) (r_nlt c1) (iv_lit (l := 0) (h := 0) (by decide)) (iv_top x1) (by decide)) (iv_sub (l := (-1)) (h := 1) (k_a_many _) (iv_lit (l := 1) (h := 1) (by decide)) (by decide)) (by decide)) hr8 hr9 k_a_run k_a_covers
                · skip
                  refine ⟨fun c18 => ?_, fun c18 => ?_⟩
                  · skip
                    refine ⟨fun c19 => ?_, fun c19 => ?_⟩
                    · skip
                      exact (iv_emp (iv_ne (l := 1) (h := 0) c19 (iv_lit (l := 0) (h := 0) (by decide)) (iv_lit (l := 0) (h := 0) (by decide)) (by decide)) (by decide)).elim
                    · skip
                      exact hpost _ _ _ _ _ _ _ (iv_w (iv_lit (l := (-2)) (h := (-2)) (by decide)) (by decide)) (iv_lit (l := 0) (h := 0) (by decide)) (iv_lea (l := 0) (h := 1) (r_nlt c4) (iv_leb (l := 0) (h := 2147483647) (r_nlt c1) (iv_lit (l := 0) (h := 0) (by decide)) (iv_top x1) (by decide)) (iv_sub (l := (-1)) (h := 1) (k_a_many _) (iv_lit (l := 1) (h := 1) (by decide)) (by decide)) (by decide)) hr8 hr9 k_a_run k_a_covers
                  · skip
                    refine ⟨fun c20 => ?_, fun c20 => ?_⟩
                    · skip
                      refine s_m_allBy_0 k_a_lands (iv_lea (l := 0) (h := 1) (r_nlt c4) (iv_leb (l := 0) (h := 2147483647) (r_nlt c1) (iv_lit (l := 0) (h := 0) (by decide)) (iv_top x1) (by decide)) (iv_sub (l := (-1)) (h := 1) (k_a_many _) (iv_lit (l := 1) (h := 1) (by decide)) (by decide)) (by decide)) hr8 k_a_run k_a_covers (iv_lea (l := 0) (h := 99) (r_nlt c13) (iv_leb (l := 0) (h := 2147483647) (r_nlt c11) (iv_lit (l := 0) (h := 0) (by decide)) (iv_top x2) (by decide)) (iv_lit (l := 99) (h := 99) (by decide)) (by decide)) (fun r21 o22 o23 hr21 k_o22 k_o23 => ?_)
                      refine ⟨fun c24 => ?_, fun c24 => ?_⟩
                      · skip
                        refine sp_of (a := 0) (b := 511) k_a_lands (iv_lea (l := 0) (h := 1) (r_nlt c4) (iv_leb (l := 0) (h := 2147483647) (r_nlt c1) (iv_lit (l := 0) (h := 0) (by decide)) (iv_top x1) (by decide)) (iv_sub (l := (-1)) (h := 1) (k_a_many _) (iv_lit (l := 1) (h := 1) (by decide)) (by decide)) (by decide)) (iv_lit (l := 3) (h := 3) (by decide)) (by decide +kernel) (fun r25 hr25 er25 => ?_)
                        refine sp_of (a := 0) (b := 511) k_a_lands (iv_lea (l := 0) (h := 1) (r_nlt c4) (iv_leb (l := 0) (h := 2147483647) (r_nlt c1) (iv_lit (l := 0) (h := 0) (by decide)) (iv_top x1) (by decide)) (iv_sub (l := (-1)) (h := 1) (k_a_many _) (iv_lit (l := 1) (h := 1) (by decide)) (by decide)) (by decide)) (iv_lit (l := 2) (h := 2) (by decide)) (by decide +kernel) (fun r26 hr26 er26 => ?_)
                        refine sp_of (a := 0) (b := 511) k_a_lands (iv_lea (l := 0) (h := 1) (r_nlt c4) (iv_leb (l := 0) (h := 2147483647) (r_nlt c1) (iv_lit (l := 0) (h := 0) (by decide)) (iv_top x1) (by decide)) (iv_sub (l := (-1)) (h := 1) (k_a_many _) (iv_lit (l := 1) (h := 1) (by decide)) (by decide)) (by decide)) (iv_lit (l := 3) (h := 3) (by decide)) (by decide +kernel) (fun r27 hr27 er27 => ?_)
                        refine s_m_fewest_0 hr8 k_o23 (iv_andl (l := 0) (h := 511) (iv_sub (l := 0) (h := 511) (iv_shl1 (l := 1) (h := 512) (iv_lit (l := 1) (h := 1) (by decide)) hr8 (by decide)) (iv_lit (l := 1) (h := 1) (by decide)) (by decide)) (by decide)) (iv_andl (l := 0) (h := 511) hr26 (by decide)) (fun r28 hr28 => ?_)
                        exact hpost _ _ _ _ _ _ _ (iv_w hr28 (by decide)) (iv_lit (l := 0) (h := 0) (by decide)) (iv_lea (l := 0) (h := 1) (r_nlt c4) (iv_leb (l := 0) (h := 2147483647) (r_nlt c1) (iv_lit (l := 0) (h := 0) (by decide)) (iv_top x1) (by decide)) (iv_sub (l := (-1)) (h := 1) (k_a_many _) (iv_lit (l := 1) (h := 1) (by decide)) (by decide)) (by decide)) hr8 hr9 k_o22 k_o23
                      · skip
                        exact hpost _ _ _ _ _ _ _ (iv_w hr21 (by decide)) (iv_lit (l := 0) (h := 0) (by decide)) (iv_lea (l := 0) (h := 1) (r_nlt c4) (iv_leb (l := 0) (h := 2147483647) (r_nlt c1) (iv_lit (l := 0) (h := 0) (by decide)) (iv_top x1) (by decide)) (iv_sub (l := (-1)) (h := 1) (k_a_many _) (iv_lit (l := 1) (h := 1) (by decide)) (by decide)) (by decide)) hr8 hr9 k_o22 k_o23
                    · skip
                      exact (iv_emp (iv_eqa (l := 1) (h := 0) c20 (iv_lit (l := 1) (h := 1) (by decide)) (iv_lit (l := 0) (h := 0) (by decide)) (by decide)) (by decide)).elim
      · skip
        exact (iv_emp (iv_eqa (l := 1) (h := 0) c7 (iv_lit (l := 1) (h := 1) (by decide)) (iv_lit (l := 0) (h := 0) (by decide)) (by decide)) (by decide)).elim
-- m_best
set_option maxRecDepth 20000 in
theorem s_m_best_100 {f_code : Int32} {a_many : Nat → Int32} {a_lands : Nat → Int32} {f_land : Int32} {f_huts : Int32} {f_singers : Int32} {a_run : Nat → Int32} {x3 : Int32} {post : Int32 → (Int32) → (Int32) → (Int32) → (Int32) → (Nat → Int32) → Prop} (k_f_code : iv 0 0 f_code) (k_a_many : ∀ j, iv 0 2 (a_many j)) (k_a_lands : mLand a_lands) (k_f_land : iv 0 1 f_land) (k_f_huts : iv 0 9 f_huts) (k_f_singers : iv 0 6 f_singers) (k_a_run : ∀ j, iv 0 1000000 (a_run j)) (hx3 : iv (-1) 8 x3) (hpost : ∀ (r : Int32) (f_code : Int32) (f_land : Int32) (f_huts : Int32) (f_singers : Int32) (a_run : Nat → Int32), iv (-1) 1000000 r → (iv 0 0 f_code) → (iv 0 1 f_land) → (iv 0 9 f_huts) → (iv 0 6 f_singers) → (∀ j, iv 0 1000000 (a_run j)) → post r f_code f_land f_huts f_singers a_run) : q_m_best_100 f_code a_many a_lands f_land f_huts f_singers a_run x3 post := by
  exact hpost _ _ _ _ _ _ (iv_w hx3 (by decide)) k_f_code k_f_land k_f_huts k_f_singers k_a_run
set_option maxRecDepth 20000 in
theorem s_m_best_75 {P25 : Int32 → Int32 → Int32 → (Nat → Int32) → Prop} {f_code : Int32} {a_many : Nat → Int32} {a_lands : Nat → Int32} {f_land : Int32} {f_huts : Int32} {f_singers : Int32} {a_run : Nat → Int32} {x2 : Int32} {x4 : Int32} {x5 : Int32} {x6 : Int32} {y0 : Int32} {post : Int32 → (Int32) → (Int32) → (Int32) → (Int32) → (Nat → Int32) → Prop} (k_f_code : iv 0 0 f_code) (k_a_many : ∀ j, iv 0 2 (a_many j)) (k_a_lands : mLand a_lands) (k_f_land : iv 0 1 f_land) (k_f_huts : iv 1 9 f_huts) (k_f_singers : iv 0 6 f_singers) (k_a_run : ∀ j, iv 0 1000000 (a_run j)) (hx4 : iv 0 1000000 x4) (hx5 : iv 0 8 x5) (hx6 : iv 0 1000000 x6) (hy0 : iv (-1) 8 y0) (m25 : Int) (hm25 : m25 ≤ x5.toInt) (hP25 : ∀ (x3 : Int32) (x4 : Int32) (x5 : Int32) (a_run : Nat → Int32), m25 < x5.toInt → iv (-1) 8 x3 → iv 0 1000000 x4 → iv 0 9 x5 → (∀ j, iv 0 1000000 (a_run j)) → P25 x3 x4 x5 a_run) (hpost : ∀ (r : Int32) (f_code : Int32) (f_land : Int32) (f_huts : Int32) (f_singers : Int32) (a_run : Nat → Int32), iv (-1) 1000000 r → (iv 0 0 f_code) → (iv 0 1 f_land) → (iv 0 9 f_huts) → (iv 0 6 f_singers) → (∀ j, iv 0 1000000 (a_run j)) → post r f_code f_land f_huts f_singers a_run) : q_m_best_75 P25 f_code a_many a_lands f_land f_huts f_singers a_run x2 x4 x5 x6 y0 post := by
  refine ⟨fun c1 => ?_, fun c1 => ?_⟩
  · skip
    intro w2 ew2
    have hw2 := iv_eq ew2 (iv_add (l := 1) (h := 9) hx5 (iv_lit (l := 1) (h := 1) (by decide)) (by decide))
    exact hP25 _ _ _ _ (ml_up hm25 (inc_lt ew2 hx5 (by decide))) hy0 hx6 (iv_w hw2 (by decide)) k_a_run
  · skip
    intro w3 ew3
    have hw3 := iv_eq ew3 (iv_add (l := 1) (h := 9) hx5 (iv_lit (l := 1) (h := 1) (by decide)) (by decide))
    exact hP25 _ _ _ _ (ml_up hm25 (inc_lt ew3 hx5 (by decide))) hy0 (iv_w (iv_lta (l := 0) (h := 999999) (r_nle c1) hx4 hx6 (by decide)) (by decide)) (iv_w hw3 (by decide)) k_a_run
set_option maxRecDepth 20000 in
theorem s_m_best_60 {P25 : Int32 → Int32 → Int32 → (Nat → Int32) → Prop} {f_code : Int32} {a_many : Nat → Int32} {a_lands : Nat → Int32} {f_land : Int32} {f_huts : Int32} {f_singers : Int32} {a_run : Nat → Int32} {x2 : Int32} {x3 : Int32} {x4 : Int32} {x5 : Int32} {y0 : Int32} {post : Int32 → (Int32) → (Int32) → (Int32) → (Int32) → (Nat → Int32) → Prop} (k_f_code : iv 0 0 f_code) (k_a_many : ∀ j, iv 0 2 (a_many j)) (k_a_lands : mLand a_lands) (k_f_land : iv 0 1 f_land) (k_f_huts : iv 1 9 f_huts) (k_f_singers : iv 0 6 f_singers) (k_a_run : ∀ j, iv 0 1000000 (a_run j)) (hx3 : iv (-1) 8 x3) (hx4 : iv 0 1000000 x4) (hx5 : iv 0 8 x5) (hy0 : iv 0 1000000 y0) (m25 : Int) (hm25 : m25 ≤ x5.toInt) (hP25 : ∀ (x3 : Int32) (x4 : Int32) (x5 : Int32) (a_run : Nat → Int32), m25 < x5.toInt → iv (-1) 8 x3 → iv 0 1000000 x4 → iv 0 9 x5 → (∀ j, iv 0 1000000 (a_run j)) → P25 x3 x4 x5 a_run) (hpost : ∀ (r : Int32) (f_code : Int32) (f_land : Int32) (f_huts : Int32) (f_singers : Int32) (a_run : Nat → Int32), iv (-1) 1000000 r → (iv 0 0 f_code) → (iv 0 1 f_land) → (iv 0 9 f_huts) → (iv 0 6 f_singers) → (∀ j, iv 0 1000000 (a_run j)) → post r f_code f_land f_huts f_singers a_run) : q_m_best_60 P25 f_code a_many a_lands f_land f_huts f_singers a_run x2 x3 x4 x5 y0 post := by
  refine ⟨fun c1 => ?_, fun c1 => ?_⟩
  · skip
    exact s_m_best_75 k_f_code k_a_many k_a_lands k_f_land k_f_huts k_f_singers k_a_run hx4 hx5 hy0 hx3 m25 hm25 hP25 hpost
  · skip
    exact s_m_best_75 k_f_code k_a_many k_a_lands k_f_land k_f_huts k_f_singers k_a_run (iv_w (iv_ltb (l := 1) (h := 1000000) (r_nle c1) hy0 hx4 (by decide)) (by decide)) hx5 (iv_w (iv_lta (l := 0) (h := 999999) (r_nle c1) hy0 hx4 (by decide)) (by decide)) (iv_w hx5 (by decide)) m25 hm25 hP25 hpost
set_option maxRecDepth 20000 in
theorem s_m_best_25 {f_code : Int32} {a_many : Nat → Int32} {a_lands : Nat → Int32} {f_land : Int32} {f_huts : Int32} {f_singers : Int32} {a_run : Nat → Int32} {x2 : Int32} {x3 : Int32} {x4 : Int32} {x5 : Int32} {post : Int32 → (Int32) → (Int32) → (Int32) → (Int32) → (Nat → Int32) → Prop} (k_f_code : iv 0 0 f_code) (k_a_many : ∀ j, iv 0 2 (a_many j)) (k_a_lands : mLand a_lands) (k_f_land : iv 0 1 f_land) (k_f_huts : iv 0 9 f_huts) (k_f_singers : iv 0 6 f_singers) (k_a_run : ∀ j, iv 0 1000000 (a_run j)) (hx3 : iv (-1) 8 x3) (hx4 : iv 0 1000000 x4) (hx5 : iv 0 9 x5) (hpost : ∀ (r : Int32) (f_code : Int32) (f_land : Int32) (f_huts : Int32) (f_singers : Int32) (a_run : Nat → Int32), iv (-1) 1000000 r → (iv 0 0 f_code) → (iv 0 1 f_land) → (iv 0 9 f_huts) → (iv 0 6 f_singers) → (∀ j, iv 0 1000000 (a_run j)) → post r f_code f_land f_huts f_singers a_run) : q_m_best_25 f_code a_many a_lands f_land f_huts f_singers a_run x2 x3 x4 x5 post := by
  intro P hP
  have loop : ∀ (n : Nat) (x3 : Int32) (x4 : Int32) (x5 : Int32) (a_run : Nat → Int32), (9 - x5.toInt < (n : Int)) → (iv (-1) 8 x3) → (iv 0 1000000 x4) → (iv 0 9 x5) → (∀ j, iv 0 1000000 (a_run j)) → P x3 x4 x5 a_run := by
    intro n
    induction n with
    | zero => intro x3 x4 x5 a_run hm hx3 hx4 hx5 k_a_run; exact (ms0_up hm hx5).elim
    | succ n ih =>
      intro x3 x4 x5 a_run hm hx3 hx4 hx5 k_a_run
      apply hP
      refine ⟨fun c1 => ?_, fun c1 => ?_⟩
      · skip
        refine ⟨fun c2 => ?_, fun c2 => ?_⟩
        · skip
          exact s_m_best_100 k_f_code k_a_many k_a_lands k_f_land k_f_huts k_f_singers k_a_run (iv_w (iv_eqa (l := (-1)) (h := (-1)) c2 hx3 (iv_lit (l := (-1)) (h := (-1)) (by decide)) (by decide)) (by decide)) hpost
        · skip
          refine ⟨fun c3 => ?_, fun c3 => ?_⟩
          · skip
            exact hpost _ _ _ _ _ _ (iv_w hx4 (by decide)) k_f_code k_f_land k_f_huts k_f_singers k_a_run
          · skip
            exact s_m_best_100 k_f_code k_a_many k_a_lands k_f_land k_f_huts k_f_singers k_a_run (iv_w (iv_ne (l := 0) (h := 8) c2 hx3 (iv_lit (l := (-1)) (h := (-1)) (by decide)) (by decide)) (by decide)) hpost
      · skip
        refine s_m_findRun_0 k_a_lands k_f_land (iv_w (iv_ltb (l := 1) (h := 9) (r_nle c1) hx5 k_f_huts (by decide)) (by decide)) k_a_run (iv_lta (l := 0) (h := 8) (r_nle c1) hx5 k_f_huts (by decide)) (iv_w (iv_lit (l := 0) (h := 0) (by decide)) (by decide)) (fun o4 k_o4 => ?_)
        refine sp_of (a := 0) (b := 511) k_a_lands k_f_land (iv_lit (l := 3) (h := 3) (by decide)) (by decide +kernel) (fun r5 hr5 er5 => ?_)
        refine ⟨fun c6 => ?_, fun c6 => ?_⟩
        · skip
          refine ⟨iv_nb (iv_lit (l := 0) (h := 0) (by decide)) (by decide), ?_⟩
          refine ⟨fun c7 => ?_, fun c7 => ?_⟩
          · skip
            refine s_m_lastVillage_0 k_a_lands k_f_land (iv_ltb (l := 1) (h := 9) (r_nle c1) hx5 k_f_huts (by decide)) k_o4 (fun r8 hr8 => ?_)
            exact s_m_best_60 k_f_code k_a_many k_a_lands k_f_land (iv_ltb (l := 1) (h := 9) (r_nle c1) hx5 k_f_huts (by decide)) k_f_singers k_o4 hx3 hx4 (iv_lta (l := 0) (h := 8) (r_nle c1) hx5 k_f_huts (by decide)) hr8 x5.toInt (Int.le_refl _) (fun u0 u1 u2 u3 hq g0 g1 g2 g3 => ih u0 u1 u2 u3 (ms_up hm hq) g0 g1 g2 g3) hpost
          · skip
            exact (iv_emp (iv_ne (l := 1) (h := 0) c7 (iv_lit (l := 0) (h := 0) (by decide)) (iv_lit (l := 0) (h := 0) (by decide)) (by decide)) (by decide)).elim
        · skip
          refine ⟨iv_nb (iv_lit (l := 1) (h := 1) (by decide)) (by decide), ?_⟩
          refine ⟨fun c9 => ?_, fun c9 => ?_⟩
          · skip
            exact (iv_emp (iv_eqa (l := 1) (h := 0) c9 (iv_lit (l := 1) (h := 1) (by decide)) (iv_lit (l := 0) (h := 0) (by decide)) (by decide)) (by decide)).elim
          · skip
            exact s_m_best_60 k_f_code k_a_many k_a_lands k_f_land (iv_ltb (l := 1) (h := 9) (r_nle c1) hx5 k_f_huts (by decide)) k_f_singers k_o4 hx3 hx4 (iv_lta (l := 0) (h := 8) (r_nle c1) hx5 k_f_huts (by decide)) (iv_w (iv_lit (l := 1000000) (h := 1000000) (by decide)) (by decide)) x5.toInt (Int.le_refl _) (fun u0 u1 u2 u3 hq g0 g1 g2 g3 => ih u0 u1 u2 u3 (ms_up hm hq) g0 g1 g2 g3) hpost
  exact loop _ _ _ _ _ (ms_init_up _ _) hx3 hx4 hx5 k_a_run
set_option maxRecDepth 20000 in
theorem s_m_best_0 {f_code : Int32} {a_many : Nat → Int32} {a_lands : Nat → Int32} {f_land : Int32} {f_huts : Int32} {f_singers : Int32} {a_run : Nat → Int32} {x1 : Int32} {x2 : Int32} {post : Int32 → (Int32) → (Int32) → (Int32) → (Int32) → (Nat → Int32) → Prop} (k_f_code : iv 0 0 f_code) (k_a_many : ∀ j, iv 0 2 (a_many j)) (k_a_lands : mLand a_lands) (k_f_land : iv 0 1 f_land) (k_f_huts : iv 0 9 f_huts) (k_f_singers : iv 0 6 f_singers) (k_a_run : ∀ j, iv 0 1000000 (a_run j)) (hpost : ∀ (r : Int32) (f_code : Int32) (f_land : Int32) (f_huts : Int32) (f_singers : Int32) (a_run : Nat → Int32), iv (-1) 1000000 r → (iv 0 0 f_code) → (iv 0 1 f_land) → (iv 0 9 f_huts) → (iv 0 6 f_singers) → (∀ j, iv 0 1000000 (a_run j)) → post r f_code f_land f_huts f_singers a_run) : q_m_best_0 f_code a_many a_lands f_land f_huts f_singers a_run x1 x2 post := by
  refine ⟨iv_in (iv_lit (l := 0) (h := 0) (by decide)) (by decide), ?_⟩
  refine ⟨fun c1 => ?_, fun c1 => ?_⟩
  · skip
    refine ⟨iv_nb (iv_lit (l := 0) (h := 0) (by decide)) (by decide), ?_⟩
    refine ⟨fun c2 => ?_, fun c2 => ?_⟩
    · skip
      exact (iv_emp (iv_ne (l := 1) (h := 0) c2 (iv_lit (l := 0) (h := 0) (by decide)) (iv_lit (l := 0) (h := 0) (by decide)) (by decide)) (by decide)).elim
    · skip
      refine ⟨fun c3 => ?_, fun c3 => ?_⟩
      · skip
        exact (iv_emp (iv_ne (l := 1) (h := 0) c3 (iv_lit (l := 0) (h := 0) (by decide)) (iv_lit (l := 0) (h := 0) (by decide)) (by decide)) (by decide)).elim
      · skip
        exact hpost _ _ _ _ _ _ (iv_w (iv_lit (l := (-1)) (h := (-1)) (by decide)) (by decide)) (iv_lit (l := 0) (h := 0) (by decide)) k_f_land k_f_huts k_f_singers k_a_run
  · skip
    refine ⟨fun c4 => ?_, fun c4 => ?_⟩
    · skip
      refine ⟨iv_nb (iv_lit (l := 0) (h := 0) (by decide)) (by decide), ?_⟩
      refine ⟨fun c5 => ?_, fun c5 => ?_⟩
      · skip
        exact (iv_emp (iv_ne (l := 1) (h := 0) c5 (iv_lit (l := 0) (h := 0) (by decide)) (iv_lit (l := 0) (h := 0) (by decide)) (by decide)) (by decide)).elim
      · skip
        refine ⟨fun c6 => ?_, fun c6 => ?_⟩
        · skip
          exact (iv_emp (iv_ne (l := 1) (h := 0) c6 (iv_lit (l := 0) (h := 0) (by decide)) (iv_lit (l := 0) (h := 0) (by decide)) (by decide)) (by decide)).elim
        · skip
          exact hpost _ _ _ _ _ _ (iv_w (iv_lit (l := (-1)) (h := (-1)) (by decide)) (by decide)) (iv_lit (l := 0) (h := 0) (by decide)) k_f_land k_f_huts k_f_singers k_a_run
    · skip
      refine ⟨iv_nb (iv_lit (l := 1) (h := 1) (by decide)) (by decide), ?_⟩
      refine ⟨fun c7 => ?_, fun c7 => ?_⟩
      · skip
        refine sp_of (a := 0) (b := 9) k_a_lands (iv_lea (l := 0) (h := 1) (r_nlt c4) (iv_leb (l := 0) (h := 2147483647) (r_nlt c1) (iv_lit (l := 0) (h := 0) (by decide)) (iv_top x1) (by decide)) (iv_sub (l := (-1)) (h := 1) (k_a_many _) (iv_lit (l := 1) (h := 1) (by decide)) (by decide)) (by decide)) (iv_lit (l := 0) (h := 0) (by decide)) (by decide +kernel) (fun r8 hr8 er8 => ?_)
        refine sp_of (a := 0) (b := 6) k_a_lands (iv_lea (l := 0) (h := 1) (r_nlt c4) (iv_leb (l := 0) (h := 2147483647) (r_nlt c1) (iv_lit (l := 0) (h := 0) (by decide)) (iv_top x1) (by decide)) (iv_sub (l := (-1)) (h := 1) (k_a_many _) (iv_lit (l := 1) (h := 1) (by decide)) (by decide)) (by decide)) (iv_lit (l := 1) (h := 1) (by decide)) (by decide +kernel) (fun r9 hr9 er9 => ?_)
        refine ⟨fun c10 => ?_, fun c10 => ?_⟩
        · skip
          exact s_m_best_25 (iv_lit (l := 0) (h := 0) (by decide)) k_a_many k_a_lands (iv_lea (l := 0) (h := 1) (r_nlt c4) (iv_leb (l := 0) (h := 2147483647) (r_nlt c1) (iv_lit (l := 0) (h := 0) (by decide)) (iv_top x1) (by decide)) (iv_sub (l := (-1)) (h := 1) (k_a_many _) (iv_lit (l := 1) (h := 1) (by decide)) (by decide)) (by decide)) hr8 hr9 k_a_run (iv_w (iv_lit (l := (-1)) (h := (-1)) (by decide)) (by decide)) (iv_w (iv_lit (l := 1000000) (h := 1000000) (by decide)) (by decide)) (iv_w (iv_lit (l := 0) (h := 0) (by decide)) (by decide)) hpost
        · skip
          exact (iv_emp (iv_eqa (l := 1) (h := 0) c10 (iv_lit (l := 1) (h := 1) (by decide)) (iv_lit (l := 0) (h := 0) (by decide)) (by decide)) (by decide)).elim
      · skip
        exact (iv_emp (iv_eqa (l := 1) (h := 0) c7 (iv_lit (l := 1) (h := 1) (by decide)) (iv_lit (l := 0) (h := 0) (by decide)) (by decide)) (by decide)).elim
-- m_goesDown
set_option maxRecDepth 20000 in
theorem s_m_goesDown_132 {a_lands : Nat → Int32} {f_land : Int32} {a_routes : Nat → Int32} {a_longest : Nat → Int32} {a_steep : Nat → Int32} {x1 : Int32} {x2 : Int32} {y0 : Int32} {y1 : Int32} {post : (Nat → Int32) → (Nat → Int32) → (Nat → Int32) → Prop} (k_a_lands : mLand a_lands) (k_f_land : iv 0 1 f_land) (hx1 : iv 0 8 x1) (hx2 : iv 0 8 x2) (hy0 : iv 0 8 y0) (hpost : ∀ (a_routes : Nat → Int32) (a_longest : Nat → Int32) (a_steep : Nat → Int32), post a_routes a_longest a_steep) : q_m_goesDown_132 a_lands f_land a_routes a_longest a_steep x1 x2 y0 y1 post := by
  refine ⟨iv_in hy0 (by decide), ?_⟩
  intro a1 ea1
  refine ⟨iv_in hx2 (by decide), ?_⟩
  refine ⟨iv_in hx1 (by decide), ?_⟩
  intro w2 ew2
  refine ⟨iv_in hx2 (by decide), ?_⟩
  intro a3 ea3
  exact hpost _ _ _
set_option maxRecDepth 20000 in
theorem s_m_goesDown_89 {a_lands : Nat → Int32} {f_land : Int32} {a_routes : Nat → Int32} {a_longest : Nat → Int32} {a_steep : Nat → Int32} {x1 : Int32} {x2 : Int32} {y0 : Int32} {y1 : Int32} {post : (Nat → Int32) → (Nat → Int32) → (Nat → Int32) → Prop} (k_a_lands : mLand a_lands) (k_f_land : iv 0 1 f_land) (hx1 : iv 0 8 x1) (hx2 : iv 0 8 x2) (hy0 : iv 0 8 y0) (hpost : ∀ (a_routes : Nat → Int32) (a_longest : Nat → Int32) (a_steep : Nat → Int32), post a_routes a_longest a_steep) : q_m_goesDown_89 a_lands f_land a_routes a_longest a_steep x1 x2 y0 y1 post := by
  refine ⟨iv_in hy0 (by decide), ?_⟩
  intro a1 ea1
  refine ⟨iv_in hx2 (by decide), ?_⟩
  refine ⟨fun c2 => ?_, fun c2 => ?_⟩
  · skip
    refine ⟨iv_in hx2 (by decide), ?_⟩
    refine ⟨iv_in hx1 (by decide), ?_⟩
    refine ⟨fun c3 => ?_, fun c3 => ?_⟩
    · skip
      exact s_m_goesDown_132 k_a_lands k_f_land hx1 hx2 hx2 hpost
    · skip
      exact s_m_goesDown_132 k_a_lands k_f_land hx1 hx2 hx2 hpost
  · skip
    refine ⟨iv_in hx1 (by decide), ?_⟩
    exact s_m_goesDown_132 k_a_lands k_f_land hx1 hx2 hx2 hpost
set_option maxRecDepth 20000 in
theorem s_m_goesDown_0 {a_lands : Nat → Int32} {f_land : Int32} {a_routes : Nat → Int32} {a_longest : Nat → Int32} {a_steep : Nat → Int32} {x1 : Int32} {x2 : Int32} {post : (Nat → Int32) → (Nat → Int32) → (Nat → Int32) → Prop} (k_a_lands : mLand a_lands) (k_f_land : iv 0 1 f_land) (hx1 : iv 0 8 x1) (hx2 : iv 0 8 x2) (hpost : ∀ (a_routes : Nat → Int32) (a_longest : Nat → Int32) (a_steep : Nat → Int32), post a_routes a_longest a_steep) : q_m_goesDown_0 a_lands f_land a_routes a_longest a_steep x1 x2 post := by
  refine sp_of (a := 0) (b := 9) k_a_lands k_f_land (iv_add (l := 51) (h := 131) (iv_add (l := 51) (h := 123) (iv_lit (l := 51) (h := 51) (by decide)) (iv_mul (l := 0) (h := 72) (iv_lit (l := 9) (h := 9) (by decide)) hx1 (by decide)) (by decide)) hx2 (by decide)) (by decide +kernel) (fun r1 hr1 er1 => ?_)
  refine ⟨fun c2 => ?_, fun c2 => ?_⟩
  · skip
    exact hpost _ _ _
  · skip
    refine sp_of (a := 0) (b := 99) k_a_lands k_f_land (iv_add (l := 7) (h := 15) (iv_lit (l := 7) (h := 7) (by decide)) hx2 (by decide)) (by decide +kernel) (fun r3 hr3 er3 => ?_)
    refine sp_of (a := 0) (b := 99) k_a_lands k_f_land (iv_add (l := 7) (h := 15) (iv_lit (l := 7) (h := 7) (by decide)) hx1 (by decide)) (by decide +kernel) (fun r4 hr4 er4 => ?_)
    refine ⟨fun c5 => ?_, fun c5 => ?_⟩
    · skip
      exact hpost _ _ _
    · skip
      refine sp_of (a := 0) (b := 511) k_a_lands k_f_land (iv_lit (l := 3) (h := 3) (by decide)) (by decide +kernel) (fun r6 hr6 er6 => ?_)
      refine ⟨fun c7 => ?_, fun c7 => ?_⟩
      · skip
        refine ⟨iv_nb (iv_lit (l := 0) (h := 0) (by decide)) (by decide), ?_⟩
        refine ⟨fun c8 => ?_, fun c8 => ?_⟩
        · skip
          exact (iv_emp (iv_ne (l := 1) (h := 0) c8 (iv_lit (l := 0) (h := 0) (by decide)) (iv_lit (l := 0) (h := 0) (by decide)) (by decide)) (by decide)).elim
        · skip
          refine ⟨iv_in hx1 (by decide), ?_⟩
          refine ⟨fun c9 => ?_, fun c9 => ?_⟩
          · skip
            refine ⟨iv_in hx1 (by decide), ?_⟩
            refine sp_of (a := 0) (b := 99) k_a_lands k_f_land (iv_add (l := 7) (h := 15) (iv_lit (l := 7) (h := 7) (by decide)) hx1 (by decide)) (by decide +kernel) (fun r10 hr10 er10 => ?_)
            refine sp_of (a := 0) (b := 99) k_a_lands k_f_land (iv_add (l := 7) (h := 15) (iv_lit (l := 7) (h := 7) (by decide)) hx2 (by decide)) (by decide +kernel) (fun r11 hr11 er11 => ?_)
            refine ⟨fun c12 => ?_, fun c12 => ?_⟩
            · skip
              refine ⟨iv_in hx2 (by decide), ?_⟩
              refine ⟨fun c13 => ?_, fun c13 => ?_⟩
              · skip
                refine ⟨iv_in hx2 (by decide), ?_⟩
                refine ⟨fun c14 => ?_, fun c14 => ?_⟩
                · skip
                  exact s_m_goesDown_89 k_a_lands k_f_land hx1 hx2 hx2 hpost
                · skip
                  exact s_m_goesDown_89 k_a_lands k_f_land hx1 hx2 hx2 hpost
              · skip
                exact s_m_goesDown_89 k_a_lands k_f_land hx1 hx2 hx2 hpost
            · skip
              refine ⟨iv_in hx2 (by decide), ?_⟩
              refine ⟨fun c15 => ?_, fun c15 => ?_⟩
              · skip
                refine ⟨iv_in hx2 (by decide), ?_⟩
                refine ⟨fun c16 => ?_, fun c16 => ?_⟩
                · skip
                  exact s_m_goesDown_89 k_a_lands k_f_land hx1 hx2 hx2 hpost
                · skip
                  exact s_m_goesDown_89 k_a_lands k_f_land hx1 hx2 hx2 hpost
              · skip
                exact s_m_goesDown_89 k_a_lands k_f_land hx1 hx2 hx2 hpost
          · skip
            exact hpost _ _ _
      · skip
        refine ⟨iv_nb (iv_lit (l := 1) (h := 1) (by decide)) (by decide), ?_⟩
        refine ⟨fun c17 => ?_, fun c17 => ?_⟩
        · skip
          exact hpost _ _ _
        · skip
          exact (iv_emp (iv_eqa (l := 1) (h := 0) c17 (iv_lit (l := 1) (h := 1) (by decide)) (iv_lit (l := 0) (h := 0) (by decide)) (by decide)) (by decide)).elim
-- m_findRoutes
theorem sp_nextDown {f laid : Nat → Int32} {ld : Int32} {H : Nat} {post : Int32 → Prop} (hL : mLand f) (hl : iv 0 1 ld) (hH : H ≤ 9) (hex : ∃ h, h < H ∧ laid h = 0) (hp : ∀ a, a < H → laid a = 0 → post (nI a)) : q_m_nextDown_0 f ld (nI H) laid post := by
  intro P hP
  have loop : ∀ (n j : Nat) (x : Int32), n + j = H → ((x = -1 ∧ ∀ h, h < j → ¬ laid h = 0) ∨ ∃ a, a < j ∧ x = nI a ∧ laid a = 0) → P x (nI j) := by
    intro n
    induction n with
    | zero =>
      intro j x hj hx
      apply hP
      refine ⟨fun _ => ?_, fun h => absurd (nI_le (by omega) (by omega)) h⟩
      rcases hx with ⟨-, hno⟩ | ⟨a, ha, rfl, h0⟩
      · obtain ⟨h, hh, e⟩ := hex
        exact absurd e (hno h (by omega))
      · exact hp a (by omega) h0
    | succ n ih =>
      intro j x hj hx
      apply hP
      refine ⟨fun h => absurd h (nI_ge (by omega) (by omega)), fun _ => ⟨vp_in_nI (by omega) (by omega), ?_⟩⟩
      rw [nI_clamp (by omega)]
      have k43 : ¬ laid j = 0 ∨ ¬ x = -1 → q_m_nextDown_43 P f ld (nI H) laid x (nI j) post := by
        intro hh v1 e1
        rw [e1, nI_1]
        refine ih (j + 1) x (by omega) ?_
        rcases hx with ⟨hx1, hno⟩ | ⟨a, ha, hxa, h0⟩
        · left
          refine ⟨hx1, fun h hlt => ?_⟩
          by_cases he : h = j
          · subst he
            rcases hh with hh | hh
            · exact hh
            · exact absurd hx1 hh
          · exact hno h (by omega)
        · right
          exact ⟨a, by omega, hxa, h0⟩
      have k39 : laid j = 0 → q_m_nextDown_39 P f ld (nI H) laid (nI j) post := by
        intro h0 v1 e1
        rw [e1, nI_1]
        exact ih (j + 1) (nI j) (by omega) (Or.inr ⟨j, by omega, rfl, h0⟩)
      refine ⟨fun h => k43 (Or.inl h), fun h => ⟨fun _ => k39 h, fun hx1 => ?_⟩⟩
      rcases hx with ⟨hx2, -⟩ | ⟨a, ha, rfl, h0⟩
      · exact absurd hx2 hx1
      · refine sp_height hL hl (iv_ofN (by omega) (by omega) (by omega)) (fun r1 => sp_height hL hl (iv_ofN (by omega) (by omega) (by omega)) (fun r2 => ?_))
        exact ⟨fun _ => k43 (Or.inr hx1), fun _ => k39 h⟩
  exact loop H 0 (-1) (by omega) (Or.inl ⟨rfl, fun h hh => absurd hh (by omega)⟩)
theorem s_m_findRoutes_0 {a_lands : Nat → Int32} {f_land : Int32} {f_huts : Int32} {a_routes : Nat → Int32} {a_longest : Nat → Int32} {a_steep : Nat → Int32} {a_laid : Nat → Int32} {x1 : Int32} {post : (Nat → Int32) → (Nat → Int32) → (Nat → Int32) → (Nat → Int32) → Prop} (k_a_lands : mLand a_lands) (k_f_land : iv 0 1 f_land) (k_f_huts : iv 0 9 f_huts) (k_a_laid : ∀ j, iv 0 1 (a_laid j)) (hpost : ∀ (a_routes : Nat → Int32) (a_longest : Nat → Int32) (a_steep : Nat → Int32) (a_laid : Nat → Int32), (∀ j, iv 0 1 (a_laid j)) → post a_routes a_longest a_steep a_laid) : q_m_findRoutes_0 a_lands f_land f_huts a_routes a_longest a_steep a_laid x1 post := by
  obtain ⟨H, rfl, -, hH, hH2⟩ := iv_nI k_f_huts (by omega)
  have hH9 : H ≤ 9 := by omega
  have e0 : vp_nar .boolean 0 = 0 := rfl
  have e1 : vp_nar .boolean 1 = 1 := rfl
  have second : ∀ (rt lg st laid : Nat → Int32), (∀ j, iv 0 1 (laid j)) → (∀ h, h < H → laid h = 0) → q_m_findRoutes_63 a_lands f_land (nI H) rt lg st laid 0 post := by
    intro rt lg st laid hl01 hl0 P hP
    have loop : ∀ (n j : Nat) (rt lg st laid : Nat → Int32), n + j = H → (∀ j, iv 0 1 (laid j)) → zc laid H = n → P (nI j) rt lg st laid := by
      intro n
      induction n with
      | zero =>
        intro j rt lg st laid hj h01 hz
        apply hP
        exact ⟨fun _ => hpost _ _ _ _ h01, fun h => absurd (nI_le (by omega) (by omega)) h⟩
      | succ n ih =>
        intro j rt lg st laid hj h01 hz
        apply hP
        refine ⟨fun h => absurd h (nI_ge (by omega) (by omega)), fun _ => ?_⟩
        refine sp_nextDown k_a_lands k_f_land hH9 (zc_pos (by omega)) (fun a ha h0 => ?_)
        refine ⟨vp_in_nI (by omega) (by omega), fun laid1 el => ?_⟩
        rw [nI_clamp (by omega), e1] at el
        intro P2 hP2
        have hz1 : zc laid1 H = n := by
          have := zc_upd (v := 1) h0 (by decide) ha
          rw [el]; omega
        have h01' : ∀ j, iv 0 1 (laid1 j) := iv_upd el h01 (iv_lit (by decide))
        have loop2 : ∀ (m b : Nat) (rt lg st : Nat → Int32), m + b = H → P2 (nI b) rt lg st := by
          intro m
          induction m with
          | zero =>
            intro b rt lg st hb
            apply hP2
            refine ⟨fun _ v1 ev => ?_, fun h => absurd (nI_le (by omega) (by omega)) h⟩
            rw [ev, nI_1]
            exact ih (j + 1) rt lg st laid1 (by omega) h01' hz1
          | succ m ih2 =>
            intro b rt lg st hb
            apply hP2
            refine ⟨fun h => absurd h (nI_ge (by omega) (by omega)), fun _ => ?_⟩
            refine s_m_goesDown_0 k_a_lands k_f_land (iv_ofN (by omega) (by omega) (by omega)) (iv_ofN (by omega) (by omega) (by omega)) (fun rt1 lg1 st1 v2 ev => ?_)
            rw [ev, nI_1]
            exact ih2 (b + 1) rt1 lg1 st1 (by omega)
        exact loop2 H 0 rt lg st (by omega)
    exact loop H 0 rt lg st laid (by omega) hl01 (zc_all hl0)
  intro P hP
  have loop : ∀ (n j : Nat) (rt lg st laid : Nat → Int32), n + j = H → (∀ j, iv 0 1 (laid j)) → (∀ h, h < j → laid h = 0) → P (nI j) rt lg st laid := by
    intro n
    induction n with
    | zero =>
      intro j rt lg st laid hj h01 h0
      apply hP
      exact ⟨fun _ => second rt lg st laid h01 (fun h hh => h0 h (by omega)), fun h => absurd (nI_le (by omega) (by omega)) h⟩
    | succ n ih =>
      intro j rt lg st laid hj h01 h0
      apply hP
      have k33 : ∀ y : Int32, q_m_findRoutes_33 P a_lands f_land (nI H) rt lg st laid x1 (nI j) (nI j) y post := by
        intro y
        refine ⟨vp_in_nI (by omega) (by omega), fun rt1 _ => ⟨vp_in_nI (by omega) (by omega), fun lg1 _ => ⟨vp_in_nI (by omega) (by omega), fun st1 _ => ⟨vp_in_nI (by omega) (by omega), fun laid1 el v1 ev => ?_⟩⟩⟩⟩
        rw [ev, nI_1]
        rw [nI_clamp (by omega), e0] at el
        refine ih (j + 1) rt1 lg1 st1 laid1 (by omega) (iv_upd el h01 (iv_lit (by decide))) (fun h hh => ?_)
        rw [el]
        unfold upd
        split
        · rfl
        · exact h0 h (by omega)
      refine ⟨fun h => absurd h (nI_ge (by omega) (by omega)), fun _ => ⟨fun _ => k33 0, fun _ => ?_⟩⟩
      exact sp_isDam k_a_lands k_f_land ⟨fun h => absurd rfl h, fun _ => k33 1⟩ ⟨fun _ => k33 0, fun h => absurd h (by decide)⟩
  exact loop H 0 a_routes a_longest a_steep a_laid (by omega) k_a_laid (fun h hh => absurd hh (by omega))
-- m_routes
set_option maxRecDepth 20000 in
theorem s_m_routes_0 {f_code : Int32} {a_many : Nat → Int32} {a_lands : Nat → Int32} {f_land : Int32} {f_huts : Int32} {f_singers : Int32} {a_routes : Nat → Int32} {a_longest : Nat → Int32} {a_steep : Nat → Int32} {a_laid : Nat → Int32} {x1 : Int32} {x2 : Int32} {x3 : Int32} {x4 : Int32} {post : Int32 → (Int32) → (Int32) → (Int32) → (Int32) → (Nat → Int32) → (Nat → Int32) → (Nat → Int32) → (Nat → Int32) → Prop} (k_f_code : iv 0 0 f_code) (k_a_many : ∀ j, iv 0 2 (a_many j)) (k_a_lands : mLand a_lands) (k_f_land : iv 0 1 f_land) (k_f_huts : iv 0 9 f_huts) (k_f_singers : iv 0 6 f_singers) (k_a_laid : ∀ j, iv 0 1 (a_laid j)) (hpost : ∀ (r : Int32) (f_code : Int32) (f_land : Int32) (f_huts : Int32) (f_singers : Int32) (a_routes : Nat → Int32) (a_longest : Nat → Int32) (a_steep : Nat → Int32) (a_laid : Nat → Int32), (iv 0 0 f_code) → (iv 0 1 f_land) → (iv 0 9 f_huts) → (iv 0 6 f_singers) → (∀ j, iv 0 1 (a_laid j)) → post r f_code f_land f_huts f_singers a_routes a_longest a_steep a_laid) : q_m_routes_0 f_code a_many a_lands f_land f_huts f_singers a_routes a_longest a_steep a_laid x1 x2 x3 x4 post := by
  refine ⟨iv_in (iv_lit (l := 0) (h := 0) (by decide)) (by decide), ?_⟩
  refine ⟨fun c1 => ?_, fun c1 => ?_⟩
  · skip
    refine ⟨iv_nb (iv_lit (l := 0) (h := 0) (by decide)) (by decide), ?_⟩
    refine ⟨fun c2 => ?_, fun c2 => ?_⟩
    · skip
      exact (iv_emp (iv_ne (l := 1) (h := 0) c2 (iv_lit (l := 0) (h := 0) (by decide)) (iv_lit (l := 0) (h := 0) (by decide)) (by decide)) (by decide)).elim
    · skip
      refine ⟨fun c3 => ?_, fun c3 => ?_⟩
      · skip
        exact hpost _ _ _ _ _ _ _ _ _ (iv_lit (l := 0) (h := 0) (by decide)) k_f_land k_f_huts k_f_singers k_a_laid
      · skip
        exact (iv_emp (iv_ne (l := 1) (h := 0) c3 (iv_lit (l := 0) (h := 0) (by decide)) (iv_lit (l := 0) (h := 0) (by decide)) (by decide)) (by decide)).elim
  · skip
    refine ⟨fun c4 => ?_, fun c4 => ?_⟩
    · skip
      refine ⟨iv_nb (iv_lit (l := 0) (h := 0) (by decide)) (by decide), ?_⟩
      refine ⟨fun c5 => ?_, fun c5 => ?_⟩
      · skip
        exact (iv_emp (iv_ne (l := 1) (h := 0) c5 (iv_lit (l := 0) (h := 0) (by decide)) (iv_lit (l := 0) (h := 0) (by decide)) (by decide)) (by decide)).elim
      · skip
        refine ⟨fun c6 => ?_, fun c6 => ?_⟩
        · skip
          exact hpost _ _ _ _ _ _ _ _ _ (iv_lit (l := 0) (h := 0) (by decide)) k_f_land k_f_huts k_f_singers k_a_laid
        · skip
          exact (iv_emp (iv_ne (l := 1) (h := 0) c6 (iv_lit (l := 0) (h := 0) (by decide)) (iv_lit (l := 0) (h := 0) (by decide)) (by decide)) (by decide)).elim
    · skip
      refine ⟨iv_nb (iv_lit (l := 1) (h := 1) (by decide)) (by decide), ?_⟩
      refine ⟨fun c7 => ?_, fun c7 => ?_⟩
      · skip
        refine sp_of (a := 0) (b := 9) k_a_lands (iv_lea (l := 0) (h := 1) (r_nlt c4) (iv_leb (l := 0) (h := 2147483647) (r_nlt c1) (iv_lit (l := 0) (h := 0) (by decide)) (iv_top x1) (by decide)) (iv_sub (l := (-1)) (h := 1) (k_a_many _) (iv_lit (l := 1) (h := 1) (by decide)) (by decide)) (by decide)) (iv_lit (l := 0) (h := 0) (by decide)) (by decide +kernel) (fun r8 hr8 er8 => ?_)
        refine sp_of (a := 0) (b := 6) k_a_lands (iv_lea (l := 0) (h := 1) (r_nlt c4) (iv_leb (l := 0) (h := 2147483647) (r_nlt c1) (iv_lit (l := 0) (h := 0) (by decide)) (iv_top x1) (by decide)) (iv_sub (l := (-1)) (h := 1) (k_a_many _) (iv_lit (l := 1) (h := 1) (by decide)) (by decide)) (by decide)) (iv_lit (l := 1) (h := 1) (by decide)) (by decide +kernel) (fun r9 hr9 er9 => ?_)
        refine ⟨fun c10 => ?_, fun c10 => ?_⟩
        · skip
          exact (iv_emp (iv_eqa (l := 1) (h := 0) c10 (iv_lit (l := 1) (h := 1) (by decide)) (iv_lit (l := 0) (h := 0) (by decide)) (by decide)) (by decide)).elim
        · skip
          refine ⟨fun c11 => ?_, fun c11 => ?_⟩
          · skip
            refine ⟨iv_nb (iv_lit (l := 0) (h := 0) (by decide)) (by decide), ?_⟩
            refine ⟨fun c12 => ?_, fun c12 => ?_⟩
            · skip
              exact hpost _ _ _ _ _ _ _ _ _ (iv_lit (l := 0) (h := 0) (by decide)) (iv_lea (l := 0) (h := 1) (r_nlt c4) (iv_leb (l := 0) (h := 2147483647) (r_nlt c1) (iv_lit (l := 0) (h := 0) (by decide)) (iv_top x1) (by decide)) (iv_sub (l := (-1)) (h := 1) (k_a_many _) (iv_lit (l := 1) (h := 1) (by decide)) (by decide)) (by decide)) hr8 hr9 k_a_laid
            · skip
              exact (iv_emp (iv_ne (l := 1) (h := 0) c12 (iv_lit (l := 0) (h := 0) (by decide)) (iv_lit (l := 0) (h := 0) (by decide)) (by decide)) (by decide)).elim
          · skip
            refine ⟨fun c13 => ?_, fun c13 => ?_⟩
            · skip
              refine ⟨iv_nb (iv_lit (l := 0) (h := 0) (by decide)) (by decide), ?_⟩
              refine ⟨fun c14 => ?_, fun c14 => ?_⟩
              · skip
                exact hpost _ _ _ _ _ _ _ _ _ (iv_lit (l := 0) (h := 0) (by decide)) (iv_lea (l := 0) (h := 1) (r_nlt c4) (iv_leb (l := 0) (h := 2147483647) (r_nlt c1) (iv_lit (l := 0) (h := 0) (by decide)) (iv_top x1) (by decide)) (iv_sub (l := (-1)) (h := 1) (k_a_many _) (iv_lit (l := 1) (h := 1) (by decide)) (by decide)) (by decide)) hr8 hr9 k_a_laid
              · skip
                exact (iv_emp (iv_ne (l := 1) (h := 0) c14 (iv_lit (l := 0) (h := 0) (by decide)) (iv_lit (l := 0) (h := 0) (by decide)) (by decide)) (by decide)).elim
            · skip
              refine ⟨iv_nb (iv_lit (l := 1) (h := 1) (by decide)) (by decide), ?_⟩
              refine ⟨fun c15 => ?_, fun c15 => ?_⟩
              · skip
                exact (iv_emp (iv_eqa (l := 1) (h := 0) c15 (iv_lit (l := 1) (h := 1) (by decide)) (iv_lit (l := 0) (h := 0) (by decide)) (by decide)) (by decide)).elim
              · skip
                refine ⟨fun c16 => ?_, fun c16 => ?_⟩
                · skip
                  refine ⟨iv_nb (iv_lit (l := 0) (h := 0) (by decide)) (by decide), ?_⟩
                  refine ⟨fun c17 => ?_, fun c17 => ?_⟩
                  · skip
                    exact hpost _ _ _ _ _ _ _ _ _ (iv_lit (l := 0) (h := 0) (by decide)) (iv_lea (l := 0) (h := 1) (r_nlt c4) (iv_leb (l := 0) (h := 2147483647) (r_nlt c1) (iv_lit (l := 0) (h := 0) (by decide)) (iv_top x1) (by decide)) (iv_sub (l := (-1)) (h := 1) (k_a_many _) (iv_lit (l := 1) (h := 1) (by decide)) (by decide)) (by decide)) hr8 hr9 k_a_laid
                  · skip
                    exact (iv_emp (iv_ne (l := 1) (h := 0) c17 (iv_lit (l := 0) (h := 0) (by decide)) (iv_lit (l := 0) (h := 0) (by decide)) (by decide)) (by decide)).elim
                · skip
                  refine ⟨fun c18 => ?_, fun c18 => ?_⟩
                  · skip
                    refine ⟨iv_nb (iv_lit (l := 0) (h := 0) (by decide)) (by decide), ?_⟩
                    refine ⟨fun c19 => ?_, fun c19 => ?_⟩
                    · skip
                      exact hpost _ _ _ _ _ _ _ _ _ (iv_lit (l := 0) (h := 0) (by decide)) (iv_lea (l := 0) (h := 1) (r_nlt c4) (iv_leb (l := 0) (h := 2147483647) (r_nlt c1) (iv_lit (l := 0) (h := 0) (by decide)) (iv_top x1) (by decide)) (iv_sub (l := (-1)) (h := 1) (k_a_many _) (iv_lit (l := 1) (h := 1) (by decide)) (by decide)) (by decide)) hr8 hr9 k_a_laid
                    · skip
                      exact (iv_emp (iv_ne (l := 1) (h := 0) c19 (iv_lit (l := 0) (h := 0) (by decide)) (iv_lit (l := 0) (h := 0) (by decide)) (by decide)) (by decide)).elim
                  · skip
                    refine ⟨iv_nb (iv_lit (l := 1) (h := 1) (by decide)) (by decide), ?_⟩
                    refine ⟨fun c20 => ?_, fun c20 => ?_⟩
                    · skip
                      exact (iv_emp (iv_eqa (l := 1) (h := 0) c20 (iv_lit (l := 1) (h := 1) (by decide)) (iv_lit (l := 0) (h := 0) (by decide)) (by decide)) (by decide)).elim
                    · skip
                      refine ⟨fun c21 => ?_, fun c21 => ?_⟩
                      · skip
                        exact hpost _ _ _ _ _ _ _ _ _ (iv_lit (l := 0) (h := 0) (by decide)) (iv_lea (l := 0) (h := 1) (r_nlt c4) (iv_leb (l := 0) (h := 2147483647) (r_nlt c1) (iv_lit (l := 0) (h := 0) (by decide)) (iv_top x1) (by decide)) (iv_sub (l := (-1)) (h := 1) (k_a_many _) (iv_lit (l := 1) (h := 1) (by decide)) (by decide)) (by decide)) hr8 hr9 k_a_laid
                      · skip
                        refine ⟨fun c22 => ?_, fun c22 => ?_⟩
                        · skip
                          refine ⟨fun c23 => ?_, fun c23 => ?_⟩
                          · skip
                            exact (iv_emp (iv_ne (l := 1) (h := 0) c23 (iv_lit (l := 0) (h := 0) (by decide)) (iv_lit (l := 0) (h := 0) (by decide)) (by decide)) (by decide)).elim
                          · skip
                            exact hpost _ _ _ _ _ _ _ _ _ (iv_lit (l := 0) (h := 0) (by decide)) (iv_lea (l := 0) (h := 1) (r_nlt c4) (iv_leb (l := 0) (h := 2147483647) (r_nlt c1) (iv_lit (l := 0) (h := 0) (by decide)) (iv_top x1) (by decide)) (iv_sub (l := (-1)) (h := 1) (k_a_many _) (iv_lit (l := 1) (h := 1) (by decide)) (by decide)) (by decide)) hr8 hr9 k_a_laid
                        · skip
                          refine ⟨fun c24 => ?_, fun c24 => ?_⟩
                          · skip
                            refine ⟨fun c25 => ?_, fun c25 => ?_⟩
                            · skip
                              exact (iv_emp (iv_ne (l := 1) (h := 0) c25 (iv_lit (l := 0) (h := 0) (by decide)) (iv_lit (l := 0) (h := 0) (by decide)) (by decide)) (by decide)).elim
                            · skip
                              exact hpost _ _ _ _ _ _ _ _ _ (iv_lit (l := 0) (h := 0) (by decide)) (iv_lea (l := 0) (h := 1) (r_nlt c4) (iv_leb (l := 0) (h := 2147483647) (r_nlt c1) (iv_lit (l := 0) (h := 0) (by decide)) (iv_top x1) (by decide)) (iv_sub (l := (-1)) (h := 1) (k_a_many _) (iv_lit (l := 1) (h := 1) (by decide)) (by decide)) (by decide)) hr8 hr9 k_a_laid
                          · skip
                            refine ⟨fun c26 => ?_, fun c26 => ?_⟩
                            · skip
                              refine s_m_findRoutes_0 k_a_lands (iv_lea (l := 0) (h := 1) (r_nlt c4) (iv_leb (l := 0) (h := 2147483647) (r_nlt c1) (iv_lit (l := 0) (h := 0) (by decide)) (iv_top x1) (by decide)) (iv_sub (l := (-1)) (h := 1) (k_a_many _) (iv_lit (l := 1) (h := 1) (by decide)) (by decide)) (by decide)) hr8 k_a_laid (fun o27 o28 o29 o30 k_o30 => ?_)
                              refine ⟨fun c31 => ?_, fun c31 => ?_⟩
                              · skip
                                refine ⟨iv_in (iv_lea (l := 0) (h := 8) (r_nlt c18) (iv_leb (l := 0) (h := 2147483647) (r_nlt c16) (iv_lit (l := 0) (h := 0) (by decide)) (iv_top x3) (by decide)) (iv_leb (l := 0) (h := 8) (r_nlt c13) (iv_leb (l := 0) (h := 2147483647) (r_nlt c11) (iv_lit (l := 0) (h := 0) (by decide)) (iv_top x2) (by decide)) (iv_sub (l := (-1)) (h := 8) hr8 (iv_lit (l := 1) (h := 1) (by decide)) (by decide)) (by decide)) (by decide)) (by decide), ?_⟩
                                refine ⟨fun c32 => ?_, fun c32 => ?_⟩
                                · skip
                                  refine ⟨fun c33 => ?_, fun c33 => ?_⟩
                                  · skip
                                    refine ⟨iv_in (iv_lea (l := 0) (h := 8) (r_nlt c18) (iv_leb (l := 0) (h := 2147483647) (r_nlt c16) (iv_lit (l := 0) (h := 0) (by decide)) (iv_top x3) (by decide)) (iv_leb (l := 0) (h := 8) (r_nlt c13) (iv_leb (l := 0) (h := 2147483647) (r_nlt c11) (iv_lit (l := 0) (h := 0) (by decide)) (iv_top x2) (by decide)) (iv_sub (l := (-1)) (h := 8) hr8 (iv_lit (l := 1) (h := 1) (by decide)) (by decide)) (by decide)) (by decide)) (by decide), ?_⟩
                                    exact hpost _ _ _ _ _ _ _ _ _ (iv_lit (l := 0) (h := 0) (by decide)) (iv_lea (l := 0) (h := 1) (r_nlt c4) (iv_leb (l := 0) (h := 2147483647) (r_nlt c1) (iv_lit (l := 0) (h := 0) (by decide)) (iv_top x1) (by decide)) (iv_sub (l := (-1)) (h := 1) (k_a_many _) (iv_lit (l := 1) (h := 1) (by decide)) (by decide)) (by decide)) hr8 hr9 k_o30
                                  · skip
                                    refine ⟨iv_in (iv_lea (l := 0) (h := 8) (r_nlt c18) (iv_leb (l := 0) (h := 2147483647) (r_nlt c16) (iv_lit (l := 0) (h := 0) (by decide)) (iv_top x3) (by decide)) (iv_leb (l := 0) (h := 8) (r_nlt c13) (iv_leb (l := 0) (h := 2147483647) (r_nlt c11) (iv_lit (l := 0) (h := 0) (by decide)) (iv_top x2) (by decide)) (iv_sub (l := (-1)) (h := 8) hr8 (iv_lit (l := 1) (h := 1) (by decide)) (by decide)) (by decide)) (by decide)) (by decide), ?_⟩
                                    exact hpost _ _ _ _ _ _ _ _ _ (iv_lit (l := 0) (h := 0) (by decide)) (iv_lea (l := 0) (h := 1) (r_nlt c4) (iv_leb (l := 0) (h := 2147483647) (r_nlt c1) (iv_lit (l := 0) (h := 0) (by decide)) (iv_top x1) (by decide)) (iv_sub (l := (-1)) (h := 1) (k_a_many _) (iv_lit (l := 1) (h := 1) (by decide)) (by decide)) (by decide)) hr8 hr9 k_o30
                                · skip
                                  exact hpost _ _ _ _ _ _ _ _ _ (iv_lit (l := 0) (h := 0) (by decide)) (iv_lea (l := 0) (h := 1) (r_nlt c4) (iv_leb (l := 0) (h := 2147483647) (r_nlt c1) (iv_lit (l := 0) (h := 0) (by decide)) (iv_top x1) (by decide)) (iv_sub (l := (-1)) (h := 1) (k_a_many _) (iv_lit (l := 1) (h := 1) (by decide)) (by decide)) (by decide)) hr8 hr9 k_o30
                              · skip
                                refine ⟨iv_in (iv_lea (l := 0) (h := 8) (r_nlt c18) (iv_leb (l := 0) (h := 2147483647) (r_nlt c16) (iv_lit (l := 0) (h := 0) (by decide)) (iv_top x3) (by decide)) (iv_leb (l := 0) (h := 8) (r_nlt c13) (iv_leb (l := 0) (h := 2147483647) (r_nlt c11) (iv_lit (l := 0) (h := 0) (by decide)) (iv_top x2) (by decide)) (iv_sub (l := (-1)) (h := 8) hr8 (iv_lit (l := 1) (h := 1) (by decide)) (by decide)) (by decide)) (by decide)) (by decide), ?_⟩
                                exact hpost _ _ _ _ _ _ _ _ _ (iv_lit (l := 0) (h := 0) (by decide)) (iv_lea (l := 0) (h := 1) (r_nlt c4) (iv_leb (l := 0) (h := 2147483647) (r_nlt c1) (iv_lit (l := 0) (h := 0) (by decide)) (iv_top x1) (by decide)) (iv_sub (l := (-1)) (h := 1) (k_a_many _) (iv_lit (l := 1) (h := 1) (by decide)) (by decide)) (by decide)) hr8 hr9 k_o30
                            · skip
                              exact (iv_emp (iv_eqa (l := 1) (h := 0) c26 (iv_lit (l := 1) (h := 1) (by decide)) (iv_lit (l := 0) (h := 0) (by decide)) (by decide)) (by decide)).elim
      · skip
        exact (iv_emp (iv_eqa (l := 1) (h := 0) c7 (iv_lit (l := 1) (h := 1) (by decide)) (iv_lit (l := 0) (h := 0) (by decide)) (by decide)) (by decide)).elim
-- m_mutesOf
set_option maxRecDepth 20000 in
theorem s_m_mutesOf_0 {a_lands : Nat → Int32} {f_land : Int32} {f_huts : Int32} {a_run : Nat → Int32} {x1 : Int32} {x2 : Int32} {post : Int32 → (Nat → Int32) → Prop} (k_a_lands : mLand a_lands) (k_f_land : iv 0 1 f_land) (k_f_huts : iv 0 9 f_huts) (k_a_run : ∀ j, iv 0 1000000 (a_run j)) (hx1 : iv 0 8 x1) (hx2 : iv 0 8 x2) (hpost : ∀ (r : Int32) (a_run : Nat → Int32), (∀ j, iv 0 1000000 (a_run j)) → post r a_run) : q_m_mutesOf_0 a_lands f_land f_huts a_run x1 x2 post := by
  refine s_m_findRun_0 k_a_lands k_f_land k_f_huts k_a_run hx1 (iv_w (iv_lit (l := 0) (h := 0) (by decide)) (by decide)) (fun o1 k_o1 => ?_)
  refine s_m_comesBy_0 k_f_huts k_o1 (iv_w (iv_lit (l := 999999) (h := 999999) (by decide)) (by decide)) (fun r2 hr2 => ?_)
  refine s_m_findRun_0 k_a_lands k_f_land k_f_huts k_o1 hx1 (iv_w (iv_shl1 (l := 1) (h := 256) (iv_lit (l := 1) (h := 1) (by decide)) hx2 (by decide)) (by decide)) (fun o3 k_o3 => ?_)
  refine s_m_comesBy_0 k_f_huts k_o3 (iv_w (iv_lit (l := 999999) (h := 999999) (by decide)) (by decide)) (fun r4 hr4 => ?_)
  refine s_m_ones_0 (iv_w (iv_andl (l := 0) (h := 511) (iv_andl (l := 0) (h := 511) (iv_andl (l := 0) (h := 511) hr2 (by decide)) (by decide)) (by decide)) (by decide)) (fun r5 => ?_)
  exact hpost _ _ k_o3
end
