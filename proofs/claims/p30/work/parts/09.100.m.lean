section
-- m_ones
set_option maxRecDepth 20000 in
theorem s_m_ones_24 {P4 : Int32 → Int32 → Prop} {x0 : Int32} {x2 : Int32} {y0 : Int32} {y1 : Int32} {post : Int32 → Prop} (hx0 : iv (-1) 2147483647 x0) (hx2 : iv 0 8 x2) (hy1 : iv 0 1 y1) (m4 : Int) (hm4 : m4 ≤ x2.toInt) (hP4 : ∀ (x1 : Int32) (x2 : Int32), m4 < x2.toInt → iv 0 9 x2 → P4 x1 x2) (hpost : ∀ (r : Int32), post r) : q_m_ones_24 P4 x0 x2 y0 y1 post := by
  intro w1 ew1
  intro w2 ew2
  have hw2 := iv_eq ew2 (iv_add (l := 1) (h := 9) hx2 (iv_lit (l := 1) (h := 1) (by decide)) (by decide))
  exact hP4 _ _ (ml_up hm4 (inc_lt ew2 hx2 (by decide))) (iv_w hw2 (by decide))
set_option maxRecDepth 20000 in
theorem s_m_ones_4 {x0 : Int32} {x1 : Int32} {x2 : Int32} {post : Int32 → Prop} (hx0 : iv (-1) 2147483647 x0) (hx2 : iv 0 9 x2) (hpost : ∀ (r : Int32), post r) : q_m_ones_4 x0 x1 x2 post := by
  intro P hP
  have loop : ∀ (n : Nat) (x1 : Int32) (x2 : Int32), (9 - x2.toInt < (n : Int)) → (iv 0 9 x2) → P x1 x2 := by
    intro n
    induction n with
    | zero => intro x1 x2 hm hx2; exact (ms0_up hm hx2).elim
    | succ n ih =>
      intro x1 x2 hm hx2
      apply hP
      refine ⟨fun c1 => ?_, fun c1 => ?_⟩
      · skip
        exact hpost _
      · skip
        refine ⟨fun c2 => ?_, fun c2 => ?_⟩
        · skip
          refine ⟨fun c3 => ?_, fun c3 => ?_⟩
          · skip
            exact s_m_ones_24 hx0 (iv_lta (l := 0) (h := 8) (r_nle c1) hx2 (iv_lit (l := 9) (h := 9) (by decide)) (by decide)) (iv_w (iv_lit (l := 0) (h := 0) (by decide)) (by decide)) x2.toInt (Int.le_refl _) (fun u0 u1 hq g0 => ih u0 u1 (ms_up hm hq) g0) hpost
          · skip
            exact (iv_emp (iv_ne (l := 1) (h := 0) c3 (iv_lit (l := 0) (h := 0) (by decide)) (iv_lit (l := 0) (h := 0) (by decide)) (by decide)) (by decide)).elim
        · skip
          refine ⟨fun c4 => ?_, fun c4 => ?_⟩
          · skip
            exact (iv_emp (iv_eqa (l := 1) (h := 0) c4 (iv_lit (l := 1) (h := 1) (by decide)) (iv_lit (l := 0) (h := 0) (by decide)) (by decide)) (by decide)).elim
          · skip
            exact s_m_ones_24 hx0 (iv_lta (l := 0) (h := 8) (r_nle c1) hx2 (iv_lit (l := 9) (h := 9) (by decide)) (by decide)) (iv_w (iv_lit (l := 1) (h := 1) (by decide)) (by decide)) x2.toInt (Int.le_refl _) (fun u0 u1 hq g0 => ih u0 u1 (ms_up hm hq) g0) hpost
  exact loop _ _ _ (ms_init_up _ _) hx2
set_option maxRecDepth 20000 in
theorem s_m_ones_0 {x0 : Int32} {post : Int32 → Prop} (hx0 : iv (-1) 2147483647 x0) (hpost : ∀ (r : Int32), post r) : q_m_ones_0 x0 post := by
  exact s_m_ones_4 hx0 (iv_w (iv_lit (l := 0) (h := 0) (by decide)) (by decide)) hpost
-- m_end
set_option maxRecDepth 20000 in
theorem s_m_end_0 {f_code : Int32} {a_size : Nat → Int32} {x1 : Int32} {post : Int32 → (Int32) → (Nat → Int32) → Prop} (k_f_code : iv 0 0 f_code) (k_a_size : ∀ j, iv 0 600 (a_size j)) (hpost : ∀ (r : Int32) (f_code : Int32) (a_size : Nat → Int32), iv (-1) 600 r → (iv 0 0 f_code) → (∀ j, iv 0 600 (a_size j)) → post r f_code a_size) : q_m_end_0 f_code a_size x1 post := by
  refine ⟨fun c1 => ?_, fun c1 => ?_⟩
  · skip
    refine ⟨fun c2 => ?_, fun c2 => ?_⟩
    · skip
      exact (iv_emp (iv_ne (l := 1) (h := 0) c2 (iv_lit (l := 0) (h := 0) (by decide)) (iv_lit (l := 0) (h := 0) (by decide)) (by decide)) (by decide)).elim
    · skip
      exact hpost _ _ _ (iv_w (iv_lit (l := (-1)) (h := (-1)) (by decide)) (by decide)) (iv_lit (l := 0) (h := 0) (by decide)) k_a_size
  · skip
    refine ⟨fun c3 => ?_, fun c3 => ?_⟩
    · skip
      refine ⟨fun c4 => ?_, fun c4 => ?_⟩
      · skip
        exact (iv_emp (iv_ne (l := 1) (h := 0) c4 (iv_lit (l := 0) (h := 0) (by decide)) (iv_lit (l := 0) (h := 0) (by decide)) (by decide)) (by decide)).elim
      · skip
        exact hpost _ _ _ (iv_w (iv_lit (l := (-1)) (h := (-1)) (by decide)) (by decide)) (iv_lit (l := 0) (h := 0) (by decide)) k_a_size
    · skip
      refine ⟨fun c5 => ?_, fun c5 => ?_⟩
      · skip
        intro a6 ea6
        have k_a6 := iv_upd ea6 k_a_size (iv_lea (l := 0) (h := 600) (r_nlt c3) (iv_leb (l := 0) (h := 2147483647) (r_nlt c1) (iv_lit (l := 0) (h := 0) (by decide)) (iv_top x1) (by decide)) (k_a_size _) (by decide))
        exact hpost _ _ _ (iv_w (iv_lea (l := 0) (h := 600) (r_nlt c3) (iv_leb (l := 0) (h := 2147483647) (r_nlt c1) (iv_lit (l := 0) (h := 0) (by decide)) (iv_top x1) (by decide)) (k_a_size _) (by decide)) (by decide)) (iv_lit (l := 0) (h := 0) (by decide)) k_a6
      · skip
        exact (iv_emp (iv_eqa (l := 1) (h := 0) c5 (iv_lit (l := 1) (h := 1) (by decide)) (iv_lit (l := 0) (h := 0) (by decide)) (by decide)) (by decide)).elim
-- m_fault
set_option maxRecDepth 20000 in
theorem s_m_fault_0 {f_code : Int32} {a_fault : Nat → Int32} {a_faultPlace : Nat → Int32} {x1 : Int32} {post : Int32 → (Int32) → Prop} (k_f_code : iv 0 0 f_code) (hpost : ∀ (r : Int32) (f_code : Int32), (iv 0 0 f_code) → post r f_code) : q_m_fault_0 f_code a_fault a_faultPlace x1 post := by
  refine ⟨fun c1 => ?_, fun c1 => ?_⟩
  · skip
    refine ⟨fun c2 => ?_, fun c2 => ?_⟩
    · skip
      exact hpost _ _ (iv_lit (l := 0) (h := 0) (by decide))
    · skip
      exact hpost _ _ (iv_lit (l := 0) (h := 0) (by decide))
  · skip
    exact hpost _ _ (iv_lit (l := 0) (h := 0) (by decide))
-- m_land
set_option maxRecDepth 20000 in
theorem s_m_land_0 {f_code : Int32} {a_many : Nat → Int32} {a_lands : Nat → Int32} {f_land : Int32} {f_huts : Int32} {f_singers : Int32} {x1 : Int32} {x2 : Int32} {post : Int32 → (Int32) → (Int32) → (Int32) → (Int32) → Prop} (k_f_code : iv 0 0 f_code) (k_a_many : ∀ j, iv 0 2 (a_many j)) (k_a_lands : mLand a_lands) (k_f_land : iv 0 1 f_land) (k_f_huts : iv 0 9 f_huts) (k_f_singers : iv 0 6 f_singers) (hpost : ∀ (r : Int32) (f_code : Int32) (f_land : Int32) (f_huts : Int32) (f_singers : Int32), iv (-1) 511 r → (iv 0 0 f_code) → (iv 0 1 f_land) → (iv 0 9 f_huts) → (iv 0 6 f_singers) → post r f_code f_land f_huts f_singers) : q_m_land_0 f_code a_many a_lands f_land f_huts f_singers x1 x2 post := by
  refine ⟨iv_in (iv_lit (l := 0) (h := 0) (by decide)) (by decide), ?_⟩
  refine ⟨fun c1 => ?_, fun c1 => ?_⟩
  · skip
    refine ⟨iv_nb (iv_lit (l := 0) (h := 0) (by decide)) (by decide), ?_⟩
    refine ⟨fun c2 => ?_, fun c2 => ?_⟩
    · skip
      exact (iv_emp (iv_ne (l := 1) (h := 0) c2 (iv_lit (l := 0) (h := 0) (by decide)) (iv_lit (l := 0) (h := 0) (by decide)) (by decide)) (by decide)).elim
    · skip
      refine ⟨fun c3 => ?_, fun c3 => ?_⟩
      · skip
        exact (iv_emp (iv_ne (l := 1) (h := 0) c3 (iv_lit (l := 0) (h := 0) (by decide)) (iv_lit (l := 0) (h := 0) (by decide)) (by decide)) (by decide)).elim
      · skip
        exact hpost _ _ _ _ _ (iv_w (iv_lit (l := (-1)) (h := (-1)) (by decide)) (by decide)) (iv_lit (l := 0) (h := 0) (by decide)) k_f_land k_f_huts k_f_singers
  · skip
    refine ⟨fun c4 => ?_, fun c4 => ?_⟩
    · skip
      refine ⟨iv_nb (iv_lit (l := 0) (h := 0) (by decide)) (by decide), ?_⟩
      refine ⟨fun c5 => ?_, fun c5 => ?_⟩
      · skip
        exact (iv_emp (iv_ne (l := 1) (h := 0) c5 (iv_lit (l := 0) (h := 0) (by decide)) (iv_lit (l := 0) (h := 0) (by decide)) (by decide)) (by decide)).elim
      · skip
        refine ⟨fun c6 => ?_, fun c6 => ?_⟩
        · skip
          exact (iv_emp (iv_ne (l := 1) (h := 0) c6 (iv_lit (l := 0) (h := 0) (by decide)) (iv_lit (l := 0) (h := 0) (by decide)) (by decide)) (by decide)).elim
        · skip
          exact hpost _ _ _ _ _ (iv_w (iv_lit (l := (-1)) (h := (-1)) (by decide)) (by decide)) (iv_lit (l := 0) (h := 0) (by decide)) k_f_land k_f_huts k_f_singers
    · skip
      refine ⟨iv_nb (iv_lit (l := 1) (h := 1) (by decide)) (by decide), ?_⟩
      refine ⟨fun c7 => ?_, fun c7 => ?_⟩
      · skip
        refine sp_of (a := 0) (b := 9) k_a_lands (iv_lea (l := 0) (h := 1) (r_nlt c4) (iv_leb (l := 0) (h := 2147483647) (r_nlt c1) (iv_lit (l := 0) (h := 0) (by decide)) (iv_top x1) (by decide)) (iv_sub (l := (-1)) (h := 1) (k_a_many _) (iv_lit (l := 1) (h := 1) (by decide)) (by decide)) (by decide)) (iv_lit (l := 0) (h := 0) (by decide)) (by decide +kernel) (fun r8 hr8 er8 => ?_)
        refine sp_of (a := 0) (b := 6) k_a_lands (iv_lea (l := 0) (h := 1) (r_nlt c4) (iv_leb (l := 0) (h := 2147483647) (r_nlt c1) (iv_lit (l := 0) (h := 0) (by decide)) (iv_top x1) (by decide)) (iv_sub (l := (-1)) (h := 1) (k_a_many _) (iv_lit (l := 1) (h := 1) (by decide)) (by decide)) (by decide)) (iv_lit (l := 1) (h := 1) (by decide)) (by decide +kernel) (fun r9 hr9 er9 => ?_)
        refine ⟨fun c10 => ?_, fun c10 => ?_⟩
        · skip
          refine ⟨fun c11 => ?_, fun c11 => ?_⟩
          · skip
            refine ⟨fun c12 => ?_, fun c12 => ?_⟩
            · skip
              intro w13 ew13
              refine ⟨fun c14 => ?_, fun c14 => ?_, fun c14 => ?_, fun c14 => ?_, fun c14 => ?_, fun c14 => ?_⟩
              · skip
                refine ⟨fun c15 => ?_, fun c15 => ?_⟩
                · skip
                  refine ⟨fun c16 => ?_, fun c16 => ?_⟩
                  · skip
                    exact hpost _ _ _ _ _ (iv_w (iv_lit (l := (-1)) (h := (-1)) (by decide)) (by decide)) (iv_lit (l := 0) (h := 0) (by decide)) (iv_lea (l := 0) (h := 1) (r_nlt c4) (iv_leb (l := 0) (h := 2147483647) (r_nlt c1) (iv_lit (l := 0) (h := 0) (by decide)) (iv_top x1) (by decide)) (iv_sub (l := (-1)) (h := 1) (k_a_many _) (iv_lit (l := 1) (h := 1) (by decide)) (by decide)) (by decide)) hr8 hr9
                  · skip
                    exact (iv_emp (iv_ne (l := 1) (h := 0) c16 (iv_lit (l := 0) (h := 0) (by decide)) (iv_lit (l := 0) (h := 0) (by decide)) (by decide)) (by decide)).elim
                · skip
                  refine ⟨fun c17 => ?_, fun c17 => ?_⟩
                  · skip
                    refine ⟨fun c18 => ?_, fun c18 => ?_⟩
                    · skip
                      exact hpost _ _ _ _ _ (iv_w (iv_lit (l := (-1)) (h := (-1)) (by decide)) (by decide)) (iv_lit (l := 0) (h := 0) (by decide)) (iv_lea (l := 0) (h := 1) (r_nlt c4) (iv_leb (l := 0) (h := 2147483647) (r_nlt c1) (iv_lit (l := 0) (h := 0) (by decide)) (iv_top x1) (by decide)) (iv_sub (l := (-1)) (h := 1) (k_a_many _) (iv_lit (l := 1) (h := 1) (by decide)) (by decide)) (by decide)) hr8 hr9
                    · skip
                      exact (iv_emp (iv_ne (l := 1) (h := 0) c18 (iv_lit (l := 0) (h := 0) (by decide)) (iv_lit (l := 0) (h := 0) (by decide)) (by decide)) (by decide)).elim
                  · skip
                    refine ⟨fun c19 => ?_, fun c19 => ?_⟩
                    · skip
                      exact (iv_emp (iv_eqa (l := 1) (h := 0) c19 (iv_lit (l := 1) (h := 1) (by decide)) (iv_lit (l := 0) (h := 0) (by decide)) (by decide)) (by decide)).elim
                    · skip
                      refine sp_of (a := 0) (b := 511) k_a_lands (iv_lea (l := 0) (h := 1) (r_nlt c4) (iv_leb (l := 0) (h := 2147483647) (r_nlt c1) (iv_lit (l := 0) (h := 0) (by decide)) (iv_top x1) (by decide)) (iv_sub (l := (-1)) (h := 1) (k_a_many _) (iv_lit (l := 1) (h := 1) (by decide)) (by decide)) (by decide)) (iv_lea (l := 0) (h := 6) (r_nlt c17) (iv_leb (l := 0) (h := 59) (r_nlt c15) (iv_lit (l := 0) (h := 0) (by decide)) (iv_lta (l := (-2147483648)) (h := 59) (r_lt c11) (iv_top x2) (iv_lit (l := 60) (h := 60) (by decide)) (by decide)) (by decide)) (iv_lit (l := 6) (h := 6) (by decide)) (by decide)) (by decide +kernel) (fun r20 hr20 er20 => ?_)
                      exact hpost _ _ _ _ _ (iv_w hr20 (by decide)) (iv_lit (l := 0) (h := 0) (by decide)) (iv_lea (l := 0) (h := 1) (r_nlt c4) (iv_leb (l := 0) (h := 2147483647) (r_nlt c1) (iv_lit (l := 0) (h := 0) (by decide)) (iv_top x1) (by decide)) (iv_sub (l := (-1)) (h := 1) (k_a_many _) (iv_lit (l := 1) (h := 1) (by decide)) (by decide)) (by decide)) hr8 hr9
              · skip
                refine ⟨fun c21 => ?_, fun c21 => ?_⟩
                · skip
                  refine ⟨iv_nb (iv_lit (l := 0) (h := 0) (by decide)) (by decide), ?_⟩
                  refine ⟨fun c22 => ?_, fun c22 => ?_⟩
                  · skip
                    exact hpost _ _ _ _ _ (iv_w (iv_lit (l := (-1)) (h := (-1)) (by decide)) (by decide)) (iv_lit (l := 0) (h := 0) (by decide)) (iv_lea (l := 0) (h := 1) (r_nlt c4) (iv_leb (l := 0) (h := 2147483647) (r_nlt c1) (iv_lit (l := 0) (h := 0) (by decide)) (iv_top x1) (by decide)) (iv_sub (l := (-1)) (h := 1) (k_a_many _) (iv_lit (l := 1) (h := 1) (by decide)) (by decide)) (by decide)) hr8 hr9
                  · skip
                    exact (iv_emp (iv_ne (l := 1) (h := 0) c22 (iv_lit (l := 0) (h := 0) (by decide)) (iv_lit (l := 0) (h := 0) (by decide)) (by decide)) (by decide)).elim
                · skip
                  refine ⟨fun c23 => ?_, fun c23 => ?_⟩
                  · skip
                    refine ⟨iv_nb (iv_lit (l := 0) (h := 0) (by decide)) (by decide), ?_⟩
                    refine ⟨fun c24 => ?_, fun c24 => ?_⟩
                    · skip
                      exact hpost _ _ _ _ _ (iv_w (iv_lit (l := (-1)) (h := (-1)) (by decide)) (by decide)) (iv_lit (l := 0) (h := 0) (by decide)) (iv_lea (l := 0) (h := 1) (r_nlt c4) (iv_leb (l := 0) (h := 2147483647) (r_nlt c1) (iv_lit (l := 0) (h := 0) (by decide)) (iv_top x1) (by decide)) (iv_sub (l := (-1)) (h := 1) (k_a_many _) (iv_lit (l := 1) (h := 1) (by decide)) (by decide)) (by decide)) hr8 hr9
                    · skip
                      exact (iv_emp (iv_ne (l := 1) (h := 0) c24 (iv_lit (l := 0) (h := 0) (by decide)) (iv_lit (l := 0) (h := 0) (by decide)) (by decide)) (by decide)).elim
                  · skip
                    refine ⟨iv_nb (iv_lit (l := 1) (h := 1) (by decide)) (by decide), ?_⟩
                    refine ⟨fun c25 => ?_, fun c25 => ?_⟩
                    · skip
                      exact (iv_emp (iv_eqa (l := 1) (h := 0) c25 (iv_lit (l := 1) (h := 1) (by decide)) (iv_lit (l := 0) (h := 0) (by decide)) (by decide)) (by decide)).elim
                    · skip
                      refine sp_of (a := 0) (b := 99) k_a_lands (iv_lea (l := 0) (h := 1) (r_nlt c4) (iv_leb (l := 0) (h := 2147483647) (r_nlt c1) (iv_lit (l := 0) (h := 0) (by decide)) (iv_top x1) (by decide)) (iv_sub (l := (-1)) (h := 1) (k_a_many _) (iv_lit (l := 1) (h := 1) (by decide)) (by decide)) (by decide)) (iv_add (l := 7) (h := 15) (iv_lit (l := 7) (h := 7) (by decide)) (iv_lea (l := 0) (h := 8) (r_nlt c23) (iv_leb (l := 0) (h := 2147483647) (r_nlt c21) (iv_lit (l := 0) (h := 0) (by decide)) (iv_top w13) (by decide)) (iv_sub (l := (-1)) (h := 8) hr8 (iv_lit (l := 1) (h := 1) (by decide)) (by decide)) (by decide)) (by decide)) (by decide +kernel) (fun r26 hr26 er26 => ?_)
                      exact hpost _ _ _ _ _ (iv_w hr26 (by decide)) (iv_lit (l := 0) (h := 0) (by decide)) (iv_lea (l := 0) (h := 1) (r_nlt c4) (iv_leb (l := 0) (h := 2147483647) (r_nlt c1) (iv_lit (l := 0) (h := 0) (by decide)) (iv_top x1) (by decide)) (iv_sub (l := (-1)) (h := 1) (k_a_many _) (iv_lit (l := 1) (h := 1) (by decide)) (by decide)) (by decide)) hr8 hr9
              · skip
                refine ⟨fun c27 => ?_, fun c27 => ?_⟩
                · skip
                  refine ⟨iv_nb (iv_lit (l := 0) (h := 0) (by decide)) (by decide), ?_⟩
                  refine ⟨fun c28 => ?_, fun c28 => ?_⟩
                  · skip
                    exact hpost _ _ _ _ _ (iv_w (iv_lit (l := (-1)) (h := (-1)) (by decide)) (by decide)) (iv_lit (l := 0) (h := 0) (by decide)) (iv_lea (l := 0) (h := 1) (r_nlt c4) (iv_leb (l := 0) (h := 2147483647) (r_nlt c1) (iv_lit (l := 0) (h := 0) (by decide)) (iv_top x1) (by decide)) (iv_sub (l := (-1)) (h := 1) (k_a_many _) (iv_lit (l := 1) (h := 1) (by decide)) (by decide)) (by decide)) hr8 hr9
                  · skip
                    exact (iv_emp (iv_ne (l := 1) (h := 0) c28 (iv_lit (l := 0) (h := 0) (by decide)) (iv_lit (l := 0) (h := 0) (by decide)) (by decide)) (by decide)).elim
                · skip
                  refine ⟨fun c29 => ?_, fun c29 => ?_⟩
                  · skip
                    refine ⟨iv_nb (iv_lit (l := 0) (h := 0) (by decide)) (by decide), ?_⟩
                    refine ⟨fun c30 => ?_, fun c30 => ?_⟩
                    · skip
                      exact hpost _ _ _ _ _ (iv_w (iv_lit (l := (-1)) (h := (-1)) (by decide)) (by decide)) (iv_lit (l := 0) (h := 0) (by decide)) (iv_lea (l := 0) (h := 1) (r_nlt c4) (iv_leb (l := 0) (h := 2147483647) (r_nlt c1) (iv_lit (l := 0) (h := 0) (by decide)) (iv_top x1) (by decide)) (iv_sub (l := (-1)) (h := 1) (k_a_many _) (iv_lit (l := 1) (h := 1) (by decide)) (by decide)) (by decide)) hr8 hr9
                    · skip
                      exact (iv_emp (iv_ne (l := 1) (h := 0) c30 (iv_lit (l := 0) (h := 0) (by decide)) (iv_lit (l := 0) (h := 0) (by decide)) (by decide)) (by decide)).elim
                  · skip
                    refine ⟨iv_nb (iv_lit (l := 1) (h := 1) (by decide)) (by decide), ?_⟩
                    refine ⟨fun c31 => ?_, fun c31 => ?_⟩
                    · skip
                      exact (iv_emp (iv_eqa (l := 1) (h := 0) c31 (iv_lit (l := 1) (h := 1) (by decide)) (iv_lit (l := 0) (h := 0) (by decide)) (by decide)) (by decide)).elim
                    · skip
                      refine sp_of (a := 0) (b := 9) k_a_lands (iv_lea (l := 0) (h := 1) (r_nlt c4) (iv_leb (l := 0) (h := 2147483647) (r_nlt c1) (iv_lit (l := 0) (h := 0) (by decide)) (iv_top x1) (by decide)) (iv_sub (l := (-1)) (h := 1) (k_a_many _) (iv_lit (l := 1) (h := 1) (by decide)) (by decide)) (by decide)) (iv_add (l := 16) (h := 24) (iv_lit (l := 16) (h := 16) (by decide)) (iv_lea (l := 0) (h := 8) (r_nlt c29) (iv_leb (l := 0) (h := 2147483647) (r_nlt c27) (iv_lit (l := 0) (h := 0) (by decide)) (iv_top w13) (by decide)) (iv_sub (l := (-1)) (h := 8) hr8 (iv_lit (l := 1) (h := 1) (by decide)) (by decide)) (by decide)) (by decide)) (by decide +kernel) (fun r32 hr32 er32 => ?_)
                      exact hpost _ _ _ _ _ (iv_w hr32 (by decide)) (iv_lit (l := 0) (h := 0) (by decide)) (iv_lea (l := 0) (h := 1) (r_nlt c4) (iv_leb (l := 0) (h := 2147483647) (r_nlt c1) (iv_lit (l := 0) (h := 0) (by decide)) (iv_top x1) (by decide)) (iv_sub (l := (-1)) (h := 1) (k_a_many _) (iv_lit (l := 1) (h := 1) (by decide)) (by decide)) (by decide)) hr8 hr9
              · skip
                refine ⟨fun c33 => ?_, fun c33 => ?_⟩
                · skip
                  refine ⟨iv_nb (iv_lit (l := 0) (h := 0) (by decide)) (by decide), ?_⟩
                  refine ⟨fun c34 => ?_, fun c34 => ?_⟩
                  · skip
                    exact hpost _ _ _ _ _ (iv_w (iv_lit (l := (-1)) (h := (-1)) (by decide)) (by decide)) (iv_lit (l := 0) (h := 0) (by decide)) (iv_lea (l := 0) (h := 1) (r_nlt c4) (iv_leb (l := 0) (h := 2147483647) (r_nlt c1) (iv_lit (l := 0) (h := 0) (by decide)) (iv_top x1) (by decide)) (iv_sub (l := (-1)) (h := 1) (k_a_many _) (iv_lit (l := 1) (h := 1) (by decide)) (by decide)) (by decide)) hr8 hr9
                  · skip
                    exact (iv_emp (iv_ne (l := 1) (h := 0) c34 (iv_lit (l := 0) (h := 0) (by decide)) (iv_lit (l := 0) (h := 0) (by decide)) (by decide)) (by decide)).elim
                · skip
                  refine ⟨fun c35 => ?_, fun c35 => ?_⟩
                  · skip
                    refine ⟨iv_nb (iv_lit (l := 0) (h := 0) (by decide)) (by decide), ?_⟩
                    refine ⟨fun c36 => ?_, fun c36 => ?_⟩
                    · skip
                      exact hpost _ _ _ _ _ (iv_w (iv_lit (l := (-1)) (h := (-1)) (by decide)) (by decide)) (iv_lit (l := 0) (h := 0) (by decide)) (iv_lea (l := 0) (h := 1) (r_nlt c4) (iv_leb (l := 0) (h := 2147483647) (r_nlt c1) (iv_lit (l := 0) (h := 0) (by decide)) (iv_top x1) (by decide)) (iv_sub (l := (-1)) (h := 1) (k_a_many _) (iv_lit (l := 1) (h := 1) (by decide)) (by decide)) (by decide)) hr8 hr9
                    · skip
                      exact (iv_emp (iv_ne (l := 1) (h := 0) c36 (iv_lit (l := 0) (h := 0) (by decide)) (iv_lit (l := 0) (h := 0) (by decide)) (by decide)) (by decide)).elim
                  · skip
                    refine ⟨iv_nb (iv_lit (l := 1) (h := 1) (by decide)) (by decide), ?_⟩
                    refine ⟨fun c37 => ?_, fun c37 => ?_⟩
                    · skip
                      exact (iv_emp (iv_eqa (l := 1) (h := 0) c37 (iv_lit (l := 1) (h := 1) (by decide)) (iv_lit (l := 0) (h := 0) (by decide)) (by decide)) (by decide)).elim
                    · skip
                      refine sp_of (a := 0) (b := 8) k_a_lands (iv_lea (l := 0) (h := 1) (r_nlt c4) (iv_leb (l := 0) (h := 2147483647) (r_nlt c1) (iv_lit (l := 0) (h := 0) (by decide)) (iv_top x1) (by decide)) (iv_sub (l := (-1)) (h := 1) (k_a_many _) (iv_lit (l := 1) (h := 1) (by decide)) (by decide)) (by decide)) (iv_add (l := 25) (h := 30) (iv_lit (l := 25) (h := 25) (by decide)) (iv_lea (l := 0) (h := 5) (r_nlt c35) (iv_leb (l := 0) (h := 2147483647) (r_nlt c33) (iv_lit (l := 0) (h := 0) (by decide)) (iv_top w13) (by decide)) (iv_sub (l := (-1)) (h := 5) hr9 (iv_lit (l := 1) (h := 1) (by decide)) (by decide)) (by decide)) (by decide)) (by decide +kernel) (fun r38 hr38 er38 => ?_)
                      exact hpost _ _ _ _ _ (iv_w hr38 (by decide)) (iv_lit (l := 0) (h := 0) (by decide)) (iv_lea (l := 0) (h := 1) (r_nlt c4) (iv_leb (l := 0) (h := 2147483647) (r_nlt c1) (iv_lit (l := 0) (h := 0) (by decide)) (iv_top x1) (by decide)) (iv_sub (l := (-1)) (h := 1) (k_a_many _) (iv_lit (l := 1) (h := 1) (by decide)) (by decide)) (by decide)) hr8 hr9
              · skip
                refine ⟨fun c39 => ?_, fun c39 => ?_⟩
                · skip
                  refine ⟨iv_nb (iv_lit (l := 0) (h := 0) (by decide)) (by decide), ?_⟩
                  refine ⟨fun c40 => ?_, fun c40 => ?_⟩
                  · skip
                    exact hpost _ _ _ _ _ (iv_w (iv_lit (l := (-1)) (h := (-1)) (by decide)) (by decide)) (iv_lit (l := 0) (h := 0) (by decide)) (iv_lea (l := 0) (h := 1) (r_nlt c4) (iv_leb (l := 0) (h := 2147483647) (r_nlt c1) (iv_lit (l := 0) (h := 0) (by decide)) (iv_top x1) (by decide)) (iv_sub (l := (-1)) (h := 1) (k_a_many _) (iv_lit (l := 1) (h := 1) (by decide)) (by decide)) (by decide)) hr8 hr9
                  · skip
                    exact (iv_emp (iv_ne (l := 1) (h := 0) c40 (iv_lit (l := 0) (h := 0) (by decide)) (iv_lit (l := 0) (h := 0) (by decide)) (by decide)) (by decide)).elim
                · skip
                  refine ⟨fun c41 => ?_, fun c41 => ?_⟩
                  · skip
                    refine ⟨iv_nb (iv_lit (l := 0) (h := 0) (by decide)) (by decide), ?_⟩
                    refine ⟨fun c42 => ?_, fun c42 => ?_⟩
                    · skip
                      exact hpost _ _ _ _ _ (iv_w (iv_lit (l := (-1)) (h := (-1)) (by decide)) (by decide)) (iv_lit (l := 0) (h := 0) (by decide)) (iv_lea (l := 0) (h := 1) (r_nlt c4) (iv_leb (l := 0) (h := 2147483647) (r_nlt c1) (iv_lit (l := 0) (h := 0) (by decide)) (iv_top x1) (by decide)) (iv_sub (l := (-1)) (h := 1) (k_a_many _) (iv_lit (l := 1) (h := 1) (by decide)) (by decide)) (by decide)) hr8 hr9
                    · skip
                      exact (iv_emp (iv_ne (l := 1) (h := 0) c42 (iv_lit (l := 0) (h := 0) (by decide)) (iv_lit (l := 0) (h := 0) (by decide)) (by decide)) (by decide)).elim
                  · skip
                    refine ⟨iv_nb (iv_lit (l := 1) (h := 1) (by decide)) (by decide), ?_⟩
                    refine ⟨fun c43 => ?_, fun c43 => ?_⟩
                    · skip
                      exact (iv_emp (iv_eqa (l := 1) (h := 0) c43 (iv_lit (l := 1) (h := 1) (by decide)) (iv_lit (l := 0) (h := 0) (by decide)) (by decide)) (by decide)).elim
                    · skip
                      refine sp_of (a := 0) (b := 9) k_a_lands (iv_lea (l := 0) (h := 1) (r_nlt c4) (iv_leb (l := 0) (h := 2147483647) (r_nlt c1) (iv_lit (l := 0) (h := 0) (by decide)) (iv_top x1) (by decide)) (iv_sub (l := (-1)) (h := 1) (k_a_many _) (iv_lit (l := 1) (h := 1) (by decide)) (by decide)) (by decide)) (iv_add (l := 31) (h := 36) (iv_lit (l := 31) (h := 31) (by decide)) (iv_lea (l := 0) (h := 5) (r_nlt c41) (iv_leb (l := 0) (h := 2147483647) (r_nlt c39) (iv_lit (l := 0) (h := 0) (by decide)) (iv_top w13) (by decide)) (iv_sub (l := (-1)) (h := 5) hr9 (iv_lit (l := 1) (h := 1) (by decide)) (by decide)) (by decide)) (by decide)) (by decide +kernel) (fun r44 hr44 er44 => ?_)
                      exact hpost _ _ _ _ _ (iv_w hr44 (by decide)) (iv_lit (l := 0) (h := 0) (by decide)) (iv_lea (l := 0) (h := 1) (r_nlt c4) (iv_leb (l := 0) (h := 2147483647) (r_nlt c1) (iv_lit (l := 0) (h := 0) (by decide)) (iv_top x1) (by decide)) (iv_sub (l := (-1)) (h := 1) (k_a_many _) (iv_lit (l := 1) (h := 1) (by decide)) (by decide)) (by decide)) hr8 hr9
              · skip
                refine ⟨fun c45 => ?_, fun c45 => ?_⟩
                · skip
                  refine ⟨iv_nb (iv_lit (l := 0) (h := 0) (by decide)) (by decide), ?_⟩
                  refine ⟨fun c46 => ?_, fun c46 => ?_⟩
                  · skip
                    exact hpost _ _ _ _ _ (iv_w (iv_lit (l := (-1)) (h := (-1)) (by decide)) (by decide)) (iv_lit (l := 0) (h := 0) (by decide)) (iv_lea (l := 0) (h := 1) (r_nlt c4) (iv_leb (l := 0) (h := 2147483647) (r_nlt c1) (iv_lit (l := 0) (h := 0) (by decide)) (iv_top x1) (by decide)) (iv_sub (l := (-1)) (h := 1) (k_a_many _) (iv_lit (l := 1) (h := 1) (by decide)) (by decide)) (by decide)) hr8 hr9
                  · skip
                    exact (iv_emp (iv_ne (l := 1) (h := 0) c46 (iv_lit (l := 0) (h := 0) (by decide)) (iv_lit (l := 0) (h := 0) (by decide)) (by decide)) (by decide)).elim
                · skip
                  refine ⟨fun c47 => ?_, fun c47 => ?_⟩
                  · skip
                    refine ⟨iv_nb (iv_lit (l := 0) (h := 0) (by decide)) (by decide), ?_⟩
                    refine ⟨fun c48 => ?_, fun c48 => ?_⟩
                    · skip
                      exact hpost _ _ _ _ _ (iv_w (iv_lit (l := (-1)) (h := (-1)) (by decide)) (by decide)) (iv_lit (l := 0) (h := 0) (by decide)) (iv_lea (l := 0) (h := 1) (r_nlt c4) (iv_leb (l := 0) (h := 2147483647) (r_nlt c1) (iv_lit (l := 0) (h := 0) (by decide)) (iv_top x1) (by decide)) (iv_sub (l := (-1)) (h := 1) (k_a_many _) (iv_lit (l := 1) (h := 1) (by decide)) (by decide)) (by decide)) hr8 hr9
                    · skip
                      exact (iv_emp (iv_ne (l := 1) (h := 0) c48 (iv_lit (l := 0) (h := 0) (by decide)) (iv_lit (l := 0) (h := 0) (by decide)) (by decide)) (by decide)).elim
                  · skip
                    refine ⟨iv_nb (iv_lit (l := 1) (h := 1) (by decide)) (by decide), ?_⟩
                    refine ⟨fun c49 => ?_, fun c49 => ?_⟩
                    · skip
                      exact (iv_emp (iv_eqa (l := 1) (h := 0) c49 (iv_lit (l := 1) (h := 1) (by decide)) (iv_lit (l := 0) (h := 0) (by decide)) (by decide)) (by decide)).elim
                    · skip
                      refine sp_of (a := 0) (b := 31) k_a_lands (iv_lea (l := 0) (h := 1) (r_nlt c4) (iv_leb (l := 0) (h := 2147483647) (r_nlt c1) (iv_lit (l := 0) (h := 0) (by decide)) (iv_top x1) (by decide)) (iv_sub (l := (-1)) (h := 1) (k_a_many _) (iv_lit (l := 1) (h := 1) (by decide)) (by decide)) (by decide)) (iv_add (l := 37) (h := 42) (iv_lit (l := 37) (h := 37) (by decide)) (iv_lea (l := 0) (h := 5) (r_nlt c47) (iv_leb (l := 0) (h := 2147483647) (r_nlt c45) (iv_lit (l := 0) (h := 0) (by decide)) (iv_top w13) (by decide)) (iv_sub (l := (-1)) (h := 5) hr9 (iv_lit (l := 1) (h := 1) (by decide)) (by decide)) (by decide)) (by decide)) (by decide +kernel) (fun r50 hr50 er50 => ?_)
                      exact hpost _ _ _ _ _ (iv_w hr50 (by decide)) (iv_lit (l := 0) (h := 0) (by decide)) (iv_lea (l := 0) (h := 1) (r_nlt c4) (iv_leb (l := 0) (h := 2147483647) (r_nlt c1) (iv_lit (l := 0) (h := 0) (by decide)) (iv_top x1) (by decide)) (iv_sub (l := (-1)) (h := 1) (k_a_many _) (iv_lit (l := 1) (h := 1) (by decide)) (by decide)) (by decide)) hr8 hr9
            · skip
              exact (iv_emp (iv_ne (l := 1) (h := 0) c12 (iv_lit (l := 0) (h := 0) (by decide)) (iv_lit (l := 0) (h := 0) (by decide)) (by decide)) (by decide)).elim
          · skip
            refine ⟨fun c51 => ?_, fun c51 => ?_⟩
            · skip
              refine ⟨fun c52 => ?_, fun c52 => ?_⟩
              · skip
                intro w53 ew53
                have hw53 := iv_eq ew53 (iv_rem (l := 0) (h := 9) (iv_ltb (l := 141) (h := 2147483647) (r_lt c51) (iv_lit (l := 140) (h := 140) (by decide)) (iv_leb (l := 60) (h := 2147483647) (r_nlt c11) (iv_lit (l := 60) (h := 60) (by decide)) (iv_top x2) (by decide)) (by decide)) (iv_lit (l := 10) (h := 10) (by decide)) (by decide))
                refine ⟨fun c54 => ?_, fun c54 => ?_, fun c54 => ?_, fun c54 => ?_, fun c54 => ?_, fun c54 => ?_⟩
                · skip
                  refine ⟨fun c55 => ?_, fun c55 => ?_⟩
                  · skip
                    exact (iv_emp (iv_lta (l := 141) (h := (-1)) (r_lt c55) (iv_ltb (l := 141) (h := 2147483647) (r_lt c51) (iv_lit (l := 140) (h := 140) (by decide)) (iv_leb (l := 60) (h := 2147483647) (r_nlt c11) (iv_lit (l := 60) (h := 60) (by decide)) (iv_top x2) (by decide)) (by decide)) (iv_lit (l := 0) (h := 0) (by decide)) (by decide)) (by decide)).elim
                  · skip
                    refine ⟨fun c56 => ?_, fun c56 => ?_⟩
                    · skip
                      refine ⟨fun c57 => ?_, fun c57 => ?_⟩
                      · skip
                        exact hpost _ _ _ _ _ (iv_w (iv_lit (l := (-1)) (h := (-1)) (by decide)) (by decide)) (iv_lit (l := 0) (h := 0) (by decide)) (iv_lea (l := 0) (h := 1) (r_nlt c4) (iv_leb (l := 0) (h := 2147483647) (r_nlt c1) (iv_lit (l := 0) (h := 0) (by decide)) (iv_top x1) (by decide)) (iv_sub (l := (-1)) (h := 1) (k_a_many _) (iv_lit (l := 1) (h := 1) (by decide)) (by decide)) (by decide)) hr8 hr9
                      · skip
                        exact (iv_emp (iv_ne (l := 1) (h := 0) c57 (iv_lit (l := 0) (h := 0) (by decide)) (iv_lit (l := 0) (h := 0) (by decide)) (by decide)) (by decide)).elim
                    · skip
                      exact (iv_emp (iv_lea (l := 141) (h := 6) (r_nlt c56) (iv_ltb (l := 141) (h := 2147483647) (r_lt c51) (iv_lit (l := 140) (h := 140) (by decide)) (iv_leb (l := 60) (h := 2147483647) (r_nlt c11) (iv_lit (l := 60) (h := 60) (by decide)) (iv_top x2) (by decide)) (by decide)) (iv_lit (l := 6) (h := 6) (by decide)) (by decide)) (by decide)).elim
                · skip
                  refine ⟨fun c58 => ?_, fun c58 => ?_⟩
                  · skip
                    exact (iv_emp (iv_lta (l := 0) (h := (-1)) (r_lt c58) hw53 (iv_lit (l := 0) (h := 0) (by decide)) (by decide)) (by decide)).elim
                  · skip
                    refine ⟨fun c59 => ?_, fun c59 => ?_⟩
                    · skip
                      refine ⟨iv_nb (iv_lit (l := 0) (h := 0) (by decide)) (by decide), ?_⟩
                      refine ⟨fun c60 => ?_, fun c60 => ?_⟩
                      · skip
                        exact hpost _ _ _ _ _ (iv_w (iv_lit (l := (-1)) (h := (-1)) (by decide)) (by decide)) (iv_lit (l := 0) (h := 0) (by decide)) (iv_lea (l := 0) (h := 1) (r_nlt c4) (iv_leb (l := 0) (h := 2147483647) (r_nlt c1) (iv_lit (l := 0) (h := 0) (by decide)) (iv_top x1) (by decide)) (iv_sub (l := (-1)) (h := 1) (k_a_many _) (iv_lit (l := 1) (h := 1) (by decide)) (by decide)) (by decide)) hr8 hr9
                      · skip
                        exact (iv_emp (iv_ne (l := 1) (h := 0) c60 (iv_lit (l := 0) (h := 0) (by decide)) (iv_lit (l := 0) (h := 0) (by decide)) (by decide)) (by decide)).elim
                    · skip
                      refine ⟨iv_nb (iv_lit (l := 1) (h := 1) (by decide)) (by decide), ?_⟩
                      refine ⟨fun c61 => ?_, fun c61 => ?_⟩
                      · skip
                        exact (iv_emp (iv_eqa (l := 1) (h := 0) c61 (iv_lit (l := 1) (h := 1) (by decide)) (iv_lit (l := 0) (h := 0) (by decide)) (by decide)) (by decide)).elim
                      · skip
                        refine sp_of (a := 0) (b := 99) k_a_lands (iv_lea (l := 0) (h := 1) (r_nlt c4) (iv_leb (l := 0) (h := 2147483647) (r_nlt c1) (iv_lit (l := 0) (h := 0) (by decide)) (iv_top x1) (by decide)) (iv_sub (l := (-1)) (h := 1) (k_a_many _) (iv_lit (l := 1) (h := 1) (by decide)) (by decide)) (by decide)) (iv_add (l := 7) (h := 15) (iv_lit (l := 7) (h := 7) (by decide)) (iv_lea (l := 0) (h := 8) (r_nlt c59) hw53 (iv_sub (l := (-1)) (h := 8) hr8 (iv_lit (l := 1) (h := 1) (by decide)) (by decide)) (by decide)) (by decide)) (by decide +kernel) (fun r62 hr62 er62 => ?_)
                        exact hpost _ _ _ _ _ (iv_w hr62 (by decide)) (iv_lit (l := 0) (h := 0) (by decide)) (iv_lea (l := 0) (h := 1) (r_nlt c4) (iv_leb (l := 0) (h := 2147483647) (r_nlt c1) (iv_lit (l := 0) (h := 0) (by decide)) (iv_top x1) (by decide)) (iv_sub (l := (-1)) (h := 1) (k_a_many _) (iv_lit (l := 1) (h := 1) (by decide)) (by decide)) (by decide)) hr8 hr9
                · skip
                  refine ⟨fun c63 => ?_, fun c63 => ?_⟩
                  · skip
                    exact (iv_emp (iv_lta (l := 0) (h := (-1)) (r_lt c63) hw53 (iv_lit (l := 0) (h := 0) (by decide)) (by decide)) (by decide)).elim
                  · skip
                    refine ⟨fun c64 => ?_, fun c64 => ?_⟩
                    · skip
                      refine ⟨iv_nb (iv_lit (l := 0) (h := 0) (by decide)) (by decide), ?_⟩
                      refine ⟨fun c65 => ?_, fun c65 => ?_⟩
                      · skip
                        exact hpost _ _ _ _ _ (iv_w (iv_lit (l := (-1)) (h := (-1)) (by decide)) (by decide)) (iv_lit (l := 0) (h := 0) (by decide)) (iv_lea (l := 0) (h := 1) (r_nlt c4) (iv_leb (l := 0) (h := 2147483647) (r_nlt c1) (iv_lit (l := 0) (h := 0) (by decide)) (iv_top x1) (by decide)) (iv_sub (l := (-1)) (h := 1) (k_a_many _) (iv_lit (l := 1) (h := 1) (by decide)) (by decide)) (by decide)) hr8 hr9
                      · skip
                        exact (iv_emp (iv_ne (l := 1) (h := 0) c65 (iv_lit (l := 0) (h := 0) (by decide)) (iv_lit (l := 0) (h := 0) (by decide)) (by decide)) (by decide)).elim
                    · skip
                      refine ⟨iv_nb (iv_lit (l := 1) (h := 1) (by decide)) (by decide), ?_⟩
                      refine ⟨fun c66 => ?_, fun c66 => ?_⟩
                      · skip
                        exact (iv_emp (iv_eqa (l := 1) (h := 0) c66 (iv_lit (l := 1) (h := 1) (by decide)) (iv_lit (l := 0) (h := 0) (by decide)) (by decide)) (by decide)).elim
                      · skip
                        refine sp_of (a := 0) (b := 9) k_a_lands (iv_lea (l := 0) (h := 1) (r_nlt c4) (iv_leb (l := 0) (h := 2147483647) (r_nlt c1) (iv_lit (l := 0) (h := 0) (by decide)) (iv_top x1) (by decide)) (iv_sub (l := (-1)) (h := 1) (k_a_many _) (iv_lit (l := 1) (h := 1) (by decide)) (by decide)) (by decide)) (iv_add (l := 16) (h := 24) (iv_lit (l := 16) (h := 16) (by decide)) (iv_lea (l := 0) (h := 8) (r_nlt c64) hw53 (iv_sub (l := (-1)) (h := 8) hr8 (iv_lit (l := 1) (h := 1) (by decide)) (by decide)) (by decide)) (by decide)) (by decide +kernel) (fun r67 hr67 er67 => ?_)
                        exact hpost _ _ _ _ _ (iv_w hr67 (by decide)) (iv_lit (l := 0) (h := 0) (by decide)) (iv_lea (l := 0) (h := 1) (r_nlt c4) (iv_leb (l := 0) (h := 2147483647) (r_nlt c1) (iv_lit (l := 0) (h := 0) (by decide)) (iv_top x1) (by decide)) (iv_sub (l := (-1)) (h := 1) (k_a_many _) (iv_lit (l := 1) (h := 1) (by decide)) (by decide)) (by decide)) hr8 hr9
                · skip
                  refine ⟨fun c68 => ?_, fun c68 => ?_⟩
                  · skip
                    exact (iv_emp (iv_lta (l := 0) (h := (-1)) (r_lt c68) hw53 (iv_lit (l := 0) (h := 0) (by decide)) (by decide)) (by decide)).elim
                  · skip
                    refine ⟨fun c69 => ?_, fun c69 => ?_⟩
                    · skip
                      refine ⟨iv_nb (iv_lit (l := 0) (h := 0) (by decide)) (by decide), ?_⟩
                      refine ⟨fun c70 => ?_, fun c70 => ?_⟩
                      · skip
                        exact hpost _ _ _ _ _ (iv_w (iv_lit (l := (-1)) (h := (-1)) (by decide)) (by decide)) (iv_lit (l := 0) (h := 0) (by decide)) (iv_lea (l := 0) (h := 1) (r_nlt c4) (iv_leb (l := 0) (h := 2147483647) (r_nlt c1) (iv_lit (l := 0) (h := 0) (by decide)) (iv_top x1) (by decide)) (iv_sub (l := (-1)) (h := 1) (k_a_many _) (iv_lit (l := 1) (h := 1) (by decide)) (by decide)) (by decide)) hr8 hr9
                      · skip
                        exact (iv_emp (iv_ne (l := 1) (h := 0) c70 (iv_lit (l := 0) (h := 0) (by decide)) (iv_lit (l := 0) (h := 0) (by decide)) (by decide)) (by decide)).elim
                    · skip
                      refine ⟨iv_nb (iv_lit (l := 1) (h := 1) (by decide)) (by decide), ?_⟩
                      refine ⟨fun c71 => ?_, fun c71 => ?_⟩
                      · skip
                        exact (iv_emp (iv_eqa (l := 1) (h := 0) c71 (iv_lit (l := 1) (h := 1) (by decide)) (iv_lit (l := 0) (h := 0) (by decide)) (by decide)) (by decide)).elim
                      · skip
                        refine sp_of (a := 0) (b := 8) k_a_lands (iv_lea (l := 0) (h := 1) (r_nlt c4) (iv_leb (l := 0) (h := 2147483647) (r_nlt c1) (iv_lit (l := 0) (h := 0) (by decide)) (iv_top x1) (by decide)) (iv_sub (l := (-1)) (h := 1) (k_a_many _) (iv_lit (l := 1) (h := 1) (by decide)) (by decide)) (by decide)) (iv_add (l := 25) (h := 30) (iv_lit (l := 25) (h := 25) (by decide)) (iv_lea (l := 0) (h := 5) (r_nlt c69) hw53 (iv_sub (l := (-1)) (h := 5) hr9 (iv_lit (l := 1) (h := 1) (by decide)) (by decide)) (by decide)) (by decide)) (by decide +kernel) (fun r72 hr72 er72 => ?_)
                        exact hpost _ _ _ _ _ (iv_w hr72 (by decide)) (iv_lit (l := 0) (h := 0) (by decide)) (iv_lea (l := 0) (h := 1) (r_nlt c4) (iv_leb (l := 0) (h := 2147483647) (r_nlt c1) (iv_lit (l := 0) (h := 0) (by decide)) (iv_top x1) (by decide)) (iv_sub (l := (-1)) (h := 1) (k_a_many _) (iv_lit (l := 1) (h := 1) (by decide)) (by decide)) (by decide)) hr8 hr9
                · skip
                  refine ⟨fun c73 => ?_, fun c73 => ?_⟩
                  · skip
                    exact (iv_emp (iv_lta (l := 0) (h := (-1)) (r_lt c73) hw53 (iv_lit (l := 0) (h := 0) (by decide)) (by decide)) (by decide)).elim
                  · skip
                    refine ⟨fun c74 => ?_, fun c74 => ?_⟩
                    · skip
                      refine ⟨iv_nb (iv_lit (l := 0) (h := 0) (by decide)) (by decide), ?_⟩
                      refine ⟨fun c75 => ?_, fun c75 => ?_⟩
                      · skip
                        exact hpost _ _ _ _ _ (iv_w (iv_lit (l := (-1)) (h := (-1)) (by decide)) (by decide)) (iv_lit (l := 0) (h := 0) (by decide)) (iv_lea (l := 0) (h := 1) (r_nlt c4) (iv_leb (l := 0) (h := 2147483647) (r_nlt c1) (iv_lit (l := 0) (h := 0) (by decide)) (iv_top x1) (by decide)) (iv_sub (l := (-1)) (h := 1) (k_a_many _) (iv_lit (l := 1) (h := 1) (by decide)) (by decide)) (by decide)) hr8 hr9
                      · skip
                        exact (iv_emp (iv_ne (l := 1) (h := 0) c75 (iv_lit (l := 0) (h := 0) (by decide)) (iv_lit (l := 0) (h := 0) (by decide)) (by decide)) (by decide)).elim
                    · skip
                      refine ⟨iv_nb (iv_lit (l := 1) (h := 1) (by decide)) (by decide), ?_⟩
                      refine ⟨fun c76 => ?_, fun c76 => ?_⟩
                      · skip
                        exact (iv_emp (iv_eqa (l := 1) (h := 0) c76 (iv_lit (l := 1) (h := 1) (by decide)) (iv_lit (l := 0) (h := 0) (by decide)) (by decide)) (by decide)).elim
                      · skip
                        refine sp_of (a := 0) (b := 9) k_a_lands (iv_lea (l := 0) (h := 1) (r_nlt c4) (iv_leb (l := 0) (h := 2147483647) (r_nlt c1) (iv_lit (l := 0) (h := 0) (by decide)) (iv_top x1) (by decide)) (iv_sub (l := (-1)) (h := 1) (k_a_many _) (iv_lit (l := 1) (h := 1) (by decide)) (by decide)) (by decide)) (iv_add (l := 31) (h := 36) (iv_lit (l := 31) (h := 31) (by decide)) (iv_lea (l := 0) (h := 5) (r_nlt c74) hw53 (iv_sub (l := (-1)) (h := 5) hr9 (iv_lit (l := 1) (h := 1) (by decide)) (by decide)) (by decide)) (by decide)) (by decide +kernel) (fun r77 hr77 er77 => ?_)
                        exact hpost _ _ _ _ _ (iv_w hr77 (by decide)) (iv_lit (l := 0) (h := 0) (by decide)) (iv_lea (l := 0) (h := 1) (r_nlt c4) (iv_leb (l := 0) (h := 2147483647) (r_nlt c1) (iv_lit (l := 0) (h := 0) (by decide)) (iv_top x1) (by decide)) (iv_sub (l := (-1)) (h := 1) (k_a_many _) (iv_lit (l := 1) (h := 1) (by decide)) (by decide)) (by decide)) hr8 hr9
                · skip
                  refine ⟨fun c78 => ?_, fun c78 => ?_⟩
                  · skip
                    exact (iv_emp (iv_lta (l := 0) (h := (-1)) (r_lt c78) hw53 (iv_lit (l := 0) (h := 0) (by decide)) (by decide)) (by decide)).elim
                  · skip
                    refine ⟨fun c79 => ?_, fun c79 => ?_⟩
                    · skip
                      refine ⟨iv_nb (iv_lit (l := 0) (h := 0) (by decide)) (by decide), ?_⟩
                      refine ⟨fun c80 => ?_, fun c80 => ?_⟩
                      · skip
                        exact hpost _ _ _ _ _ (iv_w (iv_lit (l := (-1)) (h := (-1)) (by decide)) (by decide)) (iv_lit (l := 0) (h := 0) (by decide)) (iv_lea (l := 0) (h := 1) (r_nlt c4) (iv_leb (l := 0) (h := 2147483647) (r_nlt c1) (iv_lit (l := 0) (h := 0) (by decide)) (iv_top x1) (by decide)) (iv_sub (l := (-1)) (h := 1) (k_a_many _) (iv_lit (l := 1) (h := 1) (by decide)) (by decide)) (by decide)) hr8 hr9
                      · skip
                        exact (iv_emp (iv_ne (l := 1) (h := 0) c80 (iv_lit (l := 0) (h := 0) (by decide)) (iv_lit (l := 0) (h := 0) (by decide)) (by decide)) (by decide)).elim
                    · skip
                      refine ⟨iv_nb (iv_lit (l := 1) (h := 1) (by decide)) (by decide), ?_⟩
                      refine ⟨fun c81 => ?_, fun c81 => ?_⟩
                      · skip
                        exact (iv_emp (iv_eqa (l := 1) (h := 0) c81 (iv_lit (l := 1) (h := 1) (by decide)) (iv_lit (l := 0) (h := 0) (by decide)) (by decide)) (by decide)).elim
                      · skip
                        refine sp_of (a := 0) (b := 31) k_a_lands (iv_lea (l := 0) (h := 1) (r_nlt c4) (iv_leb (l := 0) (h := 2147483647) (r_nlt c1) (iv_lit (l := 0) (h := 0) (by decide)) (iv_top x1) (by decide)) (iv_sub (l := (-1)) (h := 1) (k_a_many _) (iv_lit (l := 1) (h := 1) (by decide)) (by decide)) (by decide)) (iv_add (l := 37) (h := 42) (iv_lit (l := 37) (h := 37) (by decide)) (iv_lea (l := 0) (h := 5) (r_nlt c79) hw53 (iv_sub (l := (-1)) (h := 5) hr9 (iv_lit (l := 1) (h := 1) (by decide)) (by decide)) (by decide)) (by decide)) (by decide +kernel) (fun r82 hr82 er82 => ?_)
                        exact hpost _ _ _ _ _ (iv_w hr82 (by decide)) (iv_lit (l := 0) (h := 0) (by decide)) (iv_lea (l := 0) (h := 1) (r_nlt c4) (iv_leb (l := 0) (h := 2147483647) (r_nlt c1) (iv_lit (l := 0) (h := 0) (by decide)) (iv_top x1) (by decide)) (iv_sub (l := (-1)) (h := 1) (k_a_many _) (iv_lit (l := 1) (h := 1) (by decide)) (by decide)) (by decide)) hr8 hr9
              · skip
                exact (iv_emp (iv_ne (l := 1) (h := 0) c52 (iv_lit (l := 0) (h := 0) (by decide)) (iv_lit (l := 0) (h := 0) (by decide)) (by decide)) (by decide)).elim
            · skip
              refine ⟨fun c83 => ?_, fun c83 => ?_⟩
              · skip
                exact (iv_emp (iv_eqa (l := 1) (h := 0) c83 (iv_lit (l := 1) (h := 1) (by decide)) (iv_lit (l := 0) (h := 0) (by decide)) (by decide)) (by decide)).elim
              · skip
                intro w84 ew84
                have hw84 := iv_eq ew84 (iv_div (l := 0) (h := 8) (iv_sub (l := 0) (h := 80) (iv_lea (l := 60) (h := 140) (r_nlt c51) (iv_leb (l := 60) (h := 2147483647) (r_nlt c11) (iv_lit (l := 60) (h := 60) (by decide)) (iv_top x2) (by decide)) (iv_lit (l := 140) (h := 140) (by decide)) (by decide)) (iv_lit (l := 60) (h := 60) (by decide)) (by decide)) (iv_lit (l := 9) (h := 9) (by decide)) (by decide))
                intro w85 ew85
                have hw85 := iv_eq ew85 (iv_rem (l := 0) (h := 8) (iv_sub (l := 0) (h := 80) (iv_lea (l := 60) (h := 140) (r_nlt c51) (iv_leb (l := 60) (h := 2147483647) (r_nlt c11) (iv_lit (l := 60) (h := 60) (by decide)) (iv_top x2) (by decide)) (iv_lit (l := 140) (h := 140) (by decide)) (by decide)) (iv_lit (l := 60) (h := 60) (by decide)) (by decide)) (iv_lit (l := 9) (h := 9) (by decide)) (by decide))
                refine ⟨fun c86 => ?_, fun c86 => ?_⟩
                · skip
                  exact (iv_emp (iv_lta (l := 0) (h := (-1)) (r_lt c86) hw84 (iv_lit (l := 0) (h := 0) (by decide)) (by decide)) (by decide)).elim
                · skip
                  refine ⟨fun c87 => ?_, fun c87 => ?_⟩
                  · skip
                    refine ⟨iv_nb (iv_lit (l := 0) (h := 0) (by decide)) (by decide), ?_⟩
                    refine ⟨fun c88 => ?_, fun c88 => ?_⟩
                    · skip
                      exact hpost _ _ _ _ _ (iv_w (iv_lit (l := (-1)) (h := (-1)) (by decide)) (by decide)) (iv_lit (l := 0) (h := 0) (by decide)) (iv_lea (l := 0) (h := 1) (r_nlt c4) (iv_leb (l := 0) (h := 2147483647) (r_nlt c1) (iv_lit (l := 0) (h := 0) (by decide)) (iv_top x1) (by decide)) (iv_sub (l := (-1)) (h := 1) (k_a_many _) (iv_lit (l := 1) (h := 1) (by decide)) (by decide)) (by decide)) hr8 hr9
                    · skip
                      exact (iv_emp (iv_ne (l := 1) (h := 0) c88 (iv_lit (l := 0) (h := 0) (by decide)) (iv_lit (l := 0) (h := 0) (by decide)) (by decide)) (by decide)).elim
                  · skip
                    refine ⟨iv_nb (iv_lit (l := 1) (h := 1) (by decide)) (by decide), ?_⟩
                    refine ⟨fun c89 => ?_, fun c89 => ?_⟩
                    · skip
                      exact (iv_emp (iv_eqa (l := 1) (h := 0) c89 (iv_lit (l := 1) (h := 1) (by decide)) (iv_lit (l := 0) (h := 0) (by decide)) (by decide)) (by decide)).elim
                    · skip
                      refine ⟨fun c90 => ?_, fun c90 => ?_⟩
                      · skip
                        exact (iv_emp (iv_lta (l := 0) (h := (-1)) (r_lt c90) hw85 (iv_lit (l := 0) (h := 0) (by decide)) (by decide)) (by decide)).elim
                      · skip
                        refine ⟨fun c91 => ?_, fun c91 => ?_⟩
                        · skip
                          refine ⟨iv_nb (iv_lit (l := 0) (h := 0) (by decide)) (by decide), ?_⟩
                          refine ⟨fun c92 => ?_, fun c92 => ?_⟩
                          · skip
                            exact hpost _ _ _ _ _ (iv_w (iv_lit (l := (-1)) (h := (-1)) (by decide)) (by decide)) (iv_lit (l := 0) (h := 0) (by decide)) (iv_lea (l := 0) (h := 1) (r_nlt c4) (iv_leb (l := 0) (h := 2147483647) (r_nlt c1) (iv_lit (l := 0) (h := 0) (by decide)) (iv_top x1) (by decide)) (iv_sub (l := (-1)) (h := 1) (k_a_many _) (iv_lit (l := 1) (h := 1) (by decide)) (by decide)) (by decide)) hr8 hr9
                          · skip
                            exact (iv_emp (iv_ne (l := 1) (h := 0) c92 (iv_lit (l := 0) (h := 0) (by decide)) (iv_lit (l := 0) (h := 0) (by decide)) (by decide)) (by decide)).elim
                        · skip
                          refine ⟨iv_nb (iv_lit (l := 1) (h := 1) (by decide)) (by decide), ?_⟩
                          refine ⟨fun c93 => ?_, fun c93 => ?_⟩
                          · skip
                            exact (iv_emp (iv_eqa (l := 1) (h := 0) c93 (iv_lit (l := 1) (h := 1) (by decide)) (iv_lit (l := 0) (h := 0) (by decide)) (by decide)) (by decide)).elim
                          · skip
                            refine sp_of (a := 0) (b := 9) k_a_lands (iv_lea (l := 0) (h := 1) (r_nlt c4) (iv_leb (l := 0) (h := 2147483647) (r_nlt c1) (iv_lit (l := 0) (h := 0) (by decide)) (iv_top x1) (by decide)) (iv_sub (l := (-1)) (h := 1) (k_a_many _) (iv_lit (l := 1) (h := 1) (by decide)) (by decide)) (by decide)) (iv_add (l := 51) (h := 131) (iv_add (l := 51) (h := 123) (iv_lit (l := 51) (h := 51) (by decide)) (iv_mul (l := 0) (h := 72) (iv_lit (l := 9) (h := 9) (by decide)) hw84 (by decide)) (by decide)) hw85 (by decide)) (by decide +kernel) (fun r94 hr94 er94 => ?_)
                            exact hpost _ _ _ _ _ (iv_w hr94 (by decide)) (iv_lit (l := 0) (h := 0) (by decide)) (iv_lea (l := 0) (h := 1) (r_nlt c4) (iv_leb (l := 0) (h := 2147483647) (r_nlt c1) (iv_lit (l := 0) (h := 0) (by decide)) (iv_top x1) (by decide)) (iv_sub (l := (-1)) (h := 1) (k_a_many _) (iv_lit (l := 1) (h := 1) (by decide)) (by decide)) (by decide)) hr8 hr9
        · skip
          exact (iv_emp (iv_eqa (l := 1) (h := 0) c10 (iv_lit (l := 1) (h := 1) (by decide)) (iv_lit (l := 0) (h := 0) (by decide)) (by decide)) (by decide)).elim
      · skip
        exact (iv_emp (iv_eqa (l := 1) (h := 0) c7 (iv_lit (l := 1) (h := 1) (by decide)) (iv_lit (l := 0) (h := 0) (by decide)) (by decide)) (by decide)).elim
-- m_echo
set_option maxRecDepth 20000 in
theorem s_m_echo_0 {f_code : Int32} {a_many : Nat → Int32} {a_lands : Nat → Int32} {f_land : Int32} {f_huts : Int32} {f_singers : Int32} {x1 : Int32} {x2 : Int32} {x3 : Int32} {post : Int32 → (Int32) → (Int32) → (Int32) → (Int32) → Prop} (k_f_code : iv 0 0 f_code) (k_a_many : ∀ j, iv 0 2 (a_many j)) (k_a_lands : mLand a_lands) (k_f_land : iv 0 1 f_land) (k_f_huts : iv 0 9 f_huts) (k_f_singers : iv 0 6 f_singers) (hpost : ∀ (r : Int32) (f_code : Int32) (f_land : Int32) (f_huts : Int32) (f_singers : Int32), iv (-1) 8 r → (iv 0 0 f_code) → (iv 0 1 f_land) → (iv 0 9 f_huts) → (iv 0 6 f_singers) → post r f_code f_land f_huts f_singers) : q_m_echo_0 f_code a_many a_lands f_land f_huts f_singers x1 x2 x3 post := by
  refine ⟨iv_in (iv_lit (l := 0) (h := 0) (by decide)) (by decide), ?_⟩
  refine ⟨fun c1 => ?_, fun c1 => ?_⟩
  · skip
    refine ⟨iv_nb (iv_lit (l := 0) (h := 0) (by decide)) (by decide), ?_⟩
    refine ⟨fun c2 => ?_, fun c2 => ?_⟩
    · skip
      exact (iv_emp (iv_ne (l := 1) (h := 0) c2 (iv_lit (l := 0) (h := 0) (by decide)) (iv_lit (l := 0) (h := 0) (by decide)) (by decide)) (by decide)).elim
    · skip
      refine ⟨fun c3 => ?_, fun c3 => ?_⟩
      · skip
        exact hpost _ _ _ _ _ (iv_w (iv_lit (l := (-1)) (h := (-1)) (by decide)) (by decide)) (iv_lit (l := 0) (h := 0) (by decide)) k_f_land k_f_huts k_f_singers
      · skip
        exact (iv_emp (iv_ne (l := 1) (h := 0) c3 (iv_lit (l := 0) (h := 0) (by decide)) (iv_lit (l := 0) (h := 0) (by decide)) (by decide)) (by decide)).elim
  · skip
    refine ⟨fun c4 => ?_, fun c4 => ?_⟩
    · skip
      refine ⟨iv_nb (iv_lit (l := 0) (h := 0) (by decide)) (by decide), ?_⟩
      refine ⟨fun c5 => ?_, fun c5 => ?_⟩
      · skip
        exact (iv_emp (iv_ne (l := 1) (h := 0) c5 (iv_lit (l := 0) (h := 0) (by decide)) (iv_lit (l := 0) (h := 0) (by decide)) (by decide)) (by decide)).elim
      · skip
        refine ⟨fun c6 => ?_, fun c6 => ?_⟩
        · skip
          exact hpost _ _ _ _ _ (iv_w (iv_lit (l := (-1)) (h := (-1)) (by decide)) (by decide)) (iv_lit (l := 0) (h := 0) (by decide)) k_f_land k_f_huts k_f_singers
        · skip
          exact (iv_emp (iv_ne (l := 1) (h := 0) c6 (iv_lit (l := 0) (h := 0) (by decide)) (iv_lit (l := 0) (h := 0) (by decide)) (by decide)) (by decide)).elim
    · skip
      refine ⟨iv_nb (iv_lit (l := 1) (h := 1) (by decide)) (by decide), ?_⟩
      refine ⟨fun c7 => ?_, fun c7 => ?_⟩
      · skip
        refine sp_of (a := 0) (b := 9) k_a_lands (iv_lea (l := 0) (h := 1) (r_nlt c4) (iv_leb (l := 0) (h := 2147483647) (r_nlt c1) (iv_lit (l := 0) (h := 0) (by decide)) (iv_top x1) (by decide)) (iv_sub (l := (-1)) (h := 1) (k_a_many _) (iv_lit (l := 1) (h := 1) (by decide)) (by decide)) (by decide)) (iv_lit (l := 0) (h := 0) (by decide)) (by decide +kernel) (fun r8 hr8 er8 => ?_)
        refine sp_of (a := 0) (b := 6) k_a_lands (iv_lea (l := 0) (h := 1) (r_nlt c4) (iv_leb (l := 0) (h := 2147483647) (r_nlt c1) (iv_lit (l := 0) (h := 0) (by decide)) (iv_top x1) (by decide)) (iv_sub (l := (-1)) (h := 1) (k_a_many _) (iv_lit (l := 1) (h := 1) (by decide)) (by decide)) (by decide)) (iv_lit (l := 1) (h := 1) (by decide)) (by decide +kernel) (fun r9 hr9 er9 => ?_)
        refine ⟨fun c10 => ?_, fun c10 => ?_⟩
        · skip
          exact (iv_emp (iv_eqa (l := 1) (h := 0) c10 (iv_lit (l := 1) (h := 1) (by decide)) (iv_lit (l := 0) (h := 0) (by decide)) (by decide)) (by decide)).elim
        · skip
          refine sp_of (a := 0) (b := 4) k_a_lands (iv_lea (l := 0) (h := 1) (r_nlt c4) (iv_leb (l := 0) (h := 2147483647) (r_nlt c1) (iv_lit (l := 0) (h := 0) (by decide)) (iv_top x1) (by decide)) (iv_sub (l := (-1)) (h := 1) (k_a_many _) (iv_lit (l := 1) (h := 1) (by decide)) (by decide)) (by decide)) (iv_lit (l := 4) (h := 4) (by decide)) (by decide +kernel) (fun r11 hr11 er11 => ?_)
          refine ⟨fun c12 => ?_, fun c12 => ?_⟩
          · skip
            refine ⟨fun c13 => ?_, fun c13 => ?_⟩
            · skip
              exact hpost _ _ _ _ _ (iv_w (iv_lit (l := (-1)) (h := (-1)) (by decide)) (by decide)) (iv_lit (l := 0) (h := 0) (by decide)) (iv_lea (l := 0) (h := 1) (r_nlt c4) (iv_leb (l := 0) (h := 2147483647) (r_nlt c1) (iv_lit (l := 0) (h := 0) (by decide)) (iv_top x1) (by decide)) (iv_sub (l := (-1)) (h := 1) (k_a_many _) (iv_lit (l := 1) (h := 1) (by decide)) (by decide)) (by decide)) hr8 hr9
            · skip
              exact (iv_emp (iv_ne (l := 1) (h := 0) c13 (iv_lit (l := 0) (h := 0) (by decide)) (iv_lit (l := 0) (h := 0) (by decide)) (by decide)) (by decide)).elim
          · skip
            refine ⟨fun c14 => ?_, fun c14 => ?_⟩
            · skip
              refine ⟨fun c15 => ?_, fun c15 => ?_⟩
              · skip
                exact hpost _ _ _ _ _ (iv_w (iv_lit (l := (-1)) (h := (-1)) (by decide)) (by decide)) (iv_lit (l := 0) (h := 0) (by decide)) (iv_lea (l := 0) (h := 1) (r_nlt c4) (iv_leb (l := 0) (h := 2147483647) (r_nlt c1) (iv_lit (l := 0) (h := 0) (by decide)) (iv_top x1) (by decide)) (iv_sub (l := (-1)) (h := 1) (k_a_many _) (iv_lit (l := 1) (h := 1) (by decide)) (by decide)) (by decide)) hr8 hr9
              · skip
                exact (iv_emp (iv_ne (l := 1) (h := 0) c15 (iv_lit (l := 0) (h := 0) (by decide)) (iv_lit (l := 0) (h := 0) (by decide)) (by decide)) (by decide)).elim
            · skip
              refine ⟨fun c16 => ?_, fun c16 => ?_⟩
              · skip
                exact (iv_emp (iv_eqa (l := 1) (h := 0) c16 (iv_lit (l := 1) (h := 1) (by decide)) (iv_lit (l := 0) (h := 0) (by decide)) (by decide)) (by decide)).elim
              · skip
                refine ⟨fun c17 => ?_, fun c17 => ?_⟩
                · skip
                  refine ⟨fun c18 => ?_, fun c18 => ?_⟩
                  · skip
                    exact hpost _ _ _ _ _ (iv_w (iv_lit (l := (-1)) (h := (-1)) (by decide)) (by decide)) (iv_lit (l := 0) (h := 0) (by decide)) (iv_lea (l := 0) (h := 1) (r_nlt c4) (iv_leb (l := 0) (h := 2147483647) (r_nlt c1) (iv_lit (l := 0) (h := 0) (by decide)) (iv_top x1) (by decide)) (iv_sub (l := (-1)) (h := 1) (k_a_many _) (iv_lit (l := 1) (h := 1) (by decide)) (by decide)) (by decide)) hr8 hr9
                  · skip
                    exact (iv_emp (iv_ne (l := 1) (h := 0) c18 (iv_lit (l := 0) (h := 0) (by decide)) (iv_lit (l := 0) (h := 0) (by decide)) (by decide)) (by decide)).elim
                · skip
                  refine ⟨fun c19 => ?_, fun c19 => ?_⟩
                  · skip
                    refine ⟨fun c20 => ?_, fun c20 => ?_⟩
                    · skip
                      exact hpost _ _ _ _ _ (iv_w (iv_lit (l := (-1)) (h := (-1)) (by decide)) (by decide)) (iv_lit (l := 0) (h := 0) (by decide)) (iv_lea (l := 0) (h := 1) (r_nlt c4) (iv_leb (l := 0) (h := 2147483647) (r_nlt c1) (iv_lit (l := 0) (h := 0) (by decide)) (iv_top x1) (by decide)) (iv_sub (l := (-1)) (h := 1) (k_a_many _) (iv_lit (l := 1) (h := 1) (by decide)) (by decide)) (by decide)) hr8 hr9
                    · skip
                      exact (iv_emp (iv_ne (l := 1) (h := 0) c20 (iv_lit (l := 0) (h := 0) (by decide)) (iv_lit (l := 0) (h := 0) (by decide)) (by decide)) (by decide)).elim
                  · skip
                    refine ⟨fun c21 => ?_, fun c21 => ?_⟩
                    · skip
                      exact (iv_emp (iv_eqa (l := 1) (h := 0) c21 (iv_lit (l := 1) (h := 1) (by decide)) (iv_lit (l := 0) (h := 0) (by decide)) (by decide)) (by decide)).elim
                    · skip
                      refine sp_of (a := 0) (b := 8) k_a_lands (iv_lea (l := 0) (h := 1) (r_nlt c4) (iv_leb (l := 0) (h := 2147483647) (r_nlt c1) (iv_lit (l := 0) (h := 0) (by decide)) (iv_top x1) (by decide)) (iv_sub (l := (-1)) (h := 1) (k_a_many _) (iv_lit (l := 1) (h := 1) (by decide)) (by decide)) (by decide)) (iv_add (l := 43) (h := 50) (iv_add (l := 43) (h := 49) (iv_lit (l := 43) (h := 43) (by decide)) (iv_mul (l := 0) (h := 6) (iv_lit (l := 2) (h := 2) (by decide)) (iv_lea (l := 0) (h := 3) (r_nlt c14) (iv_leb (l := 0) (h := 2147483647) (r_nlt c12) (iv_lit (l := 0) (h := 0) (by decide)) (iv_top x2) (by decide)) (iv_sub (l := (-1)) (h := 3) hr11 (iv_lit (l := 1) (h := 1) (by decide)) (by decide)) (by decide)) (by decide)) (by decide)) (iv_lea (l := 0) (h := 1) (r_nlt c19) (iv_leb (l := 0) (h := 2147483647) (r_nlt c17) (iv_lit (l := 0) (h := 0) (by decide)) (iv_top x3) (by decide)) (iv_lit (l := 1) (h := 1) (by decide)) (by decide)) (by decide)) (by decide +kernel) (fun r22 hr22 er22 => ?_)
                      exact hpost _ _ _ _ _ (iv_w hr22 (by decide)) (iv_lit (l := 0) (h := 0) (by decide)) (iv_lea (l := 0) (h := 1) (r_nlt c4) (iv_leb (l := 0) (h := 2147483647) (r_nlt c1) (iv_lit (l := 0) (h := 0) (by decide)) (iv_top x1) (by decide)) (iv_sub (l := (-1)) (h := 1) (k_a_many _) (iv_lit (l := 1) (h := 1) (by decide)) (by decide)) (by decide)) hr8 hr9
      · skip
        exact (iv_emp (iv_eqa (l := 1) (h := 0) c7 (iv_lit (l := 1) (h := 1) (by decide)) (iv_lit (l := 0) (h := 0) (by decide)) (by decide)) (by decide)).elim
-- m_deed
set_option maxRecDepth 20000 in
theorem s_m_deed_0 {f_code : Int32} {a_many : Nat → Int32} {a_evenings : Nat → Int32} {f_evening : Int32} {x1 : Int32} {x2 : Int32} {x3 : Int32} {post : Int32 → (Int32) → (Int32) → Prop} (k_f_code : iv 0 0 f_code) (k_a_many : ∀ j, iv 0 2 (a_many j)) (k_a_evenings : mEve a_evenings) (hpost : ∀ (r : Int32) (f_code : Int32) (f_evening : Int32), iv (-2) 40 r → (iv 0 0 f_code) → post r f_code f_evening) : q_m_deed_0 f_code a_many a_evenings f_evening x1 x2 x3 post := by
  refine ⟨iv_in (iv_lit (l := 1) (h := 1) (by decide)) (by decide), ?_⟩
  refine ⟨fun c1 => ?_, fun c1 => ?_⟩
  · skip
    refine ⟨iv_nb (iv_lit (l := 0) (h := 0) (by decide)) (by decide), ?_⟩
    refine ⟨iv_nb (iv_lit (l := 0) (h := 0) (by decide)) (by decide), ?_⟩
    refine ⟨fun c2 => ?_, fun c2 => ?_⟩
    · skip
      exact (iv_emp (iv_ne (l := 1) (h := 0) c2 (iv_lit (l := 0) (h := 0) (by decide)) (iv_lit (l := 0) (h := 0) (by decide)) (by decide)) (by decide)).elim
    · skip
      exact hpost _ _ _ (iv_w (iv_lit (l := (-2)) (h := (-2)) (by decide)) (by decide)) (iv_lit (l := 0) (h := 0) (by decide))
  · skip
    refine ⟨fun c3 => ?_, fun c3 => ?_⟩
    · skip
      refine ⟨iv_nb (iv_lit (l := 0) (h := 0) (by decide)) (by decide), ?_⟩
      refine ⟨iv_nb (iv_lit (l := 0) (h := 0) (by decide)) (by decide), ?_⟩
      refine ⟨fun c4 => ?_, fun c4 => ?_⟩
      · skip
        exact (iv_emp (iv_ne (l := 1) (h := 0) c4 (iv_lit (l := 0) (h := 0) (by decide)) (iv_lit (l := 0) (h := 0) (by decide)) (by decide)) (by decide)).elim
      · skip
        exact hpost _ _ _ (iv_w (iv_lit (l := (-2)) (h := (-2)) (by decide)) (by decide)) (iv_lit (l := 0) (h := 0) (by decide))
    · skip
      refine ⟨iv_nb (iv_lit (l := 1) (h := 1) (by decide)) (by decide), ?_⟩
      refine ⟨iv_nb (iv_lit (l := 1) (h := 1) (by decide)) (by decide), ?_⟩
      refine ⟨fun c5 => ?_, fun c5 => ?_⟩
      · skip
        refine ⟨fun c6 => ?_, fun c6 => ?_⟩
        · skip
          refine sp_deeds k_a_evenings (iv_lea (l := 0) (h := 1) (r_nlt c3) (iv_leb (l := 0) (h := 2147483647) (r_nlt c1) (iv_lit (l := 0) (h := 0) (by decide)) (iv_top x1) (by decide)) (iv_sub (l := (-1)) (h := 1) (k_a_many _) (iv_lit (l := 1) (h := 1) (by decide)) (by decide)) (by decide)) (fun r7 hr7 => ?_)
          refine ⟨fun c8 => ?_, fun c8 => ?_⟩
          · skip
            refine ⟨fun c9 => ?_, fun c9 => ?_⟩
            · skip
              exact hpost _ _ _ (iv_w (iv_lit (l := (-2)) (h := (-2)) (by decide)) (by decide)) (iv_lit (l := 0) (h := 0) (by decide))
            · skip
              exact (iv_emp (iv_ne (l := 1) (h := 0) c9 (iv_lit (l := 0) (h := 0) (by decide)) (iv_lit (l := 0) (h := 0) (by decide)) (by decide)) (by decide)).elim
          · skip
            refine ⟨fun c10 => ?_, fun c10 => ?_⟩
            · skip
              refine ⟨fun c11 => ?_, fun c11 => ?_⟩
              · skip
                exact hpost _ _ _ (iv_w (iv_lit (l := (-2)) (h := (-2)) (by decide)) (by decide)) (iv_lit (l := 0) (h := 0) (by decide))
              · skip
                exact (iv_emp (iv_ne (l := 1) (h := 0) c11 (iv_lit (l := 0) (h := 0) (by decide)) (iv_lit (l := 0) (h := 0) (by decide)) (by decide)) (by decide)).elim
            · skip
              refine ⟨fun c12 => ?_, fun c12 => ?_⟩
              · skip
                exact (iv_emp (iv_eqa (l := 1) (h := 0) c12 (iv_lit (l := 1) (h := 1) (by decide)) (iv_lit (l := 0) (h := 0) (by decide)) (by decide)) (by decide)).elim
              · skip
                refine ⟨fun c13 => ?_, fun c13 => ?_⟩
                · skip
                  refine ⟨fun c14 => ?_, fun c14 => ?_⟩
                  · skip
                    exact hpost _ _ _ (iv_w (iv_lit (l := (-2)) (h := (-2)) (by decide)) (by decide)) (iv_lit (l := 0) (h := 0) (by decide))
                  · skip
                    exact (iv_emp (iv_ne (l := 1) (h := 0) c14 (iv_lit (l := 0) (h := 0) (by decide)) (iv_lit (l := 0) (h := 0) (by decide)) (by decide)) (by decide)).elim
                · skip
                  refine ⟨fun c15 => ?_, fun c15 => ?_⟩
                  · skip
                    refine ⟨fun c16 => ?_, fun c16 => ?_⟩
                    · skip
                      exact hpost _ _ _ (iv_w (iv_lit (l := (-2)) (h := (-2)) (by decide)) (by decide)) (iv_lit (l := 0) (h := 0) (by decide))
                    · skip
                      exact (iv_emp (iv_ne (l := 1) (h := 0) c16 (iv_lit (l := 0) (h := 0) (by decide)) (iv_lit (l := 0) (h := 0) (by decide)) (by decide)) (by decide)).elim
                  · skip
                    refine ⟨fun c17 => ?_, fun c17 => ?_⟩
                    · skip
                      exact (iv_emp (iv_eqa (l := 1) (h := 0) c17 (iv_lit (l := 1) (h := 1) (by decide)) (iv_lit (l := 0) (h := 0) (by decide)) (by decide)) (by decide)).elim
                    · skip
                      refine sp_deedOf_w k_a_evenings (iv_lea (l := 0) (h := 1) (r_nlt c3) (iv_leb (l := 0) (h := 2147483647) (r_nlt c1) (iv_lit (l := 0) (h := 0) (by decide)) (iv_top x1) (by decide)) (iv_sub (l := (-1)) (h := 1) (k_a_many _) (iv_lit (l := 1) (h := 1) (by decide)) (by decide)) (by decide)) (iv_lea (l := 0) (h := 39) (r_nlt c10) (iv_leb (l := 0) (h := 2147483647) (r_nlt c8) (iv_lit (l := 0) (h := 0) (by decide)) (iv_top x2) (by decide)) (iv_sub (l := (-1)) (h := 39) hr7 (iv_lit (l := 1) (h := 1) (by decide)) (by decide)) (by decide)) (iv_lea (l := 0) (h := 2) (r_nlt c15) (iv_leb (l := 0) (h := 2147483647) (r_nlt c13) (iv_lit (l := 0) (h := 0) (by decide)) (iv_top x3) (by decide)) (iv_lit (l := 2) (h := 2) (by decide)) (by decide)) (fun r18 hr18 => ?_)
                      exact hpost _ _ _ (iv_w hr18 (by decide)) (iv_lit (l := 0) (h := 0) (by decide))
        · skip
          refine ⟨fun c19 => ?_, fun c19 => ?_⟩
          · skip
            exact hpost _ _ _ (iv_w (iv_lit (l := (-2)) (h := (-2)) (by decide)) (by decide)) (iv_lit (l := 0) (h := 0) (by decide))
          · skip
            refine sp_deeds k_a_evenings (iv_lea (l := 0) (h := 1) (r_nlt c3) (iv_leb (l := 0) (h := 2147483647) (r_nlt c1) (iv_lit (l := 0) (h := 0) (by decide)) (iv_top x1) (by decide)) (iv_sub (l := (-1)) (h := 1) (k_a_many _) (iv_lit (l := 1) (h := 1) (by decide)) (by decide)) (by decide)) (fun r20 hr20 => ?_)
            exact hpost _ _ _ (iv_w hr20 (by decide)) (iv_lit (l := 0) (h := 0) (by decide))
      · skip
        exact (iv_emp (iv_eqa (l := 1) (h := 0) c5 (iv_lit (l := 1) (h := 1) (by decide)) (iv_lit (l := 0) (h := 0) (by decide)) (by decide)) (by decide)).elim
-- m_begin
set_option maxRecDepth 20000 in
theorem s_m_begin_51 {a_lands : Nat → Int32} {f_land : Int32} {a_at : Nat → Int32} {a_knows : Nat → Int32} {a_climbed : Nat → Int32} {a_snow : Nat → Int32} {f_begun : Int32} {f_minute : Int32} {f_avalanches : Int32} {x1 : Int32} {post : (Nat → Int32) → (Nat → Int32) → (Nat → Int32) → (Nat → Int32) → (Int32) → (Int32) → (Int32) → Prop} (k_a_lands : mLand a_lands) (k_f_land : iv 0 1 f_land) (k_a_at : ∀ j, iv 0 8 (a_at j)) (k_a_knows : ∀ j, iv 0 31 (a_knows j)) (k_a_climbed : ∀ j, iv 0 1 (a_climbed j)) (k_f_begun : iv 0 31 f_begun) (hx1 : iv 0 9 x1) (hpost : ∀ (a_at : Nat → Int32) (a_knows : Nat → Int32) (a_climbed : Nat → Int32) (a_snow : Nat → Int32) (f_begun : Int32) (f_minute : Int32) (f_avalanches : Int32), (∀ j, iv 0 8 (a_at j)) → (∀ j, iv 0 31 (a_knows j)) → (∀ j, iv 0 1 (a_climbed j)) → (iv 0 0 f_begun) → (iv 0 0 f_minute) → (iv 0 0 f_avalanches) → post a_at a_knows a_climbed a_snow f_begun f_minute f_avalanches) : q_m_begin_51 a_lands f_land a_at a_knows a_climbed a_snow f_begun f_minute f_avalanches x1 post := by
  intro P hP
  have loop : ∀ (n : Nat) (x1 : Int32) (a_snow : Nat → Int32), (9 - x1.toInt < (n : Int)) → (iv 0 9 x1) → P x1 a_snow := by
    intro n
    induction n with
    | zero => intro x1 a_snow hm hx1; exact (ms0_up hm hx1).elim
    | succ n ih =>
      intro x1 a_snow hm hx1
      apply hP
      refine ⟨fun c1 => ?_, fun c1 => ?_⟩
      · skip
        exact hpost _ _ _ _ _ _ _ k_a_at k_a_knows k_a_climbed (iv_lit (l := 0) (h := 0) (by decide)) (iv_lit (l := 0) (h := 0) (by decide)) (iv_lit (l := 0) (h := 0) (by decide))
      · skip
        refine ⟨iv_in (iv_lta (l := 0) (h := 8) (r_nle c1) hx1 (iv_lit (l := 9) (h := 9) (by decide)) (by decide)) (by decide), ?_⟩
        intro a2 ea2
        intro w3 ew3
        have hw3 := iv_eq ew3 (iv_add (l := 1) (h := 9) (iv_lta (l := 0) (h := 8) (r_nle c1) hx1 (iv_lit (l := 9) (h := 9) (by decide)) (by decide)) (iv_lit (l := 1) (h := 1) (by decide)) (by decide))
        exact ih _ _ (ms_up hm (inc_lt ew3 (iv_lta (l := 0) (h := 8) (r_nle c1) hx1 (iv_lit (l := 9) (h := 9) (by decide)) (by decide)) (by decide))) (iv_w hw3 (by decide))
  exact loop _ _ _ (ms_init_up _ _) hx1
set_option maxRecDepth 20000 in
theorem s_m_begin_2 {a_lands : Nat → Int32} {f_land : Int32} {a_at : Nat → Int32} {a_knows : Nat → Int32} {a_climbed : Nat → Int32} {a_snow : Nat → Int32} {f_begun : Int32} {f_minute : Int32} {f_avalanches : Int32} {x1 : Int32} {post : (Nat → Int32) → (Nat → Int32) → (Nat → Int32) → (Nat → Int32) → (Int32) → (Int32) → (Int32) → Prop} (k_a_lands : mLand a_lands) (k_f_land : iv 0 1 f_land) (k_a_at : ∀ j, iv 0 8 (a_at j)) (k_a_knows : ∀ j, iv 0 31 (a_knows j)) (k_a_climbed : ∀ j, iv 0 1 (a_climbed j)) (k_f_begun : iv 0 31 f_begun) (hx1 : iv 0 6 x1) (hpost : ∀ (a_at : Nat → Int32) (a_knows : Nat → Int32) (a_climbed : Nat → Int32) (a_snow : Nat → Int32) (f_begun : Int32) (f_minute : Int32) (f_avalanches : Int32), (∀ j, iv 0 8 (a_at j)) → (∀ j, iv 0 31 (a_knows j)) → (∀ j, iv 0 1 (a_climbed j)) → (iv 0 0 f_begun) → (iv 0 0 f_minute) → (iv 0 0 f_avalanches) → post a_at a_knows a_climbed a_snow f_begun f_minute f_avalanches) : q_m_begin_2 a_lands f_land a_at a_knows a_climbed a_snow f_begun f_minute f_avalanches x1 post := by
  intro P hP
  have loop : ∀ (n : Nat) (x1 : Int32) (a_at : Nat → Int32) (a_knows : Nat → Int32) (a_climbed : Nat → Int32), (6 - x1.toInt < (n : Int)) → (iv 0 6 x1) → (∀ j, iv 0 8 (a_at j)) → (∀ j, iv 0 31 (a_knows j)) → (∀ j, iv 0 1 (a_climbed j)) → P x1 a_at a_knows a_climbed := by
    intro n
    induction n with
    | zero => intro x1 a_at a_knows a_climbed hm hx1 k_a_at k_a_knows k_a_climbed; exact (ms0_up hm hx1).elim
    | succ n ih =>
      intro x1 a_at a_knows a_climbed hm hx1 k_a_at k_a_knows k_a_climbed
      apply hP
      refine ⟨fun c1 => ?_, fun c1 => ?_⟩
      · skip
        exact s_m_begin_51 k_a_lands k_f_land k_a_at k_a_knows k_a_climbed k_f_begun (iv_w (iv_lit (l := 0) (h := 0) (by decide)) (by decide)) hpost
      · skip
        refine sp_of (a := 0) (b := 8) k_a_lands k_f_land (iv_add (l := 25) (h := 30) (iv_lit (l := 25) (h := 25) (by decide)) (iv_lta (l := 0) (h := 5) (r_nle c1) hx1 (iv_lit (l := 6) (h := 6) (by decide)) (by decide)) (by decide)) (by decide +kernel) (fun r2 hr2 er2 => ?_)
        refine ⟨iv_in (iv_lta (l := 0) (h := 5) (r_nle c1) hx1 (iv_lit (l := 6) (h := 6) (by decide)) (by decide)) (by decide), ?_⟩
        intro a3 ea3
        have k_a3 := iv_upd ea3 k_a_at hr2
        refine sp_of (a := 0) (b := 31) k_a_lands k_f_land (iv_add (l := 37) (h := 42) (iv_lit (l := 37) (h := 37) (by decide)) (iv_lta (l := 0) (h := 5) (r_nle c1) hx1 (iv_lit (l := 6) (h := 6) (by decide)) (by decide)) (by decide)) (by decide +kernel) (fun r4 hr4 er4 => ?_)
        refine ⟨iv_in (iv_lta (l := 0) (h := 5) (r_nle c1) hx1 (iv_lit (l := 6) (h := 6) (by decide)) (by decide)) (by decide), ?_⟩
        intro a5 ea5
        have k_a5 := iv_upd ea5 k_a_knows hr4
        refine ⟨iv_in (iv_lta (l := 0) (h := 5) (r_nle c1) hx1 (iv_lit (l := 6) (h := 6) (by decide)) (by decide)) (by decide), ?_⟩
        intro a6 ea6
        have k_a6 := iv_upd ea6 k_a_climbed (iv_w (iv_lit (l := 0) (h := 0) (by decide)) (by decide))
        intro w7 ew7
        have hw7 := iv_eq ew7 (iv_add (l := 1) (h := 6) (iv_lta (l := 0) (h := 5) (r_nle c1) hx1 (iv_lit (l := 6) (h := 6) (by decide)) (by decide)) (iv_lit (l := 1) (h := 1) (by decide)) (by decide))
        exact ih _ _ _ _ (ms_up hm (inc_lt ew7 (iv_lta (l := 0) (h := 5) (r_nle c1) hx1 (iv_lit (l := 6) (h := 6) (by decide)) (by decide)) (by decide))) (iv_w hw7 (by decide)) k_a3 k_a5 k_a6
  exact loop _ _ _ _ _ (ms_init_up _ _) hx1 k_a_at k_a_knows k_a_climbed
set_option maxRecDepth 20000 in
theorem s_m_begin_0 {a_lands : Nat → Int32} {f_land : Int32} {a_at : Nat → Int32} {a_knows : Nat → Int32} {a_climbed : Nat → Int32} {a_snow : Nat → Int32} {f_begun : Int32} {f_minute : Int32} {f_avalanches : Int32} {post : (Nat → Int32) → (Nat → Int32) → (Nat → Int32) → (Nat → Int32) → (Int32) → (Int32) → (Int32) → Prop} (k_a_lands : mLand a_lands) (k_f_land : iv 0 1 f_land) (k_a_at : ∀ j, iv 0 8 (a_at j)) (k_a_knows : ∀ j, iv 0 31 (a_knows j)) (k_a_climbed : ∀ j, iv 0 1 (a_climbed j)) (k_f_begun : iv 0 31 f_begun) (hpost : ∀ (a_at : Nat → Int32) (a_knows : Nat → Int32) (a_climbed : Nat → Int32) (a_snow : Nat → Int32) (f_begun : Int32) (f_minute : Int32) (f_avalanches : Int32), (∀ j, iv 0 8 (a_at j)) → (∀ j, iv 0 31 (a_knows j)) → (∀ j, iv 0 1 (a_climbed j)) → (iv 0 0 f_begun) → (iv 0 0 f_minute) → (iv 0 0 f_avalanches) → post a_at a_knows a_climbed a_snow f_begun f_minute f_avalanches) : q_m_begin_0 a_lands f_land a_at a_knows a_climbed a_snow f_begun f_minute f_avalanches post := by
  exact s_m_begin_2 k_a_lands k_f_land k_a_at k_a_knows k_a_climbed k_f_begun (iv_w (iv_lit (l := 0) (h := 0) (by decide)) (by decide)) hpost
-- m_hearing
set_option maxRecDepth 20000 in
theorem s_m_hearing_48 {P6 : Int32 → Int32 → Prop} {a_lands : Nat → Int32} {f_land : Int32} {x1 : Int32} {x3 : Int32} {y0 : Int32} {y1 : Int32} {post : Int32 → Prop} (k_a_lands : mLand a_lands) (k_f_land : iv 0 1 f_land) (hx1 : iv 0 8 x1) (hx3 : iv 0 3 x3) (hy0 : iv 0 511 y0) (hy1 : iv 0 256 y1) (m6 : Int) (hm6 : m6 ≤ x3.toInt) (hP6 : ∀ (x2 : Int32) (x3 : Int32), m6 < x3.toInt → iv 0 511 x2 → iv 0 4 x3 → P6 x2 x3) (hpost : ∀ (r : Int32), iv 0 511 r → post r) : q_m_hearing_48 P6 a_lands f_land x1 x3 y0 y1 post := by
  intro w1 ew1
  have hw1 := iv_eq ew1 (iv_or 9 (l := 0) (h := 511) hy0 hy1 (by decide))
  intro w2 ew2
  have hw2 := iv_eq ew2 (iv_add (l := 1) (h := 4) hx3 (iv_lit (l := 1) (h := 1) (by decide)) (by decide))
  exact hP6 _ _ (ml_up hm6 (inc_lt ew2 hx3 (by decide))) hw1 (iv_w hw2 (by decide))
set_option maxRecDepth 20000 in
theorem s_m_hearing_6 {a_lands : Nat → Int32} {f_land : Int32} {x1 : Int32} {x2 : Int32} {x3 : Int32} {post : Int32 → Prop} (k_a_lands : mLand a_lands) (k_f_land : iv 0 1 f_land) (hx1 : iv 0 8 x1) (hx2 : iv 0 511 x2) (hx3 : iv 0 4 x3) (hpost : ∀ (r : Int32), iv 0 511 r → post r) : q_m_hearing_6 a_lands f_land x1 x2 x3 post := by
  intro P hP
  have loop : ∀ (n : Nat) (x2 : Int32) (x3 : Int32), (4 - x3.toInt < (n : Int)) → (iv 0 511 x2) → (iv 0 4 x3) → P x2 x3 := by
    intro n
    induction n with
    | zero => intro x2 x3 hm hx2 hx3; exact (ms0_up hm hx3).elim
    | succ n ih =>
      intro x2 x3 hm hx2 hx3
      apply hP
      refine sp_of (a := 0) (b := 4) k_a_lands k_f_land (iv_lit (l := 4) (h := 4) (by decide)) (by decide +kernel) (fun r1 hr1 er1 => ?_)
      refine ⟨fun c2 => ?_, fun c2 => ?_⟩
      · skip
        refine sp_of (a := 0) (b := 511) k_a_lands k_f_land (iv_lit (l := 3) (h := 3) (by decide)) (by decide +kernel) (fun r3 hr3 er3 => ?_)
        exact hpost _ (iv_andl (l := 0) (h := 511) hx2 (by decide))
      · skip
        refine sp_of (a := 0) (b := 8) k_a_lands k_f_land (iv_add (l := 43) (h := 49) (iv_lit (l := 43) (h := 43) (by decide)) (iv_mul (l := 0) (h := 6) (iv_lit (l := 2) (h := 2) (by decide)) (iv_lta (l := 0) (h := 3) (r_nle c2) hx3 hr1 (by decide)) (by decide)) (by decide)) (by decide +kernel) (fun r4 hr4 er4 => ?_)
        refine ⟨fun c5 => ?_, fun c5 => ?_⟩
        · skip
          exact s_m_hearing_48 k_a_lands k_f_land hx1 (iv_lta (l := 0) (h := 3) (r_nle c2) hx3 hr1 (by decide)) hx2 (iv_w (iv_lit (l := 0) (h := 0) (by decide)) (by decide)) x3.toInt (Int.le_refl _) (fun u0 u1 hq g0 g1 => ih u0 u1 (ms_up hm hq) g0 g1) hpost
        · skip
          refine sp_of (a := 0) (b := 8) k_a_lands k_f_land (iv_add (l := 44) (h := 50) (iv_add (l := 43) (h := 49) (iv_lit (l := 43) (h := 43) (by decide)) (iv_mul (l := 0) (h := 6) (iv_lit (l := 2) (h := 2) (by decide)) (iv_lta (l := 0) (h := 3) (r_nle c2) hx3 hr1 (by decide)) (by decide)) (by decide)) (iv_lit (l := 1) (h := 1) (by decide)) (by decide)) (by decide +kernel) (fun r6 hr6 er6 => ?_)
          exact s_m_hearing_48 k_a_lands k_f_land hx1 (iv_lta (l := 0) (h := 3) (r_nle c2) hx3 hr1 (by decide)) hx2 (iv_w (iv_shl1 (l := 1) (h := 256) (iv_lit (l := 1) (h := 1) (by decide)) hr6 (by decide)) (by decide)) x3.toInt (Int.le_refl _) (fun u0 u1 hq g0 g1 => ih u0 u1 (ms_up hm hq) g0 g1) hpost
  exact loop _ _ _ (ms_init_up _ _) hx2 hx3
set_option maxRecDepth 20000 in
theorem s_m_hearing_0 {a_lands : Nat → Int32} {f_land : Int32} {x1 : Int32} {post : Int32 → Prop} (k_a_lands : mLand a_lands) (k_f_land : iv 0 1 f_land) (hx1 : iv 0 8 x1) (hpost : ∀ (r : Int32), iv 0 511 r → post r) : q_m_hearing_0 a_lands f_land x1 post := by
  intro w1 ew1
  have hw1 := iv_eq ew1 (iv_shl1 (l := 1) (h := 256) (iv_lit (l := 1) (h := 1) (by decide)) hx1 (by decide))
  exact s_m_hearing_6 k_a_lands k_f_land hx1 (iv_w hw1 (by decide)) (iv_w (iv_lit (l := 0) (h := 0) (by decide)) (by decide)) hpost
-- m_sounds
set_option maxRecDepth 20000 in
theorem s_m_sounds_75 {P37 : Int32 → (Nat → Int32) → Prop} {a_lands : Nat → Int32} {f_land : Int32} {f_singers : Int32} {a_at : Nat → Int32} {a_knows : Nat → Int32} {a_climbed : Nat → Int32} {a_level : Nat → Int32} {f_begun : Int32} {x2 : Int32} {x3 : Int32} {x4 : Int32} {y0 : Int32} {y1 : Int32} {y2 : Int32} {post : (Nat → Int32) → (Nat → Int32) → (Int32) → Prop} (k_a_lands : mLand a_lands) (k_f_land : iv 0 1 f_land) (k_f_singers : iv 1 6 f_singers) (k_a_at : ∀ j, iv 0 8 (a_at j)) (k_a_knows : ∀ j, iv 0 31 (a_knows j)) (k_a_climbed : ∀ j, iv 0 1 (a_climbed j)) (k_a_level : ∀ j, iv (-9) 108 (a_level j)) (k_f_begun : iv 0 31 f_begun) (hx2 : iv 0 4 x2) (hx3 : iv 0 511 x3) (hx4 : iv 0 5 x4) (hy0 : iv 0 5 y0) (hy1 : iv 0 31 y1) (hy2 : iv 0 16 y2) (m37 : Int) (hm37 : m37 ≤ x4.toInt) (hP37 : ∀ (x4 : Int32) (a_knows : Nat → Int32), m37 < x4.toInt → iv 0 6 x4 → (∀ j, iv 0 31 (a_knows j)) → P37 x4 a_knows) (hpost : ∀ (a_knows : Nat → Int32) (a_level : Nat → Int32) (f_begun : Int32), (∀ j, iv 0 31 (a_knows j)) → (∀ j, iv (-9) 108 (a_level j)) → (iv 0 31 f_begun) → post a_knows a_level f_begun) : q_m_sounds_75 P37 a_lands f_land f_singers a_at a_knows a_climbed a_level f_begun x2 x3 x4 y0 y1 y2 post := by
  intro w1 ew1
  have hw1 := iv_eq ew1 (iv_or 5 (l := 0) (h := 31) hy1 hy2 (by decide))
  refine ⟨iv_in hy0 (by decide), ?_⟩
  intro a2 ea2
  have k_a2 := iv_upd ea2 k_a_knows hw1
  intro w3 ew3
  have hw3 := iv_eq ew3 (iv_add (l := 1) (h := 6) hx4 (iv_lit (l := 1) (h := 1) (by decide)) (by decide))
  exact hP37 _ _ (ml_up hm37 (inc_lt ew3 hx4 (by decide))) (iv_w hw3 (by decide)) k_a2
set_option maxRecDepth 20000 in
theorem s_m_sounds_37 {a_lands : Nat → Int32} {f_land : Int32} {f_singers : Int32} {a_at : Nat → Int32} {a_knows : Nat → Int32} {a_climbed : Nat → Int32} {a_level : Nat → Int32} {f_begun : Int32} {x2 : Int32} {x3 : Int32} {x4 : Int32} {post : (Nat → Int32) → (Nat → Int32) → (Int32) → Prop} (k_a_lands : mLand a_lands) (k_f_land : iv 0 1 f_land) (k_f_singers : iv 0 6 f_singers) (k_a_at : ∀ j, iv 0 8 (a_at j)) (k_a_knows : ∀ j, iv 0 31 (a_knows j)) (k_a_climbed : ∀ j, iv 0 1 (a_climbed j)) (k_a_level : ∀ j, iv (-9) 108 (a_level j)) (k_f_begun : iv 0 31 f_begun) (hx2 : iv 0 4 x2) (hx3 : iv 0 511 x3) (hx4 : iv 0 6 x4) (hpost : ∀ (a_knows : Nat → Int32) (a_level : Nat → Int32) (f_begun : Int32), (∀ j, iv 0 31 (a_knows j)) → (∀ j, iv (-9) 108 (a_level j)) → (iv 0 31 f_begun) → post a_knows a_level f_begun) : q_m_sounds_37 a_lands f_land f_singers a_at a_knows a_climbed a_level f_begun x2 x3 x4 post := by
  intro P hP
  have loop : ∀ (n : Nat) (x4 : Int32) (a_knows : Nat → Int32), (6 - x4.toInt < (n : Int)) → (iv 0 6 x4) → (∀ j, iv 0 31 (a_knows j)) → P x4 a_knows := by
    intro n
    induction n with
    | zero => intro x4 a_knows hm hx4 k_a_knows; exact (ms0_up hm hx4).elim
    | succ n ih =>
      intro x4 a_knows hm hx4 k_a_knows
      apply hP
      refine ⟨fun c1 => ?_, fun c1 => ?_⟩
      · skip
        exact hpost _ _ _ k_a_knows k_a_level k_f_begun
      · skip
        refine ⟨iv_in (iv_lta (l := 0) (h := 5) (r_nle c1) hx4 k_f_singers (by decide)) (by decide), ?_⟩
        refine ⟨iv_in (iv_lta (l := 0) (h := 5) (r_nle c1) hx4 k_f_singers (by decide)) (by decide), ?_⟩
        refine ⟨fun c2 => ?_, fun c2 => ?_⟩
        · skip
          refine ⟨fun c3 => ?_, fun c3 => ?_⟩
          · skip
            exact s_m_sounds_75 k_a_lands k_f_land (iv_ltb (l := 1) (h := 6) (r_nle c1) hx4 k_f_singers (by decide)) k_a_at k_a_knows k_a_climbed k_a_level k_f_begun hx2 hx3 (iv_lta (l := 0) (h := 5) (r_nle c1) hx4 k_f_singers (by decide)) (iv_lta (l := 0) (h := 5) (r_nle c1) hx4 k_f_singers (by decide)) (k_a_knows _) (iv_w (iv_lit (l := 0) (h := 0) (by decide)) (by decide)) x4.toInt (Int.le_refl _) (fun u0 u1 hq g0 g1 => ih u0 u1 (ms_up hm hq) g0 g1) hpost
          · skip
            exact (iv_emp (iv_ne (l := 1) (h := 0) c3 (iv_lit (l := 0) (h := 0) (by decide)) (iv_lit (l := 0) (h := 0) (by decide)) (by decide)) (by decide)).elim
        · skip
          refine ⟨fun c4 => ?_, fun c4 => ?_⟩
          · skip
            exact (iv_emp (iv_eqa (l := 1) (h := 0) c4 (iv_lit (l := 1) (h := 1) (by decide)) (iv_lit (l := 0) (h := 0) (by decide)) (by decide)) (by decide)).elim
          · skip
            exact s_m_sounds_75 k_a_lands k_f_land (iv_ltb (l := 1) (h := 6) (r_nle c1) hx4 k_f_singers (by decide)) k_a_at k_a_knows k_a_climbed k_a_level k_f_begun hx2 hx3 (iv_lta (l := 0) (h := 5) (r_nle c1) hx4 k_f_singers (by decide)) (iv_lta (l := 0) (h := 5) (r_nle c1) hx4 k_f_singers (by decide)) (k_a_knows _) (iv_w (iv_shl1 (l := 1) (h := 16) (iv_lit (l := 1) (h := 1) (by decide)) hx2 (by decide)) (by decide)) x4.toInt (Int.le_refl _) (fun u0 u1 hq g0 g1 => ih u0 u1 (ms_up hm hq) g0 g1) hpost
  exact loop _ _ _ (ms_init_up _ _) hx4 k_a_knows
set_option maxRecDepth 20000 in
theorem s_m_sounds_0 {a_lands : Nat → Int32} {f_land : Int32} {f_singers : Int32} {a_at : Nat → Int32} {a_knows : Nat → Int32} {a_climbed : Nat → Int32} {a_level : Nat → Int32} {f_begun : Int32} {x1 : Int32} {x2 : Int32} {post : (Nat → Int32) → (Nat → Int32) → (Int32) → Prop} (k_a_lands : mLand a_lands) (k_f_land : iv 0 1 f_land) (k_f_singers : iv 0 6 f_singers) (k_a_at : ∀ j, iv 0 8 (a_at j)) (k_a_knows : ∀ j, iv 0 31 (a_knows j)) (k_a_climbed : ∀ j, iv 0 1 (a_climbed j)) (k_a_level : ∀ j, iv (-9) 108 (a_level j)) (k_f_begun : iv 0 31 f_begun) (hx1 : iv 0 5 x1) (hx2 : iv 0 4 x2) (hpost : ∀ (a_knows : Nat → Int32) (a_level : Nat → Int32) (f_begun : Int32), (∀ j, iv 0 31 (a_knows j)) → (∀ j, iv (-9) 108 (a_level j)) → (iv 0 31 f_begun) → post a_knows a_level f_begun) : q_m_sounds_0 a_lands f_land f_singers a_at a_knows a_climbed a_level f_begun x1 x2 post := by
  refine ⟨iv_in hx1 (by decide), ?_⟩
  refine s_m_hearing_0 k_a_lands k_f_land (k_a_at _) (fun r1 hr1 => ?_)
  refine ⟨iv_in hx1 (by decide), ?_⟩
  refine sp_of (a := 0) (b := 99) k_a_lands k_f_land (iv_add (l := 7) (h := 15) (iv_lit (l := 7) (h := 7) (by decide)) (k_a_at _) (by decide)) (by decide +kernel) (fun r2 hr2 er2 => ?_)
  refine sp_of (a := 0) (b := 9) k_a_lands k_f_land (iv_add (l := 31) (h := 36) (iv_lit (l := 31) (h := 31) (by decide)) hx1 (by decide)) (by decide +kernel) (fun r3 hr3 er3 => ?_)
  refine ⟨iv_in hx1 (by decide), ?_⟩
  refine ⟨iv_in hx1 (by decide), ?_⟩
  refine sp_of (a := 0) (b := 9) k_a_lands k_f_land (iv_add (l := 16) (h := 24) (iv_lit (l := 16) (h := 16) (by decide)) (k_a_at _) (by decide)) (by decide +kernel) (fun r4 hr4 er4 => ?_)
  refine ⟨iv_in hx2 (by decide), ?_⟩
  intro a5 ea5
  have k_a5 := iv_upd ea5 k_a_level (iv_add (l := (-9)) (h := 108) (iv_sub (l := (-9)) (h := 99) hr2 hr3 (by decide)) (iv_mul (l := 0) (h := 9) (k_a_climbed _) hr4 (by decide)) (by decide))
  intro w6 ew6
  have hw6 := iv_eq ew6 (iv_or 5 (l := 0) (h := 31) k_f_begun (iv_shl1 (l := 1) (h := 16) (iv_lit (l := 1) (h := 1) (by decide)) hx2 (by decide)) (by decide))
  exact s_m_sounds_37 k_a_lands k_f_land k_f_singers k_a_at k_a_knows k_a_climbed k_a5 hw6 hx2 hr1 (iv_w (iv_lit (l := 0) (h := 0) (by decide)) (by decide)) hpost
-- m_sings
set_option maxRecDepth 20000 in
theorem s_m_sings_78 {a_lands : Nat → Int32} {f_land : Int32} {f_singers : Int32} {a_at : Nat → Int32} {a_knows : Nat → Int32} {a_climbed : Nat → Int32} {a_snow : Nat → Int32} {a_level : Nat → Int32} {f_begun : Int32} {f_avalanches : Int32} {x1 : Int32} {x2 : Int32} {y0 : Int32} {y1 : Int32} {post : (Nat → Int32) → (Nat → Int32) → (Nat → Int32) → (Int32) → (Int32) → Prop} (k_a_lands : mLand a_lands) (k_f_land : iv 0 1 f_land) (k_f_singers : iv 0 6 f_singers) (k_a_at : ∀ j, iv 0 8 (a_at j)) (k_a_knows : ∀ j, iv 0 31 (a_knows j)) (k_a_climbed : ∀ j, iv 0 1 (a_climbed j)) (k_a_level : ∀ j, iv (-9) 108 (a_level j)) (k_f_begun : iv 0 31 f_begun) (hx1 : iv 0 5 x1) (hx2 : iv 0 4 x2) (hy1 : iv 0 1 y1) (hpost : ∀ (a_knows : Nat → Int32) (a_snow : Nat → Int32) (a_level : Nat → Int32) (f_begun : Int32) (f_avalanches : Int32), (∀ j, iv 0 31 (a_knows j)) → (∀ j, iv (-9) 108 (a_level j)) → (iv 0 31 f_begun) → post a_knows a_snow a_level f_begun f_avalanches) : q_m_sings_78 a_lands f_land f_singers a_at a_knows a_climbed a_snow a_level f_begun f_avalanches x1 x2 y0 y1 post := by
  intro w1 ew1
  refine s_m_sounds_0 k_a_lands k_f_land k_f_singers k_a_at k_a_knows k_a_climbed k_a_level k_f_begun hx1 hx2 (fun o2 o3 o4 k_o2 k_o3 k_o4 => ?_)
  exact hpost _ _ _ _ _ k_o2 k_o3 k_o4
set_option maxRecDepth 20000 in
theorem s_m_sings_61 {a_lands : Nat → Int32} {f_land : Int32} {f_singers : Int32} {a_at : Nat → Int32} {a_knows : Nat → Int32} {a_climbed : Nat → Int32} {a_snow : Nat → Int32} {a_level : Nat → Int32} {f_begun : Int32} {f_avalanches : Int32} {x1 : Int32} {x2 : Int32} {x4 : Int32} {y0 : Int32} {y1 : Int32} {y2 : Int32} {post : (Nat → Int32) → (Nat → Int32) → (Nat → Int32) → (Int32) → (Int32) → Prop} (k_a_lands : mLand a_lands) (k_f_land : iv 0 1 f_land) (k_f_singers : iv 0 6 f_singers) (k_a_at : ∀ j, iv 0 8 (a_at j)) (k_a_knows : ∀ j, iv 0 31 (a_knows j)) (k_a_climbed : ∀ j, iv 0 1 (a_climbed j)) (k_a_level : ∀ j, iv (-9) 108 (a_level j)) (k_f_begun : iv 0 31 f_begun) (hx1 : iv 0 5 x1) (hx2 : iv 0 4 x2) (hx4 : iv 0 1 x4) (hy0 : iv 0 8 y0) (hy2 : iv 0 1 y2) (hpost : ∀ (a_knows : Nat → Int32) (a_snow : Nat → Int32) (a_level : Nat → Int32) (f_begun : Int32) (f_avalanches : Int32), (∀ j, iv 0 31 (a_knows j)) → (∀ j, iv (-9) 108 (a_level j)) → (iv 0 31 f_begun) → post a_knows a_snow a_level f_begun f_avalanches) : q_m_sings_61 a_lands f_land f_singers a_at a_knows a_climbed a_snow a_level f_begun f_avalanches x1 x2 x4 y0 y1 y2 post := by
  intro w1 ew1
  refine ⟨iv_in hy0 (by decide), ?_⟩
  intro a2 ea2
  refine ⟨fun c3 => ?_, fun c3 => ?_⟩
  · skip
    exact s_m_sings_78 k_a_lands k_f_land k_f_singers k_a_at k_a_knows k_a_climbed k_a_level k_f_begun hx1 hx2 (iv_w (iv_lit (l := 0) (h := 0) (by decide)) (by decide)) hpost
  · skip
    exact s_m_sings_78 k_a_lands k_f_land k_f_singers k_a_at k_a_knows k_a_climbed k_a_level k_f_begun hx1 hx2 (iv_w (iv_lit (l := 1) (h := 1) (by decide)) (by decide)) hpost
set_option maxRecDepth 20000 in
theorem s_m_sings_37 {a_lands : Nat → Int32} {f_land : Int32} {f_singers : Int32} {a_at : Nat → Int32} {a_knows : Nat → Int32} {a_climbed : Nat → Int32} {a_snow : Nat → Int32} {a_level : Nat → Int32} {f_begun : Int32} {f_avalanches : Int32} {x1 : Int32} {x2 : Int32} {y0 : Int32} {post : (Nat → Int32) → (Nat → Int32) → (Nat → Int32) → (Int32) → (Int32) → Prop} (k_a_lands : mLand a_lands) (k_f_land : iv 0 1 f_land) (k_f_singers : iv 0 6 f_singers) (k_a_at : ∀ j, iv 0 8 (a_at j)) (k_a_knows : ∀ j, iv 0 31 (a_knows j)) (k_a_climbed : ∀ j, iv 0 1 (a_climbed j)) (k_a_level : ∀ j, iv (-9) 108 (a_level j)) (k_f_begun : iv 0 31 f_begun) (hx1 : iv 0 5 x1) (hx2 : iv 0 4 x2) (hy0 : iv 0 1 y0) (hpost : ∀ (a_knows : Nat → Int32) (a_snow : Nat → Int32) (a_level : Nat → Int32) (f_begun : Int32) (f_avalanches : Int32), (∀ j, iv 0 31 (a_knows j)) → (∀ j, iv (-9) 108 (a_level j)) → (iv 0 31 f_begun) → post a_knows a_snow a_level f_begun f_avalanches) : q_m_sings_37 a_lands f_land f_singers a_at a_knows a_climbed a_snow a_level f_begun f_avalanches x1 x2 y0 post := by
  refine ⟨iv_in hx1 (by decide), ?_⟩
  refine ⟨iv_in (k_a_at _) (by decide), ?_⟩
  refine ⟨fun c1 => ?_, fun c1 => ?_⟩
  · skip
    exact s_m_sings_61 k_a_lands k_f_land k_f_singers k_a_at k_a_knows k_a_climbed k_a_level k_f_begun hx1 hx2 (iv_w (iv_eqa (l := 0) (h := 0) c1 hy0 (iv_lit (l := 0) (h := 0) (by decide)) (by decide)) (by decide)) (k_a_at _) (iv_w (iv_lit (l := 0) (h := 0) (by decide)) (by decide)) hpost
  · skip
    exact s_m_sings_61 k_a_lands k_f_land k_f_singers k_a_at k_a_knows k_a_climbed k_a_level k_f_begun hx1 hx2 (iv_w (iv_ne (l := 1) (h := 1) c1 hy0 (iv_lit (l := 0) (h := 0) (by decide)) (by decide)) (by decide)) (k_a_at _) (iv_w (iv_lit (l := 1) (h := 1) (by decide)) (by decide)) hpost
set_option maxRecDepth 20000 in
theorem s_m_sings_32 {a_lands : Nat → Int32} {f_land : Int32} {f_singers : Int32} {a_at : Nat → Int32} {a_knows : Nat → Int32} {a_climbed : Nat → Int32} {a_snow : Nat → Int32} {a_level : Nat → Int32} {f_begun : Int32} {f_avalanches : Int32} {x1 : Int32} {x2 : Int32} {post : (Nat → Int32) → (Nat → Int32) → (Nat → Int32) → (Int32) → (Int32) → Prop} (k_a_lands : mLand a_lands) (k_f_land : iv 0 1 f_land) (k_f_singers : iv 0 6 f_singers) (k_a_at : ∀ j, iv 0 8 (a_at j)) (k_a_knows : ∀ j, iv 0 31 (a_knows j)) (k_a_climbed : ∀ j, iv 0 1 (a_climbed j)) (k_a_level : ∀ j, iv (-9) 108 (a_level j)) (k_f_begun : iv 0 31 f_begun) (hx1 : iv 0 5 x1) (hx2 : iv 0 4 x2) (hpost : ∀ (a_knows : Nat → Int32) (a_snow : Nat → Int32) (a_level : Nat → Int32) (f_begun : Int32) (f_avalanches : Int32), (∀ j, iv 0 31 (a_knows j)) → (∀ j, iv (-9) 108 (a_level j)) → (iv 0 31 f_begun) → post a_knows a_snow a_level f_begun f_avalanches) : q_m_sings_32 a_lands f_land f_singers a_at a_knows a_climbed a_snow a_level f_begun f_avalanches x1 x2 post := by
  exact s_m_sings_37 k_a_lands k_f_land k_f_singers k_a_at k_a_knows k_a_climbed k_a_level k_f_begun hx1 hx2 (iv_w (iv_lit (l := 1) (h := 1) (by decide)) (by decide)) hpost
set_option maxRecDepth 20000 in
theorem s_m_sings_36 {a_lands : Nat → Int32} {f_land : Int32} {f_singers : Int32} {a_at : Nat → Int32} {a_knows : Nat → Int32} {a_climbed : Nat → Int32} {a_snow : Nat → Int32} {a_level : Nat → Int32} {f_begun : Int32} {f_avalanches : Int32} {x1 : Int32} {x2 : Int32} {post : (Nat → Int32) → (Nat → Int32) → (Nat → Int32) → (Int32) → (Int32) → Prop} (k_a_lands : mLand a_lands) (k_f_land : iv 0 1 f_land) (k_f_singers : iv 0 6 f_singers) (k_a_at : ∀ j, iv 0 8 (a_at j)) (k_a_knows : ∀ j, iv 0 31 (a_knows j)) (k_a_climbed : ∀ j, iv 0 1 (a_climbed j)) (k_a_level : ∀ j, iv (-9) 108 (a_level j)) (k_f_begun : iv 0 31 f_begun) (hx1 : iv 0 5 x1) (hx2 : iv 0 4 x2) (hpost : ∀ (a_knows : Nat → Int32) (a_snow : Nat → Int32) (a_level : Nat → Int32) (f_begun : Int32) (f_avalanches : Int32), (∀ j, iv 0 31 (a_knows j)) → (∀ j, iv (-9) 108 (a_level j)) → (iv 0 31 f_begun) → post a_knows a_snow a_level f_begun f_avalanches) : q_m_sings_36 a_lands f_land f_singers a_at a_knows a_climbed a_snow a_level f_begun f_avalanches x1 x2 post := by
  exact s_m_sings_37 k_a_lands k_f_land k_f_singers k_a_at k_a_knows k_a_climbed k_a_level k_f_begun hx1 hx2 (iv_w (iv_lit (l := 0) (h := 0) (by decide)) (by decide)) hpost
set_option maxRecDepth 20000 in
theorem s_m_sings_0 {a_lands : Nat → Int32} {f_land : Int32} {f_singers : Int32} {a_at : Nat → Int32} {a_knows : Nat → Int32} {a_climbed : Nat → Int32} {a_snow : Nat → Int32} {a_level : Nat → Int32} {f_begun : Int32} {f_avalanches : Int32} {x1 : Int32} {x2 : Int32} {x3 : Int32} {post : (Nat → Int32) → (Nat → Int32) → (Nat → Int32) → (Int32) → (Int32) → Prop} (k_a_lands : mLand a_lands) (k_f_land : iv 0 1 f_land) (k_f_singers : iv 0 6 f_singers) (k_a_at : ∀ j, iv 0 8 (a_at j)) (k_a_knows : ∀ j, iv 0 31 (a_knows j)) (k_a_climbed : ∀ j, iv 0 1 (a_climbed j)) (k_a_level : ∀ j, iv (-9) 108 (a_level j)) (k_f_begun : iv 0 31 f_begun) (hx1 : iv 0 5 x1) (hx2 : iv 0 4 x2) (hx3 : iv 0 1 x3) (hpost : ∀ (a_knows : Nat → Int32) (a_snow : Nat → Int32) (a_level : Nat → Int32) (f_begun : Int32) (f_avalanches : Int32), (∀ j, iv 0 31 (a_knows j)) → (∀ j, iv (-9) 108 (a_level j)) → (iv 0 31 f_begun) → post a_knows a_snow a_level f_begun f_avalanches) : q_m_sings_0 a_lands f_land f_singers a_at a_knows a_climbed a_snow a_level f_begun f_avalanches x1 x2 x3 post := by
  refine ⟨iv_in hx1 (by decide), ?_⟩
  refine sp_of (a := 0) (b := 99) k_a_lands k_f_land (iv_add (l := 7) (h := 15) (iv_lit (l := 7) (h := 7) (by decide)) (k_a_at _) (by decide)) (by decide +kernel) (fun r1 hr1 er1 => ?_)
  refine sp_of (a := 0) (b := 9) k_a_lands k_f_land (iv_add (l := 31) (h := 36) (iv_lit (l := 31) (h := 31) (by decide)) hx1 (by decide)) (by decide +kernel) (fun r2 hr2 er2 => ?_)
  refine ⟨iv_in hx1 (by decide), ?_⟩
  refine ⟨iv_in hx1 (by decide), ?_⟩
  refine sp_of (a := 0) (b := 9) k_a_lands k_f_land (iv_add (l := 16) (h := 24) (iv_lit (l := 16) (h := 16) (by decide)) (k_a_at _) (by decide)) (by decide +kernel) (fun r3 hr3 er3 => ?_)
  refine ⟨iv_in hx2 (by decide), ?_⟩
  refine ⟨fun c4 => ?_, fun c4 => ?_⟩
  · skip
    exact s_m_sings_32 k_a_lands k_f_land k_f_singers k_a_at k_a_knows k_a_climbed k_a_level k_f_begun hx1 hx2 hpost
  · skip
    refine ⟨fun c5 => ?_, fun c5 => ?_⟩
    · skip
      exact s_m_sings_36 k_a_lands k_f_land k_f_singers k_a_at k_a_knows k_a_climbed k_a_level k_f_begun hx1 hx2 hpost
    · skip
      refine ⟨iv_in hx1 (by decide), ?_⟩
      refine sp_of (a := 0) (b := 99) k_a_lands k_f_land (iv_add (l := 7) (h := 15) (iv_lit (l := 7) (h := 7) (by decide)) (k_a_at _) (by decide)) (by decide +kernel) (fun r6 hr6 er6 => ?_)
      refine sp_of (a := 0) (b := 9) k_a_lands k_f_land (iv_add (l := 31) (h := 36) (iv_lit (l := 31) (h := 31) (by decide)) hx1 (by decide)) (by decide +kernel) (fun r7 hr7 er7 => ?_)
      refine ⟨iv_in hx1 (by decide), ?_⟩
      refine ⟨iv_in hx1 (by decide), ?_⟩
      refine sp_of (a := 0) (b := 9) k_a_lands k_f_land (iv_add (l := 16) (h := 24) (iv_lit (l := 16) (h := 16) (by decide)) (k_a_at _) (by decide)) (by decide +kernel) (fun r8 hr8 er8 => ?_)
      refine ⟨iv_in hx2 (by decide), ?_⟩
      refine ⟨fun c9 => ?_, fun c9 => ?_⟩
      · skip
        exact s_m_sings_36 k_a_lands k_f_land k_f_singers k_a_at k_a_knows k_a_climbed k_a_level k_f_begun hx1 hx2 hpost
      · skip
        exact s_m_sings_32 k_a_lands k_f_land k_f_singers k_a_at k_a_knows k_a_climbed k_a_level k_f_begun hx1 hx2 hpost
-- m_does
set_option maxRecDepth 20000 in
theorem s_m_does_112 {a_lands : Nat → Int32} {a_evenings : Nat → Int32} {f_land : Int32} {f_huts : Int32} {f_singers : Int32} {f_evening : Int32} {a_at : Nat → Int32} {a_knows : Nat → Int32} {a_climbed : Nat → Int32} {a_snow : Nat → Int32} {a_level : Nat → Int32} {f_begun : Int32} {f_minute : Int32} {f_avalanches : Int32} {y0 : Int32} {y1 : Int32} {y2 : Int32} {post : Int32 → (Nat → Int32) → (Nat → Int32) → (Nat → Int32) → (Nat → Int32) → (Nat → Int32) → (Int32) → (Int32) → (Int32) → Prop} (k_a_lands : mLand a_lands) (k_a_evenings : mEve a_evenings) (k_f_land : iv 0 1 f_land) (k_f_huts : iv 0 9 f_huts) (k_f_singers : iv 0 6 f_singers) (k_f_evening : iv 0 1 f_evening) (k_a_at : ∀ j, iv 0 8 (a_at j)) (k_a_knows : ∀ j, iv 0 31 (a_knows j)) (k_a_climbed : ∀ j, iv 0 1 (a_climbed j)) (k_a_level : ∀ j, iv (-9) 108 (a_level j)) (k_f_begun : iv 0 31 f_begun) (hy0 : iv 0 5 y0) (hy1 : iv 0 4 y1) (hy2 : iv 0 1 y2) (hpost : ∀ (r : Int32) (a_at : Nat → Int32) (a_knows : Nat → Int32) (a_climbed : Nat → Int32) (a_snow : Nat → Int32) (a_level : Nat → Int32) (f_begun : Int32) (f_minute : Int32) (f_avalanches : Int32), iv 0 1 r → (∀ j, iv 0 8 (a_at j)) → (∀ j, iv 0 31 (a_knows j)) → (∀ j, iv 0 1 (a_climbed j)) → (∀ j, iv (-9) 108 (a_level j)) → (iv 0 31 f_begun) → post r a_at a_knows a_climbed a_snow a_level f_begun f_minute f_avalanches) : q_m_does_112 a_lands a_evenings f_land f_huts f_singers f_evening a_at a_knows a_climbed a_snow a_level f_begun f_minute f_avalanches y0 y1 y2 post := by
  refine s_m_sings_0 k_a_lands k_f_land k_f_singers k_a_at k_a_knows k_a_climbed k_a_level k_f_begun hy0 hy1 hy2 (fun o1 o2 o3 o4 o5 k_o1 k_o3 k_o4 => ?_)
  exact hpost _ _ _ _ _ _ _ _ _ (iv_w (iv_lit (l := 1) (h := 1) (by decide)) (by decide)) k_a_at k_o1 k_a_climbed k_o3 k_o4
set_option maxRecDepth 20000 in
theorem s_m_does_83 {a_lands : Nat → Int32} {a_evenings : Nat → Int32} {f_land : Int32} {f_huts : Int32} {f_singers : Int32} {f_evening : Int32} {a_at : Nat → Int32} {a_knows : Nat → Int32} {a_climbed : Nat → Int32} {a_snow : Nat → Int32} {a_level : Nat → Int32} {f_begun : Int32} {f_minute : Int32} {f_avalanches : Int32} {x1 : Int32} {x2 : Int32} {x3 : Int32} {post : Int32 → (Nat → Int32) → (Nat → Int32) → (Nat → Int32) → (Nat → Int32) → (Nat → Int32) → (Int32) → (Int32) → (Int32) → Prop} (k_a_lands : mLand a_lands) (k_a_evenings : mEve a_evenings) (k_f_land : iv 0 1 f_land) (k_f_huts : iv 0 9 f_huts) (k_f_singers : iv 0 6 f_singers) (k_f_evening : iv 0 1 f_evening) (k_a_at : ∀ j, iv 0 8 (a_at j)) (k_a_knows : ∀ j, iv 0 31 (a_knows j)) (k_a_climbed : ∀ j, iv 0 1 (a_climbed j)) (k_a_level : ∀ j, iv (-9) 108 (a_level j)) (k_f_begun : iv 0 31 f_begun) (hx1 : iv 0 39 x1) (hx2 : iv 0 5 x2) (hx3 : iv (-1) 8 x3) (hpost : ∀ (r : Int32) (a_at : Nat → Int32) (a_knows : Nat → Int32) (a_climbed : Nat → Int32) (a_snow : Nat → Int32) (a_level : Nat → Int32) (f_begun : Int32) (f_minute : Int32) (f_avalanches : Int32), iv 0 1 r → (∀ j, iv 0 8 (a_at j)) → (∀ j, iv 0 31 (a_knows j)) → (∀ j, iv 0 1 (a_climbed j)) → (∀ j, iv (-9) 108 (a_level j)) → (iv 0 31 f_begun) → post r a_at a_knows a_climbed a_snow a_level f_begun f_minute f_avalanches) : q_m_does_83 a_lands a_evenings f_land f_huts f_singers f_evening a_at a_knows a_climbed a_snow a_level f_begun f_minute f_avalanches x1 x2 x3 post := by
  refine ⟨iv_in hx2 (by decide), ?_⟩
  refine ⟨fun c1 => ?_, fun c1 => ?_⟩
  · skip
    refine ⟨fun c2 => ?_, fun c2 => ?_⟩
    · skip
      refine ⟨fun c3 => ?_, fun c3 => ?_⟩
      · skip
        exact (iv_emp (iv_ne (l := 1) (h := 0) c3 (iv_lit (l := 0) (h := 0) (by decide)) (iv_lit (l := 0) (h := 0) (by decide)) (by decide)) (by decide)).elim
      · skip
        exact hpost _ _ _ _ _ _ _ _ _ (iv_w (iv_lit (l := 0) (h := 0) (by decide)) (by decide)) k_a_at k_a_knows k_a_climbed k_a_level k_f_begun
    · skip
      exact (iv_emp (iv_ne (l := 1) (h := 0) c2 (iv_lit (l := 0) (h := 0) (by decide)) (iv_lit (l := 0) (h := 0) (by decide)) (by decide)) (by decide)).elim
  · skip
    refine ⟨fun c4 => ?_, fun c4 => ?_⟩
    · skip
      exact (iv_emp (iv_eqa (l := 1) (h := 0) c4 (iv_lit (l := 1) (h := 1) (by decide)) (iv_lit (l := 0) (h := 0) (by decide)) (by decide)) (by decide)).elim
    · skip
      refine ⟨fun c5 => ?_, fun c5 => ?_⟩
      · skip
        refine ⟨fun c6 => ?_, fun c6 => ?_⟩
        · skip
          refine ⟨fun c7 => ?_, fun c7 => ?_⟩
          · skip
            exact (iv_emp (iv_ne (l := 1) (h := 0) c7 (iv_lit (l := 0) (h := 0) (by decide)) (iv_lit (l := 0) (h := 0) (by decide)) (by decide)) (by decide)).elim
          · skip
            exact hpost _ _ _ _ _ _ _ _ _ (iv_w (iv_lit (l := 0) (h := 0) (by decide)) (by decide)) k_a_at k_a_knows k_a_climbed k_a_level k_f_begun
        · skip
          exact (iv_emp (iv_ne (l := 1) (h := 0) c6 (iv_lit (l := 0) (h := 0) (by decide)) (iv_lit (l := 0) (h := 0) (by decide)) (by decide)) (by decide)).elim
      · skip
        refine ⟨fun c8 => ?_, fun c8 => ?_⟩
        · skip
          exact (iv_emp (iv_eqa (l := 1) (h := 0) c8 (iv_lit (l := 1) (h := 1) (by decide)) (iv_lit (l := 0) (h := 0) (by decide)) (by decide)) (by decide)).elim
        · skip
          refine ⟨iv_in hx2 (by decide), ?_⟩
          refine sp_of (a := 0) (b := 511) k_a_lands k_f_land (iv_lit (l := 3) (h := 3) (by decide)) (by decide +kernel) (fun r9 hr9 er9 => ?_)
          refine ⟨fun c10 => ?_, fun c10 => ?_⟩
          · skip
            refine ⟨iv_nb (iv_lit (l := 0) (h := 0) (by decide)) (by decide), ?_⟩
            refine ⟨fun c11 => ?_, fun c11 => ?_⟩
            · skip
              exact (iv_emp (iv_ne (l := 1) (h := 0) c11 (iv_lit (l := 0) (h := 0) (by decide)) (iv_lit (l := 0) (h := 0) (by decide)) (by decide)) (by decide)).elim
            · skip
              refine ⟨fun c12 => ?_, fun c12 => ?_⟩
              · skip
                refine sp_deedOf_0 k_a_evenings k_f_evening hx1 (fun r13 hr13 => ?_)
                refine ⟨fun c14 => ?_, fun c14 => ?_⟩
                · skip
                  exact s_m_does_112 k_a_lands k_a_evenings k_f_land k_f_huts k_f_singers k_f_evening k_a_at k_a_knows k_a_climbed k_a_level k_f_begun hx2 (iv_bitk 5 (l := 0) (h := 4) (c1.trans (iv_one (iv_lit (l := 1) (h := 1) (by decide)))) (k_a_knows _) hx3 (by decide)) (iv_w (iv_lit (l := 0) (h := 0) (by decide)) (by decide)) hpost
                · skip
                  exact s_m_does_112 k_a_lands k_a_evenings k_f_land k_f_huts k_f_singers k_f_evening k_a_at k_a_knows k_a_climbed k_a_level k_f_begun hx2 (iv_bitk 5 (l := 0) (h := 4) (c1.trans (iv_one (iv_lit (l := 1) (h := 1) (by decide)))) (k_a_knows _) hx3 (by decide)) (iv_w (iv_lit (l := 1) (h := 1) (by decide)) (by decide)) hpost
              · skip
                exact (iv_emp (iv_eqa (l := 1) (h := 0) c12 (iv_lit (l := 1) (h := 1) (by decide)) (iv_lit (l := 0) (h := 0) (by decide)) (by decide)) (by decide)).elim
          · skip
            refine ⟨iv_nb (iv_lit (l := 1) (h := 1) (by decide)) (by decide), ?_⟩
            refine ⟨fun c15 => ?_, fun c15 => ?_⟩
            · skip
              refine ⟨fun c16 => ?_, fun c16 => ?_⟩
              · skip
                exact (iv_emp (iv_ne (l := 1) (h := 0) c16 (iv_lit (l := 0) (h := 0) (by decide)) (iv_lit (l := 0) (h := 0) (by decide)) (by decide)) (by decide)).elim
              · skip
                exact hpost _ _ _ _ _ _ _ _ _ (iv_w (iv_lit (l := 0) (h := 0) (by decide)) (by decide)) k_a_at k_a_knows k_a_climbed k_a_level k_f_begun
            · skip
              exact (iv_emp (iv_eqa (l := 1) (h := 0) c15 (iv_lit (l := 1) (h := 1) (by decide)) (iv_lit (l := 0) (h := 0) (by decide)) (by decide)) (by decide)).elim
set_option maxRecDepth 20000 in
theorem s_m_does_0 {a_lands : Nat → Int32} {a_evenings : Nat → Int32} {f_land : Int32} {f_huts : Int32} {f_singers : Int32} {f_evening : Int32} {a_at : Nat → Int32} {a_knows : Nat → Int32} {a_climbed : Nat → Int32} {a_snow : Nat → Int32} {a_level : Nat → Int32} {f_begun : Int32} {f_minute : Int32} {f_avalanches : Int32} {x1 : Int32} {post : Int32 → (Nat → Int32) → (Nat → Int32) → (Nat → Int32) → (Nat → Int32) → (Nat → Int32) → (Int32) → (Int32) → (Int32) → Prop} (k_a_lands : mLand a_lands) (k_a_evenings : mEve a_evenings) (k_f_land : iv 0 1 f_land) (k_f_huts : iv 0 9 f_huts) (k_f_singers : iv 0 6 f_singers) (k_f_evening : iv 0 1 f_evening) (k_a_at : ∀ j, iv 0 8 (a_at j)) (k_a_knows : ∀ j, iv 0 31 (a_knows j)) (k_a_climbed : ∀ j, iv 0 1 (a_climbed j)) (k_a_level : ∀ j, iv (-9) 108 (a_level j)) (k_f_begun : iv 0 31 f_begun) (hx1 : iv 0 39 x1) (hpost : ∀ (r : Int32) (a_at : Nat → Int32) (a_knows : Nat → Int32) (a_climbed : Nat → Int32) (a_snow : Nat → Int32) (a_level : Nat → Int32) (f_begun : Int32) (f_minute : Int32) (f_avalanches : Int32), iv 0 1 r → (∀ j, iv 0 8 (a_at j)) → (∀ j, iv 0 31 (a_knows j)) → (∀ j, iv 0 1 (a_climbed j)) → (∀ j, iv (-9) 108 (a_level j)) → (iv 0 31 f_begun) → post r a_at a_knows a_climbed a_snow a_level f_begun f_minute f_avalanches) : q_m_does_0 a_lands a_evenings f_land f_huts f_singers f_evening a_at a_knows a_climbed a_snow a_level f_begun f_minute f_avalanches x1 post := by
  refine sp_deedOf_1 k_a_evenings k_f_evening hx1 (fun r1 hr1 => ?_)
  refine sp_deedOf_2 k_a_evenings k_f_evening hx1 (fun r2 hr2 => ?_)
  refine ⟨fun c3 => ?_, fun c3 => ?_⟩
  · skip
    exact (iv_emp (iv_lta (l := 0) (h := (-1)) (r_lt c3) hr1 (iv_lit (l := 0) (h := 0) (by decide)) (by decide)) (by decide)).elim
  · skip
    refine ⟨fun c4 => ?_, fun c4 => ?_⟩
    · skip
      refine ⟨iv_nb (iv_lit (l := 0) (h := 0) (by decide)) (by decide), ?_⟩
      refine ⟨fun c5 => ?_, fun c5 => ?_⟩
      · skip
        exact (iv_emp (iv_ne (l := 1) (h := 0) c5 (iv_lit (l := 0) (h := 0) (by decide)) (iv_lit (l := 0) (h := 0) (by decide)) (by decide)) (by decide)).elim
      · skip
        exact hpost _ _ _ _ _ _ _ _ _ (iv_w (iv_lit (l := 0) (h := 0) (by decide)) (by decide)) k_a_at k_a_knows k_a_climbed k_a_level k_f_begun
    · skip
      refine ⟨iv_nb (iv_lit (l := 1) (h := 1) (by decide)) (by decide), ?_⟩
      refine ⟨fun c6 => ?_, fun c6 => ?_⟩
      · skip
        refine sp_deedOf_0 k_a_evenings k_f_evening hx1 (fun r7 hr7 => ?_)
        refine ⟨fun c8 => ?_, fun c8 => ?_, fun c8 => ?_, fun c8 => ?_, fun c8 => ?_, fun c8 => ?_⟩
        · skip
          refine ⟨iv_in hr1 (by decide), ?_⟩
          refine ⟨fun c9 => ?_, fun c9 => ?_⟩
          · skip
            refine ⟨iv_in hr1 (by decide), ?_⟩
            intro a10 ea10
            have k_a10 := iv_upd ea10 k_a_climbed (iv_w (iv_lit (l := 0) (h := 0) (by decide)) (by decide))
            exact hpost _ _ _ _ _ _ _ _ _ (iv_w (iv_lit (l := 1) (h := 1) (by decide)) (by decide)) k_a_at k_a_knows k_a10 k_a_level k_f_begun
          · skip
            exact hpost _ _ _ _ _ _ _ _ _ (iv_w (iv_lit (l := 0) (h := 0) (by decide)) (by decide)) k_a_at k_a_knows k_a_climbed k_a_level k_f_begun
        · skip
          refine ⟨iv_in hr1 (by decide), ?_⟩
          refine ⟨fun c11 => ?_, fun c11 => ?_⟩
          · skip
            refine ⟨fun c12 => ?_, fun c12 => ?_⟩
            · skip
              refine ⟨fun c13 => ?_, fun c13 => ?_⟩
              · skip
                exact (iv_emp (iv_ne (l := 1) (h := 0) c13 (iv_lit (l := 0) (h := 0) (by decide)) (iv_lit (l := 0) (h := 0) (by decide)) (by decide)) (by decide)).elim
              · skip
                exact hpost _ _ _ _ _ _ _ _ _ (iv_w (iv_lit (l := 0) (h := 0) (by decide)) (by decide)) k_a_at k_a_knows k_a_climbed k_a_level k_f_begun
            · skip
              exact (iv_emp (iv_ne (l := 1) (h := 0) c12 (iv_lit (l := 0) (h := 0) (by decide)) (iv_lit (l := 0) (h := 0) (by decide)) (by decide)) (by decide)).elim
          · skip
            refine ⟨fun c14 => ?_, fun c14 => ?_⟩
            · skip
              exact (iv_emp (iv_eqa (l := 1) (h := 0) c14 (iv_lit (l := 1) (h := 1) (by decide)) (iv_lit (l := 0) (h := 0) (by decide)) (by decide)) (by decide)).elim
            · skip
              refine ⟨fun c15 => ?_, fun c15 => ?_⟩
              · skip
                refine ⟨fun c16 => ?_, fun c16 => ?_⟩
                · skip
                  exact (iv_emp (iv_ne (l := 1) (h := 0) c16 (iv_lit (l := 0) (h := 0) (by decide)) (iv_lit (l := 0) (h := 0) (by decide)) (by decide)) (by decide)).elim
                · skip
                  refine ⟨iv_in hr1 (by decide), ?_⟩
                  refine sp_of (a := 0) (b := 511) k_a_lands k_f_land (iv_lit (l := 3) (h := 3) (by decide)) (by decide +kernel) (fun r17 hr17 er17 => ?_)
                  refine ⟨fun c18 => ?_, fun c18 => ?_⟩
                  · skip
                    refine ⟨iv_nb (iv_lit (l := 0) (h := 0) (by decide)) (by decide), ?_⟩
                    refine ⟨fun c19 => ?_, fun c19 => ?_⟩
                    · skip
                      exact (iv_emp (iv_ne (l := 1) (h := 0) c19 (iv_lit (l := 0) (h := 0) (by decide)) (iv_lit (l := 0) (h := 0) (by decide)) (by decide)) (by decide)).elim
                    · skip
                      refine ⟨fun c20 => ?_, fun c20 => ?_⟩
                      · skip
                        refine s_m_sounds_0 k_a_lands k_f_land k_f_singers k_a_at k_a_knows k_a_climbed k_a_level k_f_begun hr1 (iv_bitk 5 (l := 0) (h := 4) (c11.trans (iv_one (iv_lit (l := 1) (h := 1) (by decide)))) (k_a_knows _) hr2 (by decide)) (fun o21 o22 o23 k_o21 k_o22 k_o23 => ?_)
                        exact hpost _ _ _ _ _ _ _ _ _ (iv_w (iv_lit (l := 1) (h := 1) (by decide)) (by decide)) k_a_at k_o21 k_a_climbed k_o22 k_o23
                      · skip
                        exact (iv_emp (iv_eqa (l := 1) (h := 0) c20 (iv_lit (l := 1) (h := 1) (by decide)) (iv_lit (l := 0) (h := 0) (by decide)) (by decide)) (by decide)).elim
                  · skip
                    refine ⟨iv_nb (iv_lit (l := 1) (h := 1) (by decide)) (by decide), ?_⟩
                    refine ⟨fun c24 => ?_, fun c24 => ?_⟩
                    · skip
                      refine ⟨fun c25 => ?_, fun c25 => ?_⟩
                      · skip
                        exact (iv_emp (iv_ne (l := 1) (h := 0) c25 (iv_lit (l := 0) (h := 0) (by decide)) (iv_lit (l := 0) (h := 0) (by decide)) (by decide)) (by decide)).elim
                      · skip
                        exact hpost _ _ _ _ _ _ _ _ _ (iv_w (iv_lit (l := 0) (h := 0) (by decide)) (by decide)) k_a_at k_a_knows k_a_climbed k_a_level k_f_begun
                    · skip
                      exact (iv_emp (iv_eqa (l := 1) (h := 0) c24 (iv_lit (l := 1) (h := 1) (by decide)) (iv_lit (l := 0) (h := 0) (by decide)) (by decide)) (by decide)).elim
              · skip
                refine ⟨fun c26 => ?_, fun c26 => ?_⟩
                · skip
                  refine ⟨fun c27 => ?_, fun c27 => ?_⟩
                  · skip
                    exact (iv_emp (iv_ne (l := 1) (h := 0) c27 (iv_lit (l := 0) (h := 0) (by decide)) (iv_lit (l := 0) (h := 0) (by decide)) (by decide)) (by decide)).elim
                  · skip
                    exact hpost _ _ _ _ _ _ _ _ _ (iv_w (iv_lit (l := 0) (h := 0) (by decide)) (by decide)) k_a_at k_a_knows k_a_climbed k_a_level k_f_begun
                · skip
                  exact (iv_emp (iv_eqa (l := 1) (h := 0) c26 (iv_lit (l := 1) (h := 1) (by decide)) (iv_lit (l := 0) (h := 0) (by decide)) (by decide)) (by decide)).elim
        · skip
          exact s_m_does_83 k_a_lands k_a_evenings k_f_land k_f_huts k_f_singers k_f_evening k_a_at k_a_knows k_a_climbed k_a_level k_f_begun hx1 hr1 hr2 hpost
        · skip
          exact s_m_does_83 k_a_lands k_a_evenings k_f_land k_f_huts k_f_singers k_f_evening k_a_at k_a_knows k_a_climbed k_a_level k_f_begun hx1 hr1 hr2 hpost
        · skip
          refine ⟨fun c28 => ?_, fun c28 => ?_⟩
          · skip
            refine ⟨iv_nb (iv_lit (l := 0) (h := 0) (by decide)) (by decide), ?_⟩
            refine ⟨fun c29 => ?_, fun c29 => ?_⟩
            · skip
              refine ⟨fun c30 => ?_, fun c30 => ?_⟩
              · skip
                refine ⟨iv_nb (iv_lit (l := 0) (h := 0) (by decide)) (by decide), ?_⟩
                exact hpost _ _ _ _ _ _ _ _ _ (iv_w (iv_lit (l := 0) (h := 0) (by decide)) (by decide)) k_a_at k_a_knows k_a_climbed k_a_level k_f_begun
              · skip
                exact (iv_emp (iv_ne (l := 1) (h := 0) c30 (iv_lit (l := 0) (h := 0) (by decide)) (iv_lit (l := 0) (h := 0) (by decide)) (by decide)) (by decide)).elim
            · skip
              exact (iv_emp (iv_ne (l := 1) (h := 0) c29 (iv_lit (l := 0) (h := 0) (by decide)) (iv_lit (l := 0) (h := 0) (by decide)) (by decide)) (by decide)).elim
          · skip
            refine ⟨fun c31 => ?_, fun c31 => ?_⟩
            · skip
              refine ⟨iv_nb (iv_lit (l := 0) (h := 0) (by decide)) (by decide), ?_⟩
              refine ⟨fun c32 => ?_, fun c32 => ?_⟩
              · skip
                refine ⟨fun c33 => ?_, fun c33 => ?_⟩
                · skip
                  refine ⟨iv_nb (iv_lit (l := 0) (h := 0) (by decide)) (by decide), ?_⟩
                  exact hpost _ _ _ _ _ _ _ _ _ (iv_w (iv_lit (l := 0) (h := 0) (by decide)) (by decide)) k_a_at k_a_knows k_a_climbed k_a_level k_f_begun
                · skip
                  exact (iv_emp (iv_ne (l := 1) (h := 0) c33 (iv_lit (l := 0) (h := 0) (by decide)) (iv_lit (l := 0) (h := 0) (by decide)) (by decide)) (by decide)).elim
              · skip
                exact (iv_emp (iv_ne (l := 1) (h := 0) c32 (iv_lit (l := 0) (h := 0) (by decide)) (iv_lit (l := 0) (h := 0) (by decide)) (by decide)) (by decide)).elim
            · skip
              refine ⟨iv_nb (iv_lit (l := 1) (h := 1) (by decide)) (by decide), ?_⟩
              refine ⟨fun c34 => ?_, fun c34 => ?_⟩
              · skip
                exact (iv_emp (iv_eqa (l := 1) (h := 0) c34 (iv_lit (l := 1) (h := 1) (by decide)) (iv_lit (l := 0) (h := 0) (by decide)) (by decide)) (by decide)).elim
              · skip
                refine ⟨iv_in hr1 (by decide), ?_⟩
                refine sp_of (a := 0) (b := 9) k_a_lands k_f_land (iv_add (l := 51) (h := 131) (iv_add (l := 51) (h := 123) (iv_lit (l := 51) (h := 51) (by decide)) (iv_mul (l := 0) (h := 72) (iv_lit (l := 9) (h := 9) (by decide)) (k_a_at _) (by decide)) (by decide)) (iv_leb (l := 0) (h := 8) (r_nlt c28) (iv_lit (l := 0) (h := 0) (by decide)) hr2 (by decide)) (by decide)) (by decide +kernel) (fun r35 hr35 er35 => ?_)
                refine ⟨fun c36 => ?_, fun c36 => ?_⟩
                · skip
                  refine ⟨iv_nb (iv_lit (l := 0) (h := 0) (by decide)) (by decide), ?_⟩
                  exact hpost _ _ _ _ _ _ _ _ _ (iv_w (iv_lit (l := 0) (h := 0) (by decide)) (by decide)) k_a_at k_a_knows k_a_climbed k_a_level k_f_begun
                · skip
                  refine ⟨iv_in hr1 (by decide), ?_⟩
                  refine ⟨fun c37 => ?_, fun c37 => ?_⟩
                  · skip
                    refine ⟨iv_nb (iv_lit (l := 0) (h := 0) (by decide)) (by decide), ?_⟩
                    exact hpost _ _ _ _ _ _ _ _ _ (iv_w (iv_lit (l := 0) (h := 0) (by decide)) (by decide)) k_a_at k_a_knows k_a_climbed k_a_level k_f_begun
                  · skip
                    refine ⟨iv_in hr1 (by decide), ?_⟩
                    refine ⟨iv_in (k_a_at _) (by decide), ?_⟩
                    refine sp_of (a := 0) (b := 9) k_a_lands k_f_land (iv_lit (l := 5) (h := 5) (by decide)) (by decide +kernel) (fun r38 hr38 er38 => ?_)
                    refine ⟨fun c39 => ?_, fun c39 => ?_⟩
                    · skip
                      refine ⟨fun c40 => ?_, fun c40 => ?_⟩
                      · skip
                        exact (iv_emp (iv_ne (l := 1) (h := 0) c40 (iv_lit (l := 0) (h := 0) (by decide)) (iv_lit (l := 0) (h := 0) (by decide)) (by decide)) (by decide)).elim
                      · skip
                        refine ⟨iv_in (iv_leb (l := 0) (h := 8) (r_nlt c28) (iv_lit (l := 0) (h := 0) (by decide)) hr2 (by decide)) (by decide), ?_⟩
                        refine sp_of (a := 0) (b := 9) k_a_lands k_f_land (iv_lit (l := 5) (h := 5) (by decide)) (by decide +kernel) (fun r41 hr41 er41 => ?_)
                        refine ⟨fun c42 => ?_, fun c42 => ?_⟩
                        · skip
                          refine ⟨fun c43 => ?_, fun c43 => ?_⟩
                          · skip
                            refine ⟨iv_in hr1 (by decide), ?_⟩
                            intro a44 ea44
                            have k_a44 := iv_upd ea44 k_a_at (iv_leb (l := 0) (h := 8) (r_nlt c28) (iv_lit (l := 0) (h := 0) (by decide)) hr2 (by decide))
                            intro w45 ew45
                            refine ⟨iv_nb (iv_lit (l := 1) (h := 1) (by decide)) (by decide), ?_⟩
                            exact hpost _ _ _ _ _ _ _ _ _ (iv_w (iv_lit (l := 1) (h := 1) (by decide)) (by decide)) k_a44 k_a_knows k_a_climbed k_a_level k_f_begun
                          · skip
                            exact (iv_emp (iv_ne (l := 1) (h := 0) c43 (iv_lit (l := 0) (h := 0) (by decide)) (iv_lit (l := 0) (h := 0) (by decide)) (by decide)) (by decide)).elim
                        · skip
                          refine ⟨fun c46 => ?_, fun c46 => ?_⟩
                          · skip
                            exact (iv_emp (iv_eqa (l := 1) (h := 0) c46 (iv_lit (l := 1) (h := 1) (by decide)) (iv_lit (l := 0) (h := 0) (by decide)) (by decide)) (by decide)).elim
                          · skip
                            refine ⟨iv_nb (iv_lit (l := 0) (h := 0) (by decide)) (by decide), ?_⟩
                            exact hpost _ _ _ _ _ _ _ _ _ (iv_w (iv_lit (l := 0) (h := 0) (by decide)) (by decide)) k_a_at k_a_knows k_a_climbed k_a_level k_f_begun
                    · skip
                      refine ⟨fun c47 => ?_, fun c47 => ?_⟩
                      · skip
                        refine ⟨iv_nb (iv_lit (l := 0) (h := 0) (by decide)) (by decide), ?_⟩
                        exact hpost _ _ _ _ _ _ _ _ _ (iv_w (iv_lit (l := 0) (h := 0) (by decide)) (by decide)) k_a_at k_a_knows k_a_climbed k_a_level k_f_begun
                      · skip
                        exact (iv_emp (iv_eqa (l := 1) (h := 0) c47 (iv_lit (l := 1) (h := 1) (by decide)) (iv_lit (l := 0) (h := 0) (by decide)) (by decide)) (by decide)).elim
        · skip
          refine ⟨iv_in hr1 (by decide), ?_⟩
          refine sp_of (a := 0) (b := 9) k_a_lands k_f_land (iv_add (l := 16) (h := 24) (iv_lit (l := 16) (h := 16) (by decide)) (k_a_at _) (by decide)) (by decide +kernel) (fun r48 hr48 er48 => ?_)
          refine ⟨fun c49 => ?_, fun c49 => ?_⟩
          · skip
            exact hpost _ _ _ _ _ _ _ _ _ (iv_w (iv_lit (l := 0) (h := 0) (by decide)) (by decide)) k_a_at k_a_knows k_a_climbed k_a_level k_f_begun
          · skip
            refine ⟨iv_in hr1 (by decide), ?_⟩
            refine ⟨fun c50 => ?_, fun c50 => ?_⟩
            · skip
              refine ⟨iv_in hr1 (by decide), ?_⟩
              intro a51 ea51
              have k_a51 := iv_upd ea51 k_a_climbed (iv_w (iv_lit (l := 1) (h := 1) (by decide)) (by decide))
              exact hpost _ _ _ _ _ _ _ _ _ (iv_w (iv_lit (l := 1) (h := 1) (by decide)) (by decide)) k_a_at k_a_knows k_a51 k_a_level k_f_begun
            · skip
              exact hpost _ _ _ _ _ _ _ _ _ (iv_w (iv_lit (l := 0) (h := 0) (by decide)) (by decide)) k_a_at k_a_knows k_a_climbed k_a_level k_f_begun
      · skip
        exact (iv_emp (iv_eqa (l := 1) (h := 0) c6 (iv_lit (l := 1) (h := 1) (by decide)) (iv_lit (l := 0) (h := 0) (by decide)) (by decide)) (by decide)).elim
end
section
-- m_play
set_option maxRecDepth 20000 in
theorem s_m_play_6 {a_lands : Nat → Int32} {a_evenings : Nat → Int32} {f_land : Int32} {f_huts : Int32} {f_singers : Int32} {f_evening : Int32} {a_at : Nat → Int32} {a_knows : Nat → Int32} {a_climbed : Nat → Int32} {a_snow : Nat → Int32} {a_level : Nat → Int32} {f_begun : Int32} {f_minute : Int32} {f_avalanches : Int32} {x1 : Int32} {x2 : Int32} {post : Int32 → (Nat → Int32) → (Nat → Int32) → (Nat → Int32) → (Nat → Int32) → (Nat → Int32) → (Int32) → (Int32) → (Int32) → Prop} (k_a_lands : mLand a_lands) (k_a_evenings : mEve a_evenings) (k_f_land : iv 0 1 f_land) (k_f_huts : iv 0 9 f_huts) (k_f_singers : iv 0 6 f_singers) (k_f_evening : iv 0 1 f_evening) (k_a_at : ∀ j, iv 0 8 (a_at j)) (k_a_knows : ∀ j, iv 0 31 (a_knows j)) (k_a_climbed : ∀ j, iv 0 1 (a_climbed j)) (k_a_level : ∀ j, iv (-9) 108 (a_level j)) (k_f_begun : iv 0 31 f_begun) (hx1 : iv 0 40 x1) (hx2 : iv 0 40 x2) (hpost : ∀ (r : Int32) (a_at : Nat → Int32) (a_knows : Nat → Int32) (a_climbed : Nat → Int32) (a_snow : Nat → Int32) (a_level : Nat → Int32) (f_begun : Int32) (f_minute : Int32) (f_avalanches : Int32), iv 0 40 r → (∀ j, iv 0 8 (a_at j)) → (∀ j, iv 0 31 (a_knows j)) → (∀ j, iv 0 1 (a_climbed j)) → (∀ j, iv (-9) 108 (a_level j)) → (iv 0 31 f_begun) → post r a_at a_knows a_climbed a_snow a_level f_begun f_minute f_avalanches) : q_m_play_6 a_lands a_evenings f_land f_huts f_singers f_evening a_at a_knows a_climbed a_snow a_level f_begun f_minute f_avalanches x1 x2 post := by
  intro P hP
  have loop : ∀ (n : Nat) (x2 : Int32) (a_at : Nat → Int32) (a_knows : Nat → Int32) (a_climbed : Nat → Int32) (a_snow : Nat → Int32) (a_level : Nat → Int32) (f_begun : Int32) (f_minute : Int32) (f_avalanches : Int32), (40 - x2.toInt < (n : Int)) → (iv 0 40 x2) → (∀ j, iv 0 8 (a_at j)) → (∀ j, iv 0 31 (a_knows j)) → (∀ j, iv 0 1 (a_climbed j)) → (∀ j, iv (-9) 108 (a_level j)) → (iv 0 31 f_begun) → P x2 a_at a_knows a_climbed a_snow a_level f_begun f_minute f_avalanches := by
    intro n
    induction n with
    | zero => intro x2 a_at a_knows a_climbed a_snow a_level f_begun f_minute f_avalanches hm hx2 k_a_at k_a_knows k_a_climbed k_a_level k_f_begun; exact (ms0_up hm hx2).elim
    | succ n ih =>
      intro x2 a_at a_knows a_climbed a_snow a_level f_begun f_minute f_avalanches hm hx2 k_a_at k_a_knows k_a_climbed k_a_level k_f_begun
      apply hP
      refine ⟨fun c1 => ?_, fun c1 => ?_⟩
      · skip
        exact hpost _ _ _ _ _ _ _ _ _ hx2 k_a_at k_a_knows k_a_climbed k_a_level k_f_begun
      · skip
        refine s_m_does_0 k_a_lands k_a_evenings k_f_land k_f_huts k_f_singers k_f_evening k_a_at k_a_knows k_a_climbed k_a_level k_f_begun (iv_lta (l := 0) (h := 39) (r_nle c1) hx2 hx1 (by decide)) (fun r2 o3 o4 o5 o6 o7 o8 o9 o10 hr2 k_o3 k_o4 k_o5 k_o7 k_o8 => ?_)
        refine ⟨fun c11 => ?_, fun c11 => ?_⟩
        · skip
          exact hpost _ _ _ _ _ _ _ _ _ (iv_w (iv_lta (l := 0) (h := 39) (r_nle c1) hx2 hx1 (by decide)) (by decide)) k_o3 k_o4 k_o5 k_o7 k_o8
        · skip
          intro w12 ew12
          have hw12 := iv_eq ew12 (iv_add (l := 1) (h := 40) (iv_lta (l := 0) (h := 39) (r_nle c1) hx2 hx1 (by decide)) (iv_lit (l := 1) (h := 1) (by decide)) (by decide))
          exact ih _ _ _ _ _ _ _ _ _ (ms_up hm (inc_lt ew12 (iv_lta (l := 0) (h := 39) (r_nle c1) hx2 hx1 (by decide)) (by decide))) (iv_w hw12 (by decide)) k_o3 k_o4 k_o5 k_o7 k_o8
  exact loop _ _ _ _ _ _ _ _ _ _ (ms_init_up _ _) hx2 k_a_at k_a_knows k_a_climbed k_a_level k_f_begun
set_option maxRecDepth 20000 in
theorem s_m_play_0 {a_lands : Nat → Int32} {a_evenings : Nat → Int32} {f_land : Int32} {f_huts : Int32} {f_singers : Int32} {f_evening : Int32} {a_at : Nat → Int32} {a_knows : Nat → Int32} {a_climbed : Nat → Int32} {a_snow : Nat → Int32} {a_level : Nat → Int32} {f_begun : Int32} {f_minute : Int32} {f_avalanches : Int32} {x1 : Int32} {post : Int32 → (Nat → Int32) → (Nat → Int32) → (Nat → Int32) → (Nat → Int32) → (Nat → Int32) → (Int32) → (Int32) → (Int32) → Prop} (k_a_lands : mLand a_lands) (k_a_evenings : mEve a_evenings) (k_f_land : iv 0 1 f_land) (k_f_huts : iv 0 9 f_huts) (k_f_singers : iv 0 6 f_singers) (k_f_evening : iv 0 1 f_evening) (k_a_at : ∀ j, iv 0 8 (a_at j)) (k_a_knows : ∀ j, iv 0 31 (a_knows j)) (k_a_climbed : ∀ j, iv 0 1 (a_climbed j)) (k_a_level : ∀ j, iv (-9) 108 (a_level j)) (k_f_begun : iv 0 31 f_begun) (hx1 : iv 0 40 x1) (hpost : ∀ (r : Int32) (a_at : Nat → Int32) (a_knows : Nat → Int32) (a_climbed : Nat → Int32) (a_snow : Nat → Int32) (a_level : Nat → Int32) (f_begun : Int32) (f_minute : Int32) (f_avalanches : Int32), iv 0 40 r → (∀ j, iv 0 8 (a_at j)) → (∀ j, iv 0 31 (a_knows j)) → (∀ j, iv 0 1 (a_climbed j)) → (∀ j, iv (-9) 108 (a_level j)) → (iv 0 31 f_begun) → post r a_at a_knows a_climbed a_snow a_level f_begun f_minute f_avalanches) : q_m_play_0 a_lands a_evenings f_land f_huts f_singers f_evening a_at a_knows a_climbed a_snow a_level f_begun f_minute f_avalanches x1 post := by
  refine s_m_begin_0 k_a_lands k_f_land k_a_at k_a_knows k_a_climbed k_f_begun (fun o1 o2 o3 o4 o5 o6 o7 k_o1 k_o2 k_o3 k_o5 k_o6 k_o7 => ?_)
  exact s_m_play_6 k_a_lands k_a_evenings k_f_land k_f_huts k_f_singers k_f_evening k_o1 k_o2 k_o3 k_a_level (iv_w k_o5 (by decide)) hx1 (iv_w (iv_lit (l := 0) (h := 0) (by decide)) (by decide)) hpost
-- m_stop
set_option maxRecDepth 20000 in
theorem s_m_stop_0 {f_code : Int32} {a_many : Nat → Int32} {a_lands : Nat → Int32} {a_evenings : Nat → Int32} {f_land : Int32} {f_huts : Int32} {f_singers : Int32} {f_evening : Int32} {a_at : Nat → Int32} {a_knows : Nat → Int32} {a_climbed : Nat → Int32} {a_snow : Nat → Int32} {a_level : Nat → Int32} {f_begun : Int32} {f_minute : Int32} {f_avalanches : Int32} {x1 : Int32} {x2 : Int32} {post : Int32 → (Int32) → (Int32) → (Int32) → (Int32) → (Int32) → (Nat → Int32) → (Nat → Int32) → (Nat → Int32) → (Nat → Int32) → (Nat → Int32) → (Int32) → (Int32) → (Int32) → Prop} (k_f_code : iv 0 0 f_code) (k_a_many : ∀ j, iv 0 2 (a_many j)) (k_a_lands : mLand a_lands) (k_a_evenings : mEve a_evenings) (k_f_land : iv 0 1 f_land) (k_f_huts : iv 0 9 f_huts) (k_f_singers : iv 0 6 f_singers) (k_a_at : ∀ j, iv 0 8 (a_at j)) (k_a_knows : ∀ j, iv 0 31 (a_knows j)) (k_a_climbed : ∀ j, iv 0 1 (a_climbed j)) (k_a_level : ∀ j, iv (-9) 108 (a_level j)) (k_f_begun : iv 0 31 f_begun) (hpost : ∀ (r : Int32) (f_code : Int32) (f_land : Int32) (f_huts : Int32) (f_singers : Int32) (f_evening : Int32) (a_at : Nat → Int32) (a_knows : Nat → Int32) (a_climbed : Nat → Int32) (a_snow : Nat → Int32) (a_level : Nat → Int32) (f_begun : Int32) (f_minute : Int32) (f_avalanches : Int32), iv (-1) 40 r → (iv 0 0 f_code) → (iv 0 1 f_land) → (iv 0 9 f_huts) → (iv 0 6 f_singers) → (∀ j, iv 0 8 (a_at j)) → (∀ j, iv 0 31 (a_knows j)) → (∀ j, iv 0 1 (a_climbed j)) → (∀ j, iv (-9) 108 (a_level j)) → (iv 0 31 f_begun) → post r f_code f_land f_huts f_singers f_evening a_at a_knows a_climbed a_snow a_level f_begun f_minute f_avalanches) : q_m_stop_0 f_code a_many a_lands a_evenings f_land f_huts f_singers f_evening a_at a_knows a_climbed a_snow a_level f_begun f_minute f_avalanches x1 x2 post := by
  refine ⟨iv_in (iv_lit (l := 1) (h := 1) (by decide)) (by decide), ?_⟩
  refine ⟨fun c1 => ?_, fun c1 => ?_⟩
  · skip
    refine ⟨iv_nb (iv_lit (l := 0) (h := 0) (by decide)) (by decide), ?_⟩
    refine ⟨iv_nb (iv_lit (l := 0) (h := 0) (by decide)) (by decide), ?_⟩
    refine ⟨fun c2 => ?_, fun c2 => ?_⟩
    · skip
      refine ⟨fun c3 => ?_, fun c3 => ?_⟩
      · skip
        exact hpost _ _ _ _ _ _ _ _ _ _ _ _ _ _ (iv_w (iv_lit (l := (-1)) (h := (-1)) (by decide)) (by decide)) (iv_lit (l := 0) (h := 0) (by decide)) k_f_land k_f_huts k_f_singers k_a_at k_a_knows k_a_climbed k_a_level k_f_begun
      · skip
        exact (iv_emp (iv_ne (l := 1) (h := 0) c3 (iv_lit (l := 0) (h := 0) (by decide)) (iv_lit (l := 0) (h := 0) (by decide)) (by decide)) (by decide)).elim
    · skip
      exact (iv_emp (iv_ne (l := 1) (h := 0) c2 (iv_lit (l := 0) (h := 0) (by decide)) (iv_lit (l := 0) (h := 0) (by decide)) (by decide)) (by decide)).elim
  · skip
    refine ⟨fun c4 => ?_, fun c4 => ?_⟩
    · skip
      refine ⟨iv_nb (iv_lit (l := 0) (h := 0) (by decide)) (by decide), ?_⟩
      refine ⟨iv_nb (iv_lit (l := 0) (h := 0) (by decide)) (by decide), ?_⟩
      refine ⟨fun c5 => ?_, fun c5 => ?_⟩
      · skip
        refine ⟨fun c6 => ?_, fun c6 => ?_⟩
        · skip
          exact hpost _ _ _ _ _ _ _ _ _ _ _ _ _ _ (iv_w (iv_lit (l := (-1)) (h := (-1)) (by decide)) (by decide)) (iv_lit (l := 0) (h := 0) (by decide)) k_f_land k_f_huts k_f_singers k_a_at k_a_knows k_a_climbed k_a_level k_f_begun
        · skip
          exact (iv_emp (iv_ne (l := 1) (h := 0) c6 (iv_lit (l := 0) (h := 0) (by decide)) (iv_lit (l := 0) (h := 0) (by decide)) (by decide)) (by decide)).elim
      · skip
        exact (iv_emp (iv_ne (l := 1) (h := 0) c5 (iv_lit (l := 0) (h := 0) (by decide)) (iv_lit (l := 0) (h := 0) (by decide)) (by decide)) (by decide)).elim
    · skip
      refine ⟨iv_nb (iv_lit (l := 1) (h := 1) (by decide)) (by decide), ?_⟩
      refine ⟨iv_nb (iv_lit (l := 1) (h := 1) (by decide)) (by decide), ?_⟩
      refine ⟨fun c7 => ?_, fun c7 => ?_⟩
      · skip
        exact (iv_emp (iv_eqa (l := 1) (h := 0) c7 (iv_lit (l := 1) (h := 1) (by decide)) (iv_lit (l := 0) (h := 0) (by decide)) (by decide)) (by decide)).elim
      · skip
        refine ⟨iv_in (iv_lit (l := 0) (h := 0) (by decide)) (by decide), ?_⟩
        refine ⟨fun c8 => ?_, fun c8 => ?_⟩
        · skip
          refine ⟨iv_nb (iv_lit (l := 0) (h := 0) (by decide)) (by decide), ?_⟩
          refine ⟨fun c9 => ?_, fun c9 => ?_⟩
          · skip
            exact (iv_emp (iv_ne (l := 1) (h := 0) c9 (iv_lit (l := 0) (h := 0) (by decide)) (iv_lit (l := 0) (h := 0) (by decide)) (by decide)) (by decide)).elim
          · skip
            refine ⟨fun c10 => ?_, fun c10 => ?_⟩
            · skip
              refine ⟨fun c11 => ?_, fun c11 => ?_⟩
              · skip
                exact hpost _ _ _ _ _ _ _ _ _ _ _ _ _ _ (iv_w (iv_lit (l := (-1)) (h := (-1)) (by decide)) (by decide)) (iv_lit (l := 0) (h := 0) (by decide)) k_f_land k_f_huts k_f_singers k_a_at k_a_knows k_a_climbed k_a_level k_f_begun
              · skip
                exact (iv_emp (iv_ne (l := 1) (h := 0) c11 (iv_lit (l := 0) (h := 0) (by decide)) (iv_lit (l := 0) (h := 0) (by decide)) (by decide)) (by decide)).elim
            · skip
              exact (iv_emp (iv_ne (l := 1) (h := 0) c10 (iv_lit (l := 0) (h := 0) (by decide)) (iv_lit (l := 0) (h := 0) (by decide)) (by decide)) (by decide)).elim
        · skip
          refine ⟨fun c12 => ?_, fun c12 => ?_⟩
          · skip
            refine ⟨iv_nb (iv_lit (l := 0) (h := 0) (by decide)) (by decide), ?_⟩
            refine ⟨fun c13 => ?_, fun c13 => ?_⟩
            · skip
              exact (iv_emp (iv_ne (l := 1) (h := 0) c13 (iv_lit (l := 0) (h := 0) (by decide)) (iv_lit (l := 0) (h := 0) (by decide)) (by decide)) (by decide)).elim
            · skip
              refine ⟨fun c14 => ?_, fun c14 => ?_⟩
              · skip
                refine ⟨fun c15 => ?_, fun c15 => ?_⟩
                · skip
                  exact hpost _ _ _ _ _ _ _ _ _ _ _ _ _ _ (iv_w (iv_lit (l := (-1)) (h := (-1)) (by decide)) (by decide)) (iv_lit (l := 0) (h := 0) (by decide)) k_f_land k_f_huts k_f_singers k_a_at k_a_knows k_a_climbed k_a_level k_f_begun
                · skip
                  exact (iv_emp (iv_ne (l := 1) (h := 0) c15 (iv_lit (l := 0) (h := 0) (by decide)) (iv_lit (l := 0) (h := 0) (by decide)) (by decide)) (by decide)).elim
              · skip
                exact (iv_emp (iv_ne (l := 1) (h := 0) c14 (iv_lit (l := 0) (h := 0) (by decide)) (iv_lit (l := 0) (h := 0) (by decide)) (by decide)) (by decide)).elim
          · skip
            refine ⟨iv_nb (iv_lit (l := 1) (h := 1) (by decide)) (by decide), ?_⟩
            refine ⟨fun c16 => ?_, fun c16 => ?_⟩
            · skip
              refine sp_of (a := 0) (b := 9) k_a_lands (iv_lea (l := 0) (h := 1) (r_nlt c12) (iv_leb (l := 0) (h := 2147483647) (r_nlt c8) (iv_lit (l := 0) (h := 0) (by decide)) (iv_top x1) (by decide)) (iv_sub (l := (-1)) (h := 1) (k_a_many _) (iv_lit (l := 1) (h := 1) (by decide)) (by decide)) (by decide)) (iv_lit (l := 0) (h := 0) (by decide)) (by decide +kernel) (fun r17 hr17 er17 => ?_)
              refine sp_of (a := 0) (b := 6) k_a_lands (iv_lea (l := 0) (h := 1) (r_nlt c12) (iv_leb (l := 0) (h := 2147483647) (r_nlt c8) (iv_lit (l := 0) (h := 0) (by decide)) (iv_top x1) (by decide)) (iv_sub (l := (-1)) (h := 1) (k_a_many _) (iv_lit (l := 1) (h := 1) (by decide)) (by decide)) (by decide)) (iv_lit (l := 1) (h := 1) (by decide)) (by decide +kernel) (fun r18 hr18 er18 => ?_)
              refine ⟨fun c19 => ?_, fun c19 => ?_⟩
              · skip
                exact (iv_emp (iv_eqa (l := 1) (h := 0) c19 (iv_lit (l := 1) (h := 1) (by decide)) (iv_lit (l := 0) (h := 0) (by decide)) (by decide)) (by decide)).elim
              · skip
                refine ⟨fun c20 => ?_, fun c20 => ?_⟩
                · skip
                  exact (iv_emp (iv_eqa (l := 1) (h := 0) c20 (iv_lit (l := 1) (h := 1) (by decide)) (iv_lit (l := 0) (h := 0) (by decide)) (by decide)) (by decide)).elim
                · skip
                  refine sp_deeds k_a_evenings (iv_lea (l := 0) (h := 1) (r_nlt c4) (iv_leb (l := 0) (h := 2147483647) (r_nlt c1) (iv_lit (l := 0) (h := 0) (by decide)) (iv_top x2) (by decide)) (iv_sub (l := (-1)) (h := 1) (k_a_many _) (iv_lit (l := 1) (h := 1) (by decide)) (by decide)) (by decide)) (fun r21 hr21 => ?_)
                  refine s_m_play_0 k_a_lands k_a_evenings (iv_lea (l := 0) (h := 1) (r_nlt c12) (iv_leb (l := 0) (h := 2147483647) (r_nlt c8) (iv_lit (l := 0) (h := 0) (by decide)) (iv_top x1) (by decide)) (iv_sub (l := (-1)) (h := 1) (k_a_many _) (iv_lit (l := 1) (h := 1) (by decide)) (by decide)) (by decide)) hr17 hr18 (iv_lea (l := 0) (h := 1) (r_nlt c4) (iv_leb (l := 0) (h := 2147483647) (r_nlt c1) (iv_lit (l := 0) (h := 0) (by decide)) (iv_top x2) (by decide)) (iv_sub (l := (-1)) (h := 1) (k_a_many _) (iv_lit (l := 1) (h := 1) (by decide)) (by decide)) (by decide)) k_a_at k_a_knows k_a_climbed k_a_level k_f_begun hr21 (fun r22 o23 o24 o25 o26 o27 o28 o29 o30 hr22 k_o23 k_o24 k_o25 k_o27 k_o28 => ?_)
                  exact hpost _ _ _ _ _ _ _ _ _ _ _ _ _ _ (iv_w hr22 (by decide)) (iv_lit (l := 0) (h := 0) (by decide)) (iv_lea (l := 0) (h := 1) (r_nlt c12) (iv_leb (l := 0) (h := 2147483647) (r_nlt c8) (iv_lit (l := 0) (h := 0) (by decide)) (iv_top x1) (by decide)) (iv_sub (l := (-1)) (h := 1) (k_a_many _) (iv_lit (l := 1) (h := 1) (by decide)) (by decide)) (by decide)) hr17 hr18 k_o23 k_o24 k_o25 k_o27 k_o28
            · skip
              exact (iv_emp (iv_eqa (l := 1) (h := 0) c16 (iv_lit (l := 1) (h := 1) (by decide)) (iv_lit (l := 0) (h := 0) (by decide)) (by decide)) (by decide)).elim
-- m_reach
set_option maxRecDepth 20000 in
theorem s_m_reach_92 {P11 : Int32 → Int32 → Prop} {P33 : Int32 → Int32 → Prop} {P45 : Int32 → Int32 → Prop} {a_lands : Nat → Int32} {f_land : Int32} {f_huts : Int32} {a_at : Nat → Int32} {a_snow : Nat → Int32} {x1 : Int32} {x3 : Int32} {x4 : Int32} {x5 : Int32} {y0 : Int32} {y1 : Int32} {post : Int32 → Prop} (k_a_lands : mLand a_lands) (k_f_land : iv 0 1 f_land) (k_f_huts : iv 1 9 f_huts) (k_a_at : ∀ j, iv 0 8 (a_at j)) (hx1 : iv 0 5 x1) (hx3 : iv 0 8 x3) (hx4 : iv 0 8 x4) (hx5 : iv 0 8 x5) (hy0 : iv 0 511 y0) (hy1 : iv 0 256 y1) (m11 : Int) (hm11 : m11 ≤ x3.toInt) (hP11 : ∀ (x2 : Int32) (x3 : Int32), m11 < x3.toInt → iv 0 511 x2 → iv 0 9 x3 → P11 x2 x3) (m33 : Int) (hm33 : m33 ≤ x4.toInt) (hP33 : ∀ (x2 : Int32) (x4 : Int32), m33 < x4.toInt → iv 0 511 x2 → iv 0 9 x4 → P33 x2 x4) (m45 : Int) (hm45 : m45 ≤ x5.toInt) (hP45 : ∀ (x2 : Int32) (x5 : Int32), m45 < x5.toInt → iv 0 511 x2 → iv 0 9 x5 → P45 x2 x5) (hpost : ∀ (r : Int32), iv 0 511 r → post r) : q_m_reach_92 P11 P33 P45 a_lands f_land f_huts a_at a_snow x1 x3 x4 x5 y0 y1 post := by
  intro w1 ew1
  have hw1 := iv_eq ew1 (iv_or 9 (l := 0) (h := 511) hy0 hy1 (by decide))
  intro w2 ew2
  have hw2 := iv_eq ew2 (iv_add (l := 1) (h := 9) hx5 (iv_lit (l := 1) (h := 1) (by decide)) (by decide))
  exact hP45 _ _ (ml_up hm45 (inc_lt ew2 hx5 (by decide))) hw1 (iv_w hw2 (by decide))
set_option maxRecDepth 20000 in
theorem s_m_reach_91 {P11 : Int32 → Int32 → Prop} {P33 : Int32 → Int32 → Prop} {P45 : Int32 → Int32 → Prop} {a_lands : Nat → Int32} {f_land : Int32} {f_huts : Int32} {a_at : Nat → Int32} {a_snow : Nat → Int32} {x1 : Int32} {x3 : Int32} {x4 : Int32} {x5 : Int32} {y0 : Int32} {post : Int32 → Prop} (k_a_lands : mLand a_lands) (k_f_land : iv 0 1 f_land) (k_f_huts : iv 1 9 f_huts) (k_a_at : ∀ j, iv 0 8 (a_at j)) (hx1 : iv 0 5 x1) (hx3 : iv 0 8 x3) (hx4 : iv 0 8 x4) (hx5 : iv 0 8 x5) (hy0 : iv 0 511 y0) (m11 : Int) (hm11 : m11 ≤ x3.toInt) (hP11 : ∀ (x2 : Int32) (x3 : Int32), m11 < x3.toInt → iv 0 511 x2 → iv 0 9 x3 → P11 x2 x3) (m33 : Int) (hm33 : m33 ≤ x4.toInt) (hP33 : ∀ (x2 : Int32) (x4 : Int32), m33 < x4.toInt → iv 0 511 x2 → iv 0 9 x4 → P33 x2 x4) (m45 : Int) (hm45 : m45 ≤ x5.toInt) (hP45 : ∀ (x2 : Int32) (x5 : Int32), m45 < x5.toInt → iv 0 511 x2 → iv 0 9 x5 → P45 x2 x5) (hpost : ∀ (r : Int32), iv 0 511 r → post r) : q_m_reach_91 P11 P33 P45 a_lands f_land f_huts a_at a_snow x1 x3 x4 x5 y0 post := by
  exact s_m_reach_92 k_a_lands k_f_land k_f_huts k_a_at hx1 hx3 hx4 hx5 hy0 (iv_w (iv_lit (l := 0) (h := 0) (by decide)) (by decide)) m11 hm11 hP11 m33 hm33 hP33 m45 hm45 hP45 hpost
set_option maxRecDepth 20000 in
theorem s_m_reach_45 {P11 : Int32 → Int32 → Prop} {P33 : Int32 → Int32 → Prop} {a_lands : Nat → Int32} {f_land : Int32} {f_huts : Int32} {a_at : Nat → Int32} {a_snow : Nat → Int32} {x1 : Int32} {x2 : Int32} {x3 : Int32} {x4 : Int32} {x5 : Int32} {post : Int32 → Prop} (k_a_lands : mLand a_lands) (k_f_land : iv 0 1 f_land) (k_f_huts : iv 1 9 f_huts) (k_a_at : ∀ j, iv 0 8 (a_at j)) (hx1 : iv 0 5 x1) (hx2 : iv 0 511 x2) (hx3 : iv 0 8 x3) (hx4 : iv 0 8 x4) (hx5 : iv 0 9 x5) (m11 : Int) (hm11 : m11 ≤ x3.toInt) (hP11 : ∀ (x2 : Int32) (x3 : Int32), m11 < x3.toInt → iv 0 511 x2 → iv 0 9 x3 → P11 x2 x3) (m33 : Int) (hm33 : m33 ≤ x4.toInt) (hP33 : ∀ (x2 : Int32) (x4 : Int32), m33 < x4.toInt → iv 0 511 x2 → iv 0 9 x4 → P33 x2 x4) (hpost : ∀ (r : Int32), iv 0 511 r → post r) : q_m_reach_45 P11 P33 a_lands f_land f_huts a_at a_snow x1 x2 x3 x4 x5 post := by
  intro P hP
  have loop : ∀ (n : Nat) (x2 : Int32) (x5 : Int32), (9 - x5.toInt < (n : Int)) → (iv 0 511 x2) → (iv 0 9 x5) → P x2 x5 := by
    intro n
    induction n with
    | zero => intro x2 x5 hm hx2 hx5; exact (ms0_up hm hx5).elim
    | succ n ih =>
      intro x2 x5 hm hx2 hx5
      apply hP
      refine ⟨fun c1 => ?_, fun c1 => ?_⟩
      · skip
        intro w2 ew2
        have hw2 := iv_eq ew2 (iv_add (l := 1) (h := 9) hx4 (iv_lit (l := 1) (h := 1) (by decide)) (by decide))
        exact hP33 _ _ (ml_up hm33 (inc_lt ew2 hx4 (by decide))) hx2 (iv_w hw2 (by decide))
      · skip
        refine ⟨fun c3 => ?_, fun c3 => ?_⟩
        · skip
          refine ⟨fun c4 => ?_, fun c4 => ?_⟩
          · skip
            exact s_m_reach_91 k_a_lands k_f_land k_f_huts k_a_at hx1 hx3 hx4 (iv_lta (l := 0) (h := 8) (r_nle c1) hx5 k_f_huts (by decide)) hx2 m11 hm11 hP11 m33 hm33 hP33 x5.toInt (Int.le_refl _) (fun u0 u1 hq g0 g1 => ih u0 u1 (ms_up hm hq) g0 g1) hpost
          · skip
            exact (iv_emp (iv_ne (l := 1) (h := 0) c4 (iv_lit (l := 0) (h := 0) (by decide)) (iv_lit (l := 0) (h := 0) (by decide)) (by decide)) (by decide)).elim
        · skip
          refine ⟨fun c5 => ?_, fun c5 => ?_⟩
          · skip
            exact (iv_emp (iv_eqa (l := 1) (h := 0) c5 (iv_lit (l := 1) (h := 1) (by decide)) (iv_lit (l := 0) (h := 0) (by decide)) (by decide)) (by decide)).elim
          · skip
            refine sp_of (a := 0) (b := 9) k_a_lands k_f_land (iv_add (l := 51) (h := 131) (iv_add (l := 51) (h := 123) (iv_lit (l := 51) (h := 51) (by decide)) (iv_mul (l := 0) (h := 72) (iv_lit (l := 9) (h := 9) (by decide)) hx4 (by decide)) (by decide)) (iv_lta (l := 0) (h := 8) (r_nle c1) hx5 k_f_huts (by decide)) (by decide)) (by decide +kernel) (fun r6 hr6 er6 => ?_)
            refine ⟨fun c7 => ?_, fun c7 => ?_⟩
            · skip
              exact s_m_reach_91 k_a_lands k_f_land k_f_huts k_a_at hx1 hx3 hx4 (iv_lta (l := 0) (h := 8) (r_nle c1) hx5 k_f_huts (by decide)) hx2 m11 hm11 hP11 m33 hm33 hP33 x5.toInt (Int.le_refl _) (fun u0 u1 hq g0 g1 => ih u0 u1 (ms_up hm hq) g0 g1) hpost
            · skip
              refine ⟨iv_in (iv_lta (l := 0) (h := 8) (r_nle c1) hx5 k_f_huts (by decide)) (by decide), ?_⟩
              refine sp_of (a := 0) (b := 9) k_a_lands k_f_land (iv_lit (l := 5) (h := 5) (by decide)) (by decide +kernel) (fun r8 hr8 er8 => ?_)
              refine ⟨fun c9 => ?_, fun c9 => ?_⟩
              · skip
                refine ⟨fun c10 => ?_, fun c10 => ?_⟩
                · skip
                  exact (iv_emp (iv_ne (l := 1) (h := 0) c10 (iv_lit (l := 0) (h := 0) (by decide)) (iv_lit (l := 0) (h := 0) (by decide)) (by decide)) (by decide)).elim
                · skip
                  exact s_m_reach_92 k_a_lands k_f_land k_f_huts k_a_at hx1 hx3 hx4 (iv_lta (l := 0) (h := 8) (r_nle c1) hx5 k_f_huts (by decide)) hx2 (iv_w (iv_shl1 (l := 1) (h := 256) (iv_lit (l := 1) (h := 1) (by decide)) (iv_lta (l := 0) (h := 8) (r_nle c1) hx5 k_f_huts (by decide)) (by decide)) (by decide)) m11 hm11 hP11 m33 hm33 hP33 x5.toInt (Int.le_refl _) (fun u0 u1 hq g0 g1 => ih u0 u1 (ms_up hm hq) g0 g1) hpost
              · skip
                refine ⟨fun c11 => ?_, fun c11 => ?_⟩
                · skip
                  exact s_m_reach_91 k_a_lands k_f_land k_f_huts k_a_at hx1 hx3 hx4 (iv_lta (l := 0) (h := 8) (r_nle c1) hx5 k_f_huts (by decide)) hx2 m11 hm11 hP11 m33 hm33 hP33 x5.toInt (Int.le_refl _) (fun u0 u1 hq g0 g1 => ih u0 u1 (ms_up hm hq) g0 g1) hpost
                · skip
                  exact (iv_emp (iv_eqa (l := 1) (h := 0) c11 (iv_lit (l := 1) (h := 1) (by decide)) (iv_lit (l := 0) (h := 0) (by decide)) (by decide)) (by decide)).elim
  exact loop _ _ _ (ms_init_up _ _) hx2 hx5
set_option maxRecDepth 20000 in
theorem s_m_reach_33 {P11 : Int32 → Int32 → Prop} {a_lands : Nat → Int32} {f_land : Int32} {f_huts : Int32} {a_at : Nat → Int32} {a_snow : Nat → Int32} {x1 : Int32} {x2 : Int32} {x3 : Int32} {x4 : Int32} {post : Int32 → Prop} (k_a_lands : mLand a_lands) (k_f_land : iv 0 1 f_land) (k_f_huts : iv 0 9 f_huts) (k_a_at : ∀ j, iv 0 8 (a_at j)) (hx1 : iv 0 5 x1) (hx2 : iv 0 511 x2) (hx3 : iv 0 8 x3) (hx4 : iv 0 9 x4) (m11 : Int) (hm11 : m11 ≤ x3.toInt) (hP11 : ∀ (x2 : Int32) (x3 : Int32), m11 < x3.toInt → iv 0 511 x2 → iv 0 9 x3 → P11 x2 x3) (hpost : ∀ (r : Int32), iv 0 511 r → post r) : q_m_reach_33 P11 a_lands f_land f_huts a_at a_snow x1 x2 x3 x4 post := by
  intro P hP
  have loop : ∀ (n : Nat) (x2 : Int32) (x4 : Int32), (9 - x4.toInt < (n : Int)) → (iv 0 511 x2) → (iv 0 9 x4) → P x2 x4 := by
    intro n
    induction n with
    | zero => intro x2 x4 hm hx2 hx4; exact (ms0_up hm hx4).elim
    | succ n ih =>
      intro x2 x4 hm hx2 hx4
      apply hP
      refine ⟨fun c1 => ?_, fun c1 => ?_⟩
      · skip
        intro w2 ew2
        have hw2 := iv_eq ew2 (iv_add (l := 1) (h := 9) hx3 (iv_lit (l := 1) (h := 1) (by decide)) (by decide))
        exact hP11 _ _ (ml_up hm11 (inc_lt ew2 hx3 (by decide))) hx2 (iv_w hw2 (by decide))
      · skip
        exact s_m_reach_45 k_a_lands k_f_land (iv_ltb (l := 1) (h := 9) (r_nle c1) hx4 k_f_huts (by decide)) k_a_at hx1 hx2 hx3 (iv_lta (l := 0) (h := 8) (r_nle c1) hx4 k_f_huts (by decide)) (iv_w (iv_lit (l := 0) (h := 0) (by decide)) (by decide)) m11 hm11 hP11 x4.toInt (Int.le_refl _) (fun u0 u1 hq g0 g1 => ih u0 u1 (ms_up hm hq) g0 g1) hpost
  exact loop _ _ _ (ms_init_up _ _) hx2 hx4
set_option maxRecDepth 20000 in
theorem s_m_reach_11 {a_lands : Nat → Int32} {f_land : Int32} {f_huts : Int32} {a_at : Nat → Int32} {a_snow : Nat → Int32} {x1 : Int32} {x2 : Int32} {x3 : Int32} {post : Int32 → Prop} (k_a_lands : mLand a_lands) (k_f_land : iv 0 1 f_land) (k_f_huts : iv 0 9 f_huts) (k_a_at : ∀ j, iv 0 8 (a_at j)) (hx1 : iv 0 5 x1) (hx2 : iv 0 511 x2) (hx3 : iv 0 9 x3) (hpost : ∀ (r : Int32), iv 0 511 r → post r) : q_m_reach_11 a_lands f_land f_huts a_at a_snow x1 x2 x3 post := by
  intro P hP
  have loop : ∀ (n : Nat) (x2 : Int32) (x3 : Int32), (9 - x3.toInt < (n : Int)) → (iv 0 511 x2) → (iv 0 9 x3) → P x2 x3 := by
    intro n
    induction n with
    | zero => intro x2 x3 hm hx2 hx3; exact (ms0_up hm hx3).elim
    | succ n ih =>
      intro x2 x3 hm hx2 hx3
      apply hP
      refine ⟨fun c1 => ?_, fun c1 => ?_⟩
      · skip
        exact hpost _ hx2
      · skip
        refine ⟨iv_in hx1 (by decide), ?_⟩
        refine ⟨iv_in (k_a_at _) (by decide), ?_⟩
        refine sp_of (a := 0) (b := 9) k_a_lands k_f_land (iv_lit (l := 5) (h := 5) (by decide)) (by decide +kernel) (fun r2 hr2 er2 => ?_)
        refine ⟨fun c3 => ?_, fun c3 => ?_⟩
        · skip
          refine ⟨fun c4 => ?_, fun c4 => ?_⟩
          · skip
            exact (iv_emp (iv_ne (l := 1) (h := 0) c4 (iv_lit (l := 0) (h := 0) (by decide)) (iv_lit (l := 0) (h := 0) (by decide)) (by decide)) (by decide)).elim
          · skip
            exact s_m_reach_33 k_a_lands k_f_land k_f_huts k_a_at hx1 hx2 (iv_lta (l := 0) (h := 8) (r_nle c1) hx3 (iv_lit (l := 9) (h := 9) (by decide)) (by decide)) (iv_w (iv_lit (l := 0) (h := 0) (by decide)) (by decide)) x3.toInt (Int.le_refl _) (fun u0 u1 hq g0 g1 => ih u0 u1 (ms_up hm hq) g0 g1) hpost
        · skip
          refine ⟨fun c5 => ?_, fun c5 => ?_⟩
          · skip
            exact hpost _ hx2
          · skip
            exact (iv_emp (iv_eqa (l := 1) (h := 0) c5 (iv_lit (l := 1) (h := 1) (by decide)) (iv_lit (l := 0) (h := 0) (by decide)) (by decide)) (by decide)).elim
  exact loop _ _ _ (ms_init_up _ _) hx2 hx3
set_option maxRecDepth 20000 in
theorem s_m_reach_0 {a_lands : Nat → Int32} {f_land : Int32} {f_huts : Int32} {a_at : Nat → Int32} {a_snow : Nat → Int32} {x1 : Int32} {post : Int32 → Prop} (k_a_lands : mLand a_lands) (k_f_land : iv 0 1 f_land) (k_f_huts : iv 0 9 f_huts) (k_a_at : ∀ j, iv 0 8 (a_at j)) (hx1 : iv 0 5 x1) (hpost : ∀ (r : Int32), iv 0 511 r → post r) : q_m_reach_0 a_lands f_land f_huts a_at a_snow x1 post := by
  refine ⟨iv_in hx1 (by decide), ?_⟩
  intro w1 ew1
  have hw1 := iv_eq ew1 (iv_shl1 (l := 1) (h := 256) (iv_lit (l := 1) (h := 1) (by decide)) (k_a_at _) (by decide))
  exact s_m_reach_11 k_a_lands k_f_land k_f_huts k_a_at hx1 (iv_w hw1 (by decide)) (iv_w (iv_lit (l := 0) (h := 0) (by decide)) (by decide)) hpost
-- m_isDone
set_option maxRecDepth 20000 in
theorem s_m_isDone_88 {P2 : Int32 → Prop} {P44 : Int32 → Prop} {a_lands : Nat → Int32} {f_land : Int32} {f_huts : Int32} {f_singers : Int32} {a_at : Nat → Int32} {a_knows : Nat → Int32} {a_snow : Nat → Int32} {a_level : Nat → Int32} {x1 : Int32} {x2 : Int32} {x3 : Int32} {x4 : Int32} {post : Int32 → Prop} (k_a_lands : mLand a_lands) (k_f_land : iv 0 1 f_land) (k_f_huts : iv 1 9 f_huts) (k_f_singers : iv 1 6 f_singers) (k_a_at : ∀ j, iv 0 8 (a_at j)) (k_a_knows : ∀ j, iv 0 31 (a_knows j)) (k_a_level : ∀ j, iv (-9) 108 (a_level j)) (hx1 : iv 0 4 x1) (hx2 : iv 0 5 x2) (hx3 : iv 0 511 x3) (hx4 : iv 0 8 x4) (m2 : Int) (hm2 : m2 ≤ x2.toInt) (hP2 : ∀ (x2 : Int32), m2 < x2.toInt → iv 0 6 x2 → P2 x2) (m44 : Int) (hm44 : m44 ≤ x4.toInt) (hP44 : ∀ (x4 : Int32), m44 < x4.toInt → iv 0 9 x4 → P44 x4) (hpost : ∀ (r : Int32), iv 0 1 r → post r) : q_m_isDone_88 P2 P44 a_lands f_land f_huts f_singers a_at a_knows a_snow a_level x1 x2 x3 x4 post := by
  intro w1 ew1
  have hw1 := iv_eq ew1 (iv_add (l := 1) (h := 9) hx4 (iv_lit (l := 1) (h := 1) (by decide)) (by decide))
  exact hP44 _ (ml_up hm44 (inc_lt ew1 hx4 (by decide))) (iv_w hw1 (by decide))
set_option maxRecDepth 20000 in
theorem s_m_isDone_44 {P2 : Int32 → Prop} {a_lands : Nat → Int32} {f_land : Int32} {f_huts : Int32} {f_singers : Int32} {a_at : Nat → Int32} {a_knows : Nat → Int32} {a_snow : Nat → Int32} {a_level : Nat → Int32} {x1 : Int32} {x2 : Int32} {x3 : Int32} {x4 : Int32} {post : Int32 → Prop} (k_a_lands : mLand a_lands) (k_f_land : iv 0 1 f_land) (k_f_huts : iv 0 9 f_huts) (k_f_singers : iv 1 6 f_singers) (k_a_at : ∀ j, iv 0 8 (a_at j)) (k_a_knows : ∀ j, iv 0 31 (a_knows j)) (k_a_level : ∀ j, iv (-9) 108 (a_level j)) (hx1 : iv 0 4 x1) (hx2 : iv 0 5 x2) (hx3 : iv 0 511 x3) (hx4 : iv 0 9 x4) (m2 : Int) (hm2 : m2 ≤ x2.toInt) (hP2 : ∀ (x2 : Int32), m2 < x2.toInt → iv 0 6 x2 → P2 x2) (hpost : ∀ (r : Int32), iv 0 1 r → post r) : q_m_isDone_44 P2 a_lands f_land f_huts f_singers a_at a_knows a_snow a_level x1 x2 x3 x4 post := by
  intro P hP
  have loop : ∀ (n : Nat) (x4 : Int32), (9 - x4.toInt < (n : Int)) → (iv 0 9 x4) → P x4 := by
    intro n
    induction n with
    | zero => intro x4 hm hx4; exact (ms0_up hm hx4).elim
    | succ n ih =>
      intro x4 hm hx4
      apply hP
      refine ⟨fun c1 => ?_, fun c1 => ?_⟩
      · skip
        intro w2 ew2
        have hw2 := iv_eq ew2 (iv_add (l := 1) (h := 6) hx2 (iv_lit (l := 1) (h := 1) (by decide)) (by decide))
        exact hP2 _ (ml_up hm2 (inc_lt ew2 hx2 (by decide))) (iv_w hw2 (by decide))
      · skip
        refine ⟨fun c3 => ?_, fun c3 => ?_⟩
        · skip
          refine ⟨fun c4 => ?_, fun c4 => ?_⟩
          · skip
            exact s_m_isDone_88 k_a_lands k_f_land (iv_ltb (l := 1) (h := 9) (r_nle c1) hx4 k_f_huts (by decide)) k_f_singers k_a_at k_a_knows k_a_level hx1 hx2 hx3 (iv_lta (l := 0) (h := 8) (r_nle c1) hx4 k_f_huts (by decide)) m2 hm2 hP2 x4.toInt (Int.le_refl _) (fun u0 hq g0 => ih u0 (ms_up hm hq) g0) hpost
          · skip
            exact (iv_emp (iv_ne (l := 1) (h := 0) c4 (iv_lit (l := 0) (h := 0) (by decide)) (iv_lit (l := 0) (h := 0) (by decide)) (by decide)) (by decide)).elim
        · skip
          refine ⟨fun c5 => ?_, fun c5 => ?_⟩
          · skip
            exact (iv_emp (iv_eqa (l := 1) (h := 0) c5 (iv_lit (l := 1) (h := 1) (by decide)) (iv_lit (l := 0) (h := 0) (by decide)) (by decide)) (by decide)).elim
          · skip
            refine sp_of (a := 0) (b := 99) k_a_lands k_f_land (iv_add (l := 7) (h := 15) (iv_lit (l := 7) (h := 7) (by decide)) (iv_lta (l := 0) (h := 8) (r_nle c1) hx4 k_f_huts (by decide)) (by decide)) (by decide +kernel) (fun r6 hr6 er6 => ?_)
            refine sp_of (a := 0) (b := 9) k_a_lands k_f_land (iv_add (l := 31) (h := 36) (iv_lit (l := 31) (h := 31) (by decide)) hx2 (by decide)) (by decide +kernel) (fun r7 hr7 er7 => ?_)
            refine ⟨iv_in hx1 (by decide), ?_⟩
            refine ⟨fun c8 => ?_, fun c8 => ?_⟩
            · skip
              exact s_m_isDone_88 k_a_lands k_f_land (iv_ltb (l := 1) (h := 9) (r_nle c1) hx4 k_f_huts (by decide)) k_f_singers k_a_at k_a_knows k_a_level hx1 hx2 hx3 (iv_lta (l := 0) (h := 8) (r_nle c1) hx4 k_f_huts (by decide)) m2 hm2 hP2 x4.toInt (Int.le_refl _) (fun u0 hq g0 => ih u0 (ms_up hm hq) g0) hpost
            · skip
              exact hpost _ (iv_w (iv_lit (l := 0) (h := 0) (by decide)) (by decide))
  exact loop _ _ (ms_init_up _ _) hx4
set_option maxRecDepth 20000 in
theorem s_m_isDone_40 {P2 : Int32 → Prop} {a_lands : Nat → Int32} {f_land : Int32} {f_huts : Int32} {f_singers : Int32} {a_at : Nat → Int32} {a_knows : Nat → Int32} {a_snow : Nat → Int32} {a_level : Nat → Int32} {x1 : Int32} {x2 : Int32} {y0 : Int32} {post : Int32 → Prop} (k_a_lands : mLand a_lands) (k_f_land : iv 0 1 f_land) (k_f_huts : iv 0 9 f_huts) (k_f_singers : iv 1 6 f_singers) (k_a_at : ∀ j, iv 0 8 (a_at j)) (k_a_knows : ∀ j, iv 0 31 (a_knows j)) (k_a_level : ∀ j, iv (-9) 108 (a_level j)) (hx1 : iv 0 4 x1) (hx2 : iv 0 5 x2) (hy0 : iv 0 511 y0) (m2 : Int) (hm2 : m2 ≤ x2.toInt) (hP2 : ∀ (x2 : Int32), m2 < x2.toInt → iv 0 6 x2 → P2 x2) (hpost : ∀ (r : Int32), iv 0 1 r → post r) : q_m_isDone_40 P2 a_lands f_land f_huts f_singers a_at a_knows a_snow a_level x1 x2 y0 post := by
  exact s_m_isDone_44 k_a_lands k_f_land k_f_huts k_f_singers k_a_at k_a_knows k_a_level hx1 hx2 hy0 (iv_w (iv_lit (l := 0) (h := 0) (by decide)) (by decide)) m2 hm2 hP2 hpost
set_option maxRecDepth 20000 in
theorem s_m_isDone_2 {a_lands : Nat → Int32} {f_land : Int32} {f_huts : Int32} {f_singers : Int32} {a_at : Nat → Int32} {a_knows : Nat → Int32} {a_snow : Nat → Int32} {a_level : Nat → Int32} {x1 : Int32} {x2 : Int32} {post : Int32 → Prop} (k_a_lands : mLand a_lands) (k_f_land : iv 0 1 f_land) (k_f_huts : iv 0 9 f_huts) (k_f_singers : iv 0 6 f_singers) (k_a_at : ∀ j, iv 0 8 (a_at j)) (k_a_knows : ∀ j, iv 0 31 (a_knows j)) (k_a_level : ∀ j, iv (-9) 108 (a_level j)) (hx1 : iv 0 4 x1) (hx2 : iv 0 6 x2) (hpost : ∀ (r : Int32), iv 0 1 r → post r) : q_m_isDone_2 a_lands f_land f_huts f_singers a_at a_knows a_snow a_level x1 x2 post := by
  intro P hP
  have loop : ∀ (n : Nat) (x2 : Int32), (6 - x2.toInt < (n : Int)) → (iv 0 6 x2) → P x2 := by
    intro n
    induction n with
    | zero => intro x2 hm hx2; exact (ms0_up hm hx2).elim
    | succ n ih =>
      intro x2 hm hx2
      apply hP
      refine ⟨fun c1 => ?_, fun c1 => ?_⟩
      · skip
        exact hpost _ (iv_w (iv_lit (l := 1) (h := 1) (by decide)) (by decide))
      · skip
        refine ⟨iv_in (iv_lta (l := 0) (h := 5) (r_nle c1) hx2 k_f_singers (by decide)) (by decide), ?_⟩
        refine ⟨fun c2 => ?_, fun c2 => ?_⟩
        · skip
          refine ⟨fun c3 => ?_, fun c3 => ?_⟩
          · skip
            exact s_m_isDone_40 k_a_lands k_f_land k_f_huts (iv_ltb (l := 1) (h := 6) (r_nle c1) hx2 k_f_singers (by decide)) k_a_at k_a_knows k_a_level hx1 (iv_lta (l := 0) (h := 5) (r_nle c1) hx2 k_f_singers (by decide)) (iv_w (iv_lit (l := 0) (h := 0) (by decide)) (by decide)) x2.toInt (Int.le_refl _) (fun u0 hq g0 => ih u0 (ms_up hm hq) g0) hpost
          · skip
            exact (iv_emp (iv_ne (l := 1) (h := 0) c3 (iv_lit (l := 0) (h := 0) (by decide)) (iv_lit (l := 0) (h := 0) (by decide)) (by decide)) (by decide)).elim
        · skip
          refine ⟨fun c4 => ?_, fun c4 => ?_⟩
          · skip
            exact (iv_emp (iv_eqa (l := 1) (h := 0) c4 (iv_lit (l := 1) (h := 1) (by decide)) (iv_lit (l := 0) (h := 0) (by decide)) (by decide)) (by decide)).elim
          · skip
            refine s_m_reach_0 k_a_lands k_f_land k_f_huts k_a_at (iv_lta (l := 0) (h := 5) (r_nle c1) hx2 k_f_singers (by decide)) (fun r5 hr5 => ?_)
            refine sp_of (a := 0) (b := 511) k_a_lands k_f_land (iv_lit (l := 3) (h := 3) (by decide)) (by decide +kernel) (fun r6 hr6 er6 => ?_)
            exact s_m_isDone_40 k_a_lands k_f_land k_f_huts (iv_ltb (l := 1) (h := 6) (r_nle c1) hx2 k_f_singers (by decide)) k_a_at k_a_knows k_a_level hx1 (iv_lta (l := 0) (h := 5) (r_nle c1) hx2 k_f_singers (by decide)) (iv_andl (l := 0) (h := 511) hr5 (by decide)) x2.toInt (Int.le_refl _) (fun u0 hq g0 => ih u0 (ms_up hm hq) g0) hpost
  exact loop _ _ (ms_init_up _ _) hx2
set_option maxRecDepth 20000 in
theorem s_m_isDone_0 {a_lands : Nat → Int32} {f_land : Int32} {f_huts : Int32} {f_singers : Int32} {a_at : Nat → Int32} {a_knows : Nat → Int32} {a_snow : Nat → Int32} {a_level : Nat → Int32} {x1 : Int32} {post : Int32 → Prop} (k_a_lands : mLand a_lands) (k_f_land : iv 0 1 f_land) (k_f_huts : iv 0 9 f_huts) (k_f_singers : iv 0 6 f_singers) (k_a_at : ∀ j, iv 0 8 (a_at j)) (k_a_knows : ∀ j, iv 0 31 (a_knows j)) (k_a_level : ∀ j, iv (-9) 108 (a_level j)) (hx1 : iv 0 4 x1) (hpost : ∀ (r : Int32), iv 0 1 r → post r) : q_m_isDone_0 a_lands f_land f_huts f_singers a_at a_knows a_snow a_level x1 post := by
  exact s_m_isDone_2 k_a_lands k_f_land k_f_huts k_f_singers k_a_at k_a_knows k_a_level hx1 (iv_w (iv_lit (l := 0) (h := 0) (by decide)) (by decide)) hpost
-- m_doneFor
set_option maxRecDepth 20000 in
theorem s_m_doneFor_36 {P4 : Int32 → Int32 → Prop} {a_lands : Nat → Int32} {f_land : Int32} {f_huts : Int32} {f_singers : Int32} {a_at : Nat → Int32} {a_knows : Nat → Int32} {a_snow : Nat → Int32} {a_level : Nat → Int32} {f_begun : Int32} {x2 : Int32} {y0 : Int32} {y1 : Int32} {post : Int32 → Prop} (k_a_lands : mLand a_lands) (k_f_land : iv 0 1 f_land) (k_f_huts : iv 0 9 f_huts) (k_f_singers : iv 0 6 f_singers) (k_a_at : ∀ j, iv 0 8 (a_at j)) (k_a_knows : ∀ j, iv 0 31 (a_knows j)) (k_a_level : ∀ j, iv (-9) 108 (a_level j)) (k_f_begun : iv 0 31 f_begun) (hx2 : iv 0 4 x2) (hy0 : iv 0 31 y0) (hy1 : iv 0 16 y1) (m4 : Int) (hm4 : m4 ≤ x2.toInt) (hP4 : ∀ (x1 : Int32) (x2 : Int32), m4 < x2.toInt → iv 0 31 x1 → iv 0 5 x2 → P4 x1 x2) (hpost : ∀ (r : Int32), iv 0 31 r → post r) : q_m_doneFor_36 P4 a_lands f_land f_huts f_singers a_at a_knows a_snow a_level f_begun x2 y0 y1 post := by
  intro w1 ew1
  have hw1 := iv_eq ew1 (iv_or 5 (l := 0) (h := 31) hy0 hy1 (by decide))
  intro w2 ew2
  have hw2 := iv_eq ew2 (iv_add (l := 1) (h := 5) hx2 (iv_lit (l := 1) (h := 1) (by decide)) (by decide))
  exact hP4 _ _ (ml_up hm4 (inc_lt ew2 hx2 (by decide))) hw1 (iv_w hw2 (by decide))
set_option maxRecDepth 20000 in
theorem s_m_doneFor_35 {P4 : Int32 → Int32 → Prop} {a_lands : Nat → Int32} {f_land : Int32} {f_huts : Int32} {f_singers : Int32} {a_at : Nat → Int32} {a_knows : Nat → Int32} {a_snow : Nat → Int32} {a_level : Nat → Int32} {f_begun : Int32} {x2 : Int32} {y0 : Int32} {post : Int32 → Prop} (k_a_lands : mLand a_lands) (k_f_land : iv 0 1 f_land) (k_f_huts : iv 0 9 f_huts) (k_f_singers : iv 0 6 f_singers) (k_a_at : ∀ j, iv 0 8 (a_at j)) (k_a_knows : ∀ j, iv 0 31 (a_knows j)) (k_a_level : ∀ j, iv (-9) 108 (a_level j)) (k_f_begun : iv 0 31 f_begun) (hx2 : iv 0 4 x2) (hy0 : iv 0 31 y0) (m4 : Int) (hm4 : m4 ≤ x2.toInt) (hP4 : ∀ (x1 : Int32) (x2 : Int32), m4 < x2.toInt → iv 0 31 x1 → iv 0 5 x2 → P4 x1 x2) (hpost : ∀ (r : Int32), iv 0 31 r → post r) : q_m_doneFor_35 P4 a_lands f_land f_huts f_singers a_at a_knows a_snow a_level f_begun x2 y0 post := by
  exact s_m_doneFor_36 k_a_lands k_f_land k_f_huts k_f_singers k_a_at k_a_knows k_a_level k_f_begun hx2 hy0 (iv_w (iv_lit (l := 0) (h := 0) (by decide)) (by decide)) m4 hm4 hP4 hpost
set_option maxRecDepth 20000 in
theorem s_m_doneFor_4 {a_lands : Nat → Int32} {f_land : Int32} {f_huts : Int32} {f_singers : Int32} {a_at : Nat → Int32} {a_knows : Nat → Int32} {a_snow : Nat → Int32} {a_level : Nat → Int32} {f_begun : Int32} {x1 : Int32} {x2 : Int32} {post : Int32 → Prop} (k_a_lands : mLand a_lands) (k_f_land : iv 0 1 f_land) (k_f_huts : iv 0 9 f_huts) (k_f_singers : iv 0 6 f_singers) (k_a_at : ∀ j, iv 0 8 (a_at j)) (k_a_knows : ∀ j, iv 0 31 (a_knows j)) (k_a_level : ∀ j, iv (-9) 108 (a_level j)) (k_f_begun : iv 0 31 f_begun) (hx1 : iv 0 31 x1) (hx2 : iv 0 5 x2) (hpost : ∀ (r : Int32), iv 0 31 r → post r) : q_m_doneFor_4 a_lands f_land f_huts f_singers a_at a_knows a_snow a_level f_begun x1 x2 post := by
  intro P hP
  have loop : ∀ (n : Nat) (x1 : Int32) (x2 : Int32), (5 - x2.toInt < (n : Int)) → (iv 0 31 x1) → (iv 0 5 x2) → P x1 x2 := by
    intro n
    induction n with
    | zero => intro x1 x2 hm hx1 hx2; exact (ms0_up hm hx2).elim
    | succ n ih =>
      intro x1 x2 hm hx1 hx2
      apply hP
      refine ⟨fun c1 => ?_, fun c1 => ?_⟩
      · skip
        exact hpost _ hx1
      · skip
        refine ⟨fun c2 => ?_, fun c2 => ?_⟩
        · skip
          refine ⟨fun c3 => ?_, fun c3 => ?_⟩
          · skip
            exact s_m_doneFor_35 k_a_lands k_f_land k_f_huts k_f_singers k_a_at k_a_knows k_a_level k_f_begun (iv_lta (l := 0) (h := 4) (r_nle c1) hx2 (iv_lit (l := 5) (h := 5) (by decide)) (by decide)) hx1 x2.toInt (Int.le_refl _) (fun u0 u1 hq g0 g1 => ih u0 u1 (ms_up hm hq) g0 g1) hpost
          · skip
            exact (iv_emp (iv_ne (l := 1) (h := 0) c3 (iv_lit (l := 0) (h := 0) (by decide)) (iv_lit (l := 0) (h := 0) (by decide)) (by decide)) (by decide)).elim
        · skip
          refine ⟨fun c4 => ?_, fun c4 => ?_⟩
          · skip
            exact (iv_emp (iv_eqa (l := 1) (h := 0) c4 (iv_lit (l := 1) (h := 1) (by decide)) (iv_lit (l := 0) (h := 0) (by decide)) (by decide)) (by decide)).elim
          · skip
            refine s_m_isDone_0 k_a_lands k_f_land k_f_huts k_f_singers k_a_at k_a_knows k_a_level (iv_lta (l := 0) (h := 4) (r_nle c1) hx2 (iv_lit (l := 5) (h := 5) (by decide)) (by decide)) (fun r5 hr5 => ?_)
            refine ⟨fun c6 => ?_, fun c6 => ?_⟩
            · skip
              exact s_m_doneFor_35 k_a_lands k_f_land k_f_huts k_f_singers k_a_at k_a_knows k_a_level k_f_begun (iv_lta (l := 0) (h := 4) (r_nle c1) hx2 (iv_lit (l := 5) (h := 5) (by decide)) (by decide)) hx1 x2.toInt (Int.le_refl _) (fun u0 u1 hq g0 g1 => ih u0 u1 (ms_up hm hq) g0 g1) hpost
            · skip
              exact s_m_doneFor_36 k_a_lands k_f_land k_f_huts k_f_singers k_a_at k_a_knows k_a_level k_f_begun (iv_lta (l := 0) (h := 4) (r_nle c1) hx2 (iv_lit (l := 5) (h := 5) (by decide)) (by decide)) hx1 (iv_w (iv_shl1 (l := 1) (h := 16) (iv_lit (l := 1) (h := 1) (by decide)) (iv_lta (l := 0) (h := 4) (r_nle c1) hx2 (iv_lit (l := 5) (h := 5) (by decide)) (by decide)) (by decide)) (by decide)) x2.toInt (Int.le_refl _) (fun u0 u1 hq g0 g1 => ih u0 u1 (ms_up hm hq) g0 g1) hpost
  exact loop _ _ _ (ms_init_up _ _) hx1 hx2
set_option maxRecDepth 20000 in
theorem s_m_doneFor_0 {a_lands : Nat → Int32} {f_land : Int32} {f_huts : Int32} {f_singers : Int32} {a_at : Nat → Int32} {a_knows : Nat → Int32} {a_snow : Nat → Int32} {a_level : Nat → Int32} {f_begun : Int32} {post : Int32 → Prop} (k_a_lands : mLand a_lands) (k_f_land : iv 0 1 f_land) (k_f_huts : iv 0 9 f_huts) (k_f_singers : iv 0 6 f_singers) (k_a_at : ∀ j, iv 0 8 (a_at j)) (k_a_knows : ∀ j, iv 0 31 (a_knows j)) (k_a_level : ∀ j, iv (-9) 108 (a_level j)) (k_f_begun : iv 0 31 f_begun) (hpost : ∀ (r : Int32), iv 0 31 r → post r) : q_m_doneFor_0 a_lands f_land f_huts f_singers a_at a_knows a_snow a_level f_begun post := by
  exact s_m_doneFor_4 k_a_lands k_f_land k_f_huts k_f_singers k_a_at k_a_knows k_a_level k_f_begun (iv_w (iv_lit (l := 0) (h := 0) (by decide)) (by decide)) (iv_w (iv_lit (l := 0) (h := 0) (by decide)) (by decide)) hpost
-- m_fame
set_option maxRecDepth 20000 in
theorem s_m_fame_31 {P4 : Int32 → Int32 → Prop} {f_singers : Int32} {a_knows : Nat → Int32} {x1 : Int32} {x3 : Int32} {y0 : Int32} {y1 : Int32} {post : Int32 → Prop} (k_f_singers : iv 1 6 f_singers) (k_a_knows : ∀ j, iv 0 31 (a_knows j)) (hx1 : iv 0 4 x1) (hx3 : iv 0 5 x3) (hy1 : iv 0 1 y1) (m4 : Int) (hm4 : m4 ≤ x3.toInt) (hP4 : ∀ (x2 : Int32) (x3 : Int32), m4 < x3.toInt → iv 0 6 x3 → P4 x2 x3) (hpost : ∀ (r : Int32), post r) : q_m_fame_31 P4 f_singers a_knows x1 x3 y0 y1 post := by
  intro w1 ew1
  intro w2 ew2
  have hw2 := iv_eq ew2 (iv_add (l := 1) (h := 6) hx3 (iv_lit (l := 1) (h := 1) (by decide)) (by decide))
  exact hP4 _ _ (ml_up hm4 (inc_lt ew2 hx3 (by decide))) (iv_w hw2 (by decide))
set_option maxRecDepth 20000 in
theorem s_m_fame_4 {f_singers : Int32} {a_knows : Nat → Int32} {x1 : Int32} {x2 : Int32} {x3 : Int32} {post : Int32 → Prop} (k_f_singers : iv 0 6 f_singers) (k_a_knows : ∀ j, iv 0 31 (a_knows j)) (hx1 : iv 0 4 x1) (hx3 : iv 0 6 x3) (hpost : ∀ (r : Int32), post r) : q_m_fame_4 f_singers a_knows x1 x2 x3 post := by
  intro P hP
  have loop : ∀ (n : Nat) (x2 : Int32) (x3 : Int32), (6 - x3.toInt < (n : Int)) → (iv 0 6 x3) → P x2 x3 := by
    intro n
    induction n with
    | zero => intro x2 x3 hm hx3; exact (ms0_up hm hx3).elim
    | succ n ih =>
      intro x2 x3 hm hx3
      apply hP
      refine ⟨fun c1 => ?_, fun c1 => ?_⟩
      · skip
        exact hpost _
      · skip
        refine ⟨iv_in (iv_lta (l := 0) (h := 5) (r_nle c1) hx3 k_f_singers (by decide)) (by decide), ?_⟩
        refine ⟨fun c2 => ?_, fun c2 => ?_⟩
        · skip
          refine ⟨fun c3 => ?_, fun c3 => ?_⟩
          · skip
            exact s_m_fame_31 (iv_ltb (l := 1) (h := 6) (r_nle c1) hx3 k_f_singers (by decide)) k_a_knows hx1 (iv_lta (l := 0) (h := 5) (r_nle c1) hx3 k_f_singers (by decide)) (iv_w (iv_lit (l := 0) (h := 0) (by decide)) (by decide)) x3.toInt (Int.le_refl _) (fun u0 u1 hq g0 => ih u0 u1 (ms_up hm hq) g0) hpost
          · skip
            exact (iv_emp (iv_ne (l := 1) (h := 0) c3 (iv_lit (l := 0) (h := 0) (by decide)) (iv_lit (l := 0) (h := 0) (by decide)) (by decide)) (by decide)).elim
        · skip
          refine ⟨fun c4 => ?_, fun c4 => ?_⟩
          · skip
            exact (iv_emp (iv_eqa (l := 1) (h := 0) c4 (iv_lit (l := 1) (h := 1) (by decide)) (iv_lit (l := 0) (h := 0) (by decide)) (by decide)) (by decide)).elim
          · skip
            exact s_m_fame_31 (iv_ltb (l := 1) (h := 6) (r_nle c1) hx3 k_f_singers (by decide)) k_a_knows hx1 (iv_lta (l := 0) (h := 5) (r_nle c1) hx3 k_f_singers (by decide)) (iv_w (iv_lit (l := 1) (h := 1) (by decide)) (by decide)) x3.toInt (Int.le_refl _) (fun u0 u1 hq g0 => ih u0 u1 (ms_up hm hq) g0) hpost
  exact loop _ _ _ (ms_init_up _ _) hx3
set_option maxRecDepth 20000 in
theorem s_m_fame_0 {f_singers : Int32} {a_knows : Nat → Int32} {x1 : Int32} {post : Int32 → Prop} (k_f_singers : iv 0 6 f_singers) (k_a_knows : ∀ j, iv 0 31 (a_knows j)) (hx1 : iv 0 4 x1) (hpost : ∀ (r : Int32), post r) : q_m_fame_0 f_singers a_knows x1 post := by
  exact s_m_fame_4 k_f_singers k_a_knows hx1 (iv_w (iv_lit (l := 0) (h := 0) (by decide)) (by decide)) hpost
-- m_seers
set_option maxRecDepth 20000 in
theorem s_m_seers_36 {P4 : Int32 → Int32 → Prop} {f_singers : Int32} {a_knows : Nat → Int32} {f_begun : Int32} {x2 : Int32} {y0 : Int32} {y1 : Int32} {post : Int32 → Prop} (k_f_singers : iv 1 6 f_singers) (k_a_knows : ∀ j, iv 0 31 (a_knows j)) (k_f_begun : iv 0 31 f_begun) (hx2 : iv 0 5 x2) (hy0 : iv 0 63 y0) (hy1 : iv 0 32 y1) (m4 : Int) (hm4 : m4 ≤ x2.toInt) (hP4 : ∀ (x1 : Int32) (x2 : Int32), m4 < x2.toInt → iv 0 63 x1 → iv 0 6 x2 → P4 x1 x2) (hpost : ∀ (r : Int32), iv 0 63 r → post r) : q_m_seers_36 P4 f_singers a_knows f_begun x2 y0 y1 post := by
  intro w1 ew1
  have hw1 := iv_eq ew1 (iv_or 6 (l := 0) (h := 63) hy0 hy1 (by decide))
  intro w2 ew2
  have hw2 := iv_eq ew2 (iv_add (l := 1) (h := 6) hx2 (iv_lit (l := 1) (h := 1) (by decide)) (by decide))
  exact hP4 _ _ (ml_up hm4 (inc_lt ew2 hx2 (by decide))) hw1 (iv_w hw2 (by decide))
set_option maxRecDepth 20000 in
theorem s_m_seers_4 {f_singers : Int32} {a_knows : Nat → Int32} {f_begun : Int32} {x1 : Int32} {x2 : Int32} {post : Int32 → Prop} (k_f_singers : iv 0 6 f_singers) (k_a_knows : ∀ j, iv 0 31 (a_knows j)) (k_f_begun : iv 0 31 f_begun) (hx1 : iv 0 63 x1) (hx2 : iv 0 6 x2) (hpost : ∀ (r : Int32), iv 0 63 r → post r) : q_m_seers_4 f_singers a_knows f_begun x1 x2 post := by
  intro P hP
  have loop : ∀ (n : Nat) (x1 : Int32) (x2 : Int32), (6 - x2.toInt < (n : Int)) → (iv 0 63 x1) → (iv 0 6 x2) → P x1 x2 := by
    intro n
    induction n with
    | zero => intro x1 x2 hm hx1 hx2; exact (ms0_up hm hx2).elim
    | succ n ih =>
      intro x1 x2 hm hx1 hx2
      apply hP
      refine ⟨fun c1 => ?_, fun c1 => ?_⟩
      · skip
        exact hpost _ hx1
      · skip
        refine ⟨iv_in (iv_lta (l := 0) (h := 5) (r_nle c1) hx2 k_f_singers (by decide)) (by decide), ?_⟩
        refine ⟨fun c2 => ?_, fun c2 => ?_⟩
        · skip
          exact s_m_seers_36 (iv_ltb (l := 1) (h := 6) (r_nle c1) hx2 k_f_singers (by decide)) k_a_knows k_f_begun (iv_lta (l := 0) (h := 5) (r_nle c1) hx2 k_f_singers (by decide)) hx1 (iv_w (iv_lit (l := 0) (h := 0) (by decide)) (by decide)) x2.toInt (Int.le_refl _) (fun u0 u1 hq g0 g1 => ih u0 u1 (ms_up hm hq) g0 g1) hpost
        · skip
          exact s_m_seers_36 (iv_ltb (l := 1) (h := 6) (r_nle c1) hx2 k_f_singers (by decide)) k_a_knows k_f_begun (iv_lta (l := 0) (h := 5) (r_nle c1) hx2 k_f_singers (by decide)) hx1 (iv_w (iv_shl1 (l := 1) (h := 32) (iv_lit (l := 1) (h := 1) (by decide)) (iv_lta (l := 0) (h := 5) (r_nle c1) hx2 k_f_singers (by decide)) (by decide)) (by decide)) x2.toInt (Int.le_refl _) (fun u0 u1 hq g0 g1 => ih u0 u1 (ms_up hm hq) g0 g1) hpost
  exact loop _ _ _ (ms_init_up _ _) hx1 hx2
set_option maxRecDepth 20000 in
theorem s_m_seers_0 {f_singers : Int32} {a_knows : Nat → Int32} {f_begun : Int32} {post : Int32 → Prop} (k_f_singers : iv 0 6 f_singers) (k_a_knows : ∀ j, iv 0 31 (a_knows j)) (k_f_begun : iv 0 31 f_begun) (hpost : ∀ (r : Int32), iv 0 63 r → post r) : q_m_seers_0 f_singers a_knows f_begun post := by
  exact s_m_seers_4 k_f_singers k_a_knows k_f_begun (iv_w (iv_lit (l := 0) (h := 0) (by decide)) (by decide)) (iv_w (iv_lit (l := 0) (h := 0) (by decide)) (by decide)) hpost
-- m_ofSinger
set_option maxRecDepth 20000 in
theorem s_m_ofSinger_0 {a_lands : Nat → Int32} {f_land : Int32} {f_singers : Int32} {a_at : Nat → Int32} {a_knows : Nat → Int32} {a_climbed : Nat → Int32} {x1 : Int32} {post : Int32 → Prop} (k_a_lands : mLand a_lands) (k_f_land : iv 0 1 f_land) (k_f_singers : iv 0 6 f_singers) (k_a_at : ∀ j, iv 0 8 (a_at j)) (k_a_knows : ∀ j, iv 0 31 (a_knows j)) (k_a_climbed : ∀ j, iv 0 1 (a_climbed j)) (hx1 : iv 30 69 x1) (hpost : ∀ (r : Int32), iv (-1000) 108 r → post r) : q_m_ofSinger_0 a_lands f_land f_singers a_at a_knows a_climbed x1 post := by
  intro w1 ew1
  have hw1 := iv_eq ew1 (iv_rem (l := 0) (h := 9) hx1 (iv_lit (l := 10) (h := 10) (by decide)) (by decide))
  refine ⟨fun c2 => ?_, fun c2 => ?_⟩
  · skip
    exact (iv_emp (iv_lta (l := 0) (h := (-1)) (r_lt c2) hw1 (iv_lit (l := 0) (h := 0) (by decide)) (by decide)) (by decide)).elim
  · skip
    refine ⟨fun c3 => ?_, fun c3 => ?_⟩
    · skip
      refine ⟨iv_nb (iv_lit (l := 0) (h := 0) (by decide)) (by decide), ?_⟩
      refine ⟨fun c4 => ?_, fun c4 => ?_⟩
      · skip
        exact (iv_emp (iv_ne (l := 1) (h := 0) c4 (iv_lit (l := 0) (h := 0) (by decide)) (iv_lit (l := 0) (h := 0) (by decide)) (by decide)) (by decide)).elim
      · skip
        exact hpost _ (iv_w (iv_lit (l := (-1000)) (h := (-1000)) (by decide)) (by decide))
    · skip
      refine ⟨iv_nb (iv_lit (l := 1) (h := 1) (by decide)) (by decide), ?_⟩
      refine ⟨fun c5 => ?_, fun c5 => ?_⟩
      · skip
        refine ⟨fun c6 => ?_, fun c6 => ?_, fun c6 => ?_, fun c6 => ?_⟩
        · skip
          refine ⟨iv_in (iv_lea (l := 0) (h := 5) (r_nlt c3) hw1 (iv_sub (l := (-1)) (h := 5) k_f_singers (iv_lit (l := 1) (h := 1) (by decide)) (by decide)) (by decide)) (by decide), ?_⟩
          refine sp_of (a := 0) (b := 99) k_a_lands k_f_land (iv_add (l := 7) (h := 15) (iv_lit (l := 7) (h := 7) (by decide)) (k_a_at _) (by decide)) (by decide +kernel) (fun r7 hr7 er7 => ?_)
          refine sp_of (a := 0) (b := 9) k_a_lands k_f_land (iv_add (l := 31) (h := 36) (iv_lit (l := 31) (h := 31) (by decide)) (iv_lea (l := 0) (h := 5) (r_nlt c3) hw1 (iv_sub (l := (-1)) (h := 5) k_f_singers (iv_lit (l := 1) (h := 1) (by decide)) (by decide)) (by decide)) (by decide)) (by decide +kernel) (fun r8 hr8 er8 => ?_)
          refine ⟨iv_in (iv_lea (l := 0) (h := 5) (r_nlt c3) hw1 (iv_sub (l := (-1)) (h := 5) k_f_singers (iv_lit (l := 1) (h := 1) (by decide)) (by decide)) (by decide)) (by decide), ?_⟩
          refine ⟨iv_in (iv_lea (l := 0) (h := 5) (r_nlt c3) hw1 (iv_sub (l := (-1)) (h := 5) k_f_singers (iv_lit (l := 1) (h := 1) (by decide)) (by decide)) (by decide)) (by decide), ?_⟩
          refine sp_of (a := 0) (b := 9) k_a_lands k_f_land (iv_add (l := 16) (h := 24) (iv_lit (l := 16) (h := 16) (by decide)) (k_a_at _) (by decide)) (by decide +kernel) (fun r9 hr9 er9 => ?_)
          exact hpost _ (iv_w (iv_add (l := (-9)) (h := 108) (iv_sub (l := (-9)) (h := 99) hr7 hr8 (by decide)) (iv_mul (l := 0) (h := 9) (k_a_climbed _) hr9 (by decide)) (by decide)) (by decide))
        · skip
          refine ⟨iv_in (iv_lea (l := 0) (h := 5) (r_nlt c3) hw1 (iv_sub (l := (-1)) (h := 5) k_f_singers (iv_lit (l := 1) (h := 1) (by decide)) (by decide)) (by decide)) (by decide), ?_⟩
          exact hpost _ (iv_w (k_a_at _) (by decide))
        · skip
          refine ⟨iv_in (iv_lea (l := 0) (h := 5) (r_nlt c3) hw1 (iv_sub (l := (-1)) (h := 5) k_f_singers (iv_lit (l := 1) (h := 1) (by decide)) (by decide)) (by decide)) (by decide), ?_⟩
          exact hpost _ (iv_w (k_a_knows _) (by decide))
        · skip
          refine ⟨iv_in (iv_lea (l := 0) (h := 5) (r_nlt c3) hw1 (iv_sub (l := (-1)) (h := 5) k_f_singers (iv_lit (l := 1) (h := 1) (by decide)) (by decide)) (by decide)) (by decide), ?_⟩
          exact hpost _ (iv_w (k_a_climbed _) (by decide))
      · skip
        exact (iv_emp (iv_eqa (l := 1) (h := 0) c5 (iv_lit (l := 1) (h := 1) (by decide)) (iv_lit (l := 0) (h := 0) (by decide)) (by decide)) (by decide)).elim
-- m_ofState
set_option maxRecDepth 20000 in
theorem s_m_ofState_0 {a_lands : Nat → Int32} {f_land : Int32} {f_huts : Int32} {f_singers : Int32} {a_at : Nat → Int32} {a_knows : Nat → Int32} {a_climbed : Nat → Int32} {a_snow : Nat → Int32} {a_level : Nat → Int32} {f_begun : Int32} {f_minute : Int32} {f_avalanches : Int32} {x1 : Int32} {post : Int32 → Prop} (k_a_lands : mLand a_lands) (k_f_land : iv 0 1 f_land) (k_f_huts : iv 0 9 f_huts) (k_f_singers : iv 0 6 f_singers) (k_a_at : ∀ j, iv 0 8 (a_at j)) (k_a_knows : ∀ j, iv 0 31 (a_knows j)) (k_a_climbed : ∀ j, iv 0 1 (a_climbed j)) (k_a_level : ∀ j, iv (-9) 108 (a_level j)) (k_f_begun : iv 0 31 f_begun) (hpost : ∀ (r : Int32), post r) : q_m_ofState_0 a_lands f_land f_huts f_singers a_at a_knows a_climbed a_snow a_level f_begun f_minute f_avalanches x1 post := by
  refine ⟨fun c1 => ?_, fun c1 => ?_⟩
  · skip
    refine ⟨fun c2 => ?_, fun c2 => ?_⟩
    · skip
      refine ⟨fun c3 => ?_, fun c3 => ?_⟩
      · skip
        refine ⟨fun c4 => ?_, fun c4 => ?_⟩
        · skip
          refine ⟨fun c5 => ?_, fun c5 => ?_⟩
          · skip
            refine ⟨fun c6 => ?_, fun c6 => ?_⟩
            · skip
              refine ⟨fun c7 => ?_, fun c7 => ?_⟩
              · skip
                refine ⟨fun c8 => ?_, fun c8 => ?_⟩
                · skip
                  refine ⟨fun c9 => ?_, fun c9 => ?_, fun c9 => ?_, fun c9 => ?_, fun c9 => ?_, fun c9 => ?_⟩
                  · skip
                    exact hpost _
                  · skip
                    exact hpost _
                  · skip
                    exact hpost _
                  · skip
                    refine s_m_seers_0 k_f_singers k_a_knows k_f_begun (fun r10 hr10 => ?_)
                    exact hpost _
                  · skip
                    exact hpost _
                  · skip
                    refine s_m_doneFor_0 k_a_lands k_f_land k_f_huts k_f_singers k_a_at k_a_knows k_a_level k_f_begun (fun r11 hr11 => ?_)
                    exact hpost _
                · skip
                  exact (iv_emp (iv_ne (l := 1) (h := 0) c8 (iv_lit (l := 0) (h := 0) (by decide)) (iv_lit (l := 0) (h := 0) (by decide)) (by decide)) (by decide)).elim
              · skip
                exact (iv_emp (iv_lea (l := 70) (h := 9) (r_nlt c7) (iv_lit (l := 70) (h := 70) (by decide)) (iv_lta (l := (-2147483648)) (h := 9) (r_lt c1) (iv_top x1) (iv_lit (l := 10) (h := 10) (by decide)) (by decide)) (by decide)) (by decide)).elim
            · skip
              exact (iv_emp (iv_ne (l := 1) (h := 0) c6 (iv_lit (l := 0) (h := 0) (by decide)) (iv_lit (l := 0) (h := 0) (by decide)) (by decide)) (by decide)).elim
          · skip
            exact (iv_emp (iv_lea (l := 30) (h := 9) (r_nlt c5) (iv_lit (l := 30) (h := 30) (by decide)) (iv_lta (l := (-2147483648)) (h := 9) (r_lt c1) (iv_top x1) (iv_lit (l := 10) (h := 10) (by decide)) (by decide)) (by decide)) (by decide)).elim
        · skip
          exact (iv_emp (iv_ne (l := 1) (h := 0) c4 (iv_lit (l := 0) (h := 0) (by decide)) (iv_lit (l := 0) (h := 0) (by decide)) (by decide)) (by decide)).elim
      · skip
        exact (iv_emp (iv_lea (l := 20) (h := 9) (r_nlt c3) (iv_lit (l := 20) (h := 20) (by decide)) (iv_lta (l := (-2147483648)) (h := 9) (r_lt c1) (iv_top x1) (iv_lit (l := 10) (h := 10) (by decide)) (by decide)) (by decide)) (by decide)).elim
    · skip
      exact (iv_emp (iv_ne (l := 1) (h := 0) c2 (iv_lit (l := 0) (h := 0) (by decide)) (iv_lit (l := 0) (h := 0) (by decide)) (by decide)) (by decide)).elim
  · skip
    refine ⟨fun c12 => ?_, fun c12 => ?_⟩
    · skip
      refine ⟨fun c13 => ?_, fun c13 => ?_⟩
      · skip
        refine ⟨fun c14 => ?_, fun c14 => ?_⟩
        · skip
          refine ⟨fun c15 => ?_, fun c15 => ?_⟩
          · skip
            refine ⟨fun c16 => ?_, fun c16 => ?_⟩
            · skip
              refine ⟨fun c17 => ?_, fun c17 => ?_⟩
              · skip
                refine ⟨fun c18 => ?_, fun c18 => ?_⟩
                · skip
                  refine ⟨fun c19 => ?_, fun c19 => ?_⟩
                  · skip
                    refine ⟨fun c20 => ?_, fun c20 => ?_, fun c20 => ?_, fun c20 => ?_, fun c20 => ?_, fun c20 => ?_⟩
                    · skip
                      exact hpost _
                    · skip
                      exact (iv_emp (iv_eqa (l := 15) (h := 0) c20 (iv_lta (l := 15) (h := 19) (r_lt c14) (iv_ltb (l := 15) (h := 2147483647) (r_lt c12) (iv_lit (l := 14) (h := 14) (by decide)) (iv_leb (l := 10) (h := 2147483647) (r_nlt c1) (iv_lit (l := 10) (h := 10) (by decide)) (iv_top x1) (by decide)) (by decide)) (iv_lit (l := 20) (h := 20) (by decide)) (by decide)) (iv_lit (l := 0) (h := 0) (by decide)) (by decide)) (by decide)).elim
                    · skip
                      exact (iv_emp (iv_eqa (l := 15) (h := 1) c20 (iv_lta (l := 15) (h := 19) (r_lt c14) (iv_ltb (l := 15) (h := 2147483647) (r_lt c12) (iv_lit (l := 14) (h := 14) (by decide)) (iv_leb (l := 10) (h := 2147483647) (r_nlt c1) (iv_lit (l := 10) (h := 10) (by decide)) (iv_top x1) (by decide)) (by decide)) (iv_lit (l := 20) (h := 20) (by decide)) (by decide)) (iv_lit (l := 1) (h := 1) (by decide)) (by decide)) (by decide)).elim
                    · skip
                      exact (iv_emp (iv_eqa (l := 15) (h := 2) c20 (iv_lta (l := 15) (h := 19) (r_lt c14) (iv_ltb (l := 15) (h := 2147483647) (r_lt c12) (iv_lit (l := 14) (h := 14) (by decide)) (iv_leb (l := 10) (h := 2147483647) (r_nlt c1) (iv_lit (l := 10) (h := 10) (by decide)) (iv_top x1) (by decide)) (by decide)) (iv_lit (l := 20) (h := 20) (by decide)) (by decide)) (iv_lit (l := 2) (h := 2) (by decide)) (by decide)) (by decide)).elim
                    · skip
                      exact (iv_emp (iv_eqa (l := 15) (h := 3) c20 (iv_lta (l := 15) (h := 19) (r_lt c14) (iv_ltb (l := 15) (h := 2147483647) (r_lt c12) (iv_lit (l := 14) (h := 14) (by decide)) (iv_leb (l := 10) (h := 2147483647) (r_nlt c1) (iv_lit (l := 10) (h := 10) (by decide)) (iv_top x1) (by decide)) (by decide)) (iv_lit (l := 20) (h := 20) (by decide)) (by decide)) (iv_lit (l := 3) (h := 3) (by decide)) (by decide)) (by decide)).elim
                    · skip
                      exact (iv_emp (iv_eqa (l := 15) (h := 4) c20 (iv_lta (l := 15) (h := 19) (r_lt c14) (iv_ltb (l := 15) (h := 2147483647) (r_lt c12) (iv_lit (l := 14) (h := 14) (by decide)) (iv_leb (l := 10) (h := 2147483647) (r_nlt c1) (iv_lit (l := 10) (h := 10) (by decide)) (iv_top x1) (by decide)) (by decide)) (iv_lit (l := 20) (h := 20) (by decide)) (by decide)) (iv_lit (l := 4) (h := 4) (by decide)) (by decide)) (by decide)).elim
                  · skip
                    exact (iv_emp (iv_ne (l := 1) (h := 0) c19 (iv_lit (l := 0) (h := 0) (by decide)) (iv_lit (l := 0) (h := 0) (by decide)) (by decide)) (by decide)).elim
                · skip
                  exact (iv_emp (iv_lea (l := 70) (h := 19) (r_nlt c18) (iv_lit (l := 70) (h := 70) (by decide)) (iv_lta (l := 15) (h := 19) (r_lt c14) (iv_ltb (l := 15) (h := 2147483647) (r_lt c12) (iv_lit (l := 14) (h := 14) (by decide)) (iv_leb (l := 10) (h := 2147483647) (r_nlt c1) (iv_lit (l := 10) (h := 10) (by decide)) (iv_top x1) (by decide)) (by decide)) (iv_lit (l := 20) (h := 20) (by decide)) (by decide)) (by decide)) (by decide)).elim
              · skip
                exact (iv_emp (iv_ne (l := 1) (h := 0) c17 (iv_lit (l := 0) (h := 0) (by decide)) (iv_lit (l := 0) (h := 0) (by decide)) (by decide)) (by decide)).elim
            · skip
              exact (iv_emp (iv_lea (l := 30) (h := 19) (r_nlt c16) (iv_lit (l := 30) (h := 30) (by decide)) (iv_lta (l := 15) (h := 19) (r_lt c14) (iv_ltb (l := 15) (h := 2147483647) (r_lt c12) (iv_lit (l := 14) (h := 14) (by decide)) (iv_leb (l := 10) (h := 2147483647) (r_nlt c1) (iv_lit (l := 10) (h := 10) (by decide)) (iv_top x1) (by decide)) (by decide)) (iv_lit (l := 20) (h := 20) (by decide)) (by decide)) (by decide)) (by decide)).elim
          · skip
            exact (iv_emp (iv_ne (l := 1) (h := 0) c15 (iv_lit (l := 0) (h := 0) (by decide)) (iv_lit (l := 0) (h := 0) (by decide)) (by decide)) (by decide)).elim
        · skip
          refine ⟨fun c21 => ?_, fun c21 => ?_⟩
          · skip
            refine ⟨fun c22 => ?_, fun c22 => ?_⟩
            · skip
              refine ⟨fun c23 => ?_, fun c23 => ?_⟩
              · skip
                refine ⟨fun c24 => ?_, fun c24 => ?_⟩
                · skip
                  refine ⟨fun c25 => ?_, fun c25 => ?_⟩
                  · skip
                    refine ⟨fun c26 => ?_, fun c26 => ?_⟩
                    · skip
                      refine ⟨fun c27 => ?_, fun c27 => ?_, fun c27 => ?_, fun c27 => ?_, fun c27 => ?_, fun c27 => ?_⟩
                      · skip
                        exact hpost _
                      · skip
                        exact (iv_emp (iv_eqa (l := 25) (h := 0) c27 (iv_lta (l := 25) (h := 29) (r_lt c23) (iv_ltb (l := 25) (h := 2147483647) (r_lt c21) (iv_lit (l := 24) (h := 24) (by decide)) (iv_leb (l := 20) (h := 2147483647) (r_nlt c14) (iv_lit (l := 20) (h := 20) (by decide)) (iv_ltb (l := 15) (h := 2147483647) (r_lt c12) (iv_lit (l := 14) (h := 14) (by decide)) (iv_leb (l := 10) (h := 2147483647) (r_nlt c1) (iv_lit (l := 10) (h := 10) (by decide)) (iv_top x1) (by decide)) (by decide)) (by decide)) (by decide)) (iv_lit (l := 30) (h := 30) (by decide)) (by decide)) (iv_lit (l := 0) (h := 0) (by decide)) (by decide)) (by decide)).elim
                      · skip
                        exact (iv_emp (iv_eqa (l := 25) (h := 1) c27 (iv_lta (l := 25) (h := 29) (r_lt c23) (iv_ltb (l := 25) (h := 2147483647) (r_lt c21) (iv_lit (l := 24) (h := 24) (by decide)) (iv_leb (l := 20) (h := 2147483647) (r_nlt c14) (iv_lit (l := 20) (h := 20) (by decide)) (iv_ltb (l := 15) (h := 2147483647) (r_lt c12) (iv_lit (l := 14) (h := 14) (by decide)) (iv_leb (l := 10) (h := 2147483647) (r_nlt c1) (iv_lit (l := 10) (h := 10) (by decide)) (iv_top x1) (by decide)) (by decide)) (by decide)) (by decide)) (iv_lit (l := 30) (h := 30) (by decide)) (by decide)) (iv_lit (l := 1) (h := 1) (by decide)) (by decide)) (by decide)).elim
                      · skip
                        exact (iv_emp (iv_eqa (l := 25) (h := 2) c27 (iv_lta (l := 25) (h := 29) (r_lt c23) (iv_ltb (l := 25) (h := 2147483647) (r_lt c21) (iv_lit (l := 24) (h := 24) (by decide)) (iv_leb (l := 20) (h := 2147483647) (r_nlt c14) (iv_lit (l := 20) (h := 20) (by decide)) (iv_ltb (l := 15) (h := 2147483647) (r_lt c12) (iv_lit (l := 14) (h := 14) (by decide)) (iv_leb (l := 10) (h := 2147483647) (r_nlt c1) (iv_lit (l := 10) (h := 10) (by decide)) (iv_top x1) (by decide)) (by decide)) (by decide)) (by decide)) (iv_lit (l := 30) (h := 30) (by decide)) (by decide)) (iv_lit (l := 2) (h := 2) (by decide)) (by decide)) (by decide)).elim
                      · skip
                        exact (iv_emp (iv_eqa (l := 25) (h := 3) c27 (iv_lta (l := 25) (h := 29) (r_lt c23) (iv_ltb (l := 25) (h := 2147483647) (r_lt c21) (iv_lit (l := 24) (h := 24) (by decide)) (iv_leb (l := 20) (h := 2147483647) (r_nlt c14) (iv_lit (l := 20) (h := 20) (by decide)) (iv_ltb (l := 15) (h := 2147483647) (r_lt c12) (iv_lit (l := 14) (h := 14) (by decide)) (iv_leb (l := 10) (h := 2147483647) (r_nlt c1) (iv_lit (l := 10) (h := 10) (by decide)) (iv_top x1) (by decide)) (by decide)) (by decide)) (by decide)) (iv_lit (l := 30) (h := 30) (by decide)) (by decide)) (iv_lit (l := 3) (h := 3) (by decide)) (by decide)) (by decide)).elim
                      · skip
                        exact (iv_emp (iv_eqa (l := 25) (h := 4) c27 (iv_lta (l := 25) (h := 29) (r_lt c23) (iv_ltb (l := 25) (h := 2147483647) (r_lt c21) (iv_lit (l := 24) (h := 24) (by decide)) (iv_leb (l := 20) (h := 2147483647) (r_nlt c14) (iv_lit (l := 20) (h := 20) (by decide)) (iv_ltb (l := 15) (h := 2147483647) (r_lt c12) (iv_lit (l := 14) (h := 14) (by decide)) (iv_leb (l := 10) (h := 2147483647) (r_nlt c1) (iv_lit (l := 10) (h := 10) (by decide)) (iv_top x1) (by decide)) (by decide)) (by decide)) (by decide)) (iv_lit (l := 30) (h := 30) (by decide)) (by decide)) (iv_lit (l := 4) (h := 4) (by decide)) (by decide)) (by decide)).elim
                    · skip
                      exact (iv_emp (iv_ne (l := 1) (h := 0) c26 (iv_lit (l := 0) (h := 0) (by decide)) (iv_lit (l := 0) (h := 0) (by decide)) (by decide)) (by decide)).elim
                  · skip
                    exact (iv_emp (iv_lea (l := 70) (h := 29) (r_nlt c25) (iv_lit (l := 70) (h := 70) (by decide)) (iv_lta (l := 25) (h := 29) (r_lt c23) (iv_ltb (l := 25) (h := 2147483647) (r_lt c21) (iv_lit (l := 24) (h := 24) (by decide)) (iv_leb (l := 20) (h := 2147483647) (r_nlt c14) (iv_lit (l := 20) (h := 20) (by decide)) (iv_ltb (l := 15) (h := 2147483647) (r_lt c12) (iv_lit (l := 14) (h := 14) (by decide)) (iv_leb (l := 10) (h := 2147483647) (r_nlt c1) (iv_lit (l := 10) (h := 10) (by decide)) (iv_top x1) (by decide)) (by decide)) (by decide)) (by decide)) (iv_lit (l := 30) (h := 30) (by decide)) (by decide)) (by decide)) (by decide)).elim
                · skip
                  exact (iv_emp (iv_ne (l := 1) (h := 0) c24 (iv_lit (l := 0) (h := 0) (by decide)) (iv_lit (l := 0) (h := 0) (by decide)) (by decide)) (by decide)).elim
              · skip
                refine ⟨fun c28 => ?_, fun c28 => ?_⟩
                · skip
                  refine ⟨fun c29 => ?_, fun c29 => ?_⟩
                  · skip
                    refine ⟨fun c30 => ?_, fun c30 => ?_⟩
                    · skip
                      exact (iv_emp (iv_lta (l := 70) (h := 69) (r_lt c30) (iv_ltb (l := 70) (h := 2147483647) (r_lt c28) (iv_lit (l := 69) (h := 69) (by decide)) (iv_leb (l := 30) (h := 2147483647) (r_nlt c23) (iv_lit (l := 30) (h := 30) (by decide)) (iv_ltb (l := 25) (h := 2147483647) (r_lt c21) (iv_lit (l := 24) (h := 24) (by decide)) (iv_leb (l := 20) (h := 2147483647) (r_nlt c14) (iv_lit (l := 20) (h := 20) (by decide)) (iv_ltb (l := 15) (h := 2147483647) (r_lt c12) (iv_lit (l := 14) (h := 14) (by decide)) (iv_leb (l := 10) (h := 2147483647) (r_nlt c1) (iv_lit (l := 10) (h := 10) (by decide)) (iv_top x1) (by decide)) (by decide)) (by decide)) (by decide)) (by decide)) (by decide)) (iv_lit (l := 70) (h := 70) (by decide)) (by decide)) (by decide)).elim
                    · skip
                      refine ⟨fun c31 => ?_, fun c31 => ?_⟩
                      · skip
                        refine ⟨fun c32 => ?_, fun c32 => ?_⟩
                        · skip
                          refine ⟨fun c33 => ?_, fun c33 => ?_, fun c33 => ?_, fun c33 => ?_, fun c33 => ?_, fun c33 => ?_⟩
                          · skip
                            exact hpost _
                          · skip
                            exact (iv_emp (iv_eqa (l := 80) (h := 0) c33 (iv_ltb (l := 80) (h := 2147483647) (r_lt c31) (iv_lit (l := 79) (h := 79) (by decide)) (iv_ltb (l := 70) (h := 2147483647) (r_lt c28) (iv_lit (l := 69) (h := 69) (by decide)) (iv_leb (l := 30) (h := 2147483647) (r_nlt c23) (iv_lit (l := 30) (h := 30) (by decide)) (iv_ltb (l := 25) (h := 2147483647) (r_lt c21) (iv_lit (l := 24) (h := 24) (by decide)) (iv_leb (l := 20) (h := 2147483647) (r_nlt c14) (iv_lit (l := 20) (h := 20) (by decide)) (iv_ltb (l := 15) (h := 2147483647) (r_lt c12) (iv_lit (l := 14) (h := 14) (by decide)) (iv_leb (l := 10) (h := 2147483647) (r_nlt c1) (iv_lit (l := 10) (h := 10) (by decide)) (iv_top x1) (by decide)) (by decide)) (by decide)) (by decide)) (by decide)) (by decide)) (by decide)) (iv_lit (l := 0) (h := 0) (by decide)) (by decide)) (by decide)).elim
                          · skip
                            exact (iv_emp (iv_eqa (l := 80) (h := 1) c33 (iv_ltb (l := 80) (h := 2147483647) (r_lt c31) (iv_lit (l := 79) (h := 79) (by decide)) (iv_ltb (l := 70) (h := 2147483647) (r_lt c28) (iv_lit (l := 69) (h := 69) (by decide)) (iv_leb (l := 30) (h := 2147483647) (r_nlt c23) (iv_lit (l := 30) (h := 30) (by decide)) (iv_ltb (l := 25) (h := 2147483647) (r_lt c21) (iv_lit (l := 24) (h := 24) (by decide)) (iv_leb (l := 20) (h := 2147483647) (r_nlt c14) (iv_lit (l := 20) (h := 20) (by decide)) (iv_ltb (l := 15) (h := 2147483647) (r_lt c12) (iv_lit (l := 14) (h := 14) (by decide)) (iv_leb (l := 10) (h := 2147483647) (r_nlt c1) (iv_lit (l := 10) (h := 10) (by decide)) (iv_top x1) (by decide)) (by decide)) (by decide)) (by decide)) (by decide)) (by decide)) (by decide)) (iv_lit (l := 1) (h := 1) (by decide)) (by decide)) (by decide)).elim
                          · skip
                            exact (iv_emp (iv_eqa (l := 80) (h := 2) c33 (iv_ltb (l := 80) (h := 2147483647) (r_lt c31) (iv_lit (l := 79) (h := 79) (by decide)) (iv_ltb (l := 70) (h := 2147483647) (r_lt c28) (iv_lit (l := 69) (h := 69) (by decide)) (iv_leb (l := 30) (h := 2147483647) (r_nlt c23) (iv_lit (l := 30) (h := 30) (by decide)) (iv_ltb (l := 25) (h := 2147483647) (r_lt c21) (iv_lit (l := 24) (h := 24) (by decide)) (iv_leb (l := 20) (h := 2147483647) (r_nlt c14) (iv_lit (l := 20) (h := 20) (by decide)) (iv_ltb (l := 15) (h := 2147483647) (r_lt c12) (iv_lit (l := 14) (h := 14) (by decide)) (iv_leb (l := 10) (h := 2147483647) (r_nlt c1) (iv_lit (l := 10) (h := 10) (by decide)) (iv_top x1) (by decide)) (by decide)) (by decide)) (by decide)) (by decide)) (by decide)) (by decide)) (iv_lit (l := 2) (h := 2) (by decide)) (by decide)) (by decide)).elim
                          · skip
                            exact (iv_emp (iv_eqa (l := 80) (h := 3) c33 (iv_ltb (l := 80) (h := 2147483647) (r_lt c31) (iv_lit (l := 79) (h := 79) (by decide)) (iv_ltb (l := 70) (h := 2147483647) (r_lt c28) (iv_lit (l := 69) (h := 69) (by decide)) (iv_leb (l := 30) (h := 2147483647) (r_nlt c23) (iv_lit (l := 30) (h := 30) (by decide)) (iv_ltb (l := 25) (h := 2147483647) (r_lt c21) (iv_lit (l := 24) (h := 24) (by decide)) (iv_leb (l := 20) (h := 2147483647) (r_nlt c14) (iv_lit (l := 20) (h := 20) (by decide)) (iv_ltb (l := 15) (h := 2147483647) (r_lt c12) (iv_lit (l := 14) (h := 14) (by decide)) (iv_leb (l := 10) (h := 2147483647) (r_nlt c1) (iv_lit (l := 10) (h := 10) (by decide)) (iv_top x1) (by decide)) (by decide)) (by decide)) (by decide)) (by decide)) (by decide)) (by decide)) (iv_lit (l := 3) (h := 3) (by decide)) (by decide)) (by decide)).elim
                          · skip
                            exact (iv_emp (iv_eqa (l := 80) (h := 4) c33 (iv_ltb (l := 80) (h := 2147483647) (r_lt c31) (iv_lit (l := 79) (h := 79) (by decide)) (iv_ltb (l := 70) (h := 2147483647) (r_lt c28) (iv_lit (l := 69) (h := 69) (by decide)) (iv_leb (l := 30) (h := 2147483647) (r_nlt c23) (iv_lit (l := 30) (h := 30) (by decide)) (iv_ltb (l := 25) (h := 2147483647) (r_lt c21) (iv_lit (l := 24) (h := 24) (by decide)) (iv_leb (l := 20) (h := 2147483647) (r_nlt c14) (iv_lit (l := 20) (h := 20) (by decide)) (iv_ltb (l := 15) (h := 2147483647) (r_lt c12) (iv_lit (l := 14) (h := 14) (by decide)) (iv_leb (l := 10) (h := 2147483647) (r_nlt c1) (iv_lit (l := 10) (h := 10) (by decide)) (iv_top x1) (by decide)) (by decide)) (by decide)) (by decide)) (by decide)) (by decide)) (by decide)) (iv_lit (l := 4) (h := 4) (by decide)) (by decide)) (by decide)).elim
                        · skip
                          exact (iv_emp (iv_ne (l := 1) (h := 0) c32 (iv_lit (l := 0) (h := 0) (by decide)) (iv_lit (l := 0) (h := 0) (by decide)) (by decide)) (by decide)).elim
                      · skip
                        refine ⟨fun c34 => ?_, fun c34 => ?_⟩
                        · skip
                          exact (iv_emp (iv_eqa (l := 1) (h := 0) c34 (iv_lit (l := 1) (h := 1) (by decide)) (iv_lit (l := 0) (h := 0) (by decide)) (by decide)) (by decide)).elim
                        · skip
                          refine ⟨fun c35 => ?_, fun c35 => ?_⟩
                          · skip
                            exact (iv_emp (iv_lta (l := 0) (h := (-1)) (r_lt c35) (iv_sub (l := 0) (h := 9) (iv_lea (l := 70) (h := 79) (r_nlt c31) (iv_ltb (l := 70) (h := 2147483647) (r_lt c28) (iv_lit (l := 69) (h := 69) (by decide)) (iv_leb (l := 30) (h := 2147483647) (r_nlt c23) (iv_lit (l := 30) (h := 30) (by decide)) (iv_ltb (l := 25) (h := 2147483647) (r_lt c21) (iv_lit (l := 24) (h := 24) (by decide)) (iv_leb (l := 20) (h := 2147483647) (r_nlt c14) (iv_lit (l := 20) (h := 20) (by decide)) (iv_ltb (l := 15) (h := 2147483647) (r_lt c12) (iv_lit (l := 14) (h := 14) (by decide)) (iv_leb (l := 10) (h := 2147483647) (r_nlt c1) (iv_lit (l := 10) (h := 10) (by decide)) (iv_top x1) (by decide)) (by decide)) (by decide)) (by decide)) (by decide)) (by decide)) (iv_lit (l := 79) (h := 79) (by decide)) (by decide)) (iv_lit (l := 70) (h := 70) (by decide)) (by decide)) (iv_lit (l := 0) (h := 0) (by decide)) (by decide)) (by decide)).elim
                          · skip
                            refine ⟨fun c36 => ?_, fun c36 => ?_⟩
                            · skip
                              refine ⟨iv_nb (iv_lit (l := 0) (h := 0) (by decide)) (by decide), ?_⟩
                              refine ⟨fun c37 => ?_, fun c37 => ?_⟩
                              · skip
                                exact hpost _
                              · skip
                                exact (iv_emp (iv_ne (l := 1) (h := 0) c37 (iv_lit (l := 0) (h := 0) (by decide)) (iv_lit (l := 0) (h := 0) (by decide)) (by decide)) (by decide)).elim
                            · skip
                              refine ⟨iv_nb (iv_lit (l := 1) (h := 1) (by decide)) (by decide), ?_⟩
                              refine ⟨fun c38 => ?_, fun c38 => ?_⟩
                              · skip
                                exact (iv_emp (iv_eqa (l := 1) (h := 0) c38 (iv_lit (l := 1) (h := 1) (by decide)) (iv_lit (l := 0) (h := 0) (by decide)) (by decide)) (by decide)).elim
                              · skip
                                refine ⟨iv_in (iv_lea (l := 0) (h := 8) (r_nlt c36) (iv_sub (l := 0) (h := 9) (iv_lea (l := 70) (h := 79) (r_nlt c31) (iv_ltb (l := 70) (h := 2147483647) (r_lt c28) (iv_lit (l := 69) (h := 69) (by decide)) (iv_leb (l := 30) (h := 2147483647) (r_nlt c23) (iv_lit (l := 30) (h := 30) (by decide)) (iv_ltb (l := 25) (h := 2147483647) (r_lt c21) (iv_lit (l := 24) (h := 24) (by decide)) (iv_leb (l := 20) (h := 2147483647) (r_nlt c14) (iv_lit (l := 20) (h := 20) (by decide)) (iv_ltb (l := 15) (h := 2147483647) (r_lt c12) (iv_lit (l := 14) (h := 14) (by decide)) (iv_leb (l := 10) (h := 2147483647) (r_nlt c1) (iv_lit (l := 10) (h := 10) (by decide)) (iv_top x1) (by decide)) (by decide)) (by decide)) (by decide)) (by decide)) (by decide)) (iv_lit (l := 79) (h := 79) (by decide)) (by decide)) (iv_lit (l := 70) (h := 70) (by decide)) (by decide)) (iv_sub (l := (-1)) (h := 8) k_f_huts (iv_lit (l := 1) (h := 1) (by decide)) (by decide)) (by decide)) (by decide), ?_⟩
                                exact hpost _
                  · skip
                    exact (iv_emp (iv_ne (l := 1) (h := 0) c29 (iv_lit (l := 0) (h := 0) (by decide)) (iv_lit (l := 0) (h := 0) (by decide)) (by decide)) (by decide)).elim
                · skip
                  refine ⟨fun c39 => ?_, fun c39 => ?_⟩
                  · skip
                    exact (iv_emp (iv_eqa (l := 1) (h := 0) c39 (iv_lit (l := 1) (h := 1) (by decide)) (iv_lit (l := 0) (h := 0) (by decide)) (by decide)) (by decide)).elim
                  · skip
                    refine s_m_ofSinger_0 k_a_lands k_f_land k_f_singers k_a_at k_a_knows k_a_climbed (iv_lea (l := 30) (h := 69) (r_nlt c28) (iv_leb (l := 30) (h := 2147483647) (r_nlt c23) (iv_lit (l := 30) (h := 30) (by decide)) (iv_ltb (l := 25) (h := 2147483647) (r_lt c21) (iv_lit (l := 24) (h := 24) (by decide)) (iv_leb (l := 20) (h := 2147483647) (r_nlt c14) (iv_lit (l := 20) (h := 20) (by decide)) (iv_ltb (l := 15) (h := 2147483647) (r_lt c12) (iv_lit (l := 14) (h := 14) (by decide)) (iv_leb (l := 10) (h := 2147483647) (r_nlt c1) (iv_lit (l := 10) (h := 10) (by decide)) (iv_top x1) (by decide)) (by decide)) (by decide)) (by decide)) (by decide)) (iv_lit (l := 69) (h := 69) (by decide)) (by decide)) (fun r40 hr40 => ?_)
                    exact hpost _
            · skip
              exact (iv_emp (iv_ne (l := 1) (h := 0) c22 (iv_lit (l := 0) (h := 0) (by decide)) (iv_lit (l := 0) (h := 0) (by decide)) (by decide)) (by decide)).elim
          · skip
            refine ⟨fun c41 => ?_, fun c41 => ?_⟩
            · skip
              exact (iv_emp (iv_eqa (l := 1) (h := 0) c41 (iv_lit (l := 1) (h := 1) (by decide)) (iv_lit (l := 0) (h := 0) (by decide)) (by decide)) (by decide)).elim
            · skip
              refine s_m_fame_0 k_f_singers k_a_knows (iv_sub (l := 0) (h := 4) (iv_lea (l := 20) (h := 24) (r_nlt c21) (iv_leb (l := 20) (h := 2147483647) (r_nlt c14) (iv_lit (l := 20) (h := 20) (by decide)) (iv_ltb (l := 15) (h := 2147483647) (r_lt c12) (iv_lit (l := 14) (h := 14) (by decide)) (iv_leb (l := 10) (h := 2147483647) (r_nlt c1) (iv_lit (l := 10) (h := 10) (by decide)) (iv_top x1) (by decide)) (by decide)) (by decide)) (iv_lit (l := 24) (h := 24) (by decide)) (by decide)) (iv_lit (l := 20) (h := 20) (by decide)) (by decide)) (fun r42 => ?_)
              exact hpost _
      · skip
        exact (iv_emp (iv_ne (l := 1) (h := 0) c13 (iv_lit (l := 0) (h := 0) (by decide)) (iv_lit (l := 0) (h := 0) (by decide)) (by decide)) (by decide)).elim
    · skip
      refine ⟨fun c43 => ?_, fun c43 => ?_⟩
      · skip
        exact (iv_emp (iv_eqa (l := 1) (h := 0) c43 (iv_lit (l := 1) (h := 1) (by decide)) (iv_lit (l := 0) (h := 0) (by decide)) (by decide)) (by decide)).elim
      · skip
        refine ⟨fun c44 => ?_, fun c44 => ?_⟩
        · skip
          refine ⟨fun c45 => ?_, fun c45 => ?_⟩
          · skip
            exact hpost _
          · skip
            exact (iv_emp (iv_ne (l := 1) (h := 0) c45 (iv_lit (l := 0) (h := 0) (by decide)) (iv_lit (l := 0) (h := 0) (by decide)) (by decide)) (by decide)).elim
        · skip
          refine ⟨fun c46 => ?_, fun c46 => ?_⟩
          · skip
            exact (iv_emp (iv_eqa (l := 1) (h := 0) c46 (iv_lit (l := 1) (h := 1) (by decide)) (iv_lit (l := 0) (h := 0) (by decide)) (by decide)) (by decide)).elim
          · skip
            refine ⟨iv_in (iv_sub (l := 0) (h := 4) (iv_lea (l := 10) (h := 14) (r_nlt c12) (iv_leb (l := 10) (h := 2147483647) (r_nlt c1) (iv_lit (l := 10) (h := 10) (by decide)) (iv_top x1) (by decide)) (iv_lit (l := 14) (h := 14) (by decide)) (by decide)) (iv_lit (l := 10) (h := 10) (by decide)) (by decide)) (by decide), ?_⟩
            exact hpost _
-- m_state
set_option maxRecDepth 20000 in
theorem s_m_state_0 {f_code : Int32} {a_many : Nat → Int32} {a_lands : Nat → Int32} {a_evenings : Nat → Int32} {f_land : Int32} {f_huts : Int32} {f_singers : Int32} {f_evening : Int32} {a_at : Nat → Int32} {a_knows : Nat → Int32} {a_climbed : Nat → Int32} {a_snow : Nat → Int32} {a_level : Nat → Int32} {f_begun : Int32} {f_minute : Int32} {f_avalanches : Int32} {x1 : Int32} {x2 : Int32} {x3 : Int32} {x4 : Int32} {post : Int32 → (Int32) → (Int32) → (Int32) → (Int32) → (Int32) → (Nat → Int32) → (Nat → Int32) → (Nat → Int32) → (Nat → Int32) → (Nat → Int32) → (Int32) → (Int32) → (Int32) → Prop} (k_f_code : iv 0 0 f_code) (k_a_many : ∀ j, iv 0 2 (a_many j)) (k_a_lands : mLand a_lands) (k_a_evenings : mEve a_evenings) (k_f_land : iv 0 1 f_land) (k_f_huts : iv 0 9 f_huts) (k_f_singers : iv 0 6 f_singers) (k_a_at : ∀ j, iv 0 8 (a_at j)) (k_a_knows : ∀ j, iv 0 31 (a_knows j)) (k_a_climbed : ∀ j, iv 0 1 (a_climbed j)) (k_a_level : ∀ j, iv (-9) 108 (a_level j)) (k_f_begun : iv 0 31 f_begun) (hpost : ∀ (r : Int32) (f_code : Int32) (f_land : Int32) (f_huts : Int32) (f_singers : Int32) (f_evening : Int32) (a_at : Nat → Int32) (a_knows : Nat → Int32) (a_climbed : Nat → Int32) (a_snow : Nat → Int32) (a_level : Nat → Int32) (f_begun : Int32) (f_minute : Int32) (f_avalanches : Int32), (iv 0 0 f_code) → (iv 0 1 f_land) → (iv 0 9 f_huts) → (iv 0 6 f_singers) → (∀ j, iv 0 8 (a_at j)) → (∀ j, iv 0 31 (a_knows j)) → (∀ j, iv 0 1 (a_climbed j)) → (∀ j, iv (-9) 108 (a_level j)) → (iv 0 31 f_begun) → post r f_code f_land f_huts f_singers f_evening a_at a_knows a_climbed a_snow a_level f_begun f_minute f_avalanches) : q_m_state_0 f_code a_many a_lands a_evenings f_land f_huts f_singers f_evening a_at a_knows a_climbed a_snow a_level f_begun f_minute f_avalanches x1 x2 x3 x4 post := by
  refine ⟨iv_in (iv_lit (l := 1) (h := 1) (by decide)) (by decide), ?_⟩
  refine ⟨fun c1 => ?_, fun c1 => ?_⟩
  · skip
    refine ⟨iv_nb (iv_lit (l := 0) (h := 0) (by decide)) (by decide), ?_⟩
    refine ⟨iv_nb (iv_lit (l := 0) (h := 0) (by decide)) (by decide), ?_⟩
    refine ⟨fun c2 => ?_, fun c2 => ?_⟩
    · skip
      refine ⟨fun c3 => ?_, fun c3 => ?_⟩
      · skip
        exact hpost _ _ _ _ _ _ _ _ _ _ _ _ _ _ (iv_lit (l := 0) (h := 0) (by decide)) k_f_land k_f_huts k_f_singers k_a_at k_a_knows k_a_climbed k_a_level k_f_begun
      · skip
        exact (iv_emp (iv_ne (l := 1) (h := 0) c3 (iv_lit (l := 0) (h := 0) (by decide)) (iv_lit (l := 0) (h := 0) (by decide)) (by decide)) (by decide)).elim
    · skip
      exact (iv_emp (iv_ne (l := 1) (h := 0) c2 (iv_lit (l := 0) (h := 0) (by decide)) (iv_lit (l := 0) (h := 0) (by decide)) (by decide)) (by decide)).elim
  · skip
    refine ⟨fun c4 => ?_, fun c4 => ?_⟩
    · skip
      refine ⟨iv_nb (iv_lit (l := 0) (h := 0) (by decide)) (by decide), ?_⟩
      refine ⟨iv_nb (iv_lit (l := 0) (h := 0) (by decide)) (by decide), ?_⟩
      refine ⟨fun c5 => ?_, fun c5 => ?_⟩
      · skip
        refine ⟨fun c6 => ?_, fun c6 => ?_⟩
        · skip
          exact hpost _ _ _ _ _ _ _ _ _ _ _ _ _ _ (iv_lit (l := 0) (h := 0) (by decide)) k_f_land k_f_huts k_f_singers k_a_at k_a_knows k_a_climbed k_a_level k_f_begun
        · skip
          exact (iv_emp (iv_ne (l := 1) (h := 0) c6 (iv_lit (l := 0) (h := 0) (by decide)) (iv_lit (l := 0) (h := 0) (by decide)) (by decide)) (by decide)).elim
      · skip
        exact (iv_emp (iv_ne (l := 1) (h := 0) c5 (iv_lit (l := 0) (h := 0) (by decide)) (iv_lit (l := 0) (h := 0) (by decide)) (by decide)) (by decide)).elim
    · skip
      refine ⟨iv_nb (iv_lit (l := 1) (h := 1) (by decide)) (by decide), ?_⟩
      refine ⟨iv_nb (iv_lit (l := 1) (h := 1) (by decide)) (by decide), ?_⟩
      refine ⟨fun c7 => ?_, fun c7 => ?_⟩
      · skip
        exact (iv_emp (iv_eqa (l := 1) (h := 0) c7 (iv_lit (l := 1) (h := 1) (by decide)) (iv_lit (l := 0) (h := 0) (by decide)) (by decide)) (by decide)).elim
      · skip
        refine ⟨iv_in (iv_lit (l := 0) (h := 0) (by decide)) (by decide), ?_⟩
        refine ⟨fun c8 => ?_, fun c8 => ?_⟩
        · skip
          refine ⟨iv_nb (iv_lit (l := 0) (h := 0) (by decide)) (by decide), ?_⟩
          refine ⟨fun c9 => ?_, fun c9 => ?_⟩
          · skip
            exact (iv_emp (iv_ne (l := 1) (h := 0) c9 (iv_lit (l := 0) (h := 0) (by decide)) (iv_lit (l := 0) (h := 0) (by decide)) (by decide)) (by decide)).elim
          · skip
            refine ⟨fun c10 => ?_, fun c10 => ?_⟩
            · skip
              refine ⟨fun c11 => ?_, fun c11 => ?_⟩
              · skip
                exact hpost _ _ _ _ _ _ _ _ _ _ _ _ _ _ (iv_lit (l := 0) (h := 0) (by decide)) k_f_land k_f_huts k_f_singers k_a_at k_a_knows k_a_climbed k_a_level k_f_begun
              · skip
                exact (iv_emp (iv_ne (l := 1) (h := 0) c11 (iv_lit (l := 0) (h := 0) (by decide)) (iv_lit (l := 0) (h := 0) (by decide)) (by decide)) (by decide)).elim
            · skip
              exact (iv_emp (iv_ne (l := 1) (h := 0) c10 (iv_lit (l := 0) (h := 0) (by decide)) (iv_lit (l := 0) (h := 0) (by decide)) (by decide)) (by decide)).elim
        · skip
          refine ⟨fun c12 => ?_, fun c12 => ?_⟩
          · skip
            refine ⟨iv_nb (iv_lit (l := 0) (h := 0) (by decide)) (by decide), ?_⟩
            refine ⟨fun c13 => ?_, fun c13 => ?_⟩
            · skip
              exact (iv_emp (iv_ne (l := 1) (h := 0) c13 (iv_lit (l := 0) (h := 0) (by decide)) (iv_lit (l := 0) (h := 0) (by decide)) (by decide)) (by decide)).elim
            · skip
              refine ⟨fun c14 => ?_, fun c14 => ?_⟩
              · skip
                refine ⟨fun c15 => ?_, fun c15 => ?_⟩
                · skip
                  exact hpost _ _ _ _ _ _ _ _ _ _ _ _ _ _ (iv_lit (l := 0) (h := 0) (by decide)) k_f_land k_f_huts k_f_singers k_a_at k_a_knows k_a_climbed k_a_level k_f_begun
                · skip
                  exact (iv_emp (iv_ne (l := 1) (h := 0) c15 (iv_lit (l := 0) (h := 0) (by decide)) (iv_lit (l := 0) (h := 0) (by decide)) (by decide)) (by decide)).elim
              · skip
                exact (iv_emp (iv_ne (l := 1) (h := 0) c14 (iv_lit (l := 0) (h := 0) (by decide)) (iv_lit (l := 0) (h := 0) (by decide)) (by decide)) (by decide)).elim
          · skip
            refine ⟨iv_nb (iv_lit (l := 1) (h := 1) (by decide)) (by decide), ?_⟩
            refine ⟨fun c16 => ?_, fun c16 => ?_⟩
            · skip
              refine sp_of (a := 0) (b := 9) k_a_lands (iv_lea (l := 0) (h := 1) (r_nlt c12) (iv_leb (l := 0) (h := 2147483647) (r_nlt c8) (iv_lit (l := 0) (h := 0) (by decide)) (iv_top x1) (by decide)) (iv_sub (l := (-1)) (h := 1) (k_a_many _) (iv_lit (l := 1) (h := 1) (by decide)) (by decide)) (by decide)) (iv_lit (l := 0) (h := 0) (by decide)) (by decide +kernel) (fun r17 hr17 er17 => ?_)
              refine sp_of (a := 0) (b := 6) k_a_lands (iv_lea (l := 0) (h := 1) (r_nlt c12) (iv_leb (l := 0) (h := 2147483647) (r_nlt c8) (iv_lit (l := 0) (h := 0) (by decide)) (iv_top x1) (by decide)) (iv_sub (l := (-1)) (h := 1) (k_a_many _) (iv_lit (l := 1) (h := 1) (by decide)) (by decide)) (by decide)) (iv_lit (l := 1) (h := 1) (by decide)) (by decide +kernel) (fun r18 hr18 er18 => ?_)
              refine ⟨fun c19 => ?_, fun c19 => ?_⟩
              · skip
                exact (iv_emp (iv_eqa (l := 1) (h := 0) c19 (iv_lit (l := 1) (h := 1) (by decide)) (iv_lit (l := 0) (h := 0) (by decide)) (by decide)) (by decide)).elim
              · skip
                refine ⟨fun c20 => ?_, fun c20 => ?_⟩
                · skip
                  exact (iv_emp (iv_eqa (l := 1) (h := 0) c20 (iv_lit (l := 1) (h := 1) (by decide)) (iv_lit (l := 0) (h := 0) (by decide)) (by decide)) (by decide)).elim
                · skip
                  refine sp_deeds k_a_evenings (iv_lea (l := 0) (h := 1) (r_nlt c4) (iv_leb (l := 0) (h := 2147483647) (r_nlt c1) (iv_lit (l := 0) (h := 0) (by decide)) (iv_top x2) (by decide)) (iv_sub (l := (-1)) (h := 1) (k_a_many _) (iv_lit (l := 1) (h := 1) (by decide)) (by decide)) (by decide)) (fun r21 hr21 => ?_)
                  refine ⟨fun c22 => ?_, fun c22 => ?_⟩
                  · skip
                    refine ⟨fun c23 => ?_, fun c23 => ?_⟩
                    · skip
                      exact hpost _ _ _ _ _ _ _ _ _ _ _ _ _ _ (iv_lit (l := 0) (h := 0) (by decide)) (iv_lea (l := 0) (h := 1) (r_nlt c12) (iv_leb (l := 0) (h := 2147483647) (r_nlt c8) (iv_lit (l := 0) (h := 0) (by decide)) (iv_top x1) (by decide)) (iv_sub (l := (-1)) (h := 1) (k_a_many _) (iv_lit (l := 1) (h := 1) (by decide)) (by decide)) (by decide)) hr17 hr18 k_a_at k_a_knows k_a_climbed k_a_level k_f_begun
                    · skip
                      exact (iv_emp (iv_ne (l := 1) (h := 0) c23 (iv_lit (l := 0) (h := 0) (by decide)) (iv_lit (l := 0) (h := 0) (by decide)) (by decide)) (by decide)).elim
                  · skip
                    refine ⟨fun c24 => ?_, fun c24 => ?_⟩
                    · skip
                      refine ⟨fun c25 => ?_, fun c25 => ?_⟩
                      · skip
                        exact hpost _ _ _ _ _ _ _ _ _ _ _ _ _ _ (iv_lit (l := 0) (h := 0) (by decide)) (iv_lea (l := 0) (h := 1) (r_nlt c12) (iv_leb (l := 0) (h := 2147483647) (r_nlt c8) (iv_lit (l := 0) (h := 0) (by decide)) (iv_top x1) (by decide)) (iv_sub (l := (-1)) (h := 1) (k_a_many _) (iv_lit (l := 1) (h := 1) (by decide)) (by decide)) (by decide)) hr17 hr18 k_a_at k_a_knows k_a_climbed k_a_level k_f_begun
                      · skip
                        exact (iv_emp (iv_ne (l := 1) (h := 0) c25 (iv_lit (l := 0) (h := 0) (by decide)) (iv_lit (l := 0) (h := 0) (by decide)) (by decide)) (by decide)).elim
                    · skip
                      refine ⟨fun c26 => ?_, fun c26 => ?_⟩
                      · skip
                        exact (iv_emp (iv_eqa (l := 1) (h := 0) c26 (iv_lit (l := 1) (h := 1) (by decide)) (iv_lit (l := 0) (h := 0) (by decide)) (by decide)) (by decide)).elim
                      · skip
                        refine s_m_play_0 k_a_lands k_a_evenings (iv_lea (l := 0) (h := 1) (r_nlt c12) (iv_leb (l := 0) (h := 2147483647) (r_nlt c8) (iv_lit (l := 0) (h := 0) (by decide)) (iv_top x1) (by decide)) (iv_sub (l := (-1)) (h := 1) (k_a_many _) (iv_lit (l := 1) (h := 1) (by decide)) (by decide)) (by decide)) hr17 hr18 (iv_lea (l := 0) (h := 1) (r_nlt c4) (iv_leb (l := 0) (h := 2147483647) (r_nlt c1) (iv_lit (l := 0) (h := 0) (by decide)) (iv_top x2) (by decide)) (iv_sub (l := (-1)) (h := 1) (k_a_many _) (iv_lit (l := 1) (h := 1) (by decide)) (by decide)) (by decide)) k_a_at k_a_knows k_a_climbed k_a_level k_f_begun (iv_lea (l := 0) (h := 40) (r_nlt c24) (iv_leb (l := 0) (h := 2147483647) (r_nlt c22) (iv_lit (l := 0) (h := 0) (by decide)) (iv_top x3) (by decide)) hr21 (by decide)) (fun r27 o28 o29 o30 o31 o32 o33 o34 o35 hr27 k_o28 k_o29 k_o30 k_o32 k_o33 => ?_)
                        refine ⟨fun c36 => ?_, fun c36 => ?_⟩
                        · skip
                          exact hpost _ _ _ _ _ _ _ _ _ _ _ _ _ _ (iv_lit (l := 0) (h := 0) (by decide)) (iv_lea (l := 0) (h := 1) (r_nlt c12) (iv_leb (l := 0) (h := 2147483647) (r_nlt c8) (iv_lit (l := 0) (h := 0) (by decide)) (iv_top x1) (by decide)) (iv_sub (l := (-1)) (h := 1) (k_a_many _) (iv_lit (l := 1) (h := 1) (by decide)) (by decide)) (by decide)) hr17 hr18 k_o28 k_o29 k_o30 k_o32 k_o33
                        · skip
                          refine s_m_ofState_0 k_a_lands (iv_lea (l := 0) (h := 1) (r_nlt c12) (iv_leb (l := 0) (h := 2147483647) (r_nlt c8) (iv_lit (l := 0) (h := 0) (by decide)) (iv_top x1) (by decide)) (iv_sub (l := (-1)) (h := 1) (k_a_many _) (iv_lit (l := 1) (h := 1) (by decide)) (by decide)) (by decide)) hr17 hr18 k_o28 k_o29 k_o30 k_o32 k_o33 (fun r37 => ?_)
                          exact hpost _ _ _ _ _ _ _ _ _ _ _ _ _ _ (iv_lit (l := 0) (h := 0) (by decide)) (iv_lea (l := 0) (h := 1) (r_nlt c12) (iv_leb (l := 0) (h := 2147483647) (r_nlt c8) (iv_lit (l := 0) (h := 0) (by decide)) (iv_top x1) (by decide)) (iv_sub (l := (-1)) (h := 1) (k_a_many _) (iv_lit (l := 1) (h := 1) (by decide)) (by decide)) (by decide)) hr17 hr18 k_o28 k_o29 k_o30 k_o32 k_o33
            · skip
              exact (iv_emp (iv_eqa (l := 1) (h := 0) c16 (iv_lit (l := 1) (h := 1) (by decide)) (iv_lit (l := 0) (h := 0) (by decide)) (by decide)) (by decide)).elim
-- m_findRun
set_option maxRecDepth 20000 in
theorem s_m_findRun_46 {P11 : Int32 → (Nat → Int32) → Prop} {a_lands : Nat → Int32} {f_land : Int32} {f_huts : Int32} {a_run : Nat → Int32} {x1 : Int32} {x3 : Int32} {x4 : Int32} {y0 : Int32} {y1 : Int32} {post : (Nat → Int32) → Prop} (k_a_lands : mLand a_lands) (k_f_land : iv 0 1 f_land) (k_f_huts : iv 0 9 f_huts) (k_a_run : ∀ j, iv 0 1000000 (a_run j)) (hx1 : iv 0 8 x1) (hx3 : iv 0 511 x3) (hx4 : iv 0 8 x4) (hy0 : iv 0 8 y0) (hy1 : iv 0 1000000 y1) (m11 : Int) (hm11 : m11 ≤ x4.toInt) (hP11 : ∀ (x4 : Int32) (a_run : Nat → Int32), m11 < x4.toInt → iv 0 9 x4 → (∀ j, iv 0 1000000 (a_run j)) → P11 x4 a_run) (hpost : ∀ (a_run : Nat → Int32), (∀ j, iv 0 1000000 (a_run j)) → post a_run) : q_m_findRun_46 P11 a_lands f_land f_huts a_run x1 x3 x4 y0 y1 post := by
  refine ⟨iv_in hy0 (by decide), ?_⟩
  intro a1 ea1
  have k_a1 := iv_upd ea1 k_a_run hy1
  intro w2 ew2
  have hw2 := iv_eq ew2 (iv_add (l := 1) (h := 9) hx4 (iv_lit (l := 1) (h := 1) (by decide)) (by decide))
  exact hP11 _ _ (ml_up hm11 (inc_lt ew2 hx4 (by decide))) (iv_w hw2 (by decide)) k_a1
set_option maxRecDepth 20000 in
theorem s_m_findRun_43 {P11 : Int32 → (Nat → Int32) → Prop} {a_lands : Nat → Int32} {f_land : Int32} {f_huts : Int32} {a_run : Nat → Int32} {x1 : Int32} {x3 : Int32} {x4 : Int32} {y0 : Int32} {post : (Nat → Int32) → Prop} (k_a_lands : mLand a_lands) (k_f_land : iv 0 1 f_land) (k_f_huts : iv 0 9 f_huts) (k_a_run : ∀ j, iv 0 1000000 (a_run j)) (hx1 : iv 0 8 x1) (hx3 : iv 0 511 x3) (hx4 : iv 0 8 x4) (hy0 : iv 0 8 y0) (m11 : Int) (hm11 : m11 ≤ x4.toInt) (hP11 : ∀ (x4 : Int32) (a_run : Nat → Int32), m11 < x4.toInt → iv 0 9 x4 → (∀ j, iv 0 1000000 (a_run j)) → P11 x4 a_run) (hpost : ∀ (a_run : Nat → Int32), (∀ j, iv 0 1000000 (a_run j)) → post a_run) : q_m_findRun_43 P11 a_lands f_land f_huts a_run x1 x3 x4 y0 post := by
  exact s_m_findRun_46 k_a_lands k_f_land k_f_huts k_a_run hx1 hx3 hx4 hy0 (iv_w (iv_lit (l := 1000000) (h := 1000000) (by decide)) (by decide)) m11 hm11 hP11 hpost
set_option maxRecDepth 20000 in
theorem s_m_findRun_270 {P56 : Int32 → (Nat → Int32) → Prop} {P194 : Int32 → (Nat → Int32) → Prop} {a_lands : Nat → Int32} {f_land : Int32} {f_huts : Int32} {a_run : Nat → Int32} {x3 : Int32} {x4 : Int32} {x5 : Int32} {y0 : Int32} {y1 : Int32} {post : (Nat → Int32) → Prop} (k_a_lands : mLand a_lands) (k_f_land : iv 0 1 f_land) (k_f_huts : iv 1 9 f_huts) (k_a_run : ∀ j, iv 0 1000000 (a_run j)) (hx3 : iv 0 511 x3) (hx4 : iv 0 8 x4) (hx5 : iv 0 3 x5) (hy0 : iv 0 8 y0) (hy1 : iv 0 1000000 y1) (m56 : Int) (hm56 : m56 ≤ x4.toInt) (hP56 : ∀ (x4 : Int32) (a_run : Nat → Int32), m56 < x4.toInt → iv 0 9 x4 → (∀ j, iv 0 1000000 (a_run j)) → P56 x4 a_run) (m194 : Int) (hm194 : m194 ≤ x5.toInt) (hP194 : ∀ (x5 : Int32) (a_run : Nat → Int32), m194 < x5.toInt → iv 0 4 x5 → (∀ j, iv 0 1000000 (a_run j)) → P194 x5 a_run) (hpost : ∀ (a_run : Nat → Int32), (∀ j, iv 0 1000000 (a_run j)) → post a_run) : q_m_findRun_270 P56 P194 a_lands f_land f_huts a_run x3 x4 x5 y0 y1 post := by
  refine ⟨iv_in hy0 (by decide), ?_⟩
  intro a1 ea1
  have k_a1 := iv_upd ea1 k_a_run hy1
  intro w2 ew2
  have hw2 := iv_eq ew2 (iv_add (l := 1) (h := 4) hx5 (iv_lit (l := 1) (h := 1) (by decide)) (by decide))
  exact hP194 _ _ (ml_up hm194 (inc_lt ew2 hx5 (by decide))) (iv_w hw2 (by decide)) k_a1
set_option maxRecDepth 20000 in
theorem s_m_findRun_194 {P56 : Int32 → (Nat → Int32) → Prop} {a_lands : Nat → Int32} {f_land : Int32} {f_huts : Int32} {a_run : Nat → Int32} {x3 : Int32} {x4 : Int32} {x5 : Int32} {post : (Nat → Int32) → Prop} (k_a_lands : mLand a_lands) (k_f_land : iv 0 1 f_land) (k_f_huts : iv 1 9 f_huts) (k_a_run : ∀ j, iv 0 1000000 (a_run j)) (hx3 : iv 0 511 x3) (hx4 : iv 0 8 x4) (hx5 : iv 0 4 x5) (m56 : Int) (hm56 : m56 ≤ x4.toInt) (hP56 : ∀ (x4 : Int32) (a_run : Nat → Int32), m56 < x4.toInt → iv 0 9 x4 → (∀ j, iv 0 1000000 (a_run j)) → P56 x4 a_run) (hpost : ∀ (a_run : Nat → Int32), (∀ j, iv 0 1000000 (a_run j)) → post a_run) : q_m_findRun_194 P56 a_lands f_land f_huts a_run x3 x4 x5 post := by
  intro P hP
  have loop : ∀ (n : Nat) (x5 : Int32) (a_run : Nat → Int32), (4 - x5.toInt < (n : Int)) → (iv 0 4 x5) → (∀ j, iv 0 1000000 (a_run j)) → P x5 a_run := by
    intro n
    induction n with
    | zero => intro x5 a_run hm hx5 k_a_run; exact (ms0_up hm hx5).elim
    | succ n ih =>
      intro x5 a_run hm hx5 k_a_run
      apply hP
      refine sp_of (a := 0) (b := 4) k_a_lands k_f_land (iv_lit (l := 4) (h := 4) (by decide)) (by decide +kernel) (fun r1 hr1 er1 => ?_)
      refine ⟨fun c2 => ?_, fun c2 => ?_⟩
      · skip
        intro w3 ew3
        have hw3 := iv_eq ew3 (iv_add (l := 1) (h := 9) hx4 (iv_lit (l := 1) (h := 1) (by decide)) (by decide))
        exact hP56 _ _ (ml_up hm56 (inc_lt ew3 hx4 (by decide))) (iv_w hw3 (by decide)) k_a_run
      · skip
        refine sp_of (a := 0) (b := 8) k_a_lands k_f_land (iv_add (l := 44) (h := 50) (iv_add (l := 43) (h := 49) (iv_lit (l := 43) (h := 43) (by decide)) (iv_mul (l := 0) (h := 6) (iv_lit (l := 2) (h := 2) (by decide)) (iv_lta (l := 0) (h := 3) (r_nle c2) hx5 hr1 (by decide)) (by decide)) (by decide)) (iv_lit (l := 1) (h := 1) (by decide)) (by decide)) (by decide +kernel) (fun r4 hr4 er4 => ?_)
        refine ⟨fun c5 => ?_, fun c5 => ?_⟩
        · skip
          refine ⟨fun c6 => ?_, fun c6 => ?_⟩
          · skip
            refine ⟨iv_in hr4 (by decide), ?_⟩
            refine sp_of (a := 0) (b := 8) k_a_lands k_f_land (iv_add (l := 43) (h := 49) (iv_lit (l := 43) (h := 43) (by decide)) (iv_mul (l := 0) (h := 6) (iv_lit (l := 2) (h := 2) (by decide)) (iv_lta (l := 0) (h := 3) (r_nle c2) hx5 hr1 (by decide)) (by decide)) (by decide)) (by decide +kernel) (fun r7 hr7 er7 => ?_)
            refine ⟨iv_in hr7 (by decide), ?_⟩
            refine ⟨fun c8 => ?_, fun c8 => ?_⟩
            · skip
              exact s_m_findRun_270 k_a_lands k_f_land k_f_huts k_a_run hx3 hx4 (iv_lta (l := 0) (h := 3) (r_nle c2) hx5 hr1 (by decide)) hr4 (k_a_run _) m56 hm56 hP56 x5.toInt (Int.le_refl _) (fun u0 u1 hq g0 g1 => ih u0 u1 (ms_up hm hq) g0 g1) hpost
            · skip
              exact s_m_findRun_270 k_a_lands k_f_land k_f_huts k_a_run hx3 hx4 (iv_lta (l := 0) (h := 3) (r_nle c2) hx5 hr1 (by decide)) hr4 (iv_w (iv_lta (l := 0) (h := 999999) (r_nle c8) (k_a_run _) (k_a_run _) (by decide)) (by decide)) m56 hm56 hP56 x5.toInt (Int.le_refl _) (fun u0 u1 hq g0 g1 => ih u0 u1 (ms_up hm hq) g0 g1) hpost
          · skip
            exact (iv_emp (iv_ne (l := 1) (h := 0) c6 (iv_lit (l := 0) (h := 0) (by decide)) (iv_lit (l := 0) (h := 0) (by decide)) (by decide)) (by decide)).elim
        · skip
          refine ⟨fun c9 => ?_, fun c9 => ?_⟩
          · skip
            exact (iv_emp (iv_eqa (l := 1) (h := 0) c9 (iv_lit (l := 1) (h := 1) (by decide)) (iv_lit (l := 0) (h := 0) (by decide)) (by decide)) (by decide)).elim
          · skip
            refine ⟨iv_in hr4 (by decide), ?_⟩
            exact s_m_findRun_270 k_a_lands k_f_land k_f_huts k_a_run hx3 hx4 (iv_lta (l := 0) (h := 3) (r_nle c2) hx5 hr1 (by decide)) hr4 (k_a_run _) m56 hm56 hP56 x5.toInt (Int.le_refl _) (fun u0 u1 hq g0 g1 => ih u0 u1 (ms_up hm hq) g0 g1) hpost
  exact loop _ _ _ (ms_init_up _ _) hx5 k_a_run
set_option maxRecDepth 20000 in
theorem s_m_findRun_178 {P56 : Int32 → (Nat → Int32) → Prop} {P68 : Int32 → (Nat → Int32) → Prop} {P80 : Int32 → (Nat → Int32) → Prop} {a_lands : Nat → Int32} {f_land : Int32} {f_huts : Int32} {a_run : Nat → Int32} {x3 : Int32} {x4 : Int32} {x5 : Int32} {x6 : Int32} {y0 : Int32} {y1 : Int32} {post : (Nat → Int32) → Prop} (k_a_lands : mLand a_lands) (k_f_land : iv 0 1 f_land) (k_f_huts : iv 1 9 f_huts) (k_a_run : ∀ j, iv 0 1000000 (a_run j)) (hx3 : iv 0 511 x3) (hx4 : iv 0 8 x4) (hx5 : iv 0 8 x5) (hx6 : iv 0 8 x6) (hy0 : iv 0 8 y0) (hy1 : iv 0 1000000 y1) (m56 : Int) (hm56 : m56 ≤ x4.toInt) (hP56 : ∀ (x4 : Int32) (a_run : Nat → Int32), m56 < x4.toInt → iv 0 9 x4 → (∀ j, iv 0 1000000 (a_run j)) → P56 x4 a_run) (m68 : Int) (hm68 : m68 ≤ x5.toInt) (hP68 : ∀ (x5 : Int32) (a_run : Nat → Int32), m68 < x5.toInt → iv 0 9 x5 → (∀ j, iv 0 1000000 (a_run j)) → P68 x5 a_run) (m80 : Int) (hm80 : m80 ≤ x6.toInt) (hP80 : ∀ (x6 : Int32) (a_run : Nat → Int32), m80 < x6.toInt → iv 0 9 x6 → (∀ j, iv 0 1000000 (a_run j)) → P80 x6 a_run) (hpost : ∀ (a_run : Nat → Int32), (∀ j, iv 0 1000000 (a_run j)) → post a_run) : q_m_findRun_178 P56 P68 P80 a_lands f_land f_huts a_run x3 x4 x5 x6 y0 y1 post := by
  refine ⟨iv_in hy0 (by decide), ?_⟩
  intro a1 ea1
  have k_a1 := iv_upd ea1 k_a_run hy1
  intro w2 ew2
  have hw2 := iv_eq ew2 (iv_add (l := 1) (h := 9) hx6 (iv_lit (l := 1) (h := 1) (by decide)) (by decide))
  exact hP80 _ _ (ml_up hm80 (inc_lt ew2 hx6 (by decide))) (iv_w hw2 (by decide)) k_a1
set_option maxRecDepth 20000 in
theorem s_m_findRun_129 {P56 : Int32 → (Nat → Int32) → Prop} {P68 : Int32 → (Nat → Int32) → Prop} {P80 : Int32 → (Nat → Int32) → Prop} {a_lands : Nat → Int32} {f_land : Int32} {f_huts : Int32} {a_run : Nat → Int32} {x3 : Int32} {x4 : Int32} {x5 : Int32} {x6 : Int32} {y0 : Int32} {post : (Nat → Int32) → Prop} (k_a_lands : mLand a_lands) (k_f_land : iv 0 1 f_land) (k_f_huts : iv 1 9 f_huts) (k_a_run : ∀ j, iv 0 1000000 (a_run j)) (hx3 : iv 0 511 x3) (hx4 : iv 0 8 x4) (hx5 : iv 0 8 x5) (hx6 : iv 0 8 x6) (hy0 : iv 0 1 y0) (m56 : Int) (hm56 : m56 ≤ x4.toInt) (hP56 : ∀ (x4 : Int32) (a_run : Nat → Int32), m56 < x4.toInt → iv 0 9 x4 → (∀ j, iv 0 1000000 (a_run j)) → P56 x4 a_run) (m68 : Int) (hm68 : m68 ≤ x5.toInt) (hP68 : ∀ (x5 : Int32) (a_run : Nat → Int32), m68 < x5.toInt → iv 0 9 x5 → (∀ j, iv 0 1000000 (a_run j)) → P68 x5 a_run) (m80 : Int) (hm80 : m80 ≤ x6.toInt) (hP80 : ∀ (x6 : Int32) (a_run : Nat → Int32), m80 < x6.toInt → iv 0 9 x6 → (∀ j, iv 0 1000000 (a_run j)) → P80 x6 a_run) (hpost : ∀ (a_run : Nat → Int32), (∀ j, iv 0 1000000 (a_run j)) → post a_run) : q_m_findRun_129 P56 P68 P80 a_lands f_land f_huts a_run x3 x4 x5 x6 y0 post := by
  refine ⟨fun c1 => ?_, fun c1 => ?_⟩
  · skip
    refine ⟨iv_in hx6 (by decide), ?_⟩
    exact s_m_findRun_178 k_a_lands k_f_land k_f_huts k_a_run hx3 hx4 hx5 hx6 hx6 (k_a_run _) m56 hm56 hP56 m68 hm68 hP68 m80 hm80 hP80 hpost
  · skip
    refine ⟨iv_in hx6 (by decide), ?_⟩
    refine ⟨iv_in hx5 (by decide), ?_⟩
    refine sp_of (a := 0) (b := 9) k_a_lands k_f_land (iv_add (l := 51) (h := 131) (iv_add (l := 51) (h := 123) (iv_lit (l := 51) (h := 51) (by decide)) (iv_mul (l := 0) (h := 72) (iv_lit (l := 9) (h := 9) (by decide)) hx5 (by decide)) (by decide)) hx6 (by decide)) (by decide +kernel) (fun r2 hr2 er2 => ?_)
    refine ⟨fun c3 => ?_, fun c3 => ?_⟩
    · skip
      exact s_m_findRun_178 k_a_lands k_f_land k_f_huts k_a_run hx3 hx4 hx5 hx6 hx6 (iv_lea (l := 0) (h := 1000000) (r_le c3) (iv_add (l := 0) (h := 1000009) (k_a_run _) hr2 (by decide)) (k_a_run _) (by decide)) m56 hm56 hP56 m68 hm68 hP68 m80 hm80 hP80 hpost
    · skip
      exact s_m_findRun_178 k_a_lands k_f_land k_f_huts k_a_run hx3 hx4 hx5 hx6 hx6 (k_a_run _) m56 hm56 hP56 m68 hm68 hP68 m80 hm80 hP80 hpost
set_option maxRecDepth 20000 in
theorem s_m_findRun_128 {P56 : Int32 → (Nat → Int32) → Prop} {P68 : Int32 → (Nat → Int32) → Prop} {P80 : Int32 → (Nat → Int32) → Prop} {a_lands : Nat → Int32} {f_land : Int32} {f_huts : Int32} {a_run : Nat → Int32} {x3 : Int32} {x4 : Int32} {x5 : Int32} {x6 : Int32} {post : (Nat → Int32) → Prop} (k_a_lands : mLand a_lands) (k_f_land : iv 0 1 f_land) (k_f_huts : iv 1 9 f_huts) (k_a_run : ∀ j, iv 0 1000000 (a_run j)) (hx3 : iv 0 511 x3) (hx4 : iv 0 8 x4) (hx5 : iv 0 8 x5) (hx6 : iv 0 8 x6) (m56 : Int) (hm56 : m56 ≤ x4.toInt) (hP56 : ∀ (x4 : Int32) (a_run : Nat → Int32), m56 < x4.toInt → iv 0 9 x4 → (∀ j, iv 0 1000000 (a_run j)) → P56 x4 a_run) (m68 : Int) (hm68 : m68 ≤ x5.toInt) (hP68 : ∀ (x5 : Int32) (a_run : Nat → Int32), m68 < x5.toInt → iv 0 9 x5 → (∀ j, iv 0 1000000 (a_run j)) → P68 x5 a_run) (m80 : Int) (hm80 : m80 ≤ x6.toInt) (hP80 : ∀ (x6 : Int32) (a_run : Nat → Int32), m80 < x6.toInt → iv 0 9 x6 → (∀ j, iv 0 1000000 (a_run j)) → P80 x6 a_run) (hpost : ∀ (a_run : Nat → Int32), (∀ j, iv 0 1000000 (a_run j)) → post a_run) : q_m_findRun_128 P56 P68 P80 a_lands f_land f_huts a_run x3 x4 x5 x6 post := by
  exact s_m_findRun_129 k_a_lands k_f_land k_f_huts k_a_run hx3 hx4 hx5 hx6 (iv_w (iv_lit (l := 0) (h := 0) (by decide)) (by decide)) m56 hm56 hP56 m68 hm68 hP68 m80 hm80 hP80 hpost
set_option maxRecDepth 20000 in
theorem s_m_findRun_80 {P56 : Int32 → (Nat → Int32) → Prop} {P68 : Int32 → (Nat → Int32) → Prop} {a_lands : Nat → Int32} {f_land : Int32} {f_huts : Int32} {a_run : Nat → Int32} {x3 : Int32} {x4 : Int32} {x5 : Int32} {x6 : Int32} {post : (Nat → Int32) → Prop} (k_a_lands : mLand a_lands) (k_f_land : iv 0 1 f_land) (k_f_huts : iv 1 9 f_huts) (k_a_run : ∀ j, iv 0 1000000 (a_run j)) (hx3 : iv 0 511 x3) (hx4 : iv 0 8 x4) (hx5 : iv 0 8 x5) (hx6 : iv 0 9 x6) (m56 : Int) (hm56 : m56 ≤ x4.toInt) (hP56 : ∀ (x4 : Int32) (a_run : Nat → Int32), m56 < x4.toInt → iv 0 9 x4 → (∀ j, iv 0 1000000 (a_run j)) → P56 x4 a_run) (m68 : Int) (hm68 : m68 ≤ x5.toInt) (hP68 : ∀ (x5 : Int32) (a_run : Nat → Int32), m68 < x5.toInt → iv 0 9 x5 → (∀ j, iv 0 1000000 (a_run j)) → P68 x5 a_run) (hpost : ∀ (a_run : Nat → Int32), (∀ j, iv 0 1000000 (a_run j)) → post a_run) : q_m_findRun_80 P56 P68 a_lands f_land f_huts a_run x3 x4 x5 x6 post := by
  intro P hP
  have loop : ∀ (n : Nat) (x6 : Int32) (a_run : Nat → Int32), (9 - x6.toInt < (n : Int)) → (iv 0 9 x6) → (∀ j, iv 0 1000000 (a_run j)) → P x6 a_run := by
    intro n
    induction n with
    | zero => intro x6 a_run hm hx6 k_a_run; exact (ms0_up hm hx6).elim
    | succ n ih =>
      intro x6 a_run hm hx6 k_a_run
      apply hP
      refine ⟨fun c1 => ?_, fun c1 => ?_⟩
      · skip
        intro w2 ew2
        have hw2 := iv_eq ew2 (iv_add (l := 1) (h := 9) hx5 (iv_lit (l := 1) (h := 1) (by decide)) (by decide))
        exact hP68 _ _ (ml_up hm68 (inc_lt ew2 hx5 (by decide))) (iv_w hw2 (by decide)) k_a_run
      · skip
        refine sp_of (a := 0) (b := 9) k_a_lands k_f_land (iv_add (l := 51) (h := 131) (iv_add (l := 51) (h := 123) (iv_lit (l := 51) (h := 51) (by decide)) (iv_mul (l := 0) (h := 72) (iv_lit (l := 9) (h := 9) (by decide)) hx5 (by decide)) (by decide)) (iv_lta (l := 0) (h := 8) (r_nle c1) hx6 k_f_huts (by decide)) (by decide)) (by decide +kernel) (fun r3 hr3 er3 => ?_)
        refine ⟨fun c4 => ?_, fun c4 => ?_⟩
        · skip
          exact s_m_findRun_128 k_a_lands k_f_land k_f_huts k_a_run hx3 hx4 hx5 (iv_lta (l := 0) (h := 8) (r_nle c1) hx6 k_f_huts (by decide)) m56 hm56 hP56 m68 hm68 hP68 x6.toInt (Int.le_refl _) (fun u0 u1 hq g0 g1 => ih u0 u1 (ms_up hm hq) g0 g1) hpost
        · skip
          refine sp_of (a := 0) (b := 99) k_a_lands k_f_land (iv_add (l := 7) (h := 15) (iv_lit (l := 7) (h := 7) (by decide)) (iv_lta (l := 0) (h := 8) (r_nle c1) hx6 k_f_huts (by decide)) (by decide)) (by decide +kernel) (fun r5 hr5 er5 => ?_)
          refine sp_of (a := 0) (b := 99) k_a_lands k_f_land (iv_add (l := 7) (h := 15) (iv_lit (l := 7) (h := 7) (by decide)) hx5 (by decide)) (by decide +kernel) (fun r6 hr6 er6 => ?_)
          refine ⟨fun c7 => ?_, fun c7 => ?_⟩
          · skip
            exact s_m_findRun_128 k_a_lands k_f_land k_f_huts k_a_run hx3 hx4 hx5 (iv_lta (l := 0) (h := 8) (r_nle c1) hx6 k_f_huts (by decide)) m56 hm56 hP56 m68 hm68 hP68 x6.toInt (Int.le_refl _) (fun u0 u1 hq g0 g1 => ih u0 u1 (ms_up hm hq) g0 g1) hpost
          · skip
            refine ⟨fun c8 => ?_, fun c8 => ?_⟩
            · skip
              refine ⟨fun c9 => ?_, fun c9 => ?_⟩
              · skip
                exact (iv_emp (iv_ne (l := 1) (h := 0) c9 (iv_lit (l := 0) (h := 0) (by decide)) (iv_lit (l := 0) (h := 0) (by decide)) (by decide)) (by decide)).elim
              · skip
                exact s_m_findRun_129 k_a_lands k_f_land k_f_huts k_a_run hx3 hx4 hx5 (iv_lta (l := 0) (h := 8) (r_nle c1) hx6 k_f_huts (by decide)) (iv_w (iv_lit (l := 1) (h := 1) (by decide)) (by decide)) m56 hm56 hP56 m68 hm68 hP68 x6.toInt (Int.le_refl _) (fun u0 u1 hq g0 g1 => ih u0 u1 (ms_up hm hq) g0 g1) hpost
            · skip
              refine ⟨fun c10 => ?_, fun c10 => ?_⟩
              · skip
                exact s_m_findRun_128 k_a_lands k_f_land k_f_huts k_a_run hx3 hx4 hx5 (iv_lta (l := 0) (h := 8) (r_nle c1) hx6 k_f_huts (by decide)) m56 hm56 hP56 m68 hm68 hP68 x6.toInt (Int.le_refl _) (fun u0 u1 hq g0 g1 => ih u0 u1 (ms_up hm hq) g0 g1) hpost
              · skip
                exact (iv_emp (iv_eqa (l := 1) (h := 0) c10 (iv_lit (l := 1) (h := 1) (by decide)) (iv_lit (l := 0) (h := 0) (by decide)) (by decide)) (by decide)).elim
  exact loop _ _ _ (ms_init_up _ _) hx6 k_a_run
set_option maxRecDepth 20000 in
theorem s_m_findRun_68 {P56 : Int32 → (Nat → Int32) → Prop} {a_lands : Nat → Int32} {f_land : Int32} {f_huts : Int32} {a_run : Nat → Int32} {x3 : Int32} {x4 : Int32} {x5 : Int32} {post : (Nat → Int32) → Prop} (k_a_lands : mLand a_lands) (k_f_land : iv 0 1 f_land) (k_f_huts : iv 1 9 f_huts) (k_a_run : ∀ j, iv 0 1000000 (a_run j)) (hx3 : iv 0 511 x3) (hx4 : iv 0 8 x4) (hx5 : iv 0 9 x5) (m56 : Int) (hm56 : m56 ≤ x4.toInt) (hP56 : ∀ (x4 : Int32) (a_run : Nat → Int32), m56 < x4.toInt → iv 0 9 x4 → (∀ j, iv 0 1000000 (a_run j)) → P56 x4 a_run) (hpost : ∀ (a_run : Nat → Int32), (∀ j, iv 0 1000000 (a_run j)) → post a_run) : q_m_findRun_68 P56 a_lands f_land f_huts a_run x3 x4 x5 post := by
  intro P hP
  have loop : ∀ (n : Nat) (x5 : Int32) (a_run : Nat → Int32), (9 - x5.toInt < (n : Int)) → (iv 0 9 x5) → (∀ j, iv 0 1000000 (a_run j)) → P x5 a_run := by
    intro n
    induction n with
    | zero => intro x5 a_run hm hx5 k_a_run; exact (ms0_up hm hx5).elim
    | succ n ih =>
      intro x5 a_run hm hx5 k_a_run
      apply hP
      refine ⟨fun c1 => ?_, fun c1 => ?_⟩
      · skip
        exact s_m_findRun_194 k_a_lands k_f_land k_f_huts k_a_run hx3 hx4 (iv_w (iv_lit (l := 0) (h := 0) (by decide)) (by decide)) m56 hm56 hP56 hpost
      · skip
        exact s_m_findRun_80 k_a_lands k_f_land k_f_huts k_a_run hx3 hx4 (iv_lta (l := 0) (h := 8) (r_nle c1) hx5 k_f_huts (by decide)) (iv_w (iv_lit (l := 0) (h := 0) (by decide)) (by decide)) m56 hm56 hP56 x5.toInt (Int.le_refl _) (fun u0 u1 hq g0 g1 => ih u0 u1 (ms_up hm hq) g0 g1) hpost
  exact loop _ _ _ (ms_init_up _ _) hx5 k_a_run
set_option maxRecDepth 20000 in
theorem s_m_findRun_56 {a_lands : Nat → Int32} {f_land : Int32} {f_huts : Int32} {a_run : Nat → Int32} {x3 : Int32} {x4 : Int32} {post : (Nat → Int32) → Prop} (k_a_lands : mLand a_lands) (k_f_land : iv 0 1 f_land) (k_f_huts : iv 0 9 f_huts) (k_a_run : ∀ j, iv 0 1000000 (a_run j)) (hx3 : iv 0 511 x3) (hx4 : iv 0 9 x4) (hpost : ∀ (a_run : Nat → Int32), (∀ j, iv 0 1000000 (a_run j)) → post a_run) : q_m_findRun_56 a_lands f_land f_huts a_run x3 x4 post := by
  intro P hP
  have loop : ∀ (n : Nat) (x4 : Int32) (a_run : Nat → Int32), (9 - x4.toInt < (n : Int)) → (iv 0 9 x4) → (∀ j, iv 0 1000000 (a_run j)) → P x4 a_run := by
    intro n
    induction n with
    | zero => intro x4 a_run hm hx4 k_a_run; exact (ms0_up hm hx4).elim
    | succ n ih =>
      intro x4 a_run hm hx4 k_a_run
      apply hP
      refine ⟨fun c1 => ?_, fun c1 => ?_⟩
      · skip
        exact hpost _ k_a_run
      · skip
        exact s_m_findRun_68 k_a_lands k_f_land (iv_ltb (l := 1) (h := 9) (r_nle c1) hx4 k_f_huts (by decide)) k_a_run hx3 (iv_lta (l := 0) (h := 8) (r_nle c1) hx4 k_f_huts (by decide)) (iv_w (iv_lit (l := 0) (h := 0) (by decide)) (by decide)) x4.toInt (Int.le_refl _) (fun u0 u1 hq g0 g1 => ih u0 u1 (ms_up hm hq) g0 g1) hpost
  exact loop _ _ _ (ms_init_up _ _) hx4 k_a_run
set_option maxRecDepth 20000 in
theorem s_m_findRun_11 {a_lands : Nat → Int32} {f_land : Int32} {f_huts : Int32} {a_run : Nat → Int32} {x1 : Int32} {x3 : Int32} {x4 : Int32} {post : (Nat → Int32) → Prop} (k_a_lands : mLand a_lands) (k_f_land : iv 0 1 f_land) (k_f_huts : iv 0 9 f_huts) (k_a_run : ∀ j, iv 0 1000000 (a_run j)) (hx1 : iv 0 8 x1) (hx3 : iv 0 511 x3) (hx4 : iv 0 9 x4) (hpost : ∀ (a_run : Nat → Int32), (∀ j, iv 0 1000000 (a_run j)) → post a_run) : q_m_findRun_11 a_lands f_land f_huts a_run x1 x3 x4 post := by
  intro P hP
  have loop : ∀ (n : Nat) (x4 : Int32) (a_run : Nat → Int32), (9 - x4.toInt < (n : Int)) → (iv 0 9 x4) → (∀ j, iv 0 1000000 (a_run j)) → P x4 a_run := by
    intro n
    induction n with
    | zero => intro x4 a_run hm hx4 k_a_run; exact (ms0_up hm hx4).elim
    | succ n ih =>
      intro x4 a_run hm hx4 k_a_run
      apply hP
      refine ⟨fun c1 => ?_, fun c1 => ?_⟩
      · skip
        exact s_m_findRun_56 k_a_lands k_f_land k_f_huts k_a_run hx3 (iv_w (iv_lit (l := 0) (h := 0) (by decide)) (by decide)) hpost
      · skip
        refine ⟨fun c2 => ?_, fun c2 => ?_⟩
        · skip
          exact s_m_findRun_43 k_a_lands k_f_land k_f_huts k_a_run hx1 hx3 (iv_lta (l := 0) (h := 8) (r_nle c1) hx4 (iv_lit (l := 9) (h := 9) (by decide)) (by decide)) (iv_lta (l := 0) (h := 8) (r_nle c1) hx4 (iv_lit (l := 9) (h := 9) (by decide)) (by decide)) x4.toInt (Int.le_refl _) (fun u0 u1 hq g0 g1 => ih u0 u1 (ms_up hm hq) g0 g1) hpost
        · skip
          refine ⟨fun c3 => ?_, fun c3 => ?_⟩
          · skip
            refine ⟨fun c4 => ?_, fun c4 => ?_⟩
            · skip
              exact (iv_emp (iv_ne (l := 1) (h := 0) c4 (iv_lit (l := 0) (h := 0) (by decide)) (iv_lit (l := 0) (h := 0) (by decide)) (by decide)) (by decide)).elim
            · skip
              exact s_m_findRun_46 k_a_lands k_f_land k_f_huts k_a_run hx1 hx3 (iv_lta (l := 0) (h := 8) (r_nle c1) hx4 (iv_lit (l := 9) (h := 9) (by decide)) (by decide)) (iv_lta (l := 0) (h := 8) (r_nle c1) hx4 (iv_lit (l := 9) (h := 9) (by decide)) (by decide)) (iv_w (iv_lit (l := 0) (h := 0) (by decide)) (by decide)) x4.toInt (Int.le_refl _) (fun u0 u1 hq g0 g1 => ih u0 u1 (ms_up hm hq) g0 g1) hpost
          · skip
            refine ⟨fun c5 => ?_, fun c5 => ?_⟩
            · skip
              exact s_m_findRun_43 k_a_lands k_f_land k_f_huts k_a_run hx1 hx3 (iv_lta (l := 0) (h := 8) (r_nle c1) hx4 (iv_lit (l := 9) (h := 9) (by decide)) (by decide)) (iv_lta (l := 0) (h := 8) (r_nle c1) hx4 (iv_lit (l := 9) (h := 9) (by decide)) (by decide)) x4.toInt (Int.le_refl _) (fun u0 u1 hq g0 g1 => ih u0 u1 (ms_up hm hq) g0 g1) hpost
            · skip
              exact (iv_emp (iv_eqa (l := 1) (h := 0) c5 (iv_lit (l := 1) (h := 1) (by decide)) (iv_lit (l := 0) (h := 0) (by decide)) (by decide)) (by decide)).elim
  exact loop _ _ _ (ms_init_up _ _) hx4 k_a_run
set_option maxRecDepth 20000 in
theorem s_m_findRun_0 {a_lands : Nat → Int32} {f_land : Int32} {f_huts : Int32} {a_run : Nat → Int32} {x1 : Int32} {x2 : Int32} {post : (Nat → Int32) → Prop} (k_a_lands : mLand a_lands) (k_f_land : iv 0 1 f_land) (k_f_huts : iv 0 9 f_huts) (k_a_run : ∀ j, iv 0 1000000 (a_run j)) (hx1 : iv 0 8 x1) (hx2 : iv 0 511 x2) (hpost : ∀ (a_run : Nat → Int32), (∀ j, iv 0 1000000 (a_run j)) → post a_run) : q_m_findRun_0 a_lands f_land f_huts a_run x1 x2 post := by
  refine sp_of (a := 0) (b := 511) k_a_lands k_f_land (iv_lit (l := 3) (h := 3) (by decide)) (by decide +kernel) (fun r1 hr1 er1 => ?_)
  intro w2 ew2
  have hw2 := iv_eq ew2 (iv_or 9 (l := 0) (h := 511) hr1 hx2 (by decide))
  exact s_m_findRun_11 k_a_lands k_f_land k_f_huts k_a_run hx1 hw2 (iv_w (iv_lit (l := 0) (h := 0) (by decide)) (by decide)) hpost
end
section
-- m_comes
set_option maxRecDepth 20000 in
theorem s_m_comes_0 {f_code : Int32} {a_many : Nat → Int32} {a_lands : Nat → Int32} {f_land : Int32} {f_huts : Int32} {f_singers : Int32} {a_run : Nat → Int32} {x1 : Int32} {x2 : Int32} {x3 : Int32} {post : Int32 → (Int32) → (Int32) → (Int32) → (Int32) → (Nat → Int32) → Prop} (k_f_code : iv 0 0 f_code) (k_a_many : ∀ j, iv 0 2 (a_many j)) (k_a_lands : mLand a_lands) (k_f_land : iv 0 1 f_land) (k_f_huts : iv 0 9 f_huts) (k_f_singers : iv 0 6 f_singers) (k_a_run : ∀ j, iv 0 1000000 (a_run j)) (hpost : ∀ (r : Int32) (f_code : Int32) (f_land : Int32) (f_huts : Int32) (f_singers : Int32) (a_run : Nat → Int32), iv (-1) 999999 r → (iv 0 0 f_code) → (iv 0 1 f_land) → (iv 0 9 f_huts) → (iv 0 6 f_singers) → (∀ j, iv 0 1000000 (a_run j)) → post r f_code f_land f_huts f_singers a_run) : q_m_comes_0 f_code a_many a_lands f_land f_huts f_singers a_run x1 x2 x3 post := by
  refine ⟨iv_in (iv_lit (l := 0) (h := 0) (by decide)) (by decide), ?_⟩
  refine ⟨fun c1 => ?_, fun c1 => ?_⟩
  · skip
    refine ⟨iv_nb (iv_lit (l := 0) (h := 0) (by decide)) (by decide), ?_⟩
    refine ⟨fun c2 => ?_, fun c2 => ?_⟩
    · skip
      exact (iv_emp (iv_ne (l := 1) (h := 0) c2 (iv_lit (l := 0) (h := 0) (by decide)) (iv_lit (l := 0) (h := 0) (by decide)) (by decide)) (by decide)).elim
    · skip
      refine ⟨fun c3 => ?_, fun c3 => ?_⟩
      · skip
        exact hpost _ _ _ _ _ _ (iv_w (iv_lit (l := (-1)) (h := (-1)) (by decide)) (by decide)) (iv_lit (l := 0) (h := 0) (by decide)) k_f_land k_f_huts k_f_singers k_a_run
      · skip
        exact (iv_emp (iv_ne (l := 1) (h := 0) c3 (iv_lit (l := 0) (h := 0) (by decide)) (iv_lit (l := 0) (h := 0) (by decide)) (by decide)) (by decide)).elim
  · skip
    refine ⟨fun c4 => ?_, fun c4 => ?_⟩
    · skip
      refine ⟨iv_nb (iv_lit (l := 0) (h := 0) (by decide)) (by decide), ?_⟩
      refine ⟨fun c5 => ?_, fun c5 => ?_⟩
      · skip
        exact (iv_emp (iv_ne (l := 1) (h := 0) c5 (iv_lit (l := 0) (h := 0) (by decide)) (iv_lit (l := 0) (h := 0) (by decide)) (by decide)) (by decide)).elim
      · skip
        refine ⟨fun c6 => ?_, fun c6 => ?_⟩
        · skip
          exact hpost _ _ _ _ _ _ (iv_w (iv_lit (l := (-1)) (h := (-1)) (by decide)) (by decide)) (iv_lit (l := 0) (h := 0) (by decide)) k_f_land k_f_huts k_f_singers k_a_run
        · skip
          exact (iv_emp (iv_ne (l := 1) (h := 0) c6 (iv_lit (l := 0) (h := 0) (by decide)) (iv_lit (l := 0) (h := 0) (by decide)) (by decide)) (by decide)).elim
    · skip
      refine ⟨iv_nb (iv_lit (l := 1) (h := 1) (by decide)) (by decide), ?_⟩
      refine ⟨fun c7 => ?_, fun c7 => ?_⟩
      · skip
        refine sp_of (a := 0) (b := 9) k_a_lands (iv_lea (l := 0) (h := 1) (r_nlt c4) (iv_leb (l := 0) (h := 2147483647) (r_nlt c1) (iv_lit (l := 0) (h := 0) (by decide)) (iv_top x1) (by decide)) (iv_sub (l := (-1)) (h := 1) (k_a_many _) (iv_lit (l := 1) (h := 1) (by decide)) (by decide)) (by decide)) (iv_lit (l := 0) (h := 0) (by decide)) (by decide +kernel) (fun r8 hr8 er8 => ?_)
        refine sp_of (a := 0) (b := 6) k_a_lands (iv_lea (l := 0) (h := 1) (r_nlt c4) (iv_leb (l := 0) (h := 2147483647) (r_nlt c1) (iv_lit (l := 0) (h := 0) (by decide)) (iv_top x1) (by decide)) (iv_sub (l := (-1)) (h := 1) (k_a_many _) (iv_lit (l := 1) (h := 1) (by decide)) (by decide)) (by decide)) (iv_lit (l := 1) (h := 1) (by decide)) (by decide +kernel) (fun r9 hr9 er9 => ?_)
        refine ⟨fun c10 => ?_, fun c10 => ?_⟩
        · skip
          exact (iv_emp (iv_eqa (l := 1) (h := 0) c10 (iv_lit (l := 1) (h := 1) (by decide)) (iv_lit (l := 0) (h := 0) (by decide)) (by decide)) (by decide)).elim
        · skip
          refine ⟨fun c11 => ?_, fun c11 => ?_⟩
          · skip
            refine ⟨iv_nb (iv_lit (l := 0) (h := 0) (by decide)) (by decide), ?_⟩
            refine ⟨fun c12 => ?_, fun c12 => ?_⟩
            · skip
              exact hpost _ _ _ _ _ _ (iv_w (iv_lit (l := (-1)) (h := (-1)) (by decide)) (by decide)) (iv_lit (l := 0) (h := 0) (by decide)) (iv_lea (l := 0) (h := 1) (r_nlt c4) (iv_leb (l := 0) (h := 2147483647) (r_nlt c1) (iv_lit (l := 0) (h := 0) (by decide)) (iv_top x1) (by decide)) (iv_sub (l := (-1)) (h := 1) (k_a_many _) (iv_lit (l := 1) (h := 1) (by decide)) (by decide)) (by decide)) hr8 hr9 k_a_run
            · skip
              exact (iv_emp (iv_ne (l := 1) (h := 0) c12 (iv_lit (l := 0) (h := 0) (by decide)) (iv_lit (l := 0) (h := 0) (by decide)) (by decide)) (by decide)).elim
          · skip
            refine ⟨fun c13 => ?_, fun c13 => ?_⟩
            · skip
              refine ⟨iv_nb (iv_lit (l := 0) (h := 0) (by decide)) (by decide), ?_⟩
              refine ⟨fun c14 => ?_, fun c14 => ?_⟩
              · skip
                exact hpost _ _ _ _ _ _ (iv_w (iv_lit (l := (-1)) (h := (-1)) (by decide)) (by decide)) (iv_lit (l := 0) (h := 0) (by decide)) (iv_lea (l := 0) (h := 1) (r_nlt c4) (iv_leb (l := 0) (h := 2147483647) (r_nlt c1) (iv_lit (l := 0) (h := 0) (by decide)) (iv_top x1) (by decide)) (iv_sub (l := (-1)) (h := 1) (k_a_many _) (iv_lit (l := 1) (h := 1) (by decide)) (by decide)) (by decide)) hr8 hr9 k_a_run
              · skip
                exact (iv_emp (iv_ne (l := 1) (h := 0) c14 (iv_lit (l := 0) (h := 0) (by decide)) (iv_lit (l := 0) (h := 0) (by decide)) (by decide)) (by decide)).elim
            · skip
              refine ⟨iv_nb (iv_lit (l := 1) (h := 1) (by decide)) (by decide), ?_⟩
              refine ⟨fun c15 => ?_, fun c15 => ?_⟩
              · skip
                exact (iv_emp (iv_eqa (l := 1) (h := 0) c15 (iv_lit (l := 1) (h := 1) (by decide)) (iv_lit (l := 0) (h := 0) (by decide)) (by decide)) (by decide)).elim
              · skip
                refine ⟨fun c16 => ?_, fun c16 => ?_⟩
                · skip
                  refine ⟨iv_nb (iv_lit (l := 0) (h := 0) (by decide)) (by decide), ?_⟩
                  refine ⟨fun c17 => ?_, fun c17 => ?_⟩
                  · skip
                    exact (iv_emp (iv_ne (l := 1) (h := 0) c17 (iv_lit (l := 0) (h := 0) (by decide)) (iv_lit (l := 0) (h := 0) (by decide)) (by decide)) (by decide)).elim
                  · skip
                    exact hpost _ _ _ _ _ _ (iv_w (iv_lit (l := (-1)) (h := (-1)) (by decide)) (by decide)) (iv_lit (l := 0) (h := 0) (by decide)) (iv_lea (l := 0) (h := 1) (r_nlt c4) (iv_leb (l := 0) (h := 2147483647) (r_nlt c1) (iv_lit (l := 0) (h := 0) (by decide)) (iv_top x1) (by decide)) (iv_sub (l := (-1)) (h := 1) (k_a_many _) (iv_lit (l := 1) (h := 1) (by decide)) (by decide)) (by decide)) hr8 hr9 k_a_run
                · skip
                  refine ⟨fun c18 => ?_, fun c18 => ?_⟩
                  · skip
                    refine ⟨iv_nb (iv_lit (l := 0) (h := 0) (by decide)) (by decide), ?_⟩
                    refine ⟨fun c19 => ?_, fun c19 => ?_⟩
                    · skip
                      exact (iv_emp (iv_ne (l := 1) (h := 0) c19 (iv_lit (l := 0) (h := 0) (by decide)) (iv_lit (l := 0) (h := 0) (by decide)) (by decide)) (by decide)).elim
                    · skip
                      exact hpost _ _ _ _ _ _ (iv_w (iv_lit (l := (-1)) (h := (-1)) (by decide)) (by decide)) (iv_lit (l := 0) (h := 0) (by decide)) (iv_lea (l := 0) (h := 1) (r_nlt c4) (iv_leb (l := 0) (h := 2147483647) (r_nlt c1) (iv_lit (l := 0) (h := 0) (by decide)) (iv_top x1) (by decide)) (iv_sub (l := (-1)) (h := 1) (k_a_many _) (iv_lit (l := 1) (h := 1) (by decide)) (by decide)) (by decide)) hr8 hr9 k_a_run
                  · skip
                    refine ⟨iv_nb (iv_lit (l := 1) (h := 1) (by decide)) (by decide), ?_⟩
                    refine ⟨fun c20 => ?_, fun c20 => ?_⟩
                    · skip
                      refine s_m_findRun_0 k_a_lands (iv_lea (l := 0) (h := 1) (r_nlt c4) (iv_leb (l := 0) (h := 2147483647) (r_nlt c1) (iv_lit (l := 0) (h := 0) (by decide)) (iv_top x1) (by decide)) (iv_sub (l := (-1)) (h := 1) (k_a_many _) (iv_lit (l := 1) (h := 1) (by decide)) (by decide)) (by decide)) hr8 k_a_run (iv_lea (l := 0) (h := 8) (r_nlt c13) (iv_leb (l := 0) (h := 2147483647) (r_nlt c11) (iv_lit (l := 0) (h := 0) (by decide)) (iv_top x2) (by decide)) (iv_sub (l := (-1)) (h := 8) hr8 (iv_lit (l := 1) (h := 1) (by decide)) (by decide)) (by decide)) (iv_w (iv_lit (l := 0) (h := 0) (by decide)) (by decide)) (fun o21 k_o21 => ?_)
                      refine ⟨iv_in (iv_lea (l := 0) (h := 8) (r_nlt c18) (iv_leb (l := 0) (h := 2147483647) (r_nlt c16) (iv_lit (l := 0) (h := 0) (by decide)) (iv_top x3) (by decide)) (iv_leb (l := 0) (h := 8) (r_nlt c13) (iv_leb (l := 0) (h := 2147483647) (r_nlt c11) (iv_lit (l := 0) (h := 0) (by decide)) (iv_top x2) (by decide)) (iv_sub (l := (-1)) (h := 8) hr8 (iv_lit (l := 1) (h := 1) (by decide)) (by decide)) (by decide)) (by decide)) (by decide), ?_⟩
                      refine ⟨fun c22 => ?_, fun c22 => ?_⟩
                      · skip
                        exact hpost _ _ _ _ _ _ (iv_w (iv_lta (l := 0) (h := 999999) (r_lt c22) (k_o21 _) (iv_lit (l := 1000000) (h := 1000000) (by decide)) (by decide)) (by decide)) (iv_lit (l := 0) (h := 0) (by decide)) (iv_lea (l := 0) (h := 1) (r_nlt c4) (iv_leb (l := 0) (h := 2147483647) (r_nlt c1) (iv_lit (l := 0) (h := 0) (by decide)) (iv_top x1) (by decide)) (iv_sub (l := (-1)) (h := 1) (k_a_many _) (iv_lit (l := 1) (h := 1) (by decide)) (by decide)) (by decide)) hr8 hr9 k_o21
                      · skip
                        exact hpost _ _ _ _ _ _ (iv_w (iv_lit (l := (-1)) (h := (-1)) (by decide)) (by decide)) (iv_lit (l := 0) (h := 0) (by decide)) (iv_lea (l := 0) (h := 1) (r_nlt c4) (iv_leb (l := 0) (h := 2147483647) (r_nlt c1) (iv_lit (l := 0) (h := 0) (by decide)) (iv_top x1) (by decide)) (iv_sub (l := (-1)) (h := 1) (k_a_many _) (iv_lit (l := 1) (h := 1) (by decide)) (by decide)) (by decide)) hr8 hr9 k_o21
                    · skip
                      exact (iv_emp (iv_eqa (l := 1) (h := 0) c20 (iv_lit (l := 1) (h := 1) (by decide)) (iv_lit (l := 0) (h := 0) (by decide)) (by decide)) (by decide)).elim
      · skip
        exact (iv_emp (iv_eqa (l := 1) (h := 0) c7 (iv_lit (l := 1) (h := 1) (by decide)) (iv_lit (l := 0) (h := 0) (by decide)) (by decide)) (by decide)).elim
-- m_lastVillage
set_option maxRecDepth 20000 in
theorem s_m_lastVillage_37 {P4 : Int32 → Int32 → Prop} {a_lands : Nat → Int32} {f_land : Int32} {f_huts : Int32} {a_run : Nat → Int32} {x2 : Int32} {y0 : Int32} {post : Int32 → Prop} (k_a_lands : mLand a_lands) (k_f_land : iv 0 1 f_land) (k_f_huts : iv 1 9 f_huts) (k_a_run : ∀ j, iv 0 1000000 (a_run j)) (hx2 : iv 0 8 x2) (hy0 : iv 0 1000000 y0) (m4 : Int) (hm4 : m4 ≤ x2.toInt) (hP4 : ∀ (x1 : Int32) (x2 : Int32), m4 < x2.toInt → iv 0 1000000 x1 → iv 0 9 x2 → P4 x1 x2) (hpost : ∀ (r : Int32), iv 0 1000000 r → post r) : q_m_lastVillage_37 P4 a_lands f_land f_huts a_run x2 y0 post := by
  intro w1 ew1
  have hw1 := iv_eq ew1 (iv_add (l := 1) (h := 9) hx2 (iv_lit (l := 1) (h := 1) (by decide)) (by decide))
  exact hP4 _ _ (ml_up hm4 (inc_lt ew1 hx2 (by decide))) hy0 (iv_w hw1 (by decide))
set_option maxRecDepth 20000 in
theorem s_m_lastVillage_4 {a_lands : Nat → Int32} {f_land : Int32} {f_huts : Int32} {a_run : Nat → Int32} {x1 : Int32} {x2 : Int32} {post : Int32 → Prop} (k_a_lands : mLand a_lands) (k_f_land : iv 0 1 f_land) (k_f_huts : iv 1 9 f_huts) (k_a_run : ∀ j, iv 0 1000000 (a_run j)) (hx1 : iv 0 1000000 x1) (hx2 : iv 0 9 x2) (hpost : ∀ (r : Int32), iv 0 1000000 r → post r) : q_m_lastVillage_4 a_lands f_land f_huts a_run x1 x2 post := by
  intro P hP
  have loop : ∀ (n : Nat) (x1 : Int32) (x2 : Int32), (9 - x2.toInt < (n : Int)) → (iv 0 1000000 x1) → (iv 0 9 x2) → P x1 x2 := by
    intro n
    induction n with
    | zero => intro x1 x2 hm hx1 hx2; exact (ms0_up hm hx2).elim
    | succ n ih =>
      intro x1 x2 hm hx1 hx2
      apply hP
      refine ⟨fun c1 => ?_, fun c1 => ?_⟩
      · skip
        exact hpost _ hx1
      · skip
        refine sp_of (a := 0) (b := 511) k_a_lands k_f_land (iv_lit (l := 2) (h := 2) (by decide)) (by decide +kernel) (fun r2 hr2 er2 => ?_)
        refine sp_of (a := 0) (b := 511) k_a_lands k_f_land (iv_lit (l := 3) (h := 3) (by decide)) (by decide +kernel) (fun r3 hr3 er3 => ?_)
        refine ⟨fun c4 => ?_, fun c4 => ?_⟩
        · skip
          refine ⟨fun c5 => ?_, fun c5 => ?_⟩
          · skip
            exact s_m_lastVillage_37 k_a_lands k_f_land k_f_huts k_a_run (iv_lta (l := 0) (h := 8) (r_nle c1) hx2 k_f_huts (by decide)) hx1 x2.toInt (Int.le_refl _) (fun u0 u1 hq g0 g1 => ih u0 u1 (ms_up hm hq) g0 g1) hpost
          · skip
            exact (iv_emp (iv_ne (l := 1) (h := 0) c5 (iv_lit (l := 0) (h := 0) (by decide)) (iv_lit (l := 0) (h := 0) (by decide)) (by decide)) (by decide)).elim
        · skip
          refine ⟨fun c6 => ?_, fun c6 => ?_⟩
          · skip
            exact (iv_emp (iv_eqa (l := 1) (h := 0) c6 (iv_lit (l := 1) (h := 1) (by decide)) (iv_lit (l := 0) (h := 0) (by decide)) (by decide)) (by decide)).elim
          · skip
            refine ⟨iv_in (iv_lta (l := 0) (h := 8) (r_nle c1) hx2 k_f_huts (by decide)) (by decide), ?_⟩
            refine ⟨fun c7 => ?_, fun c7 => ?_⟩
            · skip
              exact s_m_lastVillage_37 k_a_lands k_f_land k_f_huts k_a_run (iv_lta (l := 0) (h := 8) (r_nle c1) hx2 k_f_huts (by decide)) (k_a_run _) x2.toInt (Int.le_refl _) (fun u0 u1 hq g0 g1 => ih u0 u1 (ms_up hm hq) g0 g1) hpost
            · skip
              exact s_m_lastVillage_37 k_a_lands k_f_land k_f_huts k_a_run (iv_lta (l := 0) (h := 8) (r_nle c1) hx2 k_f_huts (by decide)) (iv_w (iv_ltb (l := 1) (h := 1000000) (r_nle c7) (k_a_run _) hx1 (by decide)) (by decide)) x2.toInt (Int.le_refl _) (fun u0 u1 hq g0 g1 => ih u0 u1 (ms_up hm hq) g0 g1) hpost
  exact loop _ _ _ (ms_init_up _ _) hx1 hx2
set_option maxRecDepth 20000 in
theorem s_m_lastVillage_0 {a_lands : Nat → Int32} {f_land : Int32} {f_huts : Int32} {a_run : Nat → Int32} {post : Int32 → Prop} (k_a_lands : mLand a_lands) (k_f_land : iv 0 1 f_land) (k_f_huts : iv 1 9 f_huts) (k_a_run : ∀ j, iv 0 1000000 (a_run j)) (hpost : ∀ (r : Int32), iv 0 1000000 r → post r) : q_m_lastVillage_0 a_lands f_land f_huts a_run post := by
  exact s_m_lastVillage_4 k_a_lands k_f_land k_f_huts k_a_run (iv_w (iv_lit (l := 0) (h := 0) (by decide)) (by decide)) (iv_w (iv_lit (l := 0) (h := 0) (by decide)) (by decide)) hpost
-- m_comesBy
set_option maxRecDepth 20000 in
theorem s_m_comesBy_30 {P4 : Int32 → Int32 → Prop} {f_huts : Int32} {a_run : Nat → Int32} {x1 : Int32} {x3 : Int32} {y0 : Int32} {y1 : Int32} {post : Int32 → Prop} (k_f_huts : iv 1 9 f_huts) (k_a_run : ∀ j, iv 0 1000000 (a_run j)) (hx1 : iv 0 999999 x1) (hx3 : iv 0 8 x3) (hy0 : iv 0 511 y0) (hy1 : iv 0 256 y1) (m4 : Int) (hm4 : m4 ≤ x3.toInt) (hP4 : ∀ (x2 : Int32) (x3 : Int32), m4 < x3.toInt → iv 0 511 x2 → iv 0 9 x3 → P4 x2 x3) (hpost : ∀ (r : Int32), iv 0 511 r → post r) : q_m_comesBy_30 P4 f_huts a_run x1 x3 y0 y1 post := by
  intro w1 ew1
  have hw1 := iv_eq ew1 (iv_or 9 (l := 0) (h := 511) hy0 hy1 (by decide))
  intro w2 ew2
  have hw2 := iv_eq ew2 (iv_add (l := 1) (h := 9) hx3 (iv_lit (l := 1) (h := 1) (by decide)) (by decide))
  exact hP4 _ _ (ml_up hm4 (inc_lt ew2 hx3 (by decide))) hw1 (iv_w hw2 (by decide))
set_option maxRecDepth 20000 in
theorem s_m_comesBy_4 {f_huts : Int32} {a_run : Nat → Int32} {x1 : Int32} {x2 : Int32} {x3 : Int32} {post : Int32 → Prop} (k_f_huts : iv 0 9 f_huts) (k_a_run : ∀ j, iv 0 1000000 (a_run j)) (hx1 : iv 0 999999 x1) (hx2 : iv 0 511 x2) (hx3 : iv 0 9 x3) (hpost : ∀ (r : Int32), iv 0 511 r → post r) : q_m_comesBy_4 f_huts a_run x1 x2 x3 post := by
  intro P hP
  have loop : ∀ (n : Nat) (x2 : Int32) (x3 : Int32), (9 - x3.toInt < (n : Int)) → (iv 0 511 x2) → (iv 0 9 x3) → P x2 x3 := by
    intro n
    induction n with
    | zero => intro x2 x3 hm hx2 hx3; exact (ms0_up hm hx3).elim
    | succ n ih =>
      intro x2 x3 hm hx2 hx3
      apply hP
      refine ⟨fun c1 => ?_, fun c1 => ?_⟩
      · skip
        exact hpost _ hx2
      · skip
        refine ⟨iv_in (iv_lta (l := 0) (h := 8) (r_nle c1) hx3 k_f_huts (by decide)) (by decide), ?_⟩
        refine ⟨fun c2 => ?_, fun c2 => ?_⟩
        · skip
          exact s_m_comesBy_30 (iv_ltb (l := 1) (h := 9) (r_nle c1) hx3 k_f_huts (by decide)) k_a_run hx1 (iv_lta (l := 0) (h := 8) (r_nle c1) hx3 k_f_huts (by decide)) hx2 (iv_w (iv_lit (l := 0) (h := 0) (by decide)) (by decide)) x3.toInt (Int.le_refl _) (fun u0 u1 hq g0 g1 => ih u0 u1 (ms_up hm hq) g0 g1) hpost
        · skip
          exact s_m_comesBy_30 (iv_ltb (l := 1) (h := 9) (r_nle c1) hx3 k_f_huts (by decide)) k_a_run hx1 (iv_lta (l := 0) (h := 8) (r_nle c1) hx3 k_f_huts (by decide)) hx2 (iv_w (iv_shl1 (l := 1) (h := 256) (iv_lit (l := 1) (h := 1) (by decide)) (iv_lta (l := 0) (h := 8) (r_nle c1) hx3 k_f_huts (by decide)) (by decide)) (by decide)) x3.toInt (Int.le_refl _) (fun u0 u1 hq g0 g1 => ih u0 u1 (ms_up hm hq) g0 g1) hpost
  exact loop _ _ _ (ms_init_up _ _) hx2 hx3
set_option maxRecDepth 20000 in
theorem s_m_comesBy_0 {f_huts : Int32} {a_run : Nat → Int32} {x1 : Int32} {post : Int32 → Prop} (k_f_huts : iv 0 9 f_huts) (k_a_run : ∀ j, iv 0 1000000 (a_run j)) (hx1 : iv 0 999999 x1) (hpost : ∀ (r : Int32), iv 0 511 r → post r) : q_m_comesBy_0 f_huts a_run x1 post := by
  exact s_m_comesBy_4 k_f_huts k_a_run hx1 (iv_w (iv_lit (l := 0) (h := 0) (by decide)) (by decide)) (iv_w (iv_lit (l := 0) (h := 0) (by decide)) (by decide)) hpost
-- m_allBy
set_option maxRecDepth 20000 in
theorem s_m_allBy_53 {P4 : Int32 → Int32 → (Nat → Int32) → (Nat → Int32) → Prop} {a_lands : Nat → Int32} {f_land : Int32} {f_huts : Int32} {a_run : Nat → Int32} {a_covers : Nat → Int32} {x1 : Int32} {x3 : Int32} {y0 : Int32} {y1 : Int32} {post : Int32 → (Nat → Int32) → (Nat → Int32) → Prop} (k_a_lands : mLand a_lands) (k_f_land : iv 0 1 f_land) (k_f_huts : iv 1 9 f_huts) (k_a_run : ∀ j, iv 0 1000000 (a_run j)) (k_a_covers : ∀ j, iv 0 511 (a_covers j)) (hx1 : iv 0 99 x1) (hx3 : iv 0 8 x3) (hy0 : iv 0 511 y0) (hy1 : iv 0 256 y1) (m4 : Int) (hm4 : m4 ≤ x3.toInt) (hP4 : ∀ (x2 : Int32) (x3 : Int32) (a_run : Nat → Int32) (a_covers : Nat → Int32), m4 < x3.toInt → iv 0 511 x2 → iv 0 9 x3 → (∀ j, iv 0 1000000 (a_run j)) → (∀ j, iv 0 511 (a_covers j)) → P4 x2 x3 a_run a_covers) (hpost : ∀ (r : Int32) (a_run : Nat → Int32) (a_covers : Nat → Int32), iv 0 511 r → (∀ j, iv 0 1000000 (a_run j)) → (∀ j, iv 0 511 (a_covers j)) → post r a_run a_covers) : q_m_allBy_53 P4 a_lands f_land f_huts a_run a_covers x1 x3 y0 y1 post := by
  intro w1 ew1
  have hw1 := iv_eq ew1 (iv_or 9 (l := 0) (h := 511) hy0 hy1 (by decide))
  intro w2 ew2
  have hw2 := iv_eq ew2 (iv_add (l := 1) (h := 9) hx3 (iv_lit (l := 1) (h := 1) (by decide)) (by decide))
  exact hP4 _ _ _ _ (ml_up hm4 (inc_lt ew2 hx3 (by decide))) hw1 (iv_w hw2 (by decide)) k_a_run k_a_covers
set_option maxRecDepth 20000 in
theorem s_m_allBy_52 {P4 : Int32 → Int32 → (Nat → Int32) → (Nat → Int32) → Prop} {a_lands : Nat → Int32} {f_land : Int32} {f_huts : Int32} {a_run : Nat → Int32} {a_covers : Nat → Int32} {x1 : Int32} {x3 : Int32} {y0 : Int32} {post : Int32 → (Nat → Int32) → (Nat → Int32) → Prop} (k_a_lands : mLand a_lands) (k_f_land : iv 0 1 f_land) (k_f_huts : iv 1 9 f_huts) (k_a_run : ∀ j, iv 0 1000000 (a_run j)) (k_a_covers : ∀ j, iv 0 511 (a_covers j)) (hx1 : iv 0 99 x1) (hx3 : iv 0 8 x3) (hy0 : iv 0 511 y0) (m4 : Int) (hm4 : m4 ≤ x3.toInt) (hP4 : ∀ (x2 : Int32) (x3 : Int32) (a_run : Nat → Int32) (a_covers : Nat → Int32), m4 < x3.toInt → iv 0 511 x2 → iv 0 9 x3 → (∀ j, iv 0 1000000 (a_run j)) → (∀ j, iv 0 511 (a_covers j)) → P4 x2 x3 a_run a_covers) (hpost : ∀ (r : Int32) (a_run : Nat → Int32) (a_covers : Nat → Int32), iv 0 511 r → (∀ j, iv 0 1000000 (a_run j)) → (∀ j, iv 0 511 (a_covers j)) → post r a_run a_covers) : q_m_allBy_52 P4 a_lands f_land f_huts a_run a_covers x1 x3 y0 post := by
  exact s_m_allBy_53 k_a_lands k_f_land k_f_huts k_a_run k_a_covers hx1 hx3 hy0 (iv_w (iv_lit (l := 0) (h := 0) (by decide)) (by decide)) m4 hm4 hP4 hpost
set_option maxRecDepth 20000 in
theorem s_m_allBy_4 {a_lands : Nat → Int32} {f_land : Int32} {f_huts : Int32} {a_run : Nat → Int32} {a_covers : Nat → Int32} {x1 : Int32} {x2 : Int32} {x3 : Int32} {post : Int32 → (Nat → Int32) → (Nat → Int32) → Prop} (k_a_lands : mLand a_lands) (k_f_land : iv 0 1 f_land) (k_f_huts : iv 0 9 f_huts) (k_a_run : ∀ j, iv 0 1000000 (a_run j)) (k_a_covers : ∀ j, iv 0 511 (a_covers j)) (hx1 : iv 0 99 x1) (hx2 : iv 0 511 x2) (hx3 : iv 0 9 x3) (hpost : ∀ (r : Int32) (a_run : Nat → Int32) (a_covers : Nat → Int32), iv 0 511 r → (∀ j, iv 0 1000000 (a_run j)) → (∀ j, iv 0 511 (a_covers j)) → post r a_run a_covers) : q_m_allBy_4 a_lands f_land f_huts a_run a_covers x1 x2 x3 post := by
  intro P hP
  have loop : ∀ (n : Nat) (x2 : Int32) (x3 : Int32) (a_run : Nat → Int32) (a_covers : Nat → Int32), (9 - x3.toInt < (n : Int)) → (iv 0 511 x2) → (iv 0 9 x3) → (∀ j, iv 0 1000000 (a_run j)) → (∀ j, iv 0 511 (a_covers j)) → P x2 x3 a_run a_covers := by
    intro n
    induction n with
    | zero => intro x2 x3 a_run a_covers hm hx2 hx3 k_a_run k_a_covers; exact (ms0_up hm hx3).elim
    | succ n ih =>
      intro x2 x3 a_run a_covers hm hx2 hx3 k_a_run k_a_covers
      apply hP
      refine ⟨fun c1 => ?_, fun c1 => ?_⟩
      · skip
        exact hpost _ _ _ hx2 k_a_run k_a_covers
      · skip
        refine s_m_findRun_0 k_a_lands k_f_land (iv_w (iv_ltb (l := 1) (h := 9) (r_nle c1) hx3 k_f_huts (by decide)) (by decide)) k_a_run (iv_lta (l := 0) (h := 8) (r_nle c1) hx3 k_f_huts (by decide)) (iv_w (iv_lit (l := 0) (h := 0) (by decide)) (by decide)) (fun o2 k_o2 => ?_)
        refine s_m_comesBy_0 (iv_w (iv_ltb (l := 1) (h := 9) (r_nle c1) hx3 k_f_huts (by decide)) (by decide)) k_o2 (iv_w hx1 (by decide)) (fun r3 hr3 => ?_)
        refine ⟨iv_in (iv_lta (l := 0) (h := 8) (r_nle c1) hx3 k_f_huts (by decide)) (by decide), ?_⟩
        intro a4 ea4
        have k_a4 := iv_upd ea4 k_a_covers hr3
        refine sp_of (a := 0) (b := 511) k_a_lands k_f_land (iv_lit (l := 3) (h := 3) (by decide)) (by decide +kernel) (fun r5 hr5 er5 => ?_)
        refine ⟨fun c6 => ?_, fun c6 => ?_⟩
        · skip
          refine ⟨iv_nb (iv_lit (l := 0) (h := 0) (by decide)) (by decide), ?_⟩
          refine ⟨fun c7 => ?_, fun c7 => ?_⟩
          · skip
            exact (iv_emp (iv_ne (l := 1) (h := 0) c7 (iv_lit (l := 0) (h := 0) (by decide)) (iv_lit (l := 0) (h := 0) (by decide)) (by decide)) (by decide)).elim
          · skip
            refine s_m_lastVillage_0 k_a_lands k_f_land (iv_ltb (l := 1) (h := 9) (r_nle c1) hx3 k_f_huts (by decide)) k_o2 (fun r8 hr8 => ?_)
            refine ⟨fun c9 => ?_, fun c9 => ?_⟩
            · skip
              exact s_m_allBy_52 k_a_lands k_f_land (iv_ltb (l := 1) (h := 9) (r_nle c1) hx3 k_f_huts (by decide)) k_o2 k_a4 hx1 (iv_lta (l := 0) (h := 8) (r_nle c1) hx3 k_f_huts (by decide)) hx2 x3.toInt (Int.le_refl _) (fun u0 u1 u2 u3 hq g0 g1 g2 g3 => ih u0 u1 u2 u3 (ms_up hm hq) g0 g1 g2 g3) hpost
            · skip
              exact s_m_allBy_53 k_a_lands k_f_land (iv_ltb (l := 1) (h := 9) (r_nle c1) hx3 k_f_huts (by decide)) k_o2 k_a4 hx1 (iv_lta (l := 0) (h := 8) (r_nle c1) hx3 k_f_huts (by decide)) hx2 (iv_w (iv_shl1 (l := 1) (h := 256) (iv_lit (l := 1) (h := 1) (by decide)) (iv_lta (l := 0) (h := 8) (r_nle c1) hx3 k_f_huts (by decide)) (by decide)) (by decide)) x3.toInt (Int.le_refl _) (fun u0 u1 u2 u3 hq g0 g1 g2 g3 => ih u0 u1 u2 u3 (ms_up hm hq) g0 g1 g2 g3) hpost
        · skip
          refine ⟨iv_nb (iv_lit (l := 1) (h := 1) (by decide)) (by decide), ?_⟩
          refine ⟨fun c10 => ?_, fun c10 => ?_⟩
          · skip
            exact s_m_allBy_52 k_a_lands k_f_land (iv_ltb (l := 1) (h := 9) (r_nle c1) hx3 k_f_huts (by decide)) k_o2 k_a4 hx1 (iv_lta (l := 0) (h := 8) (r_nle c1) hx3 k_f_huts (by decide)) hx2 x3.toInt (Int.le_refl _) (fun u0 u1 u2 u3 hq g0 g1 g2 g3 => ih u0 u1 u2 u3 (ms_up hm hq) g0 g1 g2 g3) hpost
          · skip
            exact (iv_emp (iv_eqa (l := 1) (h := 0) c10 (iv_lit (l := 1) (h := 1) (by decide)) (iv_lit (l := 0) (h := 0) (by decide)) (by decide)) (by decide)).elim
  exact loop _ _ _ _ _ (ms_init_up _ _) hx2 hx3 k_a_run k_a_covers
set_option maxRecDepth 20000 in
theorem s_m_allBy_0 {a_lands : Nat → Int32} {f_land : Int32} {f_huts : Int32} {a_run : Nat → Int32} {a_covers : Nat → Int32} {x1 : Int32} {post : Int32 → (Nat → Int32) → (Nat → Int32) → Prop} (k_a_lands : mLand a_lands) (k_f_land : iv 0 1 f_land) (k_f_huts : iv 0 9 f_huts) (k_a_run : ∀ j, iv 0 1000000 (a_run j)) (k_a_covers : ∀ j, iv 0 511 (a_covers j)) (hx1 : iv 0 99 x1) (hpost : ∀ (r : Int32) (a_run : Nat → Int32) (a_covers : Nat → Int32), iv 0 511 r → (∀ j, iv 0 1000000 (a_run j)) → (∀ j, iv 0 511 (a_covers j)) → post r a_run a_covers) : q_m_allBy_0 a_lands f_land f_huts a_run a_covers x1 post := by
  exact s_m_allBy_4 k_a_lands k_f_land k_f_huts k_a_run k_a_covers hx1 (iv_w (iv_lit (l := 0) (h := 0) (by decide)) (by decide)) (iv_w (iv_lit (l := 0) (h := 0) (by decide)) (by decide)) hpost
-- m_fewest
set_option maxRecDepth 20000 in
theorem s_m_fewest_54 {P5 : Int32 → Int32 → Prop} {P22 : Int32 → Int32 → Prop} {f_huts : Int32} {a_covers : Nat → Int32} {x1 : Int32} {x2 : Int32} {x3 : Int32} {x4 : Int32} {x6 : Int32} {y0 : Int32} {y1 : Int32} {post : Int32 → Prop} (k_f_huts : iv 1 9 f_huts) (k_a_covers : ∀ j, iv 0 511 (a_covers j)) (hx1 : iv 0 511 x1) (hx2 : iv 0 511 x2) (hx3 : iv (-1) 2147483647 x3) (hx4 : iv 0 511 x4) (hx6 : iv 0 8 x6) (hy0 : iv 0 511 y0) (hy1 : iv 0 511 y1) (m5 : Int) (hm5 : m5 ≤ x4.toInt) (hP5 : ∀ (x3 : Int32) (x4 : Int32), m5 < x4.toInt → iv (-1) 2147483647 x3 → iv 0 512 x4 → P5 x3 x4) (m22 : Int) (hm22 : m22 ≤ x6.toInt) (hP22 : ∀ (x5 : Int32) (x6 : Int32), m22 < x6.toInt → iv 0 511 x5 → iv 0 9 x6 → P22 x5 x6) (hpost : ∀ (r : Int32), iv (-1) 2147483647 r → post r) : q_m_fewest_54 P5 P22 f_huts a_covers x1 x2 x3 x4 x6 y0 y1 post := by
  intro w1 ew1
  have hw1 := iv_eq ew1 (iv_or 9 (l := 0) (h := 511) hy0 hy1 (by decide))
  intro w2 ew2
  have hw2 := iv_eq ew2 (iv_add (l := 1) (h := 9) hx6 (iv_lit (l := 1) (h := 1) (by decide)) (by decide))
  exact hP22 _ _ (ml_up hm22 (inc_lt ew2 hx6 (by decide))) hw1 (iv_w hw2 (by decide))
set_option maxRecDepth 20000 in
theorem s_m_fewest_116 {P5 : Int32 → Int32 → Prop} {f_huts : Int32} {a_covers : Nat → Int32} {x1 : Int32} {x2 : Int32} {x4 : Int32} {y0 : Int32} {post : Int32 → Prop} (k_f_huts : iv 0 9 f_huts) (k_a_covers : ∀ j, iv 0 511 (a_covers j)) (hx1 : iv 0 511 x1) (hx2 : iv 0 511 x2) (hx4 : iv 0 511 x4) (hy0 : iv (-1) 2147483647 y0) (m5 : Int) (hm5 : m5 ≤ x4.toInt) (hP5 : ∀ (x3 : Int32) (x4 : Int32), m5 < x4.toInt → iv (-1) 2147483647 x3 → iv 0 512 x4 → P5 x3 x4) (hpost : ∀ (r : Int32), iv (-1) 2147483647 r → post r) : q_m_fewest_116 P5 f_huts a_covers x1 x2 x4 y0 post := by
  intro w1 ew1
  have hw1 := iv_eq ew1 (iv_add (l := 1) (h := 512) hx4 (iv_lit (l := 1) (h := 1) (by decide)) (by decide))
  exact hP5 _ _ (ml_up hm5 (inc_lt ew1 hx4 (by decide))) hy0 (iv_w hw1 (by decide))
set_option maxRecDepth 20000 in
theorem s_m_fewest_110 {P5 : Int32 → Int32 → Prop} {f_huts : Int32} {a_covers : Nat → Int32} {x1 : Int32} {x2 : Int32} {x4 : Int32} {post : Int32 → Prop} (k_f_huts : iv 0 9 f_huts) (k_a_covers : ∀ j, iv 0 511 (a_covers j)) (hx1 : iv 0 511 x1) (hx2 : iv 0 511 x2) (hx4 : iv 0 511 x4) (m5 : Int) (hm5 : m5 ≤ x4.toInt) (hP5 : ∀ (x3 : Int32) (x4 : Int32), m5 < x4.toInt → iv (-1) 2147483647 x3 → iv 0 512 x4 → P5 x3 x4) (hpost : ∀ (r : Int32), iv (-1) 2147483647 r → post r) : q_m_fewest_110 P5 f_huts a_covers x1 x2 x4 post := by
  exact s_m_fewest_116 k_f_huts k_a_covers hx1 hx2 hx4 (iv_w hx4 (by decide)) m5 hm5 hP5 hpost
set_option maxRecDepth 20000 in
theorem s_m_fewest_115 {P5 : Int32 → Int32 → Prop} {f_huts : Int32} {a_covers : Nat → Int32} {x1 : Int32} {x2 : Int32} {x3 : Int32} {x4 : Int32} {post : Int32 → Prop} (k_f_huts : iv 0 9 f_huts) (k_a_covers : ∀ j, iv 0 511 (a_covers j)) (hx1 : iv 0 511 x1) (hx2 : iv 0 511 x2) (hx3 : iv (-1) 2147483647 x3) (hx4 : iv 0 511 x4) (m5 : Int) (hm5 : m5 ≤ x4.toInt) (hP5 : ∀ (x3 : Int32) (x4 : Int32), m5 < x4.toInt → iv (-1) 2147483647 x3 → iv 0 512 x4 → P5 x3 x4) (hpost : ∀ (r : Int32), iv (-1) 2147483647 r → post r) : q_m_fewest_115 P5 f_huts a_covers x1 x2 x3 x4 post := by
  exact s_m_fewest_116 k_f_huts k_a_covers hx1 hx2 hx4 hx3 m5 hm5 hP5 hpost
set_option maxRecDepth 20000 in
theorem s_m_fewest_86 {P5 : Int32 → Int32 → Prop} {f_huts : Int32} {a_covers : Nat → Int32} {x1 : Int32} {x2 : Int32} {x3 : Int32} {x4 : Int32} {y0 : Int32} {post : Int32 → Prop} (k_f_huts : iv 0 9 f_huts) (k_a_covers : ∀ j, iv 0 511 (a_covers j)) (hx1 : iv 0 511 x1) (hx2 : iv 0 511 x2) (hx3 : iv (-1) 2147483647 x3) (hx4 : iv 0 511 x4) (hy0 : iv 0 1 y0) (m5 : Int) (hm5 : m5 ≤ x4.toInt) (hP5 : ∀ (x3 : Int32) (x4 : Int32), m5 < x4.toInt → iv (-1) 2147483647 x3 → iv 0 512 x4 → P5 x3 x4) (hpost : ∀ (r : Int32), iv (-1) 2147483647 r → post r) : q_m_fewest_86 P5 f_huts a_covers x1 x2 x3 x4 y0 post := by
  refine ⟨fun c1 => ?_, fun c1 => ?_⟩
  · skip
    exact s_m_fewest_115 k_f_huts k_a_covers hx1 hx2 hx3 hx4 m5 hm5 hP5 hpost
  · skip
    refine ⟨fun c2 => ?_, fun c2 => ?_⟩
    · skip
      exact s_m_fewest_110 k_f_huts k_a_covers hx1 hx2 hx4 m5 hm5 hP5 hpost
    · skip
      refine s_m_ones_0 (iv_w hx4 (by decide)) (fun r3 => ?_)
      refine s_m_ones_0 (iv_w (iv_ne (l := 0) (h := 2147483647) c2 hx3 (iv_lit (l := (-1)) (h := (-1)) (by decide)) (by decide)) (by decide)) (fun r4 => ?_)
      refine ⟨fun c5 => ?_, fun c5 => ?_⟩
      · skip
        exact s_m_fewest_115 k_f_huts k_a_covers hx1 hx2 (iv_w (iv_ne (l := 0) (h := 2147483647) c2 hx3 (iv_lit (l := (-1)) (h := (-1)) (by decide)) (by decide)) (by decide)) hx4 m5 hm5 hP5 hpost
      · skip
        exact s_m_fewest_110 k_f_huts k_a_covers hx1 hx2 hx4 m5 hm5 hP5 hpost
set_option maxRecDepth 20000 in
theorem s_m_fewest_85 {P5 : Int32 → Int32 → Prop} {f_huts : Int32} {a_covers : Nat → Int32} {x1 : Int32} {x2 : Int32} {x3 : Int32} {x4 : Int32} {post : Int32 → Prop} (k_f_huts : iv 0 9 f_huts) (k_a_covers : ∀ j, iv 0 511 (a_covers j)) (hx1 : iv 0 511 x1) (hx2 : iv 0 511 x2) (hx3 : iv (-1) 2147483647 x3) (hx4 : iv 0 511 x4) (m5 : Int) (hm5 : m5 ≤ x4.toInt) (hP5 : ∀ (x3 : Int32) (x4 : Int32), m5 < x4.toInt → iv (-1) 2147483647 x3 → iv 0 512 x4 → P5 x3 x4) (hpost : ∀ (r : Int32), iv (-1) 2147483647 r → post r) : q_m_fewest_85 P5 f_huts a_covers x1 x2 x3 x4 post := by
  exact s_m_fewest_86 k_f_huts k_a_covers hx1 hx2 hx3 hx4 (iv_w (iv_lit (l := 0) (h := 0) (by decide)) (by decide)) m5 hm5 hP5 hpost
set_option maxRecDepth 20000 in
theorem s_m_fewest_22 {P5 : Int32 → Int32 → Prop} {f_huts : Int32} {a_covers : Nat → Int32} {x1 : Int32} {x2 : Int32} {x3 : Int32} {x4 : Int32} {x5 : Int32} {x6 : Int32} {post : Int32 → Prop} (k_f_huts : iv 0 9 f_huts) (k_a_covers : ∀ j, iv 0 511 (a_covers j)) (hx1 : iv 0 511 x1) (hx2 : iv 0 511 x2) (hx3 : iv (-1) 2147483647 x3) (hx4 : iv 0 511 x4) (hx5 : iv 0 511 x5) (hx6 : iv 0 9 x6) (m5 : Int) (hm5 : m5 ≤ x4.toInt) (hP5 : ∀ (x3 : Int32) (x4 : Int32), m5 < x4.toInt → iv (-1) 2147483647 x3 → iv 0 512 x4 → P5 x3 x4) (hpost : ∀ (r : Int32), iv (-1) 2147483647 r → post r) : q_m_fewest_22 P5 f_huts a_covers x1 x2 x3 x4 x5 x6 post := by
  intro P hP
  have loop : ∀ (n : Nat) (x5 : Int32) (x6 : Int32), (9 - x6.toInt < (n : Int)) → (iv 0 511 x5) → (iv 0 9 x6) → P x5 x6 := by
    intro n
    induction n with
    | zero => intro x5 x6 hm hx5 hx6; exact (ms0_up hm hx6).elim
    | succ n ih =>
      intro x5 x6 hm hx5 hx6
      apply hP
      refine ⟨fun c1 => ?_, fun c1 => ?_⟩
      · skip
        refine ⟨fun c2 => ?_, fun c2 => ?_⟩
        · skip
          exact s_m_fewest_85 k_f_huts k_a_covers hx1 hx2 hx3 hx4 m5 hm5 hP5 hpost
        · skip
          refine ⟨fun c3 => ?_, fun c3 => ?_⟩
          · skip
            exact s_m_fewest_85 k_f_huts k_a_covers hx1 hx2 hx3 hx4 m5 hm5 hP5 hpost
          · skip
            exact s_m_fewest_86 k_f_huts k_a_covers hx1 hx2 hx3 hx4 (iv_w (iv_lit (l := 1) (h := 1) (by decide)) (by decide)) m5 hm5 hP5 hpost
      · skip
        refine ⟨fun c4 => ?_, fun c4 => ?_⟩
        · skip
          refine ⟨fun c5 => ?_, fun c5 => ?_⟩
          · skip
            exact s_m_fewest_54 (iv_ltb (l := 1) (h := 9) (r_nle c1) hx6 k_f_huts (by decide)) k_a_covers hx1 hx2 hx3 hx4 (iv_lta (l := 0) (h := 8) (r_nle c1) hx6 k_f_huts (by decide)) hx5 (iv_w (iv_lit (l := 0) (h := 0) (by decide)) (by decide)) m5 hm5 hP5 x6.toInt (Int.le_refl _) (fun u0 u1 hq g0 g1 => ih u0 u1 (ms_up hm hq) g0 g1) hpost
          · skip
            exact (iv_emp (iv_ne (l := 1) (h := 0) c5 (iv_lit (l := 0) (h := 0) (by decide)) (iv_lit (l := 0) (h := 0) (by decide)) (by decide)) (by decide)).elim
        · skip
          refine ⟨fun c6 => ?_, fun c6 => ?_⟩
          · skip
            exact (iv_emp (iv_eqa (l := 1) (h := 0) c6 (iv_lit (l := 1) (h := 1) (by decide)) (iv_lit (l := 0) (h := 0) (by decide)) (by decide)) (by decide)).elim
          · skip
            refine ⟨iv_in (iv_lta (l := 0) (h := 8) (r_nle c1) hx6 k_f_huts (by decide)) (by decide), ?_⟩
            exact s_m_fewest_54 (iv_ltb (l := 1) (h := 9) (r_nle c1) hx6 k_f_huts (by decide)) k_a_covers hx1 hx2 hx3 hx4 (iv_lta (l := 0) (h := 8) (r_nle c1) hx6 k_f_huts (by decide)) hx5 (k_a_covers _) m5 hm5 hP5 x6.toInt (Int.le_refl _) (fun u0 u1 hq g0 g1 => ih u0 u1 (ms_up hm hq) g0 g1) hpost
  exact loop _ _ _ (ms_init_up _ _) hx5 hx6
set_option maxRecDepth 20000 in
theorem s_m_fewest_5 {f_huts : Int32} {a_covers : Nat → Int32} {x1 : Int32} {x2 : Int32} {x3 : Int32} {x4 : Int32} {post : Int32 → Prop} (k_f_huts : iv 0 9 f_huts) (k_a_covers : ∀ j, iv 0 511 (a_covers j)) (hx1 : iv 0 511 x1) (hx2 : iv 0 511 x2) (hx3 : iv (-1) 2147483647 x3) (hx4 : iv 0 512 x4) (hpost : ∀ (r : Int32), iv (-1) 2147483647 r → post r) : q_m_fewest_5 f_huts a_covers x1 x2 x3 x4 post := by
  intro P hP
  have loop : ∀ (n : Nat) (x3 : Int32) (x4 : Int32), (512 - x4.toInt < (n : Int)) → (iv (-1) 2147483647 x3) → (iv 0 512 x4) → P x3 x4 := by
    intro n
    induction n with
    | zero => intro x3 x4 hm hx3 hx4; exact (ms0_up hm hx4).elim
    | succ n ih =>
      intro x3 x4 hm hx3 hx4
      apply hP
      refine ⟨fun c1 => ?_, fun c1 => ?_⟩
      · skip
        exact hpost _ hx3
      · skip
        exact s_m_fewest_22 k_f_huts k_a_covers hx1 hx2 hx3 (iv_lta (l := 0) (h := 511) (r_nle c1) hx4 (iv_shl1 (l := 1) (h := 512) (iv_lit (l := 1) (h := 1) (by decide)) k_f_huts (by decide)) (by decide)) (iv_w (iv_lit (l := 0) (h := 0) (by decide)) (by decide)) (iv_w (iv_lit (l := 0) (h := 0) (by decide)) (by decide)) x4.toInt (Int.le_refl _) (fun u0 u1 hq g0 g1 => ih u0 u1 (ms_up hm hq) g0 g1) hpost
  exact loop _ _ _ (ms_init_up _ _) hx3 hx4
set_option maxRecDepth 20000 in
theorem s_m_fewest_0 {f_huts : Int32} {a_covers : Nat → Int32} {x1 : Int32} {x2 : Int32} {post : Int32 → Prop} (k_f_huts : iv 0 9 f_huts) (k_a_covers : ∀ j, iv 0 511 (a_covers j)) (hx1 : iv 0 511 x1) (hx2 : iv 0 511 x2) (hpost : ∀ (r : Int32), iv (-1) 2147483647 r → post r) : q_m_fewest_0 f_huts a_covers x1 x2 post := by
  exact s_m_fewest_5 k_f_huts k_a_covers hx1 hx2 (iv_w (iv_lit (l := (-1)) (h := (-1)) (by decide)) (by decide)) (iv_w (iv_lit (l := 0) (h := 0) (by decide)) (by decide)) hpost
-- m_villages
set_option maxRecDepth 20000 in
theorem s_m_villages_0 {f_code : Int32} {a_many : Nat → Int32} {a_lands : Nat → Int32} {f_land : Int32} {f_huts : Int32} {f_singers : Int32} {a_run : Nat → Int32} {a_covers : Nat → Int32} {x1 : Int32} {x2 : Int32} {x3 : Int32} {post : Int32 → (Int32) → (Int32) → (Int32) → (Int32) → (Nat → Int32) → (Nat → Int32) → Prop} (k_f_code : iv 0 0 f_code) (k_a_many : ∀ j, iv 0 2 (a_many j)) (k_a_lands : mLand a_lands) (k_f_land : iv 0 1 f_land) (k_f_huts : iv 0 9 f_huts) (k_f_singers : iv 0 6 f_singers) (k_a_run : ∀ j, iv 0 1000000 (a_run j)) (k_a_covers : ∀ j, iv 0 511 (a_covers j)) (hpost : ∀ (r : Int32) (f_code : Int32) (f_land : Int32) (f_huts : Int32) (f_singers : Int32) (a_run : Nat → Int32) (a_covers : Nat → Int32), iv (-2) 2147483647 r → (iv 0 0 f_code) → (iv 0 1 f_land) → (iv 0 9 f_huts) → (iv 0 6 f_singers) → (∀ j, iv 0 1000000 (a_run j)) → (∀ j, iv 0 511 (a_covers j)) → post r f_code f_land f_huts f_singers a_run a_covers) : q_m_villages_0 f_code a_many a_lands f_land f_huts f_singers a_run a_covers x1 x2 x3 post := by
  refine ⟨iv_in (iv_lit (l := 0) (h := 0) (by decide)) (by decide), ?_⟩
  refine ⟨fun c1 => ?_, fun c1 => ?_⟩
  · skip
    refine ⟨iv_nb (iv_lit (l := 0) (h := 0) (by decide)) (by decide), ?_⟩
    refine ⟨fun c2 => ?_, fun c2 => ?_⟩
    · skip
      exact (iv_emp (iv_ne (l := 1) (h := 0) c2 (iv_lit (l := 0) (h := 0) (by decide)) (iv_lit (l := 0) (h := 0) (by decide)) (by decide)) (by decide)).elim
    · skip
      refine ⟨fun c3 => ?_, fun c3 => ?_⟩
      · skip
        exact hpost _ _ _ _ _ _ _ (iv_w (iv_lit (l := (-2)) (h := (-2)) (by decide)) (by decide)) (iv_lit (l := 0) (h := 0) (by decide)) k_f_land k_f_huts k_f_singers k_a_run k_a_covers
      · skip
        exact (iv_emp (iv_ne (l := 1) (h := 0) c3 (iv_lit (l := 0) (h := 0) (by decide)) (iv_lit (l := 0) (h := 0) (by decide)) (by decide)) (by decide)).elim
  · skip
    refine ⟨fun c4 => ?_, fun c4 => ?_⟩
    · skip
      refine ⟨iv_nb (iv_lit (l := 0) (h := 0) (by decide)) (by decide), ?_⟩
      refine ⟨fun c5 => ?_, fun c5 => ?_⟩
      · skip
        exact (iv_emp (iv_ne (l := 1) (h := 0) c5 (iv_lit (l := 0) (h := 0) (by decide)) (iv_lit (l := 0) (h := 0) (by decide)) (by decide)) (by decide)).elim
      · skip
        refine ⟨fun c6 => ?_, fun c6 => ?_⟩
        · skip
          exact hpost _ _ _ _ _ _ _ (iv_w (iv_lit (l := (-2)) (h := (-2)) (by decide)) (by decide)) (iv_lit (l := 0) (h := 0) (by decide)) k_f_land k_f_huts k_f_singers k_a_run k_a_covers
        · skip
          exact (iv_emp (iv_ne (l := 1) (h := 0) c6 (iv_lit (l := 0) (h := 0) (by decide)) (iv_lit (l := 0) (h := 0) (by decide)) (by decide)) (by decide)).elim
    · skip
      refine ⟨iv_nb (iv_lit (l := 1) (h := 1) (by decide)) (by decide), ?_⟩
      refine ⟨fun c7 => ?_, fun c7 => ?_⟩
      · skip
        refine sp_of (a := 0) (b := 9) k_a_lands (iv_lea (l := 0) (h := 1) (r_nlt c4) (iv_leb (l := 0) (h := 2147483647) (r_nlt c1) (iv_lit (l := 0) (h := 0) (by decide)) (iv_top x1) (by decide)) (iv_sub (l := (-1)) (h := 1) (k_a_many _) (iv_lit (l := 1) (h := 1) (by decide)) (by decide)) (by decide)) (iv_lit (l := 0) (h := 0) (by decide)) (by decide +kernel) (fun r8 hr8 er8 => ?_)
        refine sp_of (a := 0) (b := 6) k_a_lands (iv_lea (l := 0) (h := 1) (r_nlt c4) (iv_leb (l := 0) (h := 2147483647) (r_nlt c1) (iv_lit (l := 0) (h := 0) (by decide)) (iv_top x1) (by decide)) (iv_sub (l := (-1)) (h := 1) (k_a_many _) (iv_lit (l := 1) (h := 1) (by decide)) (by decide)) (by decide)) (iv_lit (l := 1) (h := 1) (by decide)) (by decide +kernel) (fun r9 hr9 er9 => ?_)
        refine ⟨fun c10 => ?_, fun c10 => ?_⟩
        · skip
          exact (iv_emp (iv_eqa (l := 1) (h := 0) c10 (iv_lit (l := 1) (h := 1) (by decide)) (iv_lit (l := 0) (h := 0) (by decide)) (by decide)) (by decide)).elim
        · skip
          refine ⟨fun c11 => ?_, fun c11 => ?_⟩
          · skip
            refine ⟨fun c12 => ?_, fun c12 => ?_⟩
            · skip
              exact hpost _ _ _ _ _ _ _ (iv_w (iv_lit (l := (-2)) (h := (-2)) (by decide)) (by decide)) (iv_lit (l := 0) (h := 0) (by decide)) (iv_lea (l := 0) (h := 1) (r_nlt c4) (iv_leb (l := 0) (h := 2147483647) (r_nlt c1) (iv_lit (l := 0) (h := 0) (by decide)) (iv_top x1) (by decide)) (iv_sub (l := (-1)) (h := 1) (k_a_many _) (iv_lit (l := 1) (h := 1) (by decide)) (by decide)) (by decide)) hr8 hr9 k_a_run k_a_covers
            · skip
              exact (iv_emp (iv_ne (l := 1) (h := 0) c12 (iv_lit (l := 0) (h := 0) (by decide)) (iv_lit (l := 0) (h := 0) (by decide)) (by decide)) (by decide)).elim
          · skip
            refine ⟨fun c13 => ?_, fun c13 => ?_⟩
            · skip
              refine ⟨fun c14 => ?_, fun c14 => ?_⟩
              · skip
                exact hpost _ _ _ _ _ _ _ (iv_w (iv_lit (l := (-2)) (h := (-2)) (by decide)) (by decide)) (iv_lit (l := 0) (h := 0) (by decide)) (iv_lea (l := 0) (h := 1) (r_nlt c4) (iv_leb (l := 0) (h := 2147483647) (r_nlt c1) (iv_lit (l := 0) (h := 0) (by decide)) (iv_top x1) (by decide)) (iv_sub (l := (-1)) (h := 1) (k_a_many _) (iv_lit (l := 1) (h := 1) (by decide)) (by decide)) (by decide)) hr8 hr9 k_a_run k_a_covers
              · skip
                exact (iv_emp (iv_ne (l := 1) (h := 0) c14 (iv_lit (l := 0) (h := 0) (by decide)) (iv_lit (l := 0) (h := 0) (by decide)) (by decide)) (by decide)).elim
            · skip
              refine ⟨fun c15 => ?_, fun c15 => ?_⟩
              · skip
                exact (iv_emp (iv_eqa (l := 1) (h := 0) c15 (iv_lit (l := 1) (h := 1) (by decide)) (iv_lit (l := 0) (h := 0) (by decide)) (by decide)) (by decide)).elim
              · skip
                refine ⟨fun c16 => ?_, fun c16 => ?_⟩
                · skip
                  refine ⟨fun c17 => ?_, fun c17 => ?_⟩
                  · skip
                    exact (iv_emp (iv_ne (l := 1) (h := 0) c17 (iv_lit (l := 0) (h := 0) (by decide)) (iv_lit (l := 0) (h := 0) (by decide)) (by decide)) (by decide)).elim
                  · skip
                    exact hpost _ _ _ _ _ _ _ (iv_w (iv_lit (l := (-2)) (h := (-2)) (by decide)) (by decide)) (iv_lit (l := 0) (h := 0) (by decide)) (iv_lea (l := 0) (h := 1) (r_nlt c4) (iv_leb (l := 0) (h := 2147483647) (r_nlt c1) (iv_lit (l := 0) (h := 0) (by decide)) (iv_top x1) (by decide)) (iv_sub (l := (-1)) (h := 1) (k_a_many _) (iv_lit (l := 1) (h := 1) (by decide)) (by decide)) (by decide)) hr8 hr9 k_a_run k_a_covers
                · skip
                  refine ⟨fun c18 => ?_, fun c18 => ?_⟩
                  · skip
                    refine ⟨fun c19 => ?_, fun c19 => ?_⟩
                    · skip
                      exact (iv_emp (iv_ne (l := 1) (h := 0) c19 (iv_lit (l := 0) (h := 0) (by decide)) (iv_lit (l := 0) (h := 0) (by decide)) (by decide)) (by decide)).elim
                    · skip
                      exact hpost _ _ _ _ _ _ _ (iv_w (iv_lit (l := (-2)) (h := (-2)) (by decide)) (by decide)) (iv_lit (l := 0) (h := 0) (by decide)) (iv_lea (l := 0) (h := 1) (r_nlt c4) (iv_leb (l := 0) (h := 2147483647) (r_nlt c1) (iv_lit (l := 0) (h := 0) (by decide)) (iv_top x1) (by decide)) (iv_sub (l := (-1)) (h := 1) (k_a_many _) (iv_lit (l := 1) (h := 1) (by decide)) (by decide)) (by decide)) hr8 hr9 k_a_run k_a_covers
                  · skip
                    refine ⟨fun c20 => ?_, fun c20 => ?_⟩
                    · skip
                      refine s_m_allBy_0 k_a_lands (iv_lea (l := 0) (h := 1) (r_nlt c4) (iv_leb (l := 0) (h := 2147483647) (r_nlt c1) (iv_lit (l := 0) (h := 0) (by decide)) (iv_top x1) (by decide)) (iv_sub (l := (-1)) (h := 1) (k_a_many _) (iv_lit (l := 1) (h := 1) (by decide)) (by decide)) (by decide)) hr8 k_a_run k_a_covers (iv_lea (l := 0) (h := 99) (r_nlt c13) (iv_leb (l := 0) (h := 2147483647) (r_nlt c11) (iv_lit (l := 0) (h := 0) (by decide)) (iv_top x2) (by decide)) (iv_lit (l := 99) (h := 99) (by decide)) (by decide)) (fun r21 o22 o23 hr21 k_o22 k_o23 => ?_)
                      refine ⟨fun c24 => ?_, fun c24 => ?_⟩
                      · skip
                        refine sp_of (a := 0) (b := 511) k_a_lands (iv_lea (l := 0) (h := 1) (r_nlt c4) (iv_leb (l := 0) (h := 2147483647) (r_nlt c1) (iv_lit (l := 0) (h := 0) (by decide)) (iv_top x1) (by decide)) (iv_sub (l := (-1)) (h := 1) (k_a_many _) (iv_lit (l := 1) (h := 1) (by decide)) (by decide)) (by decide)) (iv_lit (l := 3) (h := 3) (by decide)) (by decide +kernel) (fun r25 hr25 er25 => ?_)
                        refine sp_of (a := 0) (b := 511) k_a_lands (iv_lea (l := 0) (h := 1) (r_nlt c4) (iv_leb (l := 0) (h := 2147483647) (r_nlt c1) (iv_lit (l := 0) (h := 0) (by decide)) (iv_top x1) (by decide)) (iv_sub (l := (-1)) (h := 1) (k_a_many _) (iv_lit (l := 1) (h := 1) (by decide)) (by decide)) (by decide)) (iv_lit (l := 2) (h := 2) (by decide)) (by decide +kernel) (fun r26 hr26 er26 => ?_)
                        refine sp_of (a := 0) (b := 511) k_a_lands (iv_lea (l := 0) (h := 1) (r_nlt c4) (iv_leb (l := 0) (h := 2147483647) (r_nlt c1) (iv_lit (l := 0) (h := 0) (by decide)) (iv_top x1) (by decide)) (iv_sub (l := (-1)) (h := 1) (k_a_many _) (iv_lit (l := 1) (h := 1) (by decide)) (by decide)) (by decide)) (iv_lit (l := 3) (h := 3) (by decide)) (by decide +kernel) (fun r27 hr27 er27 => ?_)
                        refine s_m_fewest_0 hr8 k_o23 (iv_andl (l := 0) (h := 511) (iv_sub (l := 0) (h := 511) (iv_shl1 (l := 1) (h := 512) (iv_lit (l := 1) (h := 1) (by decide)) hr8 (by decide)) (iv_lit (l := 1) (h := 1) (by decide)) (by decide)) (by decide)) (iv_andl (l := 0) (h := 511) hr26 (by decide)) (fun r28 hr28 => ?_)
                        exact hpost _ _ _ _ _ _ _ (iv_w hr28 (by decide)) (iv_lit (l := 0) (h := 0) (by decide)) (iv_lea (l := 0) (h := 1) (r_nlt c4) (iv_leb (l := 0) (h := 2147483647) (r_nlt c1) (iv_lit (l := 0) (h := 0) (by decide)) (iv_top x1) (by decide)) (iv_sub (l := (-1)) (h := 1) (k_a_many _) (iv_lit (l := 1) (h := 1) (by decide)) (by decide)) (by decide)) hr8 hr9 k_o22 k_o23
                      · skip
                        exact hpost _ _ _ _ _ _ _ (iv_w hr21 (by decide)) (iv_lit (l := 0) (h := 0) (by decide)) (iv_lea (l := 0) (h := 1) (r_nlt c4) (iv_leb (l := 0) (h := 2147483647) (r_nlt c1) (iv_lit (l := 0) (h := 0) (by decide)) (iv_top x1) (by decide)) (iv_sub (l := (-1)) (h := 1) (k_a_many _) (iv_lit (l := 1) (h := 1) (by decide)) (by decide)) (by decide)) hr8 hr9 k_o22 k_o23
                    · skip
                      exact (iv_emp (iv_eqa (l := 1) (h := 0) c20 (iv_lit (l := 1) (h := 1) (by decide)) (iv_lit (l := 0) (h := 0) (by decide)) (by decide)) (by decide)).elim
      · skip
        exact (iv_emp (iv_eqa (l := 1) (h := 0) c7 (iv_lit (l := 1) (h := 1) (by decide)) (iv_lit (l := 0) (h := 0) (by decide)) (by decide)) (by decide)).elim
-- m_best
set_option maxRecDepth 20000 in
theorem s_m_best_100 {f_code : Int32} {a_many : Nat → Int32} {a_lands : Nat → Int32} {f_land : Int32} {f_huts : Int32} {f_singers : Int32} {a_run : Nat → Int32} {x3 : Int32} {post : Int32 → (Int32) → (Int32) → (Int32) → (Int32) → (Nat → Int32) → Prop} (k_f_code : iv 0 0 f_code) (k_a_many : ∀ j, iv 0 2 (a_many j)) (k_a_lands : mLand a_lands) (k_f_land : iv 0 1 f_land) (k_f_huts : iv 0 9 f_huts) (k_f_singers : iv 0 6 f_singers) (k_a_run : ∀ j, iv 0 1000000 (a_run j)) (hx3 : iv (-1) 8 x3) (hpost : ∀ (r : Int32) (f_code : Int32) (f_land : Int32) (f_huts : Int32) (f_singers : Int32) (a_run : Nat → Int32), iv (-1) 1000000 r → (iv 0 0 f_code) → (iv 0 1 f_land) → (iv 0 9 f_huts) → (iv 0 6 f_singers) → (∀ j, iv 0 1000000 (a_run j)) → post r f_code f_land f_huts f_singers a_run) : q_m_best_100 f_code a_many a_lands f_land f_huts f_singers a_run x3 post := by
  exact hpost _ _ _ _ _ _ (iv_w hx3 (by decide)) k_f_code k_f_land k_f_huts k_f_singers k_a_run
set_option maxRecDepth 20000 in
theorem s_m_best_75 {P25 : Int32 → Int32 → Int32 → (Nat → Int32) → Prop} {f_code : Int32} {a_many : Nat → Int32} {a_lands : Nat → Int32} {f_land : Int32} {f_huts : Int32} {f_singers : Int32} {a_run : Nat → Int32} {x2 : Int32} {x4 : Int32} {x5 : Int32} {x6 : Int32} {y0 : Int32} {post : Int32 → (Int32) → (Int32) → (Int32) → (Int32) → (Nat → Int32) → Prop} (k_f_code : iv 0 0 f_code) (k_a_many : ∀ j, iv 0 2 (a_many j)) (k_a_lands : mLand a_lands) (k_f_land : iv 0 1 f_land) (k_f_huts : iv 1 9 f_huts) (k_f_singers : iv 0 6 f_singers) (k_a_run : ∀ j, iv 0 1000000 (a_run j)) (hx4 : iv 0 1000000 x4) (hx5 : iv 0 8 x5) (hx6 : iv 0 1000000 x6) (hy0 : iv (-1) 8 y0) (m25 : Int) (hm25 : m25 ≤ x5.toInt) (hP25 : ∀ (x3 : Int32) (x4 : Int32) (x5 : Int32) (a_run : Nat → Int32), m25 < x5.toInt → iv (-1) 8 x3 → iv 0 1000000 x4 → iv 0 9 x5 → (∀ j, iv 0 1000000 (a_run j)) → P25 x3 x4 x5 a_run) (hpost : ∀ (r : Int32) (f_code : Int32) (f_land : Int32) (f_huts : Int32) (f_singers : Int32) (a_run : Nat → Int32), iv (-1) 1000000 r → (iv 0 0 f_code) → (iv 0 1 f_land) → (iv 0 9 f_huts) → (iv 0 6 f_singers) → (∀ j, iv 0 1000000 (a_run j)) → post r f_code f_land f_huts f_singers a_run) : q_m_best_75 P25 f_code a_many a_lands f_land f_huts f_singers a_run x2 x4 x5 x6 y0 post := by
  refine ⟨fun c1 => ?_, fun c1 => ?_⟩
  · skip
    intro w2 ew2
    have hw2 := iv_eq ew2 (iv_add (l := 1) (h := 9) hx5 (iv_lit (l := 1) (h := 1) (by decide)) (by decide))
    exact hP25 _ _ _ _ (ml_up hm25 (inc_lt ew2 hx5 (by decide))) hy0 hx6 (iv_w hw2 (by decide)) k_a_run
  · skip
    intro w3 ew3
    have hw3 := iv_eq ew3 (iv_add (l := 1) (h := 9) hx5 (iv_lit (l := 1) (h := 1) (by decide)) (by decide))
    exact hP25 _ _ _ _ (ml_up hm25 (inc_lt ew3 hx5 (by decide))) hy0 (iv_w (iv_lta (l := 0) (h := 999999) (r_nle c1) hx4 hx6 (by decide)) (by decide)) (iv_w hw3 (by decide)) k_a_run
set_option maxRecDepth 20000 in
theorem s_m_best_60 {P25 : Int32 → Int32 → Int32 → (Nat → Int32) → Prop} {f_code : Int32} {a_many : Nat → Int32} {a_lands : Nat → Int32} {f_land : Int32} {f_huts : Int32} {f_singers : Int32} {a_run : Nat → Int32} {x2 : Int32} {x3 : Int32} {x4 : Int32} {x5 : Int32} {y0 : Int32} {post : Int32 → (Int32) → (Int32) → (Int32) → (Int32) → (Nat → Int32) → Prop} (k_f_code : iv 0 0 f_code) (k_a_many : ∀ j, iv 0 2 (a_many j)) (k_a_lands : mLand a_lands) (k_f_land : iv 0 1 f_land) (k_f_huts : iv 1 9 f_huts) (k_f_singers : iv 0 6 f_singers) (k_a_run : ∀ j, iv 0 1000000 (a_run j)) (hx3 : iv (-1) 8 x3) (hx4 : iv 0 1000000 x4) (hx5 : iv 0 8 x5) (hy0 : iv 0 1000000 y0) (m25 : Int) (hm25 : m25 ≤ x5.toInt) (hP25 : ∀ (x3 : Int32) (x4 : Int32) (x5 : Int32) (a_run : Nat → Int32), m25 < x5.toInt → iv (-1) 8 x3 → iv 0 1000000 x4 → iv 0 9 x5 → (∀ j, iv 0 1000000 (a_run j)) → P25 x3 x4 x5 a_run) (hpost : ∀ (r : Int32) (f_code : Int32) (f_land : Int32) (f_huts : Int32) (f_singers : Int32) (a_run : Nat → Int32), iv (-1) 1000000 r → (iv 0 0 f_code) → (iv 0 1 f_land) → (iv 0 9 f_huts) → (iv 0 6 f_singers) → (∀ j, iv 0 1000000 (a_run j)) → post r f_code f_land f_huts f_singers a_run) : q_m_best_60 P25 f_code a_many a_lands f_land f_huts f_singers a_run x2 x3 x4 x5 y0 post := by
  refine ⟨fun c1 => ?_, fun c1 => ?_⟩
  · skip
    exact s_m_best_75 k_f_code k_a_many k_a_lands k_f_land k_f_huts k_f_singers k_a_run hx4 hx5 hy0 hx3 m25 hm25 hP25 hpost
  · skip
    exact s_m_best_75 k_f_code k_a_many k_a_lands k_f_land k_f_huts k_f_singers k_a_run (iv_w (iv_ltb (l := 1) (h := 1000000) (r_nle c1) hy0 hx4 (by decide)) (by decide)) hx5 (iv_w (iv_lta (l := 0) (h := 999999) (r_nle c1) hy0 hx4 (by decide)) (by decide)) (iv_w hx5 (by decide)) m25 hm25 hP25 hpost
set_option maxRecDepth 20000 in
theorem s_m_best_25 {f_code : Int32} {a_many : Nat → Int32} {a_lands : Nat → Int32} {f_land : Int32} {f_huts : Int32} {f_singers : Int32} {a_run : Nat → Int32} {x2 : Int32} {x3 : Int32} {x4 : Int32} {x5 : Int32} {post : Int32 → (Int32) → (Int32) → (Int32) → (Int32) → (Nat → Int32) → Prop} (k_f_code : iv 0 0 f_code) (k_a_many : ∀ j, iv 0 2 (a_many j)) (k_a_lands : mLand a_lands) (k_f_land : iv 0 1 f_land) (k_f_huts : iv 0 9 f_huts) (k_f_singers : iv 0 6 f_singers) (k_a_run : ∀ j, iv 0 1000000 (a_run j)) (hx3 : iv (-1) 8 x3) (hx4 : iv 0 1000000 x4) (hx5 : iv 0 9 x5) (hpost : ∀ (r : Int32) (f_code : Int32) (f_land : Int32) (f_huts : Int32) (f_singers : Int32) (a_run : Nat → Int32), iv (-1) 1000000 r → (iv 0 0 f_code) → (iv 0 1 f_land) → (iv 0 9 f_huts) → (iv 0 6 f_singers) → (∀ j, iv 0 1000000 (a_run j)) → post r f_code f_land f_huts f_singers a_run) : q_m_best_25 f_code a_many a_lands f_land f_huts f_singers a_run x2 x3 x4 x5 post := by
  intro P hP
  have loop : ∀ (n : Nat) (x3 : Int32) (x4 : Int32) (x5 : Int32) (a_run : Nat → Int32), (9 - x5.toInt < (n : Int)) → (iv (-1) 8 x3) → (iv 0 1000000 x4) → (iv 0 9 x5) → (∀ j, iv 0 1000000 (a_run j)) → P x3 x4 x5 a_run := by
    intro n
    induction n with
    | zero => intro x3 x4 x5 a_run hm hx3 hx4 hx5 k_a_run; exact (ms0_up hm hx5).elim
    | succ n ih =>
      intro x3 x4 x5 a_run hm hx3 hx4 hx5 k_a_run
      apply hP
      refine ⟨fun c1 => ?_, fun c1 => ?_⟩
      · skip
        refine ⟨fun c2 => ?_, fun c2 => ?_⟩
        · skip
          exact s_m_best_100 k_f_code k_a_many k_a_lands k_f_land k_f_huts k_f_singers k_a_run (iv_w (iv_eqa (l := (-1)) (h := (-1)) c2 hx3 (iv_lit (l := (-1)) (h := (-1)) (by decide)) (by decide)) (by decide)) hpost
        · skip
          refine ⟨fun c3 => ?_, fun c3 => ?_⟩
          · skip
            exact hpost _ _ _ _ _ _ (iv_w hx4 (by decide)) k_f_code k_f_land k_f_huts k_f_singers k_a_run
          · skip
            exact s_m_best_100 k_f_code k_a_many k_a_lands k_f_land k_f_huts k_f_singers k_a_run (iv_w (iv_ne (l := 0) (h := 8) c2 hx3 (iv_lit (l := (-1)) (h := (-1)) (by decide)) (by decide)) (by decide)) hpost
      · skip
        refine s_m_findRun_0 k_a_lands k_f_land (iv_w (iv_ltb (l := 1) (h := 9) (r_nle c1) hx5 k_f_huts (by decide)) (by decide)) k_a_run (iv_lta (l := 0) (h := 8) (r_nle c1) hx5 k_f_huts (by decide)) (iv_w (iv_lit (l := 0) (h := 0) (by decide)) (by decide)) (fun o4 k_o4 => ?_)
        refine sp_of (a := 0) (b := 511) k_a_lands k_f_land (iv_lit (l := 3) (h := 3) (by decide)) (by decide +kernel) (fun r5 hr5 er5 => ?_)
        refine ⟨fun c6 => ?_, fun c6 => ?_⟩
        · skip
          refine ⟨iv_nb (iv_lit (l := 0) (h := 0) (by decide)) (by decide), ?_⟩
          refine ⟨fun c7 => ?_, fun c7 => ?_⟩
          · skip
            refine s_m_lastVillage_0 k_a_lands k_f_land (iv_ltb (l := 1) (h := 9) (r_nle c1) hx5 k_f_huts (by decide)) k_o4 (fun r8 hr8 => ?_)
            exact s_m_best_60 k_f_code k_a_many k_a_lands k_f_land (iv_ltb (l := 1) (h := 9) (r_nle c1) hx5 k_f_huts (by decide)) k_f_singers k_o4 hx3 hx4 (iv_lta (l := 0) (h := 8) (r_nle c1) hx5 k_f_huts (by decide)) hr8 x5.toInt (Int.le_refl _) (fun u0 u1 u2 u3 hq g0 g1 g2 g3 => ih u0 u1 u2 u3 (ms_up hm hq) g0 g1 g2 g3) hpost
          · skip
            exact (iv_emp (iv_ne (l := 1) (h := 0) c7 (iv_lit (l := 0) (h := 0) (by decide)) (iv_lit (l := 0) (h := 0) (by decide)) (by decide)) (by decide)).elim
        · skip
          refine ⟨iv_nb (iv_lit (l := 1) (h := 1) (by decide)) (by decide), ?_⟩
          refine ⟨fun c9 => ?_, fun c9 => ?_⟩
          · skip
            exact (iv_emp (iv_eqa (l := 1) (h := 0) c9 (iv_lit (l := 1) (h := 1) (by decide)) (iv_lit (l := 0) (h := 0) (by decide)) (by decide)) (by decide)).elim
          · skip
            exact s_m_best_60 k_f_code k_a_many k_a_lands k_f_land (iv_ltb (l := 1) (h := 9) (r_nle c1) hx5 k_f_huts (by decide)) k_f_singers k_o4 hx3 hx4 (iv_lta (l := 0) (h := 8) (r_nle c1) hx5 k_f_huts (by decide)) (iv_w (iv_lit (l := 1000000) (h := 1000000) (by decide)) (by decide)) x5.toInt (Int.le_refl _) (fun u0 u1 u2 u3 hq g0 g1 g2 g3 => ih u0 u1 u2 u3 (ms_up hm hq) g0 g1 g2 g3) hpost
  exact loop _ _ _ _ _ (ms_init_up _ _) hx3 hx4 hx5 k_a_run
set_option maxRecDepth 20000 in
theorem s_m_best_0 {f_code : Int32} {a_many : Nat → Int32} {a_lands : Nat → Int32} {f_land : Int32} {f_huts : Int32} {f_singers : Int32} {a_run : Nat → Int32} {x1 : Int32} {x2 : Int32} {post : Int32 → (Int32) → (Int32) → (Int32) → (Int32) → (Nat → Int32) → Prop} (k_f_code : iv 0 0 f_code) (k_a_many : ∀ j, iv 0 2 (a_many j)) (k_a_lands : mLand a_lands) (k_f_land : iv 0 1 f_land) (k_f_huts : iv 0 9 f_huts) (k_f_singers : iv 0 6 f_singers) (k_a_run : ∀ j, iv 0 1000000 (a_run j)) (hpost : ∀ (r : Int32) (f_code : Int32) (f_land : Int32) (f_huts : Int32) (f_singers : Int32) (a_run : Nat → Int32), iv (-1) 1000000 r → (iv 0 0 f_code) → (iv 0 1 f_land) → (iv 0 9 f_huts) → (iv 0 6 f_singers) → (∀ j, iv 0 1000000 (a_run j)) → post r f_code f_land f_huts f_singers a_run) : q_m_best_0 f_code a_many a_lands f_land f_huts f_singers a_run x1 x2 post := by
  refine ⟨iv_in (iv_lit (l := 0) (h := 0) (by decide)) (by decide), ?_⟩
  refine ⟨fun c1 => ?_, fun c1 => ?_⟩
  · skip
    refine ⟨iv_nb (iv_lit (l := 0) (h := 0) (by decide)) (by decide), ?_⟩
    refine ⟨fun c2 => ?_, fun c2 => ?_⟩
    · skip
      exact (iv_emp (iv_ne (l := 1) (h := 0) c2 (iv_lit (l := 0) (h := 0) (by decide)) (iv_lit (l := 0) (h := 0) (by decide)) (by decide)) (by decide)).elim
    · skip
      refine ⟨fun c3 => ?_, fun c3 => ?_⟩
      · skip
        exact (iv_emp (iv_ne (l := 1) (h := 0) c3 (iv_lit (l := 0) (h := 0) (by decide)) (iv_lit (l := 0) (h := 0) (by decide)) (by decide)) (by decide)).elim
      · skip
        exact hpost _ _ _ _ _ _ (iv_w (iv_lit (l := (-1)) (h := (-1)) (by decide)) (by decide)) (iv_lit (l := 0) (h := 0) (by decide)) k_f_land k_f_huts k_f_singers k_a_run
  · skip
    refine ⟨fun c4 => ?_, fun c4 => ?_⟩
    · skip
      refine ⟨iv_nb (iv_lit (l := 0) (h := 0) (by decide)) (by decide), ?_⟩
      refine ⟨fun c5 => ?_, fun c5 => ?_⟩
      · skip
        exact (iv_emp (iv_ne (l := 1) (h := 0) c5 (iv_lit (l := 0) (h := 0) (by decide)) (iv_lit (l := 0) (h := 0) (by decide)) (by decide)) (by decide)).elim
      · skip
        refine ⟨fun c6 => ?_, fun c6 => ?_⟩
        · skip
          exact (iv_emp (iv_ne (l := 1) (h := 0) c6 (iv_lit (l := 0) (h := 0) (by decide)) (iv_lit (l := 0) (h := 0) (by decide)) (by decide)) (by decide)).elim
        · skip
          exact hpost _ _ _ _ _ _ (iv_w (iv_lit (l := (-1)) (h := (-1)) (by decide)) (by decide)) (iv_lit (l := 0) (h := 0) (by decide)) k_f_land k_f_huts k_f_singers k_a_run
    · skip
      refine ⟨iv_nb (iv_lit (l := 1) (h := 1) (by decide)) (by decide), ?_⟩
      refine ⟨fun c7 => ?_, fun c7 => ?_⟩
      · skip
        refine sp_of (a := 0) (b := 9) k_a_lands (iv_lea (l := 0) (h := 1) (r_nlt c4) (iv_leb (l := 0) (h := 2147483647) (r_nlt c1) (iv_lit (l := 0) (h := 0) (by decide)) (iv_top x1) (by decide)) (iv_sub (l := (-1)) (h := 1) (k_a_many _) (iv_lit (l := 1) (h := 1) (by decide)) (by decide)) (by decide)) (iv_lit (l := 0) (h := 0) (by decide)) (by decide +kernel) (fun r8 hr8 er8 => ?_)
        refine sp_of (a := 0) (b := 6) k_a_lands (iv_lea (l := 0) (h := 1) (r_nlt c4) (iv_leb (l := 0) (h := 2147483647) (r_nlt c1) (iv_lit (l := 0) (h := 0) (by decide)) (iv_top x1) (by decide)) (iv_sub (l := (-1)) (h := 1) (k_a_many _) (iv_lit (l := 1) (h := 1) (by decide)) (by decide)) (by decide)) (iv_lit (l := 1) (h := 1) (by decide)) (by decide +kernel) (fun r9 hr9 er9 => ?_)
        refine ⟨fun c10 => ?_, fun c10 => ?_⟩
        · skip
          exact s_m_best_25 (iv_lit (l := 0) (h := 0) (by decide)) k_a_many k_a_lands (iv_lea (l := 0) (h := 1) (r_nlt c4) (iv_leb (l := 0) (h := 2147483647) (r_nlt c1) (iv_lit (l := 0) (h := 0) (by decide)) (iv_top x1) (by decide)) (iv_sub (l := (-1)) (h := 1) (k_a_many _) (iv_lit (l := 1) (h := 1) (by decide)) (by decide)) (by decide)) hr8 hr9 k_a_run (iv_w (iv_lit (l := (-1)) (h := (-1)) (by decide)) (by decide)) (iv_w (iv_lit (l := 1000000) (h := 1000000) (by decide)) (by decide)) (iv_w (iv_lit (l := 0) (h := 0) (by decide)) (by decide)) hpost
        · skip
          exact (iv_emp (iv_eqa (l := 1) (h := 0) c10 (iv_lit (l := 1) (h := 1) (by decide)) (iv_lit (l := 0) (h := 0) (by decide)) (by decide)) (by decide)).elim
      · skip
        exact (iv_emp (iv_eqa (l := 1) (h := 0) c7 (iv_lit (l := 1) (h := 1) (by decide)) (iv_lit (l := 0) (h := 0) (by decide)) (by decide)) (by decide)).elim
-- m_goesDown
set_option maxRecDepth 20000 in
theorem s_m_goesDown_132 {a_lands : Nat → Int32} {f_land : Int32} {a_routes : Nat → Int32} {a_longest : Nat → Int32} {a_steep : Nat → Int32} {x1 : Int32} {x2 : Int32} {y0 : Int32} {y1 : Int32} {post : (Nat → Int32) → (Nat → Int32) → (Nat → Int32) → Prop} (k_a_lands : mLand a_lands) (k_f_land : iv 0 1 f_land) (hx1 : iv 0 8 x1) (hx2 : iv 0 8 x2) (hy0 : iv 0 8 y0) (hpost : ∀ (a_routes : Nat → Int32) (a_longest : Nat → Int32) (a_steep : Nat → Int32), post a_routes a_longest a_steep) : q_m_goesDown_132 a_lands f_land a_routes a_longest a_steep x1 x2 y0 y1 post := by
  refine ⟨iv_in hy0 (by decide), ?_⟩
  intro a1 ea1
  refine ⟨iv_in hx2 (by decide), ?_⟩
  refine ⟨iv_in hx1 (by decide), ?_⟩
  intro w2 ew2
  refine ⟨iv_in hx2 (by decide), ?_⟩
  intro a3 ea3
  exact hpost _ _ _
set_option maxRecDepth 20000 in
theorem s_m_goesDown_89 {a_lands : Nat → Int32} {f_land : Int32} {a_routes : Nat → Int32} {a_longest : Nat → Int32} {a_steep : Nat → Int32} {x1 : Int32} {x2 : Int32} {y0 : Int32} {y1 : Int32} {post : (Nat → Int32) → (Nat → Int32) → (Nat → Int32) → Prop} (k_a_lands : mLand a_lands) (k_f_land : iv 0 1 f_land) (hx1 : iv 0 8 x1) (hx2 : iv 0 8 x2) (hy0 : iv 0 8 y0) (hpost : ∀ (a_routes : Nat → Int32) (a_longest : Nat → Int32) (a_steep : Nat → Int32), post a_routes a_longest a_steep) : q_m_goesDown_89 a_lands f_land a_routes a_longest a_steep x1 x2 y0 y1 post := by
  refine ⟨iv_in hy0 (by decide), ?_⟩
  intro a1 ea1
  refine ⟨iv_in hx2 (by decide), ?_⟩
  refine ⟨fun c2 => ?_, fun c2 => ?_⟩
  · skip
    refine ⟨iv_in hx2 (by decide), ?_⟩
    refine ⟨iv_in hx1 (by decide), ?_⟩
    refine ⟨fun c3 => ?_, fun c3 => ?_⟩
    · skip
      exact s_m_goesDown_132 k_a_lands k_f_land hx1 hx2 hx2 hpost
    · skip
      exact s_m_goesDown_132 k_a_lands k_f_land hx1 hx2 hx2 hpost
  · skip
    refine ⟨iv_in hx1 (by decide), ?_⟩
    exact s_m_goesDown_132 k_a_lands k_f_land hx1 hx2 hx2 hpost
set_option maxRecDepth 20000 in
theorem s_m_goesDown_0 {a_lands : Nat → Int32} {f_land : Int32} {a_routes : Nat → Int32} {a_longest : Nat → Int32} {a_steep : Nat → Int32} {x1 : Int32} {x2 : Int32} {post : (Nat → Int32) → (Nat → Int32) → (Nat → Int32) → Prop} (k_a_lands : mLand a_lands) (k_f_land : iv 0 1 f_land) (hx1 : iv 0 8 x1) (hx2 : iv 0 8 x2) (hpost : ∀ (a_routes : Nat → Int32) (a_longest : Nat → Int32) (a_steep : Nat → Int32), post a_routes a_longest a_steep) : q_m_goesDown_0 a_lands f_land a_routes a_longest a_steep x1 x2 post := by
  refine sp_of (a := 0) (b := 9) k_a_lands k_f_land (iv_add (l := 51) (h := 131) (iv_add (l := 51) (h := 123) (iv_lit (l := 51) (h := 51) (by decide)) (iv_mul (l := 0) (h := 72) (iv_lit (l := 9) (h := 9) (by decide)) hx1 (by decide)) (by decide)) hx2 (by decide)) (by decide +kernel) (fun r1 hr1 er1 => ?_)
  refine ⟨fun c2 => ?_, fun c2 => ?_⟩
  · skip
    exact hpost _ _ _
  · skip
    refine sp_of (a := 0) (b := 99) k_a_lands k_f_land (iv_add (l := 7) (h := 15) (iv_lit (l := 7) (h := 7) (by decide)) hx2 (by decide)) (by decide +kernel) (fun r3 hr3 er3 => ?_)
    refine sp_of (a := 0) (b := 99) k_a_lands k_f_land (iv_add (l := 7) (h := 15) (iv_lit (l := 7) (h := 7) (by decide)) hx1 (by decide)) (by decide +kernel) (fun r4 hr4 er4 => ?_)
    refine ⟨fun c5 => ?_, fun c5 => ?_⟩
    · skip
      exact hpost _ _ _
    · skip
      refine sp_of (a := 0) (b := 511) k_a_lands k_f_land (iv_lit (l := 3) (h := 3) (by decide)) (by decide +kernel) (fun r6 hr6 er6 => ?_)
      refine ⟨fun c7 => ?_, fun c7 => ?_⟩
      · skip
        refine ⟨iv_nb (iv_lit (l := 0) (h := 0) (by decide)) (by decide), ?_⟩
        refine ⟨fun c8 => ?_, fun c8 => ?_⟩
        · skip
          exact (iv_emp (iv_ne (l := 1) (h := 0) c8 (iv_lit (l := 0) (h := 0) (by decide)) (iv_lit (l := 0) (h := 0) (by decide)) (by decide)) (by decide)).elim
        · skip
          refine ⟨iv_in hx1 (by decide), ?_⟩
          refine ⟨fun c9 => ?_, fun c9 => ?_⟩
          · skip
            refine ⟨iv_in hx1 (by decide), ?_⟩
            refine sp_of (a := 0) (b := 99) k_a_lands k_f_land (iv_add (l := 7) (h := 15) (iv_lit (l := 7) (h := 7) (by decide)) hx1 (by decide)) (by decide +kernel) (fun r10 hr10 er10 => ?_)
            refine sp_of (a := 0) (b := 99) k_a_lands k_f_land (iv_add (l := 7) (h := 15) (iv_lit (l := 7) (h := 7) (by decide)) hx2 (by decide)) (by decide +kernel) (fun r11 hr11 er11 => ?_)
            refine ⟨fun c12 => ?_, fun c12 => ?_⟩
            · skip
              refine ⟨iv_in hx2 (by decide), ?_⟩
              refine ⟨fun c13 => ?_, fun c13 => ?_⟩
              · skip
                refine ⟨iv_in hx2 (by decide), ?_⟩
                refine ⟨fun c14 => ?_, fun c14 => ?_⟩
                · skip
                  exact s_m_goesDown_89 k_a_lands k_f_land hx1 hx2 hx2 hpost
                · skip
                  exact s_m_goesDown_89 k_a_lands k_f_land hx1 hx2 hx2 hpost
              · skip
                exact s_m_goesDown_89 k_a_lands k_f_land hx1 hx2 hx2 hpost
            · skip
              refine ⟨iv_in hx2 (by decide), ?_⟩
              refine ⟨fun c15 => ?_, fun c15 => ?_⟩
              · skip
                refine ⟨iv_in hx2 (by decide), ?_⟩
                refine ⟨fun c16 => ?_, fun c16 => ?_⟩
                · skip
                  exact s_m_goesDown_89 k_a_lands k_f_land hx1 hx2 hx2 hpost
                · skip
                  exact s_m_goesDown_89 k_a_lands k_f_land hx1 hx2 hx2 hpost
              · skip
                exact s_m_goesDown_89 k_a_lands k_f_land hx1 hx2 hx2 hpost
          · skip
            exact hpost _ _ _
      · skip
        refine ⟨iv_nb (iv_lit (l := 1) (h := 1) (by decide)) (by decide), ?_⟩
        refine ⟨fun c17 => ?_, fun c17 => ?_⟩
        · skip
          exact hpost _ _ _
        · skip
          exact (iv_emp (iv_eqa (l := 1) (h := 0) c17 (iv_lit (l := 1) (h := 1) (by decide)) (iv_lit (l := 0) (h := 0) (by decide)) (by decide)) (by decide)).elim
-- m_findRoutes
theorem sp_nextDown {f laid : Nat → Int32} {ld : Int32} {H : Nat} {post : Int32 → Prop} (hL : mLand f) (hl : iv 0 1 ld) (hH : H ≤ 9) (hex : ∃ h, h < H ∧ laid h = 0) (hp : ∀ a, a < H → laid a = 0 → post (nI a)) : q_m_nextDown_0 f ld (nI H) laid post := by
  intro P hP
  have loop : ∀ (n j : Nat) (x : Int32), n + j = H → ((x = -1 ∧ ∀ h, h < j → ¬ laid h = 0) ∨ ∃ a, a < j ∧ x = nI a ∧ laid a = 0) → P x (nI j) := by
    intro n
    induction n with
    | zero =>
      intro j x hj hx
      apply hP
      refine ⟨fun _ => ?_, fun h => absurd (nI_le (by omega) (by omega)) h⟩
      rcases hx with ⟨-, hno⟩ | ⟨a, ha, rfl, h0⟩
      · obtain ⟨h, hh, e⟩ := hex
        exact absurd e (hno h (by omega))
      · exact hp a (by omega) h0
    | succ n ih =>
      intro j x hj hx
      apply hP
      refine ⟨fun h => absurd h (nI_ge (by omega) (by omega)), fun _ => ⟨vp_in_nI (by omega) (by omega), ?_⟩⟩
      rw [nI_clamp (by omega)]
      have k43 : ¬ laid j = 0 ∨ ¬ x = -1 → q_m_nextDown_43 P f ld (nI H) laid x (nI j) post := by
        intro hh v1 e1
        rw [e1, nI_1]
        refine ih (j + 1) x (by omega) ?_
        rcases hx with ⟨hx1, hno⟩ | ⟨a, ha, hxa, h0⟩
        · left
          refine ⟨hx1, fun h hlt => ?_⟩
          by_cases he : h = j
          · subst he
            rcases hh with hh | hh
            · exact hh
            · exact absurd hx1 hh
          · exact hno h (by omega)
        · right
          exact ⟨a, by omega, hxa, h0⟩
      have k39 : laid j = 0 → q_m_nextDown_39 P f ld (nI H) laid (nI j) post := by
        intro h0 v1 e1
        rw [e1, nI_1]
        exact ih (j + 1) (nI j) (by omega) (Or.inr ⟨j, by omega, rfl, h0⟩)
      refine ⟨fun h => k43 (Or.inl h), fun h => ⟨fun _ => k39 h, fun hx1 => ?_⟩⟩
      rcases hx with ⟨hx2, -⟩ | ⟨a, ha, rfl, h0⟩
      · exact absurd hx2 hx1
      · refine sp_height hL hl (iv_ofN (by omega) (by omega) (by omega)) (fun r1 => sp_height hL hl (iv_ofN (by omega) (by omega) (by omega)) (fun r2 => ?_))
        exact ⟨fun _ => k43 (Or.inr hx1), fun _ => k39 h⟩
  exact loop H 0 (-1) (by omega) (Or.inl ⟨rfl, fun h hh => absurd hh (by omega)⟩)
theorem s_m_findRoutes_0 {a_lands : Nat → Int32} {f_land : Int32} {f_huts : Int32} {a_routes : Nat → Int32} {a_longest : Nat → Int32} {a_steep : Nat → Int32} {a_laid : Nat → Int32} {x1 : Int32} {post : (Nat → Int32) → (Nat → Int32) → (Nat → Int32) → (Nat → Int32) → Prop} (k_a_lands : mLand a_lands) (k_f_land : iv 0 1 f_land) (k_f_huts : iv 0 9 f_huts) (k_a_laid : ∀ j, iv 0 1 (a_laid j)) (hpost : ∀ (a_routes : Nat → Int32) (a_longest : Nat → Int32) (a_steep : Nat → Int32) (a_laid : Nat → Int32), (∀ j, iv 0 1 (a_laid j)) → post a_routes a_longest a_steep a_laid) : q_m_findRoutes_0 a_lands f_land f_huts a_routes a_longest a_steep a_laid x1 post := by
  obtain ⟨H, rfl, -, hH, hH2⟩ := iv_nI k_f_huts (by omega)
  have hH9 : H ≤ 9 := by omega
  have e0 : vp_nar .boolean 0 = 0 := rfl
  have e1 : vp_nar .boolean 1 = 1 := rfl
  have second : ∀ (rt lg st laid : Nat → Int32), (∀ j, iv 0 1 (laid j)) → (∀ h, h < H → laid h = 0) → q_m_findRoutes_63 a_lands f_land (nI H) rt lg st laid 0 post := by
    intro rt lg st laid hl01 hl0 P hP
    have loop : ∀ (n j : Nat) (rt lg st laid : Nat → Int32), n + j = H → (∀ j, iv 0 1 (laid j)) → zc laid H = n → P (nI j) rt lg st laid := by
      intro n
      induction n with
      | zero =>
        intro j rt lg st laid hj h01 hz
        apply hP
        exact ⟨fun _ => hpost _ _ _ _ h01, fun h => absurd (nI_le (by omega) (by omega)) h⟩
      | succ n ih =>
        intro j rt lg st laid hj h01 hz
        apply hP
        refine ⟨fun h => absurd h (nI_ge (by omega) (by omega)), fun _ => ?_⟩
        refine sp_nextDown k_a_lands k_f_land hH9 (zc_pos (by omega)) (fun a ha h0 => ?_)
        refine ⟨vp_in_nI (by omega) (by omega), fun laid1 el => ?_⟩
        rw [nI_clamp (by omega), e1] at el
        intro P2 hP2
        have hz1 : zc laid1 H = n := by
          have := zc_upd (v := 1) h0 (by decide) ha
          rw [el]; omega
        have h01' : ∀ j, iv 0 1 (laid1 j) := iv_upd el h01 (iv_lit (by decide))
        have loop2 : ∀ (m b : Nat) (rt lg st : Nat → Int32), m + b = H → P2 (nI b) rt lg st := by
          intro m
          induction m with
          | zero =>
            intro b rt lg st hb
            apply hP2
            refine ⟨fun _ v1 ev => ?_, fun h => absurd (nI_le (by omega) (by omega)) h⟩
            rw [ev, nI_1]
            exact ih (j + 1) rt lg st laid1 (by omega) h01' hz1
          | succ m ih2 =>
            intro b rt lg st hb
            apply hP2
            refine ⟨fun h => absurd h (nI_ge (by omega) (by omega)), fun _ => ?_⟩
            refine s_m_goesDown_0 k_a_lands k_f_land (iv_ofN (by omega) (by omega) (by omega)) (iv_ofN (by omega) (by omega) (by omega)) (fun rt1 lg1 st1 v2 ev => ?_)
            rw [ev, nI_1]
            exact ih2 (b + 1) rt1 lg1 st1 (by omega)
        exact loop2 H 0 rt lg st (by omega)
    exact loop H 0 rt lg st laid (by omega) hl01 (zc_all hl0)
  intro P hP
  have loop : ∀ (n j : Nat) (rt lg st laid : Nat → Int32), n + j = H → (∀ j, iv 0 1 (laid j)) → (∀ h, h < j → laid h = 0) → P (nI j) rt lg st laid := by
    intro n
    induction n with
    | zero =>
      intro j rt lg st laid hj h01 h0
      apply hP
      exact ⟨fun _ => second rt lg st laid h01 (fun h hh => h0 h (by omega)), fun h => absurd (nI_le (by omega) (by omega)) h⟩
    | succ n ih =>
      intro j rt lg st laid hj h01 h0
      apply hP
      have k33 : ∀ y : Int32, q_m_findRoutes_33 P a_lands f_land (nI H) rt lg st laid x1 (nI j) (nI j) y post := by
        intro y
        refine ⟨vp_in_nI (by omega) (by omega), fun rt1 _ => ⟨vp_in_nI (by omega) (by omega), fun lg1 _ => ⟨vp_in_nI (by omega) (by omega), fun st1 _ => ⟨vp_in_nI (by omega) (by omega), fun laid1 el v1 ev => ?_⟩⟩⟩⟩
        rw [ev, nI_1]
        rw [nI_clamp (by omega), e0] at el
        refine ih (j + 1) rt1 lg1 st1 laid1 (by omega) (iv_upd el h01 (iv_lit (by decide))) (fun h hh => ?_)
        rw [el]
        unfold upd
        split
        · rfl
        · exact h0 h (by omega)
      refine ⟨fun h => absurd h (nI_ge (by omega) (by omega)), fun _ => ⟨fun _ => k33 0, fun _ => ?_⟩⟩
      exact sp_isDam k_a_lands k_f_land ⟨fun h => absurd rfl h, fun _ => k33 1⟩ ⟨fun _ => k33 0, fun h => absurd h (by decide)⟩
  exact loop H 0 a_routes a_longest a_steep a_laid (by omega) k_a_laid (fun h hh => absurd hh (by omega))
-- m_routes
set_option maxRecDepth 20000 in
theorem s_m_routes_0 {f_code : Int32} {a_many : Nat → Int32} {a_lands : Nat → Int32} {f_land : Int32} {f_huts : Int32} {f_singers : Int32} {a_routes : Nat → Int32} {a_longest : Nat → Int32} {a_steep : Nat → Int32} {a_laid : Nat → Int32} {x1 : Int32} {x2 : Int32} {x3 : Int32} {x4 : Int32} {post : Int32 → (Int32) → (Int32) → (Int32) → (Int32) → (Nat → Int32) → (Nat → Int32) → (Nat → Int32) → (Nat → Int32) → Prop} (k_f_code : iv 0 0 f_code) (k_a_many : ∀ j, iv 0 2 (a_many j)) (k_a_lands : mLand a_lands) (k_f_land : iv 0 1 f_land) (k_f_huts : iv 0 9 f_huts) (k_f_singers : iv 0 6 f_singers) (k_a_laid : ∀ j, iv 0 1 (a_laid j)) (hpost : ∀ (r : Int32) (f_code : Int32) (f_land : Int32) (f_huts : Int32) (f_singers : Int32) (a_routes : Nat → Int32) (a_longest : Nat → Int32) (a_steep : Nat → Int32) (a_laid : Nat → Int32), (iv 0 0 f_code) → (iv 0 1 f_land) → (iv 0 9 f_huts) → (iv 0 6 f_singers) → (∀ j, iv 0 1 (a_laid j)) → post r f_code f_land f_huts f_singers a_routes a_longest a_steep a_laid) : q_m_routes_0 f_code a_many a_lands f_land f_huts f_singers a_routes a_longest a_steep a_laid x1 x2 x3 x4 post := by
  refine ⟨iv_in (iv_lit (l := 0) (h := 0) (by decide)) (by decide), ?_⟩
  refine ⟨fun c1 => ?_, fun c1 => ?_⟩
  · skip
    refine ⟨iv_nb (iv_lit (l := 0) (h := 0) (by decide)) (by decide), ?_⟩
    refine ⟨fun c2 => ?_, fun c2 => ?_⟩
    · skip
      exact (iv_emp (iv_ne (l := 1) (h := 0) c2 (iv_lit (l := 0) (h := 0) (by decide)) (iv_lit (l := 0) (h := 0) (by decide)) (by decide)) (by decide)).elim
    · skip
      refine ⟨fun c3 => ?_, fun c3 => ?_⟩
      · skip
        exact hpost _ _ _ _ _ _ _ _ _ (iv_lit (l := 0) (h := 0) (by decide)) k_f_land k_f_huts k_f_singers k_a_laid
      · skip
        exact (iv_emp (iv_ne (l := 1) (h := 0) c3 (iv_lit (l := 0) (h := 0) (by decide)) (iv_lit (l := 0) (h := 0) (by decide)) (by decide)) (by decide)).elim
  · skip
    refine ⟨fun c4 => ?_, fun c4 => ?_⟩
    · skip
      refine ⟨iv_nb (iv_lit (l := 0) (h := 0) (by decide)) (by decide), ?_⟩
      refine ⟨fun c5 => ?_, fun c5 => ?_⟩
      · skip
        exact (iv_emp (iv_ne (l := 1) (h := 0) c5 (iv_lit (l := 0) (h := 0) (by decide)) (iv_lit (l := 0) (h := 0) (by decide)) (by decide)) (by decide)).elim
      · skip
        refine ⟨fun c6 => ?_, fun c6 => ?_⟩
        · skip
          exact hpost _ _ _ _ _ _ _ _ _ (iv_lit (l := 0) (h := 0) (by decide)) k_f_land k_f_huts k_f_singers k_a_laid
        · skip
          exact (iv_emp (iv_ne (l := 1) (h := 0) c6 (iv_lit (l := 0) (h := 0) (by decide)) (iv_lit (l := 0) (h := 0) (by decide)) (by decide)) (by decide)).elim
    · skip
      refine ⟨iv_nb (iv_lit (l := 1) (h := 1) (by decide)) (by decide), ?_⟩
      refine ⟨fun c7 => ?_, fun c7 => ?_⟩
      · skip
        refine sp_of (a := 0) (b := 9) k_a_lands (iv_lea (l := 0) (h := 1) (r_nlt c4) (iv_leb (l := 0) (h := 2147483647) (r_nlt c1) (iv_lit (l := 0) (h := 0) (by decide)) (iv_top x1) (by decide)) (iv_sub (l := (-1)) (h := 1) (k_a_many _) (iv_lit (l := 1) (h := 1) (by decide)) (by decide)) (by decide)) (iv_lit (l := 0) (h := 0) (by decide)) (by decide +kernel) (fun r8 hr8 er8 => ?_)
        refine sp_of (a := 0) (b := 6) k_a_lands (iv_lea (l := 0) (h := 1) (r_nlt c4) (iv_leb (l := 0) (h := 2147483647) (r_nlt c1) (iv_lit (l := 0) (h := 0) (by decide)) (iv_top x1) (by decide)) (iv_sub (l := (-1)) (h := 1) (k_a_many _) (iv_lit (l := 1) (h := 1) (by decide)) (by decide)) (by decide)) (iv_lit (l := 1) (h := 1) (by decide)) (by decide +kernel) (fun r9 hr9 er9 => ?_)
        refine ⟨fun c10 => ?_, fun c10 => ?_⟩
        · skip
          exact (iv_emp (iv_eqa (l := 1) (h := 0) c10 (iv_lit (l := 1) (h := 1) (by decide)) (iv_lit (l := 0) (h := 0) (by decide)) (by decide)) (by decide)).elim
        · skip
          refine ⟨fun c11 => ?_, fun c11 => ?_⟩
          · skip
            refine ⟨iv_nb (iv_lit (l := 0) (h := 0) (by decide)) (by decide), ?_⟩
            refine ⟨fun c12 => ?_, fun c12 => ?_⟩
            · skip
              exact hpost _ _ _ _ _ _ _ _ _ (iv_lit (l := 0) (h := 0) (by decide)) (iv_lea (l := 0) (h := 1) (r_nlt c4) (iv_leb (l := 0) (h := 2147483647) (r_nlt c1) (iv_lit (l := 0) (h := 0) (by decide)) (iv_top x1) (by decide)) (iv_sub (l := (-1)) (h := 1) (k_a_many _) (iv_lit (l := 1) (h := 1) (by decide)) (by decide)) (by decide)) hr8 hr9 k_a_laid
            · skip
              exact (iv_emp (iv_ne (l := 1) (h := 0) c12 (iv_lit (l := 0) (h := 0) (by decide)) (iv_lit (l := 0) (h := 0) (by decide)) (by decide)) (by decide)).elim
          · skip
            refine ⟨fun c13 => ?_, fun c13 => ?_⟩
            · skip
              refine ⟨iv_nb (iv_lit (l := 0) (h := 0) (by decide)) (by decide), ?_⟩
              refine ⟨fun c14 => ?_, fun c14 => ?_⟩
              · skip
                exact hpost _ _ _ _ _ _ _ _ _ (iv_lit (l := 0) (h := 0) (by decide)) (iv_lea (l := 0) (h := 1) (r_nlt c4) (iv_leb (l := 0) (h := 2147483647) (r_nlt c1) (iv_lit (l := 0) (h := 0) (by decide)) (iv_top x1) (by decide)) (iv_sub (l := (-1)) (h := 1) (k_a_many _) (iv_lit (l := 1) (h := 1) (by decide)) (by decide)) (by decide)) hr8 hr9 k_a_laid
              · skip
                exact (iv_emp (iv_ne (l := 1) (h := 0) c14 (iv_lit (l := 0) (h := 0) (by decide)) (iv_lit (l := 0) (h := 0) (by decide)) (by decide)) (by decide)).elim
            · skip
              refine ⟨iv_nb (iv_lit (l := 1) (h := 1) (by decide)) (by decide), ?_⟩
              refine ⟨fun c15 => ?_, fun c15 => ?_⟩
              · skip
                exact (iv_emp (iv_eqa (l := 1) (h := 0) c15 (iv_lit (l := 1) (h := 1) (by decide)) (iv_lit (l := 0) (h := 0) (by decide)) (by decide)) (by decide)).elim
              · skip
                refine ⟨fun c16 => ?_, fun c16 => ?_⟩
                · skip
                  refine ⟨iv_nb (iv_lit (l := 0) (h := 0) (by decide)) (by decide), ?_⟩
                  refine ⟨fun c17 => ?_, fun c17 => ?_⟩
                  · skip
                    exact hpost _ _ _ _ _ _ _ _ _ (iv_lit (l := 0) (h := 0) (by decide)) (iv_lea (l := 0) (h := 1) (r_nlt c4) (iv_leb (l := 0) (h := 2147483647) (r_nlt c1) (iv_lit (l := 0) (h := 0) (by decide)) (iv_top x1) (by decide)) (iv_sub (l := (-1)) (h := 1) (k_a_many _) (iv_lit (l := 1) (h := 1) (by decide)) (by decide)) (by decide)) hr8 hr9 k_a_laid
                  · skip
                    exact (iv_emp (iv_ne (l := 1) (h := 0) c17 (iv_lit (l := 0) (h := 0) (by decide)) (iv_lit (l := 0) (h := 0) (by decide)) (by decide)) (by decide)).elim
                · skip
                  refine ⟨fun c18 => ?_, fun c18 => ?_⟩
                  · skip
                    refine ⟨iv_nb (iv_lit (l := 0) (h := 0) (by decide)) (by decide), ?_⟩
                    refine ⟨fun c19 => ?_, fun c19 => ?_⟩
                    · skip
                      exact hpost _ _ _ _ _ _ _ _ _ (iv_lit (l := 0) (h := 0) (by decide)) (iv_lea (l := 0) (h := 1) (r_nlt c4) (iv_leb (l := 0) (h := 2147483647) (r_nlt c1) (iv_lit (l := 0) (h := 0) (by decide)) (iv_top x1) (by decide)) (iv_sub (l := (-1)) (h := 1) (k_a_many _) (iv_lit (l := 1) (h := 1) (by decide)) (by decide)) (by decide)) hr8 hr9 k_a_laid
                    · skip
                      exact (iv_emp (iv_ne (l := 1) (h := 0) c19 (iv_lit (l := 0) (h := 0) (by decide)) (iv_lit (l := 0) (h := 0) (by decide)) (by decide)) (by decide)).elim
                  · skip
                    refine ⟨iv_nb (iv_lit (l := 1) (h := 1) (by decide)) (by decide), ?_⟩
                    refine ⟨fun c20 => ?_, fun c20 => ?_⟩
                    · skip
                      exact (iv_emp (iv_eqa (l := 1) (h := 0) c20 (iv_lit (l := 1) (h := 1) (by decide)) (iv_lit (l := 0) (h := 0) (by decide)) (by decide)) (by decide)).elim
                    · skip
                      refine ⟨fun c21 => ?_, fun c21 => ?_⟩
                      · skip
                        exact hpost _ _ _ _ _ _ _ _ _ (iv_lit (l := 0) (h := 0) (by decide)) (iv_lea (l := 0) (h := 1) (r_nlt c4) (iv_leb (l := 0) (h := 2147483647) (r_nlt c1) (iv_lit (l := 0) (h := 0) (by decide)) (iv_top x1) (by decide)) (iv_sub (l := (-1)) (h := 1) (k_a_many _) (iv_lit (l := 1) (h := 1) (by decide)) (by decide)) (by decide)) hr8 hr9 k_a_laid
                      · skip
                        refine ⟨fun c22 => ?_, fun c22 => ?_⟩
                        · skip
                          refine ⟨fun c23 => ?_, fun c23 => ?_⟩
                          · skip
                            exact (iv_emp (iv_ne (l := 1) (h := 0) c23 (iv_lit (l := 0) (h := 0) (by decide)) (iv_lit (l := 0) (h := 0) (by decide)) (by decide)) (by decide)).elim
                          · skip
                            exact hpost _ _ _ _ _ _ _ _ _ (iv_lit (l := 0) (h := 0) (by decide)) (iv_lea (l := 0) (h := 1) (r_nlt c4) (iv_leb (l := 0) (h := 2147483647) (r_nlt c1) (iv_lit (l := 0) (h := 0) (by decide)) (iv_top x1) (by decide)) (iv_sub (l := (-1)) (h := 1) (k_a_many _) (iv_lit (l := 1) (h := 1) (by decide)) (by decide)) (by decide)) hr8 hr9 k_a_laid
                        · skip
                          refine ⟨fun c24 => ?_, fun c24 => ?_⟩
                          · skip
                            refine ⟨fun c25 => ?_, fun c25 => ?_⟩
                            · skip
                              exact (iv_emp (iv_ne (l := 1) (h := 0) c25 (iv_lit (l := 0) (h := 0) (by decide)) (iv_lit (l := 0) (h := 0) (by decide)) (by decide)) (by decide)).elim
                            · skip
                              exact hpost _ _ _ _ _ _ _ _ _ (iv_lit (l := 0) (h := 0) (by decide)) (iv_lea (l := 0) (h := 1) (r_nlt c4) (iv_leb (l := 0) (h := 2147483647) (r_nlt c1) (iv_lit (l := 0) (h := 0) (by decide)) (iv_top x1) (by decide)) (iv_sub (l := (-1)) (h := 1) (k_a_many _) (iv_lit (l := 1) (h := 1) (by decide)) (by decide)) (by decide)) hr8 hr9 k_a_laid
                          · skip
                            refine ⟨fun c26 => ?_, fun c26 => ?_⟩
                            · skip
                              refine s_m_findRoutes_0 k_a_lands (iv_lea (l := 0) (h := 1) (r_nlt c4) (iv_leb (l := 0) (h := 2147483647) (r_nlt c1) (iv_lit (l := 0) (h := 0) (by decide)) (iv_top x1) (by decide)) (iv_sub (l := (-1)) (h := 1) (k_a_many _) (iv_lit (l := 1) (h := 1) (by decide)) (by decide)) (by decide)) hr8 k_a_laid (fun o27 o28 o29 o30 k_o30 => ?_)
                              refine ⟨fun c31 => ?_, fun c31 => ?_⟩
                              · skip
                                refine ⟨iv_in (iv_lea (l := 0) (h := 8) (r_nlt c18) (iv_leb (l := 0) (h := 2147483647) (r_nlt c16) (iv_lit (l := 0) (h := 0) (by decide)) (iv_top x3) (by decide)) (iv_leb (l := 0) (h := 8) (r_nlt c13) (iv_leb (l := 0) (h := 2147483647) (r_nlt c11) (iv_lit (l := 0) (h := 0) (by decide)) (iv_top x2) (by decide)) (iv_sub (l := (-1)) (h := 8) hr8 (iv_lit (l := 1) (h := 1) (by decide)) (by decide)) (by decide)) (by decide)) (by decide), ?_⟩
                                refine ⟨fun c32 => ?_, fun c32 => ?_⟩
                                · skip
                                  refine ⟨fun c33 => ?_, fun c33 => ?_⟩
                                  · skip
                                    refine ⟨iv_in (iv_lea (l := 0) (h := 8) (r_nlt c18) (iv_leb (l := 0) (h := 2147483647) (r_nlt c16) (iv_lit (l := 0) (h := 0) (by decide)) (iv_top x3) (by decide)) (iv_leb (l := 0) (h := 8) (r_nlt c13) (iv_leb (l := 0) (h := 2147483647) (r_nlt c11) (iv_lit (l := 0) (h := 0) (by decide)) (iv_top x2) (by decide)) (iv_sub (l := (-1)) (h := 8) hr8 (iv_lit (l := 1) (h := 1) (by decide)) (by decide)) (by decide)) (by decide)) (by decide), ?_⟩
                                    exact hpost _ _ _ _ _ _ _ _ _ (iv_lit (l := 0) (h := 0) (by decide)) (iv_lea (l := 0) (h := 1) (r_nlt c4) (iv_leb (l := 0) (h := 2147483647) (r_nlt c1) (iv_lit (l := 0) (h := 0) (by decide)) (iv_top x1) (by decide)) (iv_sub (l := (-1)) (h := 1) (k_a_many _) (iv_lit (l := 1) (h := 1) (by decide)) (by decide)) (by decide)) hr8 hr9 k_o30
                                  · skip
                                    refine ⟨iv_in (iv_lea (l := 0) (h := 8) (r_nlt c18) (iv_leb (l := 0) (h := 2147483647) (r_nlt c16) (iv_lit (l := 0) (h := 0) (by decide)) (iv_top x3) (by decide)) (iv_leb (l := 0) (h := 8) (r_nlt c13) (iv_leb (l := 0) (h := 2147483647) (r_nlt c11) (iv_lit (l := 0) (h := 0) (by decide)) (iv_top x2) (by decide)) (iv_sub (l := (-1)) (h := 8) hr8 (iv_lit (l := 1) (h := 1) (by decide)) (by decide)) (by decide)) (by decide)) (by decide), ?_⟩
                                    exact hpost _ _ _ _ _ _ _ _ _ (iv_lit (l := 0) (h := 0) (by decide)) (iv_lea (l := 0) (h := 1) (r_nlt c4) (iv_leb (l := 0) (h := 2147483647) (r_nlt c1) (iv_lit (l := 0) (h := 0) (by decide)) (iv_top x1) (by decide)) (iv_sub (l := (-1)) (h := 1) (k_a_many _) (iv_lit (l := 1) (h := 1) (by decide)) (by decide)) (by decide)) hr8 hr9 k_o30
                                · skip
                                  exact hpost _ _ _ _ _ _ _ _ _ (iv_lit (l := 0) (h := 0) (by decide)) (iv_lea (l := 0) (h := 1) (r_nlt c4) (iv_leb (l := 0) (h := 2147483647) (r_nlt c1) (iv_lit (l := 0) (h := 0) (by decide)) (iv_top x1) (by decide)) (iv_sub (l := (-1)) (h := 1) (k_a_many _) (iv_lit (l := 1) (h := 1) (by decide)) (by decide)) (by decide)) hr8 hr9 k_o30
                              · skip
                                refine ⟨iv_in (iv_lea (l := 0) (h := 8) (r_nlt c18) (iv_leb (l := 0) (h := 2147483647) (r_nlt c16) (iv_lit (l := 0) (h := 0) (by decide)) (iv_top x3) (by decide)) (iv_leb (l := 0) (h := 8) (r_nlt c13) (iv_leb (l := 0) (h := 2147483647) (r_nlt c11) (iv_lit (l := 0) (h := 0) (by decide)) (iv_top x2) (by decide)) (iv_sub (l := (-1)) (h := 8) hr8 (iv_lit (l := 1) (h := 1) (by decide)) (by decide)) (by decide)) (by decide)) (by decide), ?_⟩
                                exact hpost _ _ _ _ _ _ _ _ _ (iv_lit (l := 0) (h := 0) (by decide)) (iv_lea (l := 0) (h := 1) (r_nlt c4) (iv_leb (l := 0) (h := 2147483647) (r_nlt c1) (iv_lit (l := 0) (h := 0) (by decide)) (iv_top x1) (by decide)) (iv_sub (l := (-1)) (h := 1) (k_a_many _) (iv_lit (l := 1) (h := 1) (by decide)) (by decide)) (by decide)) hr8 hr9 k_o30
                            · skip
                              exact (iv_emp (iv_eqa (l := 1) (h := 0) c26 (iv_lit (l := 1) (h := 1) (by decide)) (iv_lit (l := 0) (h := 0) (by decide)) (by decide)) (by decide)).elim
      · skip
        exact (iv_emp (iv_eqa (l := 1) (h := 0) c7 (iv_lit (l := 1) (h := 1) (by decide)) (iv_lit (l := 0) (h := 0) (by decide)) (by decide)) (by decide)).elim
-- m_mutesOf
set_option maxRecDepth 20000 in
theorem s_m_mutesOf_0 {a_lands : Nat → Int32} {f_land : Int32} {f_huts : Int32} {a_run : Nat → Int32} {x1 : Int32} {x2 : Int32} {post : Int32 → (Nat → Int32) → Prop} (k_a_lands : mLand a_lands) (k_f_land : iv 0 1 f_land) (k_f_huts : iv 0 9 f_huts) (k_a_run : ∀ j, iv 0 1000000 (a_run j)) (hx1 : iv 0 8 x1) (hx2 : iv 0 8 x2) (hpost : ∀ (r : Int32) (a_run : Nat → Int32), (∀ j, iv 0 1000000 (a_run j)) → post r a_run) : q_m_mutesOf_0 a_lands f_land f_huts a_run x1 x2 post := by
  refine s_m_findRun_0 k_a_lands k_f_land k_f_huts k_a_run hx1 (iv_w (iv_lit (l := 0) (h := 0) (by decide)) (by decide)) (fun o1 k_o1 => ?_)
  refine s_m_comesBy_0 k_f_huts k_o1 (iv_w (iv_lit (l := 999999) (h := 999999) (by decide)) (by decide)) (fun r2 hr2 => ?_)
  refine s_m_findRun_0 k_a_lands k_f_land k_f_huts k_o1 hx1 (iv_w (iv_shl1 (l := 1) (h := 256) (iv_lit (l := 1) (h := 1) (by decide)) hx2 (by decide)) (by decide)) (fun o3 k_o3 => ?_)
  refine s_m_comesBy_0 k_f_huts k_o3 (iv_w (iv_lit (l := 999999) (h := 999999) (by decide)) (by decide)) (fun r4 hr4 => ?_)
  refine s_m_ones_0 (iv_w (iv_andl (l := 0) (h := 511) (iv_andl (l := 0) (h := 511) (iv_andl (l := 0) (h := 511) hr2 (by decide)) (by decide)) (by decide)) (by decide)) (fun r5 => ?_)
  exact hpost _ _ k_o3
end
section
-- m_mutes
set_option maxRecDepth 20000 in
theorem s_m_mutes_130 {P79 : Int32 → Int32 → Int32 → (Nat → Int32) → Prop} {f_code : Int32} {a_many : Nat → Int32} {a_lands : Nat → Int32} {f_land : Int32} {f_huts : Int32} {f_singers : Int32} {a_run : Nat → Int32} {x2 : Int32} {x5 : Int32} {x6 : Int32} {x7 : Int32} {y0 : Int32} {post : Int32 → (Int32) → (Int32) → (Int32) → (Int32) → (Nat → Int32) → Prop} (k_f_code : iv 0 0 f_code) (k_a_many : ∀ j, iv 0 2 (a_many j)) (k_a_lands : mLand a_lands) (k_f_land : iv 0 1 f_land) (k_f_huts : iv 1 9 f_huts) (k_f_singers : iv 0 6 f_singers) (k_a_run : ∀ j, iv 0 1000000 (a_run j)) (hx2 : iv 0 8 x2) (hx5 : iv (-1) 2147483647 x5) (hx6 : iv 0 8 x6) (hy0 : iv (-1) 8 y0) (m79 : Int) (hm79 : m79 ≤ x6.toInt) (hP79 : ∀ (x4 : Int32) (x5 : Int32) (x6 : Int32) (a_run : Nat → Int32), m79 < x6.toInt → iv (-1) 8 x4 → iv (-1) 2147483647 x5 → iv 0 9 x6 → (∀ j, iv 0 1000000 (a_run j)) → P79 x4 x5 x6 a_run) (hpost : ∀ (r : Int32) (f_code : Int32) (f_land : Int32) (f_huts : Int32) (f_singers : Int32) (a_run : Nat → Int32), (iv 0 0 f_code) → (iv 0 1 f_land) → (iv 0 9 f_huts) → (iv 0 6 f_singers) → (∀ j, iv 0 1000000 (a_run j)) → post r f_code f_land f_huts f_singers a_run) : q_m_mutes_130 P79 f_code a_many a_lands f_land f_huts f_singers a_run x2 x5 x6 x7 y0 post := by
  refine ⟨fun c1 => ?_, fun c1 => ?_⟩
  · skip
    intro w2 ew2
    have hw2 := iv_eq ew2 (iv_add (l := 1) (h := 9) hx6 (iv_lit (l := 1) (h := 1) (by decide)) (by decide))
    exact hP79 _ _ _ _ (ml_up hm79 (inc_lt ew2 hx6 (by decide))) hy0 (iv_leb (l := (-1)) (h := 2147483647) (r_le c1) hx5 (iv_top x7) (by decide)) (iv_w hw2 (by decide)) k_a_run
  · skip
    intro w3 ew3
    have hw3 := iv_eq ew3 (iv_add (l := 1) (h := 9) hx6 (iv_lit (l := 1) (h := 1) (by decide)) (by decide))
    exact hP79 _ _ _ _ (ml_up hm79 (inc_lt ew3 hx6 (by decide))) hy0 hx5 (iv_w hw3 (by decide)) k_a_run
set_option maxRecDepth 20000 in
theorem s_m_mutes_114 {P79 : Int32 → Int32 → Int32 → (Nat → Int32) → Prop} {f_code : Int32} {a_many : Nat → Int32} {a_lands : Nat → Int32} {f_land : Int32} {f_huts : Int32} {f_singers : Int32} {a_run : Nat → Int32} {x2 : Int32} {x4 : Int32} {x5 : Int32} {x6 : Int32} {y0 : Int32} {post : Int32 → (Int32) → (Int32) → (Int32) → (Int32) → (Nat → Int32) → Prop} (k_f_code : iv 0 0 f_code) (k_a_many : ∀ j, iv 0 2 (a_many j)) (k_a_lands : mLand a_lands) (k_f_land : iv 0 1 f_land) (k_f_huts : iv 1 9 f_huts) (k_f_singers : iv 0 6 f_singers) (k_a_run : ∀ j, iv 0 1000000 (a_run j)) (hx2 : iv 0 8 x2) (hx4 : iv (-1) 8 x4) (hx5 : iv (-1) 2147483647 x5) (hx6 : iv 0 8 x6) (m79 : Int) (hm79 : m79 ≤ x6.toInt) (hP79 : ∀ (x4 : Int32) (x5 : Int32) (x6 : Int32) (a_run : Nat → Int32), m79 < x6.toInt → iv (-1) 8 x4 → iv (-1) 2147483647 x5 → iv 0 9 x6 → (∀ j, iv 0 1000000 (a_run j)) → P79 x4 x5 x6 a_run) (hpost : ∀ (r : Int32) (f_code : Int32) (f_land : Int32) (f_huts : Int32) (f_singers : Int32) (a_run : Nat → Int32), (iv 0 0 f_code) → (iv 0 1 f_land) → (iv 0 9 f_huts) → (iv 0 6 f_singers) → (∀ j, iv 0 1000000 (a_run j)) → post r f_code f_land f_huts f_singers a_run) : q_m_mutes_114 P79 f_code a_many a_lands f_land f_huts f_singers a_run x2 x4 x5 x6 y0 post := by
  refine ⟨fun c1 => ?_, fun c1 => ?_⟩
  · skip
    exact s_m_mutes_130 k_f_code k_a_many k_a_lands k_f_land k_f_huts k_f_singers k_a_run hx2 hx5 hx6 hx4 m79 hm79 hP79 hpost
  · skip
    exact s_m_mutes_130 k_f_code k_a_many k_a_lands k_f_land k_f_huts k_f_singers k_a_run hx2 (iv_w (iv_lta (l := (-1)) (h := 2147483646) (r_nle c1) hx5 (iv_top y0) (by decide)) (by decide)) hx6 (iv_w hx6 (by decide)) m79 hm79 hP79 hpost
set_option maxRecDepth 20000 in
theorem s_m_mutes_103 {P79 : Int32 → Int32 → Int32 → (Nat → Int32) → Prop} {f_code : Int32} {a_many : Nat → Int32} {a_lands : Nat → Int32} {f_land : Int32} {f_huts : Int32} {f_singers : Int32} {a_run : Nat → Int32} {x2 : Int32} {x4 : Int32} {x5 : Int32} {x6 : Int32} {post : Int32 → (Int32) → (Int32) → (Int32) → (Int32) → (Nat → Int32) → Prop} (k_f_code : iv 0 0 f_code) (k_a_many : ∀ j, iv 0 2 (a_many j)) (k_a_lands : mLand a_lands) (k_f_land : iv 0 1 f_land) (k_f_huts : iv 1 9 f_huts) (k_f_singers : iv 0 6 f_singers) (k_a_run : ∀ j, iv 0 1000000 (a_run j)) (hx2 : iv 0 8 x2) (hx4 : iv (-1) 8 x4) (hx5 : iv (-1) 2147483647 x5) (hx6 : iv 0 8 x6) (m79 : Int) (hm79 : m79 ≤ x6.toInt) (hP79 : ∀ (x4 : Int32) (x5 : Int32) (x6 : Int32) (a_run : Nat → Int32), m79 < x6.toInt → iv (-1) 8 x4 → iv (-1) 2147483647 x5 → iv 0 9 x6 → (∀ j, iv 0 1000000 (a_run j)) → P79 x4 x5 x6 a_run) (hpost : ∀ (r : Int32) (f_code : Int32) (f_land : Int32) (f_huts : Int32) (f_singers : Int32) (a_run : Nat → Int32), (iv 0 0 f_code) → (iv 0 1 f_land) → (iv 0 9 f_huts) → (iv 0 6 f_singers) → (∀ j, iv 0 1000000 (a_run j)) → post r f_code f_land f_huts f_singers a_run) : q_m_mutes_103 P79 f_code a_many a_lands f_land f_huts f_singers a_run x2 x4 x5 x6 post := by
  exact s_m_mutes_114 k_f_code k_a_many k_a_lands k_f_land k_f_huts k_f_singers k_a_run hx2 hx4 hx5 hx6 m79 hm79 hP79 hpost
set_option maxRecDepth 20000 in
theorem s_m_mutes_79 {f_code : Int32} {a_many : Nat → Int32} {a_lands : Nat → Int32} {f_land : Int32} {f_huts : Int32} {f_singers : Int32} {a_run : Nat → Int32} {x2 : Int32} {x4 : Int32} {x5 : Int32} {x6 : Int32} {post : Int32 → (Int32) → (Int32) → (Int32) → (Int32) → (Nat → Int32) → Prop} (k_f_code : iv 0 0 f_code) (k_a_many : ∀ j, iv 0 2 (a_many j)) (k_a_lands : mLand a_lands) (k_f_land : iv 0 1 f_land) (k_f_huts : iv 0 9 f_huts) (k_f_singers : iv 0 6 f_singers) (k_a_run : ∀ j, iv 0 1000000 (a_run j)) (hx2 : iv 0 8 x2) (hx4 : iv (-1) 8 x4) (hx5 : iv (-1) 2147483647 x5) (hx6 : iv 0 9 x6) (hpost : ∀ (r : Int32) (f_code : Int32) (f_land : Int32) (f_huts : Int32) (f_singers : Int32) (a_run : Nat → Int32), (iv 0 0 f_code) → (iv 0 1 f_land) → (iv 0 9 f_huts) → (iv 0 6 f_singers) → (∀ j, iv 0 1000000 (a_run j)) → post r f_code f_land f_huts f_singers a_run) : q_m_mutes_79 f_code a_many a_lands f_land f_huts f_singers a_run x2 x4 x5 x6 post := by
  intro P hP
  have loop : ∀ (n : Nat) (x4 : Int32) (x5 : Int32) (x6 : Int32) (a_run : Nat → Int32), (9 - x6.toInt < (n : Int)) → (iv (-1) 8 x4) → (iv (-1) 2147483647 x5) → (iv 0 9 x6) → (∀ j, iv 0 1000000 (a_run j)) → P x4 x5 x6 a_run := by
    intro n
    induction n with
    | zero => intro x4 x5 x6 a_run hm hx4 hx5 hx6 k_a_run; exact (ms0_up hm hx6).elim
    | succ n ih =>
      intro x4 x5 x6 a_run hm hx4 hx5 hx6 k_a_run
      apply hP
      refine ⟨fun c1 => ?_, fun c1 => ?_⟩
      · skip
        exact hpost _ _ _ _ _ _ k_f_code k_f_land k_f_huts k_f_singers k_a_run
      · skip
        refine ⟨fun c2 => ?_, fun c2 => ?_⟩
        · skip
          exact s_m_mutes_103 k_f_code k_a_many k_a_lands k_f_land (iv_ltb (l := 1) (h := 9) (r_nle c1) hx6 k_f_huts (by decide)) k_f_singers k_a_run hx2 hx4 hx5 (iv_lta (l := 0) (h := 8) (r_nle c1) hx6 k_f_huts (by decide)) x6.toInt (Int.le_refl _) (fun u0 u1 u2 u3 hq g0 g1 g2 g3 => ih u0 u1 u2 u3 (ms_up hm hq) g0 g1 g2 g3) hpost
        · skip
          refine sp_of (a := 0) (b := 511) k_a_lands k_f_land (iv_lit (l := 3) (h := 3) (by decide)) (by decide +kernel) (fun r3 hr3 er3 => ?_)
          refine ⟨fun c4 => ?_, fun c4 => ?_⟩
          · skip
            refine ⟨iv_nb (iv_lit (l := 0) (h := 0) (by decide)) (by decide), ?_⟩
            refine ⟨fun c5 => ?_, fun c5 => ?_⟩
            · skip
              refine s_m_mutesOf_0 k_a_lands k_f_land (iv_w (iv_ltb (l := 1) (h := 9) (r_nle c1) hx6 k_f_huts (by decide)) (by decide)) k_a_run hx2 (iv_lta (l := 0) (h := 8) (r_nle c1) hx6 k_f_huts (by decide)) (fun r6 o7 k_o7 => ?_)
              exact s_m_mutes_114 k_f_code k_a_many k_a_lands k_f_land (iv_ltb (l := 1) (h := 9) (r_nle c1) hx6 k_f_huts (by decide)) k_f_singers k_o7 hx2 hx4 hx5 (iv_lta (l := 0) (h := 8) (r_nle c1) hx6 k_f_huts (by decide)) x6.toInt (Int.le_refl _) (fun u0 u1 u2 u3 hq g0 g1 g2 g3 => ih u0 u1 u2 u3 (ms_up hm hq) g0 g1 g2 g3) hpost
            · skip
              exact (iv_emp (iv_ne (l := 1) (h := 0) c5 (iv_lit (l := 0) (h := 0) (by decide)) (iv_lit (l := 0) (h := 0) (by decide)) (by decide)) (by decide)).elim
          · skip
            refine ⟨iv_nb (iv_lit (l := 1) (h := 1) (by decide)) (by decide), ?_⟩
            refine ⟨fun c8 => ?_, fun c8 => ?_⟩
            · skip
              exact (iv_emp (iv_eqa (l := 1) (h := 0) c8 (iv_lit (l := 1) (h := 1) (by decide)) (iv_lit (l := 0) (h := 0) (by decide)) (by decide)) (by decide)).elim
            · skip
              exact s_m_mutes_103 k_f_code k_a_many k_a_lands k_f_land (iv_ltb (l := 1) (h := 9) (r_nle c1) hx6 k_f_huts (by decide)) k_f_singers k_a_run hx2 hx4 hx5 (iv_lta (l := 0) (h := 8) (r_nle c1) hx6 k_f_huts (by decide)) x6.toInt (Int.le_refl _) (fun u0 u1 u2 u3 hq g0 g1 g2 g3 => ih u0 u1 u2 u3 (ms_up hm hq) g0 g1 g2 g3) hpost
  exact loop _ _ _ _ _ (ms_init_up _ _) hx4 hx5 hx6 k_a_run
set_option maxRecDepth 20000 in
theorem s_m_mutes_58 {f_code : Int32} {a_many : Nat → Int32} {a_lands : Nat → Int32} {f_land : Int32} {f_huts : Int32} {f_singers : Int32} {a_run : Nat → Int32} {x2 : Int32} {x3 : Int32} {post : Int32 → (Int32) → (Int32) → (Int32) → (Int32) → (Nat → Int32) → Prop} (k_f_code : iv 0 0 f_code) (k_a_many : ∀ j, iv 0 2 (a_many j)) (k_a_lands : mLand a_lands) (k_f_land : iv 0 1 f_land) (k_f_huts : iv 0 9 f_huts) (k_f_singers : iv 0 6 f_singers) (k_a_run : ∀ j, iv 0 1000000 (a_run j)) (hx2 : iv 0 8 x2) (hx3 : iv (-1) 8 x3) (hpost : ∀ (r : Int32) (f_code : Int32) (f_land : Int32) (f_huts : Int32) (f_singers : Int32) (a_run : Nat → Int32), (iv 0 0 f_code) → (iv 0 1 f_land) → (iv 0 9 f_huts) → (iv 0 6 f_singers) → (∀ j, iv 0 1000000 (a_run j)) → post r f_code f_land f_huts f_singers a_run) : q_m_mutes_58 f_code a_many a_lands f_land f_huts f_singers a_run x2 x3 post := by
  refine ⟨fun c1 => ?_, fun c1 => ?_⟩
  · skip
    exact s_m_mutes_79 k_f_code k_a_many k_a_lands k_f_land k_f_huts k_f_singers k_a_run hx2 (iv_w (iv_lit (l := (-1)) (h := (-1)) (by decide)) (by decide)) (iv_w (iv_lit (l := (-1)) (h := (-1)) (by decide)) (by decide)) (iv_w (iv_lit (l := 0) (h := 0) (by decide)) (by decide)) hpost
  · skip
    refine s_m_mutesOf_0 k_a_lands k_f_land k_f_huts k_a_run hx2 (iv_ne (l := 0) (h := 8) c1 hx3 (iv_lit (l := (-1)) (h := (-1)) (by decide)) (by decide)) (fun r2 o3 k_o3 => ?_)
    exact hpost _ _ _ _ _ _ k_f_code k_f_land k_f_huts k_f_singers k_o3
set_option maxRecDepth 20000 in
theorem s_m_mutes_0 {f_code : Int32} {a_many : Nat → Int32} {a_lands : Nat → Int32} {f_land : Int32} {f_huts : Int32} {f_singers : Int32} {a_run : Nat → Int32} {x1 : Int32} {x2 : Int32} {x3 : Int32} {post : Int32 → (Int32) → (Int32) → (Int32) → (Int32) → (Nat → Int32) → Prop} (k_f_code : iv 0 0 f_code) (k_a_many : ∀ j, iv 0 2 (a_many j)) (k_a_lands : mLand a_lands) (k_f_land : iv 0 1 f_land) (k_f_huts : iv 0 9 f_huts) (k_f_singers : iv 0 6 f_singers) (k_a_run : ∀ j, iv 0 1000000 (a_run j)) (hpost : ∀ (r : Int32) (f_code : Int32) (f_land : Int32) (f_huts : Int32) (f_singers : Int32) (a_run : Nat → Int32), (iv 0 0 f_code) → (iv 0 1 f_land) → (iv 0 9 f_huts) → (iv 0 6 f_singers) → (∀ j, iv 0 1000000 (a_run j)) → post r f_code f_land f_huts f_singers a_run) : q_m_mutes_0 f_code a_many a_lands f_land f_huts f_singers a_run x1 x2 x3 post := by
  refine ⟨iv_in (iv_lit (l := 0) (h := 0) (by decide)) (by decide), ?_⟩
  refine ⟨fun c1 => ?_, fun c1 => ?_⟩
  · skip
    refine ⟨iv_nb (iv_lit (l := 0) (h := 0) (by decide)) (by decide), ?_⟩
    refine ⟨fun c2 => ?_, fun c2 => ?_⟩
    · skip
      exact (iv_emp (iv_ne (l := 1) (h := 0) c2 (iv_lit (l := 0) (h := 0) (by decide)) (iv_lit (l := 0) (h := 0) (by decide)) (by decide)) (by decide)).elim
    · skip
      refine ⟨fun c3 => ?_, fun c3 => ?_⟩
      · skip
        exact hpost _ _ _ _ _ _ (iv_lit (l := 0) (h := 0) (by decide)) k_f_land k_f_huts k_f_singers k_a_run
      · skip
        exact (iv_emp (iv_ne (l := 1) (h := 0) c3 (iv_lit (l := 0) (h := 0) (by decide)) (iv_lit (l := 0) (h := 0) (by decide)) (by decide)) (by decide)).elim
  · skip
    refine ⟨fun c4 => ?_, fun c4 => ?_⟩
    · skip
      refine ⟨iv_nb (iv_lit (l := 0) (h := 0) (by decide)) (by decide), ?_⟩
      refine ⟨fun c5 => ?_, fun c5 => ?_⟩
      · skip
        exact (iv_emp (iv_ne (l := 1) (h := 0) c5 (iv_lit (l := 0) (h := 0) (by decide)) (iv_lit (l := 0) (h := 0) (by decide)) (by decide)) (by decide)).elim
      · skip
        refine ⟨fun c6 => ?_, fun c6 => ?_⟩
        · skip
          exact hpost _ _ _ _ _ _ (iv_lit (l := 0) (h := 0) (by decide)) k_f_land k_f_huts k_f_singers k_a_run
        · skip
          exact (iv_emp (iv_ne (l := 1) (h := 0) c6 (iv_lit (l := 0) (h := 0) (by decide)) (iv_lit (l := 0) (h := 0) (by decide)) (by decide)) (by decide)).elim
    · skip
      refine ⟨iv_nb (iv_lit (l := 1) (h := 1) (by decide)) (by decide), ?_⟩
      refine ⟨fun c7 => ?_, fun c7 => ?_⟩
      · skip
        refine sp_of (a := 0) (b := 9) k_a_lands (iv_lea (l := 0) (h := 1) (r_nlt c4) (iv_leb (l := 0) (h := 2147483647) (r_nlt c1) (iv_lit (l := 0) (h := 0) (by decide)) (iv_top x1) (by decide)) (iv_sub (l := (-1)) (h := 1) (k_a_many _) (iv_lit (l := 1) (h := 1) (by decide)) (by decide)) (by decide)) (iv_lit (l := 0) (h := 0) (by decide)) (by decide +kernel) (fun r8 hr8 er8 => ?_)
        refine sp_of (a := 0) (b := 6) k_a_lands (iv_lea (l := 0) (h := 1) (r_nlt c4) (iv_leb (l := 0) (h := 2147483647) (r_nlt c1) (iv_lit (l := 0) (h := 0) (by decide)) (iv_top x1) (by decide)) (iv_sub (l := (-1)) (h := 1) (k_a_many _) (iv_lit (l := 1) (h := 1) (by decide)) (by decide)) (by decide)) (iv_lit (l := 1) (h := 1) (by decide)) (by decide +kernel) (fun r9 hr9 er9 => ?_)
        refine ⟨fun c10 => ?_, fun c10 => ?_⟩
        · skip
          exact (iv_emp (iv_eqa (l := 1) (h := 0) c10 (iv_lit (l := 1) (h := 1) (by decide)) (iv_lit (l := 0) (h := 0) (by decide)) (by decide)) (by decide)).elim
        · skip
          refine ⟨fun c11 => ?_, fun c11 => ?_⟩
          · skip
            refine ⟨iv_nb (iv_lit (l := 0) (h := 0) (by decide)) (by decide), ?_⟩
            refine ⟨fun c12 => ?_, fun c12 => ?_⟩
            · skip
              exact hpost _ _ _ _ _ _ (iv_lit (l := 0) (h := 0) (by decide)) (iv_lea (l := 0) (h := 1) (r_nlt c4) (iv_leb (l := 0) (h := 2147483647) (r_nlt c1) (iv_lit (l := 0) (h := 0) (by decide)) (iv_top x1) (by decide)) (iv_sub (l := (-1)) (h := 1) (k_a_many _) (iv_lit (l := 1) (h := 1) (by decide)) (by decide)) (by decide)) hr8 hr9 k_a_run
            · skip
              exact (iv_emp (iv_ne (l := 1) (h := 0) c12 (iv_lit (l := 0) (h := 0) (by decide)) (iv_lit (l := 0) (h := 0) (by decide)) (by decide)) (by decide)).elim
          · skip
            refine ⟨fun c13 => ?_, fun c13 => ?_⟩
            · skip
              refine ⟨iv_nb (iv_lit (l := 0) (h := 0) (by decide)) (by decide), ?_⟩
              refine ⟨fun c14 => ?_, fun c14 => ?_⟩
              · skip
                exact hpost _ _ _ _ _ _ (iv_lit (l := 0) (h := 0) (by decide)) (iv_lea (l := 0) (h := 1) (r_nlt c4) (iv_leb (l := 0) (h := 2147483647) (r_nlt c1) (iv_lit (l := 0) (h := 0) (by decide)) (iv_top x1) (by decide)) (iv_sub (l := (-1)) (h := 1) (k_a_many _) (iv_lit (l := 1) (h := 1) (by decide)) (by decide)) (by decide)) hr8 hr9 k_a_run
              · skip
                exact (iv_emp (iv_ne (l := 1) (h := 0) c14 (iv_lit (l := 0) (h := 0) (by decide)) (iv_lit (l := 0) (h := 0) (by decide)) (by decide)) (by decide)).elim
            · skip
              refine ⟨iv_nb (iv_lit (l := 1) (h := 1) (by decide)) (by decide), ?_⟩
              refine ⟨fun c15 => ?_, fun c15 => ?_⟩
              · skip
                exact (iv_emp (iv_eqa (l := 1) (h := 0) c15 (iv_lit (l := 1) (h := 1) (by decide)) (iv_lit (l := 0) (h := 0) (by decide)) (by decide)) (by decide)).elim
              · skip
                refine sp_of (a := 0) (b := 511) k_a_lands (iv_lea (l := 0) (h := 1) (r_nlt c4) (iv_leb (l := 0) (h := 2147483647) (r_nlt c1) (iv_lit (l := 0) (h := 0) (by decide)) (iv_top x1) (by decide)) (iv_sub (l := (-1)) (h := 1) (k_a_many _) (iv_lit (l := 1) (h := 1) (by decide)) (by decide)) (by decide)) (iv_lit (l := 3) (h := 3) (by decide)) (by decide +kernel) (fun r16 hr16 er16 => ?_)
                refine ⟨fun c17 => ?_, fun c17 => ?_⟩
                · skip
                  refine ⟨iv_nb (iv_lit (l := 0) (h := 0) (by decide)) (by decide), ?_⟩
                  refine ⟨fun c18 => ?_, fun c18 => ?_⟩
                  · skip
                    exact (iv_emp (iv_ne (l := 1) (h := 0) c18 (iv_lit (l := 0) (h := 0) (by decide)) (iv_lit (l := 0) (h := 0) (by decide)) (by decide)) (by decide)).elim
                  · skip
                    refine ⟨fun c19 => ?_, fun c19 => ?_⟩
                    · skip
                      exact s_m_mutes_58 (iv_lit (l := 0) (h := 0) (by decide)) k_a_many k_a_lands (iv_lea (l := 0) (h := 1) (r_nlt c4) (iv_leb (l := 0) (h := 2147483647) (r_nlt c1) (iv_lit (l := 0) (h := 0) (by decide)) (iv_top x1) (by decide)) (iv_sub (l := (-1)) (h := 1) (k_a_many _) (iv_lit (l := 1) (h := 1) (by decide)) (by decide)) (by decide)) hr8 hr9 k_a_run (iv_lea (l := 0) (h := 8) (r_nlt c13) (iv_leb (l := 0) (h := 2147483647) (r_nlt c11) (iv_lit (l := 0) (h := 0) (by decide)) (iv_top x2) (by decide)) (iv_sub (l := (-1)) (h := 8) hr8 (iv_lit (l := 1) (h := 1) (by decide)) (by decide)) (by decide)) (iv_w (iv_eqa (l := (-1)) (h := (-1)) c19 (iv_top x3) (iv_lit (l := (-1)) (h := (-1)) (by decide)) (by decide)) (by decide)) hpost
                    · skip
                      refine ⟨fun c20 => ?_, fun c20 => ?_⟩
                      · skip
                        refine ⟨iv_nb (iv_lit (l := 0) (h := 0) (by decide)) (by decide), ?_⟩
                        refine ⟨fun c21 => ?_, fun c21 => ?_⟩
                        · skip
                          exact hpost _ _ _ _ _ _ (iv_lit (l := 0) (h := 0) (by decide)) (iv_lea (l := 0) (h := 1) (r_nlt c4) (iv_leb (l := 0) (h := 2147483647) (r_nlt c1) (iv_lit (l := 0) (h := 0) (by decide)) (iv_top x1) (by decide)) (iv_sub (l := (-1)) (h := 1) (k_a_many _) (iv_lit (l := 1) (h := 1) (by decide)) (by decide)) (by decide)) hr8 hr9 k_a_run
                        · skip
                          exact (iv_emp (iv_ne (l := 1) (h := 0) c21 (iv_lit (l := 0) (h := 0) (by decide)) (iv_lit (l := 0) (h := 0) (by decide)) (by decide)) (by decide)).elim
                      · skip
                        refine ⟨fun c22 => ?_, fun c22 => ?_⟩
                        · skip
                          refine ⟨iv_nb (iv_lit (l := 0) (h := 0) (by decide)) (by decide), ?_⟩
                          refine ⟨fun c23 => ?_, fun c23 => ?_⟩
                          · skip
                            exact hpost _ _ _ _ _ _ (iv_lit (l := 0) (h := 0) (by decide)) (iv_lea (l := 0) (h := 1) (r_nlt c4) (iv_leb (l := 0) (h := 2147483647) (r_nlt c1) (iv_lit (l := 0) (h := 0) (by decide)) (iv_top x1) (by decide)) (iv_sub (l := (-1)) (h := 1) (k_a_many _) (iv_lit (l := 1) (h := 1) (by decide)) (by decide)) (by decide)) hr8 hr9 k_a_run
                          · skip
                            exact (iv_emp (iv_ne (l := 1) (h := 0) c23 (iv_lit (l := 0) (h := 0) (by decide)) (iv_lit (l := 0) (h := 0) (by decide)) (by decide)) (by decide)).elim
                        · skip
                          refine ⟨iv_nb (iv_lit (l := 1) (h := 1) (by decide)) (by decide), ?_⟩
                          refine ⟨fun c24 => ?_, fun c24 => ?_⟩
                          · skip
                            exact (iv_emp (iv_eqa (l := 1) (h := 0) c24 (iv_lit (l := 1) (h := 1) (by decide)) (iv_lit (l := 0) (h := 0) (by decide)) (by decide)) (by decide)).elim
                          · skip
                            refine sp_of (a := 0) (b := 511) k_a_lands (iv_lea (l := 0) (h := 1) (r_nlt c4) (iv_leb (l := 0) (h := 2147483647) (r_nlt c1) (iv_lit (l := 0) (h := 0) (by decide)) (iv_top x1) (by decide)) (iv_sub (l := (-1)) (h := 1) (k_a_many _) (iv_lit (l := 1) (h := 1) (by decide)) (by decide)) (by decide)) (iv_lit (l := 3) (h := 3) (by decide)) (by decide +kernel) (fun r25 hr25 er25 => ?_)
                            refine ⟨fun c26 => ?_, fun c26 => ?_⟩
                            · skip
                              refine ⟨iv_nb (iv_lit (l := 0) (h := 0) (by decide)) (by decide), ?_⟩
                              refine ⟨fun c27 => ?_, fun c27 => ?_⟩
                              · skip
                                exact (iv_emp (iv_ne (l := 1) (h := 0) c27 (iv_lit (l := 0) (h := 0) (by decide)) (iv_lit (l := 0) (h := 0) (by decide)) (by decide)) (by decide)).elim
                              · skip
                                refine ⟨fun c28 => ?_, fun c28 => ?_⟩
                                · skip
                                  exact s_m_mutes_58 (iv_lit (l := 0) (h := 0) (by decide)) k_a_many k_a_lands (iv_lea (l := 0) (h := 1) (r_nlt c4) (iv_leb (l := 0) (h := 2147483647) (r_nlt c1) (iv_lit (l := 0) (h := 0) (by decide)) (iv_top x1) (by decide)) (iv_sub (l := (-1)) (h := 1) (k_a_many _) (iv_lit (l := 1) (h := 1) (by decide)) (by decide)) (by decide)) hr8 hr9 k_a_run (iv_lea (l := 0) (h := 8) (r_nlt c13) (iv_leb (l := 0) (h := 2147483647) (r_nlt c11) (iv_lit (l := 0) (h := 0) (by decide)) (iv_top x2) (by decide)) (iv_sub (l := (-1)) (h := 8) hr8 (iv_lit (l := 1) (h := 1) (by decide)) (by decide)) (by decide)) (iv_w (iv_lea (l := 0) (h := 8) (r_nlt c22) (iv_leb (l := 0) (h := 2147483647) (r_nlt c20) (iv_lit (l := 0) (h := 0) (by decide)) (iv_top x3) (by decide)) (iv_leb (l := 0) (h := 8) (r_nlt c13) (iv_leb (l := 0) (h := 2147483647) (r_nlt c11) (iv_lit (l := 0) (h := 0) (by decide)) (iv_top x2) (by decide)) (iv_sub (l := (-1)) (h := 8) hr8 (iv_lit (l := 1) (h := 1) (by decide)) (by decide)) (by decide)) (by decide)) (by decide)) hpost
                                · skip
                                  exact hpost _ _ _ _ _ _ (iv_lit (l := 0) (h := 0) (by decide)) (iv_lea (l := 0) (h := 1) (r_nlt c4) (iv_leb (l := 0) (h := 2147483647) (r_nlt c1) (iv_lit (l := 0) (h := 0) (by decide)) (iv_top x1) (by decide)) (iv_sub (l := (-1)) (h := 1) (k_a_many _) (iv_lit (l := 1) (h := 1) (by decide)) (by decide)) (by decide)) hr8 hr9 k_a_run
                            · skip
                              refine ⟨iv_nb (iv_lit (l := 1) (h := 1) (by decide)) (by decide), ?_⟩
                              refine ⟨fun c29 => ?_, fun c29 => ?_⟩
                              · skip
                                exact hpost _ _ _ _ _ _ (iv_lit (l := 0) (h := 0) (by decide)) (iv_lea (l := 0) (h := 1) (r_nlt c4) (iv_leb (l := 0) (h := 2147483647) (r_nlt c1) (iv_lit (l := 0) (h := 0) (by decide)) (iv_top x1) (by decide)) (iv_sub (l := (-1)) (h := 1) (k_a_many _) (iv_lit (l := 1) (h := 1) (by decide)) (by decide)) (by decide)) hr8 hr9 k_a_run
                              · skip
                                exact (iv_emp (iv_eqa (l := 1) (h := 0) c29 (iv_lit (l := 1) (h := 1) (by decide)) (iv_lit (l := 0) (h := 0) (by decide)) (by decide)) (by decide)).elim
                · skip
                  refine ⟨iv_nb (iv_lit (l := 1) (h := 1) (by decide)) (by decide), ?_⟩
                  refine ⟨fun c30 => ?_, fun c30 => ?_⟩
                  · skip
                    exact hpost _ _ _ _ _ _ (iv_lit (l := 0) (h := 0) (by decide)) (iv_lea (l := 0) (h := 1) (r_nlt c4) (iv_leb (l := 0) (h := 2147483647) (r_nlt c1) (iv_lit (l := 0) (h := 0) (by decide)) (iv_top x1) (by decide)) (iv_sub (l := (-1)) (h := 1) (k_a_many _) (iv_lit (l := 1) (h := 1) (by decide)) (by decide)) (by decide)) hr8 hr9 k_a_run
                  · skip
                    exact (iv_emp (iv_eqa (l := 1) (h := 0) c30 (iv_lit (l := 1) (h := 1) (by decide)) (iv_lit (l := 0) (h := 0) (by decide)) (by decide)) (by decide)).elim
      · skip
        exact (iv_emp (iv_eqa (l := 1) (h := 0) c7 (iv_lit (l := 1) (h := 1) (by decide)) (iv_lit (l := 0) (h := 0) (by decide)) (by decide)) (by decide)).elim
-- m_findFar
set_option maxRecDepth 20000 in
theorem s_m_findFar_60 {P2 : Int32 → (Nat → Int32) → Prop} {P12 : Int32 → (Nat → Int32) → Prop} {a_lands : Nat → Int32} {f_land : Int32} {f_huts : Int32} {a_far : Nat → Int32} {x1 : Int32} {x2 : Int32} {y0 : Int32} {y1 : Int32} {post : (Nat → Int32) → Prop} (k_a_lands : mLand a_lands) (k_f_land : iv 0 1 f_land) (k_f_huts : iv 1 9 f_huts) (k_a_far : ∀ j, iv 0 1000000 (a_far j)) (hx1 : iv 0 8 x1) (hx2 : iv 0 8 x2) (hy0 : iv 0 80 y0) (hy1 : iv 0 1000000 y1) (m2 : Int) (hm2 : m2 ≤ x1.toInt) (hP2 : ∀ (x1 : Int32) (a_far : Nat → Int32), m2 < x1.toInt → iv 0 9 x1 → (∀ j, iv 0 1000000 (a_far j)) → P2 x1 a_far) (m12 : Int) (hm12 : m12 ≤ x2.toInt) (hP12 : ∀ (x2 : Int32) (a_far : Nat → Int32), m12 < x2.toInt → iv 0 9 x2 → (∀ j, iv 0 1000000 (a_far j)) → P12 x2 a_far) (hpost : ∀ (a_far : Nat → Int32), (∀ j, iv 0 1000000 (a_far j)) → post a_far) : q_m_findFar_60 P2 P12 a_lands f_land f_huts a_far x1 x2 y0 y1 post := by
  refine ⟨iv_in hy0 (by decide), ?_⟩
  intro a1 ea1
  have k_a1 := iv_upd ea1 k_a_far hy1
  intro w2 ew2
  have hw2 := iv_eq ew2 (iv_add (l := 1) (h := 9) hx2 (iv_lit (l := 1) (h := 1) (by decide)) (by decide))
  exact hP12 _ _ (ml_up hm12 (inc_lt ew2 hx2 (by decide))) (iv_w hw2 (by decide)) k_a1
set_option maxRecDepth 20000 in
theorem s_m_findFar_12 {P2 : Int32 → (Nat → Int32) → Prop} {a_lands : Nat → Int32} {f_land : Int32} {f_huts : Int32} {a_far : Nat → Int32} {x1 : Int32} {x2 : Int32} {post : (Nat → Int32) → Prop} (k_a_lands : mLand a_lands) (k_f_land : iv 0 1 f_land) (k_f_huts : iv 1 9 f_huts) (k_a_far : ∀ j, iv 0 1000000 (a_far j)) (hx1 : iv 0 8 x1) (hx2 : iv 0 9 x2) (m2 : Int) (hm2 : m2 ≤ x1.toInt) (hP2 : ∀ (x1 : Int32) (a_far : Nat → Int32), m2 < x1.toInt → iv 0 9 x1 → (∀ j, iv 0 1000000 (a_far j)) → P2 x1 a_far) (hpost : ∀ (a_far : Nat → Int32), (∀ j, iv 0 1000000 (a_far j)) → post a_far) : q_m_findFar_12 P2 a_lands f_land f_huts a_far x1 x2 post := by
  intro P hP
  have loop : ∀ (n : Nat) (x2 : Int32) (a_far : Nat → Int32), (9 - x2.toInt < (n : Int)) → (iv 0 9 x2) → (∀ j, iv 0 1000000 (a_far j)) → P x2 a_far := by
    intro n
    induction n with
    | zero => intro x2 a_far hm hx2 k_a_far; exact (ms0_up hm hx2).elim
    | succ n ih =>
      intro x2 a_far hm hx2 k_a_far
      apply hP
      refine ⟨fun c1 => ?_, fun c1 => ?_⟩
      · skip
        intro w2 ew2
        have hw2 := iv_eq ew2 (iv_add (l := 1) (h := 9) hx1 (iv_lit (l := 1) (h := 1) (by decide)) (by decide))
        exact hP2 _ _ (ml_up hm2 (inc_lt ew2 hx1 (by decide))) (iv_w hw2 (by decide)) k_a_far
      · skip
        refine ⟨fun c3 => ?_, fun c3 => ?_⟩
        · skip
          refine sp_of (a := 0) (b := 9) k_a_lands k_f_land (iv_add (l := 51) (h := 131) (iv_add (l := 51) (h := 123) (iv_lit (l := 51) (h := 51) (by decide)) (iv_mul (l := 0) (h := 72) (iv_lit (l := 9) (h := 9) (by decide)) hx1 (by decide)) (by decide)) (iv_lta (l := 0) (h := 8) (r_nle c1) hx2 k_f_huts (by decide)) (by decide)) (by decide +kernel) (fun r4 hr4 er4 => ?_)
          refine ⟨fun c5 => ?_, fun c5 => ?_⟩
          · skip
            exact s_m_findFar_60 k_a_lands k_f_land k_f_huts k_a_far hx1 (iv_lta (l := 0) (h := 8) (r_nle c1) hx2 k_f_huts (by decide)) (iv_add (l := 0) (h := 80) (iv_mul (l := 0) (h := 72) (iv_lit (l := 9) (h := 9) (by decide)) hx1 (by decide)) (iv_lta (l := 0) (h := 8) (r_nle c1) hx2 k_f_huts (by decide)) (by decide)) (iv_w (iv_lit (l := 1000000) (h := 1000000) (by decide)) (by decide)) m2 hm2 hP2 x2.toInt (Int.le_refl _) (fun u0 u1 hq g0 g1 => ih u0 u1 (ms_up hm hq) g0 g1) hpost
          · skip
            refine sp_of (a := 0) (b := 9) k_a_lands k_f_land (iv_add (l := 51) (h := 131) (iv_add (l := 51) (h := 123) (iv_lit (l := 51) (h := 51) (by decide)) (iv_mul (l := 0) (h := 72) (iv_lit (l := 9) (h := 9) (by decide)) hx1 (by decide)) (by decide)) (iv_lta (l := 0) (h := 8) (r_nle c1) hx2 k_f_huts (by decide)) (by decide)) (by decide +kernel) (fun r6 hr6 er6 => ?_)
            exact s_m_findFar_60 k_a_lands k_f_land k_f_huts k_a_far hx1 (iv_lta (l := 0) (h := 8) (r_nle c1) hx2 k_f_huts (by decide)) (iv_add (l := 0) (h := 80) (iv_mul (l := 0) (h := 72) (iv_lit (l := 9) (h := 9) (by decide)) hx1 (by decide)) (iv_lta (l := 0) (h := 8) (r_nle c1) hx2 k_f_huts (by decide)) (by decide)) (iv_w hr6 (by decide)) m2 hm2 hP2 x2.toInt (Int.le_refl _) (fun u0 u1 hq g0 g1 => ih u0 u1 (ms_up hm hq) g0 g1) hpost
        · skip
          exact s_m_findFar_60 k_a_lands k_f_land k_f_huts k_a_far hx1 (iv_lta (l := 0) (h := 8) (r_nle c1) hx2 k_f_huts (by decide)) (iv_add (l := 0) (h := 80) (iv_mul (l := 0) (h := 72) (iv_lit (l := 9) (h := 9) (by decide)) hx1 (by decide)) (iv_lta (l := 0) (h := 8) (r_nle c1) hx2 k_f_huts (by decide)) (by decide)) (iv_w (iv_lit (l := 0) (h := 0) (by decide)) (by decide)) m2 hm2 hP2 x2.toInt (Int.le_refl _) (fun u0 u1 hq g0 g1 => ih u0 u1 (ms_up hm hq) g0 g1) hpost
  exact loop _ _ _ (ms_init_up _ _) hx2 k_a_far
set_option maxRecDepth 20000 in
theorem s_m_findFar_95 {P75 : Int32 → (Nat → Int32) → Prop} {P85 : Int32 → (Nat → Int32) → Prop} {a_lands : Nat → Int32} {f_land : Int32} {f_huts : Int32} {a_far : Nat → Int32} {x1 : Int32} {x2 : Int32} {x3 : Int32} {post : (Nat → Int32) → Prop} (k_a_lands : mLand a_lands) (k_f_land : iv 0 1 f_land) (k_f_huts : iv 1 9 f_huts) (k_a_far : ∀ j, iv 0 1000000 (a_far j)) (hx1 : iv 0 8 x1) (hx2 : iv 0 8 x2) (hx3 : iv 0 9 x3) (m75 : Int) (hm75 : m75 ≤ x1.toInt) (hP75 : ∀ (x1 : Int32) (a_far : Nat → Int32), m75 < x1.toInt → iv 0 9 x1 → (∀ j, iv 0 1000000 (a_far j)) → P75 x1 a_far) (m85 : Int) (hm85 : m85 ≤ x2.toInt) (hP85 : ∀ (x2 : Int32) (a_far : Nat → Int32), m85 < x2.toInt → iv 0 9 x2 → (∀ j, iv 0 1000000 (a_far j)) → P85 x2 a_far) (hpost : ∀ (a_far : Nat → Int32), (∀ j, iv 0 1000000 (a_far j)) → post a_far) : q_m_findFar_95 P75 P85 a_lands f_land f_huts a_far x1 x2 x3 post := by
  intro P hP
  have loop : ∀ (n : Nat) (x3 : Int32) (a_far : Nat → Int32), (9 - x3.toInt < (n : Int)) → (iv 0 9 x3) → (∀ j, iv 0 1000000 (a_far j)) → P x3 a_far := by
    intro n
    induction n with
    | zero => intro x3 a_far hm hx3 k_a_far; exact (ms0_up hm hx3).elim
    | succ n ih =>
      intro x3 a_far hm hx3 k_a_far
      apply hP
      refine ⟨fun c1 => ?_, fun c1 => ?_⟩
      · skip
        intro w2 ew2
        have hw2 := iv_eq ew2 (iv_add (l := 1) (h := 9) hx2 (iv_lit (l := 1) (h := 1) (by decide)) (by decide))
        exact hP85 _ _ (ml_up hm85 (inc_lt ew2 hx2 (by decide))) (iv_w hw2 (by decide)) k_a_far
      · skip
        refine ⟨iv_in (iv_add (l := 0) (h := 80) (iv_mul (l := 0) (h := 72) (iv_lit (l := 9) (h := 9) (by decide)) hx2 (by decide)) (iv_lta (l := 0) (h := 8) (r_nle c1) hx3 k_f_huts (by decide)) (by decide)) (by decide), ?_⟩
        refine ⟨iv_in (iv_add (l := 0) (h := 80) (iv_mul (l := 0) (h := 72) (iv_lit (l := 9) (h := 9) (by decide)) hx2 (by decide)) hx1 (by decide)) (by decide), ?_⟩
        refine ⟨iv_in (iv_add (l := 0) (h := 80) (iv_mul (l := 0) (h := 72) (iv_lit (l := 9) (h := 9) (by decide)) hx1 (by decide)) (iv_lta (l := 0) (h := 8) (r_nle c1) hx3 k_f_huts (by decide)) (by decide)) (by decide), ?_⟩
        refine ⟨fun c3 => ?_, fun c3 => ?_⟩
        · skip
          refine ⟨iv_in (iv_add (l := 0) (h := 80) (iv_mul (l := 0) (h := 72) (iv_lit (l := 9) (h := 9) (by decide)) hx2 (by decide)) (iv_lta (l := 0) (h := 8) (r_nle c1) hx3 k_f_huts (by decide)) (by decide)) (by decide), ?_⟩
          intro a4 ea4
          have k_a4 := iv_upd ea4 k_a_far (iv_lea (l := 0) (h := 1000000) (r_le c3) (iv_add (l := 0) (h := 2000000) (k_a_far _) (k_a_far _) (by decide)) (k_a_far _) (by decide))
          intro w5 ew5
          have hw5 := iv_eq ew5 (iv_add (l := 1) (h := 9) (iv_lta (l := 0) (h := 8) (r_nle c1) hx3 k_f_huts (by decide)) (iv_lit (l := 1) (h := 1) (by decide)) (by decide))
          exact ih _ _ (ms_up hm (inc_lt ew5 (iv_lta (l := 0) (h := 8) (r_nle c1) hx3 k_f_huts (by decide)) (by decide))) (iv_w hw5 (by decide)) k_a4
        · skip
          refine ⟨iv_in (iv_add (l := 0) (h := 80) (iv_mul (l := 0) (h := 72) (iv_lit (l := 9) (h := 9) (by decide)) hx2 (by decide)) (iv_lta (l := 0) (h := 8) (r_nle c1) hx3 k_f_huts (by decide)) (by decide)) (by decide), ?_⟩
          intro a6 ea6
          have k_a6 := iv_upd ea6 k_a_far (k_a_far _)
          intro w7 ew7
          have hw7 := iv_eq ew7 (iv_add (l := 1) (h := 9) (iv_lta (l := 0) (h := 8) (r_nle c1) hx3 k_f_huts (by decide)) (iv_lit (l := 1) (h := 1) (by decide)) (by decide))
          exact ih _ _ (ms_up hm (inc_lt ew7 (iv_lta (l := 0) (h := 8) (r_nle c1) hx3 k_f_huts (by decide)) (by decide))) (iv_w hw7 (by decide)) k_a6
  exact loop _ _ _ (ms_init_up _ _) hx3 k_a_far
set_option maxRecDepth 20000 in
theorem s_m_findFar_85 {P75 : Int32 → (Nat → Int32) → Prop} {a_lands : Nat → Int32} {f_land : Int32} {f_huts : Int32} {a_far : Nat → Int32} {x1 : Int32} {x2 : Int32} {post : (Nat → Int32) → Prop} (k_a_lands : mLand a_lands) (k_f_land : iv 0 1 f_land) (k_f_huts : iv 1 9 f_huts) (k_a_far : ∀ j, iv 0 1000000 (a_far j)) (hx1 : iv 0 8 x1) (hx2 : iv 0 9 x2) (m75 : Int) (hm75 : m75 ≤ x1.toInt) (hP75 : ∀ (x1 : Int32) (a_far : Nat → Int32), m75 < x1.toInt → iv 0 9 x1 → (∀ j, iv 0 1000000 (a_far j)) → P75 x1 a_far) (hpost : ∀ (a_far : Nat → Int32), (∀ j, iv 0 1000000 (a_far j)) → post a_far) : q_m_findFar_85 P75 a_lands f_land f_huts a_far x1 x2 post := by
  intro P hP
  have loop : ∀ (n : Nat) (x2 : Int32) (a_far : Nat → Int32), (9 - x2.toInt < (n : Int)) → (iv 0 9 x2) → (∀ j, iv 0 1000000 (a_far j)) → P x2 a_far := by
    intro n
    induction n with
    | zero => intro x2 a_far hm hx2 k_a_far; exact (ms0_up hm hx2).elim
    | succ n ih =>
      intro x2 a_far hm hx2 k_a_far
      apply hP
      refine ⟨fun c1 => ?_, fun c1 => ?_⟩
      · skip
        intro w2 ew2
        have hw2 := iv_eq ew2 (iv_add (l := 1) (h := 9) hx1 (iv_lit (l := 1) (h := 1) (by decide)) (by decide))
        exact hP75 _ _ (ml_up hm75 (inc_lt ew2 hx1 (by decide))) (iv_w hw2 (by decide)) k_a_far
      · skip
        exact s_m_findFar_95 k_a_lands k_f_land k_f_huts k_a_far hx1 (iv_lta (l := 0) (h := 8) (r_nle c1) hx2 k_f_huts (by decide)) (iv_w (iv_lit (l := 0) (h := 0) (by decide)) (by decide)) m75 hm75 hP75 x2.toInt (Int.le_refl _) (fun u0 u1 hq g0 g1 => ih u0 u1 (ms_up hm hq) g0 g1) hpost
  exact loop _ _ _ (ms_init_up _ _) hx2 k_a_far
set_option maxRecDepth 20000 in
theorem s_m_findFar_75 {a_lands : Nat → Int32} {f_land : Int32} {f_huts : Int32} {a_far : Nat → Int32} {x1 : Int32} {post : (Nat → Int32) → Prop} (k_a_lands : mLand a_lands) (k_f_land : iv 0 1 f_land) (k_f_huts : iv 0 9 f_huts) (k_a_far : ∀ j, iv 0 1000000 (a_far j)) (hx1 : iv 0 9 x1) (hpost : ∀ (a_far : Nat → Int32), (∀ j, iv 0 1000000 (a_far j)) → post a_far) : q_m_findFar_75 a_lands f_land f_huts a_far x1 post := by
  intro P hP
  have loop : ∀ (n : Nat) (x1 : Int32) (a_far : Nat → Int32), (9 - x1.toInt < (n : Int)) → (iv 0 9 x1) → (∀ j, iv 0 1000000 (a_far j)) → P x1 a_far := by
    intro n
    induction n with
    | zero => intro x1 a_far hm hx1 k_a_far; exact (ms0_up hm hx1).elim
    | succ n ih =>
      intro x1 a_far hm hx1 k_a_far
      apply hP
      refine ⟨fun c1 => ?_, fun c1 => ?_⟩
      · skip
        exact hpost _ k_a_far
      · skip
        exact s_m_findFar_85 k_a_lands k_f_land (iv_ltb (l := 1) (h := 9) (r_nle c1) hx1 k_f_huts (by decide)) k_a_far (iv_lta (l := 0) (h := 8) (r_nle c1) hx1 k_f_huts (by decide)) (iv_w (iv_lit (l := 0) (h := 0) (by decide)) (by decide)) x1.toInt (Int.le_refl _) (fun u0 u1 hq g0 g1 => ih u0 u1 (ms_up hm hq) g0 g1) hpost
  exact loop _ _ _ (ms_init_up _ _) hx1 k_a_far
set_option maxRecDepth 20000 in
theorem s_m_findFar_2 {a_lands : Nat → Int32} {f_land : Int32} {f_huts : Int32} {a_far : Nat → Int32} {x1 : Int32} {post : (Nat → Int32) → Prop} (k_a_lands : mLand a_lands) (k_f_land : iv 0 1 f_land) (k_f_huts : iv 0 9 f_huts) (k_a_far : ∀ j, iv 0 1000000 (a_far j)) (hx1 : iv 0 9 x1) (hpost : ∀ (a_far : Nat → Int32), (∀ j, iv 0 1000000 (a_far j)) → post a_far) : q_m_findFar_2 a_lands f_land f_huts a_far x1 post := by
  intro P hP
  have loop : ∀ (n : Nat) (x1 : Int32) (a_far : Nat → Int32), (9 - x1.toInt < (n : Int)) → (iv 0 9 x1) → (∀ j, iv 0 1000000 (a_far j)) → P x1 a_far := by
    intro n
    induction n with
    | zero => intro x1 a_far hm hx1 k_a_far; exact (ms0_up hm hx1).elim
    | succ n ih =>
      intro x1 a_far hm hx1 k_a_far
      apply hP
      refine ⟨fun c1 => ?_, fun c1 => ?_⟩
      · skip
        exact s_m_findFar_75 k_a_lands k_f_land k_f_huts k_a_far (iv_w (iv_lit (l := 0) (h := 0) (by decide)) (by decide)) hpost
      · skip
        exact s_m_findFar_12 k_a_lands k_f_land (iv_ltb (l := 1) (h := 9) (r_nle c1) hx1 k_f_huts (by decide)) k_a_far (iv_lta (l := 0) (h := 8) (r_nle c1) hx1 k_f_huts (by decide)) (iv_w (iv_lit (l := 0) (h := 0) (by decide)) (by decide)) x1.toInt (Int.le_refl _) (fun u0 u1 hq g0 g1 => ih u0 u1 (ms_up hm hq) g0 g1) hpost
  exact loop _ _ _ (ms_init_up _ _) hx1 k_a_far
set_option maxRecDepth 20000 in
theorem s_m_findFar_0 {a_lands : Nat → Int32} {f_land : Int32} {f_huts : Int32} {a_far : Nat → Int32} {post : (Nat → Int32) → Prop} (k_a_lands : mLand a_lands) (k_f_land : iv 0 1 f_land) (k_f_huts : iv 0 9 f_huts) (k_a_far : ∀ j, iv 0 1000000 (a_far j)) (hpost : ∀ (a_far : Nat → Int32), (∀ j, iv 0 1000000 (a_far j)) → post a_far) : q_m_findFar_0 a_lands f_land f_huts a_far post := by
  exact s_m_findFar_2 k_a_lands k_f_land k_f_huts k_a_far (iv_w (iv_lit (l := 0) (h := 0) (by decide)) (by decide)) hpost
-- m_masses
set_option maxRecDepth 20000 in
theorem s_m_masses_94 {P32 : Int32 → (Nat → Int32) → Prop} {P52 : Int32 → (Nat → Int32) → Prop} {f_code : Int32} {a_many : Nat → Int32} {a_lands : Nat → Int32} {f_land : Int32} {f_huts : Int32} {f_singers : Int32} {a_covers : Nat → Int32} {a_far : Nat → Int32} {x2 : Int32} {x3 : Int32} {x4 : Int32} {x5 : Int32} {y0 : Int32} {y1 : Int32} {y2 : Int32} {post : Int32 → (Int32) → (Int32) → (Int32) → (Int32) → (Nat → Int32) → (Nat → Int32) → Prop} (k_f_code : iv 0 0 f_code) (k_a_many : ∀ j, iv 0 2 (a_many j)) (k_a_lands : mLand a_lands) (k_f_land : iv 0 1 f_land) (k_f_huts : iv 1 9 f_huts) (k_f_singers : iv 0 6 f_singers) (k_a_covers : ∀ j, iv 0 511 (a_covers j)) (k_a_far : ∀ j, iv 0 1000000 (a_far j)) (hx2 : iv 0 99 x2) (hx4 : iv 0 8 x4) (hx5 : iv 0 8 x5) (hy0 : iv 0 8 y0) (hy1 : iv 0 511 y1) (hy2 : iv 0 256 y2) (m32 : Int) (hm32 : m32 ≤ x4.toInt) (hP32 : ∀ (x4 : Int32) (a_covers : Nat → Int32), m32 < x4.toInt → iv 0 9 x4 → (∀ j, iv 0 511 (a_covers j)) → P32 x4 a_covers) (m52 : Int) (hm52 : m52 ≤ x5.toInt) (hP52 : ∀ (x5 : Int32) (a_covers : Nat → Int32), m52 < x5.toInt → iv 0 9 x5 → (∀ j, iv 0 511 (a_covers j)) → P52 x5 a_covers) (hpost : ∀ (r : Int32) (f_code : Int32) (f_land : Int32) (f_huts : Int32) (f_singers : Int32) (a_covers : Nat → Int32) (a_far : Nat → Int32), (iv 0 0 f_code) → (iv 0 1 f_land) → (iv 0 9 f_huts) → (iv 0 6 f_singers) → (∀ j, iv 0 511 (a_covers j)) → (∀ j, iv 0 1000000 (a_far j)) → post r f_code f_land f_huts f_singers a_covers a_far) : q_m_masses_94 P32 P52 f_code a_many a_lands f_land f_huts f_singers a_covers a_far x2 x3 x4 x5 y0 y1 y2 post := by
  intro w1 ew1
  have hw1 := iv_eq ew1 (iv_or 9 (l := 0) (h := 511) hy1 hy2 (by decide))
  refine ⟨iv_in hy0 (by decide), ?_⟩
  intro a2 ea2
  have k_a2 := iv_upd ea2 k_a_covers hw1
  intro w3 ew3
  have hw3 := iv_eq ew3 (iv_add (l := 1) (h := 9) hx5 (iv_lit (l := 1) (h := 1) (by decide)) (by decide))
  exact hP52 _ _ (ml_up hm52 (inc_lt ew3 hx5 (by decide))) (iv_w hw3 (by decide)) k_a2
set_option maxRecDepth 20000 in
theorem s_m_masses_52 {P32 : Int32 → (Nat → Int32) → Prop} {f_code : Int32} {a_many : Nat → Int32} {a_lands : Nat → Int32} {f_land : Int32} {f_huts : Int32} {f_singers : Int32} {a_covers : Nat → Int32} {a_far : Nat → Int32} {x2 : Int32} {x3 : Int32} {x4 : Int32} {x5 : Int32} {post : Int32 → (Int32) → (Int32) → (Int32) → (Int32) → (Nat → Int32) → (Nat → Int32) → Prop} (k_f_code : iv 0 0 f_code) (k_a_many : ∀ j, iv 0 2 (a_many j)) (k_a_lands : mLand a_lands) (k_f_land : iv 0 1 f_land) (k_f_huts : iv 1 9 f_huts) (k_f_singers : iv 0 6 f_singers) (k_a_covers : ∀ j, iv 0 511 (a_covers j)) (k_a_far : ∀ j, iv 0 1000000 (a_far j)) (hx2 : iv 0 99 x2) (hx4 : iv 0 8 x4) (hx5 : iv 0 9 x5) (m32 : Int) (hm32 : m32 ≤ x4.toInt) (hP32 : ∀ (x4 : Int32) (a_covers : Nat → Int32), m32 < x4.toInt → iv 0 9 x4 → (∀ j, iv 0 511 (a_covers j)) → P32 x4 a_covers) (hpost : ∀ (r : Int32) (f_code : Int32) (f_land : Int32) (f_huts : Int32) (f_singers : Int32) (a_covers : Nat → Int32) (a_far : Nat → Int32), (iv 0 0 f_code) → (iv 0 1 f_land) → (iv 0 9 f_huts) → (iv 0 6 f_singers) → (∀ j, iv 0 511 (a_covers j)) → (∀ j, iv 0 1000000 (a_far j)) → post r f_code f_land f_huts f_singers a_covers a_far) : q_m_masses_52 P32 f_code a_many a_lands f_land f_huts f_singers a_covers a_far x2 x3 x4 x5 post := by
  intro P hP
  have loop : ∀ (n : Nat) (x5 : Int32) (a_covers : Nat → Int32), (9 - x5.toInt < (n : Int)) → (iv 0 9 x5) → (∀ j, iv 0 511 (a_covers j)) → P x5 a_covers := by
    intro n
    induction n with
    | zero => intro x5 a_covers hm hx5 k_a_covers; exact (ms0_up hm hx5).elim
    | succ n ih =>
      intro x5 a_covers hm hx5 k_a_covers
      apply hP
      refine ⟨fun c1 => ?_, fun c1 => ?_⟩
      · skip
        intro w2 ew2
        have hw2 := iv_eq ew2 (iv_add (l := 1) (h := 9) hx4 (iv_lit (l := 1) (h := 1) (by decide)) (by decide))
        exact hP32 _ _ (ml_up hm32 (inc_lt ew2 hx4 (by decide))) (iv_w hw2 (by decide)) k_a_covers
      · skip
        refine ⟨iv_in hx4 (by decide), ?_⟩
        refine ⟨iv_in (iv_add (l := 0) (h := 80) (iv_mul (l := 0) (h := 72) (iv_lit (l := 9) (h := 9) (by decide)) hx4 (by decide)) (iv_lta (l := 0) (h := 8) (r_nle c1) hx5 k_f_huts (by decide)) (by decide)) (by decide), ?_⟩
        refine ⟨fun c3 => ?_, fun c3 => ?_⟩
        · skip
          exact s_m_masses_94 k_f_code k_a_many k_a_lands k_f_land k_f_huts k_f_singers k_a_covers k_a_far hx2 hx4 (iv_lta (l := 0) (h := 8) (r_nle c1) hx5 k_f_huts (by decide)) hx4 (k_a_covers _) (iv_w (iv_lit (l := 0) (h := 0) (by decide)) (by decide)) m32 hm32 hP32 x5.toInt (Int.le_refl _) (fun u0 u1 hq g0 g1 => ih u0 u1 (ms_up hm hq) g0 g1) hpost
        · skip
          exact s_m_masses_94 k_f_code k_a_many k_a_lands k_f_land k_f_huts k_f_singers k_a_covers k_a_far hx2 hx4 (iv_lta (l := 0) (h := 8) (r_nle c1) hx5 k_f_huts (by decide)) hx4 (k_a_covers _) (iv_w (iv_shl1 (l := 1) (h := 256) (iv_lit (l := 1) (h := 1) (by decide)) (iv_lta (l := 0) (h := 8) (r_nle c1) hx5 k_f_huts (by decide)) (by decide)) (by decide)) m32 hm32 hP32 x5.toInt (Int.le_refl _) (fun u0 u1 hq g0 g1 => ih u0 u1 (ms_up hm hq) g0 g1) hpost
  exact loop _ _ _ (ms_init_up _ _) hx5 k_a_covers
set_option maxRecDepth 20000 in
theorem s_m_masses_32 {f_code : Int32} {a_many : Nat → Int32} {a_lands : Nat → Int32} {f_land : Int32} {f_huts : Int32} {f_singers : Int32} {a_covers : Nat → Int32} {a_far : Nat → Int32} {x2 : Int32} {x3 : Int32} {x4 : Int32} {post : Int32 → (Int32) → (Int32) → (Int32) → (Int32) → (Nat → Int32) → (Nat → Int32) → Prop} (k_f_code : iv 0 0 f_code) (k_a_many : ∀ j, iv 0 2 (a_many j)) (k_a_lands : mLand a_lands) (k_f_land : iv 0 1 f_land) (k_f_huts : iv 0 9 f_huts) (k_f_singers : iv 0 6 f_singers) (k_a_covers : ∀ j, iv 0 511 (a_covers j)) (k_a_far : ∀ j, iv 0 1000000 (a_far j)) (hx2 : iv 0 99 x2) (hx4 : iv 0 9 x4) (hpost : ∀ (r : Int32) (f_code : Int32) (f_land : Int32) (f_huts : Int32) (f_singers : Int32) (a_covers : Nat → Int32) (a_far : Nat → Int32), (iv 0 0 f_code) → (iv 0 1 f_land) → (iv 0 9 f_huts) → (iv 0 6 f_singers) → (∀ j, iv 0 511 (a_covers j)) → (∀ j, iv 0 1000000 (a_far j)) → post r f_code f_land f_huts f_singers a_covers a_far) : q_m_masses_32 f_code a_many a_lands f_land f_huts f_singers a_covers a_far x2 x3 x4 post := by
  intro P hP
  have loop : ∀ (n : Nat) (x4 : Int32) (a_covers : Nat → Int32), (9 - x4.toInt < (n : Int)) → (iv 0 9 x4) → (∀ j, iv 0 511 (a_covers j)) → P x4 a_covers := by
    intro n
    induction n with
    | zero => intro x4 a_covers hm hx4 k_a_covers; exact (ms0_up hm hx4).elim
    | succ n ih =>
      intro x4 a_covers hm hx4 k_a_covers
      apply hP
      refine ⟨fun c1 => ?_, fun c1 => ?_⟩
      · skip
        refine sp_of (a := 0) (b := 511) k_a_lands k_f_land (iv_lit (l := 2) (h := 2) (by decide)) (by decide +kernel) (fun r2 hr2 er2 => ?_)
        refine s_m_fewest_0 k_f_huts k_a_covers (iv_sub (l := 0) (h := 511) (iv_shl1 (l := 1) (h := 512) (iv_lit (l := 1) (h := 1) (by decide)) k_f_huts (by decide)) (iv_lit (l := 1) (h := 1) (by decide)) (by decide)) hr2 (fun r3 hr3 => ?_)
        refine ⟨fun c4 => ?_, fun c4 => ?_⟩
        · skip
          refine s_m_ones_0 hr3 (fun r5 => ?_)
          exact hpost _ _ _ _ _ _ _ k_f_code k_f_land k_f_huts k_f_singers k_a_covers k_a_far
        · skip
          exact hpost _ _ _ _ _ _ _ k_f_code k_f_land k_f_huts k_f_singers k_a_covers k_a_far
      · skip
        refine ⟨iv_in (iv_lta (l := 0) (h := 8) (r_nle c1) hx4 k_f_huts (by decide)) (by decide), ?_⟩
        intro a6 ea6
        have k_a6 := iv_upd ea6 k_a_covers (iv_w (iv_lit (l := 0) (h := 0) (by decide)) (by decide))
        exact s_m_masses_52 k_f_code k_a_many k_a_lands k_f_land (iv_ltb (l := 1) (h := 9) (r_nle c1) hx4 k_f_huts (by decide)) k_f_singers k_a6 k_a_far hx2 (iv_lta (l := 0) (h := 8) (r_nle c1) hx4 k_f_huts (by decide)) (iv_w (iv_lit (l := 0) (h := 0) (by decide)) (by decide)) x4.toInt (Int.le_refl _) (fun u0 u1 hq g0 g1 => ih u0 u1 (ms_up hm hq) g0 g1) hpost
  exact loop _ _ _ (ms_init_up _ _) hx4 k_a_covers
set_option maxRecDepth 20000 in
theorem s_m_masses_0 {f_code : Int32} {a_many : Nat → Int32} {a_lands : Nat → Int32} {f_land : Int32} {f_huts : Int32} {f_singers : Int32} {a_covers : Nat → Int32} {a_far : Nat → Int32} {x1 : Int32} {x2 : Int32} {x3 : Int32} {post : Int32 → (Int32) → (Int32) → (Int32) → (Int32) → (Nat → Int32) → (Nat → Int32) → Prop} (k_f_code : iv 0 0 f_code) (k_a_many : ∀ j, iv 0 2 (a_many j)) (k_a_lands : mLand a_lands) (k_f_land : iv 0 1 f_land) (k_f_huts : iv 0 9 f_huts) (k_f_singers : iv 0 6 f_singers) (k_a_covers : ∀ j, iv 0 511 (a_covers j)) (k_a_far : ∀ j, iv 0 1000000 (a_far j)) (hpost : ∀ (r : Int32) (f_code : Int32) (f_land : Int32) (f_huts : Int32) (f_singers : Int32) (a_covers : Nat → Int32) (a_far : Nat → Int32), (iv 0 0 f_code) → (iv 0 1 f_land) → (iv 0 9 f_huts) → (iv 0 6 f_singers) → (∀ j, iv 0 511 (a_covers j)) → (∀ j, iv 0 1000000 (a_far j)) → post r f_code f_land f_huts f_singers a_covers a_far) : q_m_masses_0 f_code a_many a_lands f_land f_huts f_singers a_covers a_far x1 x2 x3 post := by
  refine ⟨iv_in (iv_lit (l := 0) (h := 0) (by decide)) (by decide), ?_⟩
  refine ⟨fun c1 => ?_, fun c1 => ?_⟩
  · skip
    refine ⟨iv_nb (iv_lit (l := 0) (h := 0) (by decide)) (by decide), ?_⟩
    refine ⟨fun c2 => ?_, fun c2 => ?_⟩
    · skip
      exact (iv_emp (iv_ne (l := 1) (h := 0) c2 (iv_lit (l := 0) (h := 0) (by decide)) (iv_lit (l := 0) (h := 0) (by decide)) (by decide)) (by decide)).elim
    · skip
      refine ⟨fun c3 => ?_, fun c3 => ?_⟩
      · skip
        exact hpost _ _ _ _ _ _ _ (iv_lit (l := 0) (h := 0) (by decide)) k_f_land k_f_huts k_f_singers k_a_covers k_a_far
      · skip
        exact (iv_emp (iv_ne (l := 1) (h := 0) c3 (iv_lit (l := 0) (h := 0) (by decide)) (iv_lit (l := 0) (h := 0) (by decide)) (by decide)) (by decide)).elim
  · skip
    refine ⟨fun c4 => ?_, fun c4 => ?_⟩
    · skip
      refine ⟨iv_nb (iv_lit (l := 0) (h := 0) (by decide)) (by decide), ?_⟩
      refine ⟨fun c5 => ?_, fun c5 => ?_⟩
      · skip
        exact (iv_emp (iv_ne (l := 1) (h := 0) c5 (iv_lit (l := 0) (h := 0) (by decide)) (iv_lit (l := 0) (h := 0) (by decide)) (by decide)) (by decide)).elim
      · skip
        refine ⟨fun c6 => ?_, fun c6 => ?_⟩
        · skip
          exact hpost _ _ _ _ _ _ _ (iv_lit (l := 0) (h := 0) (by decide)) k_f_land k_f_huts k_f_singers k_a_covers k_a_far
        · skip
          exact (iv_emp (iv_ne (l := 1) (h := 0) c6 (iv_lit (l := 0) (h := 0) (by decide)) (iv_lit (l := 0) (h := 0) (by decide)) (by decide)) (by decide)).elim
    · skip
      refine ⟨iv_nb (iv_lit (l := 1) (h := 1) (by decide)) (by decide), ?_⟩
      refine ⟨fun c7 => ?_, fun c7 => ?_⟩
      · skip
        refine sp_of (a := 0) (b := 9) k_a_lands (iv_lea (l := 0) (h := 1) (r_nlt c4) (iv_leb (l := 0) (h := 2147483647) (r_nlt c1) (iv_lit (l := 0) (h := 0) (by decide)) (iv_top x1) (by decide)) (iv_sub (l := (-1)) (h := 1) (k_a_many _) (iv_lit (l := 1) (h := 1) (by decide)) (by decide)) (by decide)) (iv_lit (l := 0) (h := 0) (by decide)) (by decide +kernel) (fun r8 hr8 er8 => ?_)
        refine sp_of (a := 0) (b := 6) k_a_lands (iv_lea (l := 0) (h := 1) (r_nlt c4) (iv_leb (l := 0) (h := 2147483647) (r_nlt c1) (iv_lit (l := 0) (h := 0) (by decide)) (iv_top x1) (by decide)) (iv_sub (l := (-1)) (h := 1) (k_a_many _) (iv_lit (l := 1) (h := 1) (by decide)) (by decide)) (by decide)) (iv_lit (l := 1) (h := 1) (by decide)) (by decide +kernel) (fun r9 hr9 er9 => ?_)
        refine ⟨fun c10 => ?_, fun c10 => ?_⟩
        · skip
          exact (iv_emp (iv_eqa (l := 1) (h := 0) c10 (iv_lit (l := 1) (h := 1) (by decide)) (iv_lit (l := 0) (h := 0) (by decide)) (by decide)) (by decide)).elim
        · skip
          refine ⟨fun c11 => ?_, fun c11 => ?_⟩
          · skip
            refine ⟨fun c12 => ?_, fun c12 => ?_⟩
            · skip
              exact (iv_emp (iv_ne (l := 1) (h := 0) c12 (iv_lit (l := 0) (h := 0) (by decide)) (iv_lit (l := 0) (h := 0) (by decide)) (by decide)) (by decide)).elim
            · skip
              exact hpost _ _ _ _ _ _ _ (iv_lit (l := 0) (h := 0) (by decide)) (iv_lea (l := 0) (h := 1) (r_nlt c4) (iv_leb (l := 0) (h := 2147483647) (r_nlt c1) (iv_lit (l := 0) (h := 0) (by decide)) (iv_top x1) (by decide)) (iv_sub (l := (-1)) (h := 1) (k_a_many _) (iv_lit (l := 1) (h := 1) (by decide)) (by decide)) (by decide)) hr8 hr9 k_a_covers k_a_far
          · skip
            refine ⟨fun c13 => ?_, fun c13 => ?_⟩
            · skip
              refine ⟨fun c14 => ?_, fun c14 => ?_⟩
              · skip
                exact (iv_emp (iv_ne (l := 1) (h := 0) c14 (iv_lit (l := 0) (h := 0) (by decide)) (iv_lit (l := 0) (h := 0) (by decide)) (by decide)) (by decide)).elim
              · skip
                exact hpost _ _ _ _ _ _ _ (iv_lit (l := 0) (h := 0) (by decide)) (iv_lea (l := 0) (h := 1) (r_nlt c4) (iv_leb (l := 0) (h := 2147483647) (r_nlt c1) (iv_lit (l := 0) (h := 0) (by decide)) (iv_top x1) (by decide)) (iv_sub (l := (-1)) (h := 1) (k_a_many _) (iv_lit (l := 1) (h := 1) (by decide)) (by decide)) (by decide)) hr8 hr9 k_a_covers k_a_far
            · skip
              refine ⟨fun c15 => ?_, fun c15 => ?_⟩
              · skip
                refine s_m_findFar_0 k_a_lands (iv_lea (l := 0) (h := 1) (r_nlt c4) (iv_leb (l := 0) (h := 2147483647) (r_nlt c1) (iv_lit (l := 0) (h := 0) (by decide)) (iv_top x1) (by decide)) (iv_sub (l := (-1)) (h := 1) (k_a_many _) (iv_lit (l := 1) (h := 1) (by decide)) (by decide)) (by decide)) hr8 k_a_far (fun o16 k_o16 => ?_)
                exact s_m_masses_32 (iv_lit (l := 0) (h := 0) (by decide)) k_a_many k_a_lands (iv_lea (l := 0) (h := 1) (r_nlt c4) (iv_leb (l := 0) (h := 2147483647) (r_nlt c1) (iv_lit (l := 0) (h := 0) (by decide)) (iv_top x1) (by decide)) (iv_sub (l := (-1)) (h := 1) (k_a_many _) (iv_lit (l := 1) (h := 1) (by decide)) (by decide)) (by decide)) hr8 hr9 k_a_covers k_o16 (iv_lea (l := 0) (h := 99) (r_nlt c13) (iv_leb (l := 0) (h := 2147483647) (r_nlt c11) (iv_lit (l := 0) (h := 0) (by decide)) (iv_top x2) (by decide)) (iv_lit (l := 99) (h := 99) (by decide)) (by decide)) (iv_w (iv_lit (l := 0) (h := 0) (by decide)) (by decide)) hpost
              · skip
                exact (iv_emp (iv_eqa (l := 1) (h := 0) c15 (iv_lit (l := 1) (h := 1) (by decide)) (iv_lit (l := 0) (h := 0) (by decide)) (by decide)) (by decide)).elim
      · skip
        exact (iv_emp (iv_eqa (l := 1) (h := 0) c7 (iv_lit (l := 1) (h := 1) (by decide)) (iv_lit (l := 0) (h := 0) (by decide)) (by decide)) (by decide)).elim
-- m_fact
set_option maxRecDepth 20000 in
theorem s_m_fact_0 {f_code : Int32} {a_many : Nat → Int32} {a_sights : Nat → Int32} {f_sight : Int32} {x1 : Int32} {x2 : Int32} {x3 : Int32} {post : Int32 → (Int32) → (Int32) → Prop} (k_f_code : iv 0 0 f_code) (k_a_many : ∀ j, iv 0 2 (a_many j)) (k_a_sights : mSig a_sights) (hpost : ∀ (r : Int32) (f_code : Int32) (f_sight : Int32), iv (-2) 60 r → (iv 0 0 f_code) → post r f_code f_sight) : q_m_fact_0 f_code a_many a_sights f_sight x1 x2 x3 post := by
  refine ⟨iv_in (iv_lit (l := 2) (h := 2) (by decide)) (by decide), ?_⟩
  refine ⟨fun c1 => ?_, fun c1 => ?_⟩
  · skip
    refine ⟨iv_nb (iv_lit (l := 0) (h := 0) (by decide)) (by decide), ?_⟩
    refine ⟨iv_nb (iv_lit (l := 0) (h := 0) (by decide)) (by decide), ?_⟩
    refine ⟨fun c2 => ?_, fun c2 => ?_⟩
    · skip
      exact (iv_emp (iv_ne (l := 1) (h := 0) c2 (iv_lit (l := 0) (h := 0) (by decide)) (iv_lit (l := 0) (h := 0) (by decide)) (by decide)) (by decide)).elim
    · skip
      exact hpost _ _ _ (iv_w (iv_lit (l := (-2)) (h := (-2)) (by decide)) (by decide)) (iv_lit (l := 0) (h := 0) (by decide))
  · skip
    refine ⟨fun c3 => ?_, fun c3 => ?_⟩
    · skip
      refine ⟨iv_nb (iv_lit (l := 0) (h := 0) (by decide)) (by decide), ?_⟩
      refine ⟨iv_nb (iv_lit (l := 0) (h := 0) (by decide)) (by decide), ?_⟩
      refine ⟨fun c4 => ?_, fun c4 => ?_⟩
      · skip
        exact (iv_emp (iv_ne (l := 1) (h := 0) c4 (iv_lit (l := 0) (h := 0) (by decide)) (iv_lit (l := 0) (h := 0) (by decide)) (by decide)) (by decide)).elim
      · skip
        exact hpost _ _ _ (iv_w (iv_lit (l := (-2)) (h := (-2)) (by decide)) (by decide)) (iv_lit (l := 0) (h := 0) (by decide))
    · skip
      refine ⟨iv_nb (iv_lit (l := 1) (h := 1) (by decide)) (by decide), ?_⟩
      refine ⟨iv_nb (iv_lit (l := 1) (h := 1) (by decide)) (by decide), ?_⟩
      refine ⟨fun c5 => ?_, fun c5 => ?_⟩
      · skip
        refine ⟨fun c6 => ?_, fun c6 => ?_⟩
        · skip
          refine sp_facts k_a_sights (iv_lea (l := 0) (h := 1) (r_nlt c3) (iv_leb (l := 0) (h := 2147483647) (r_nlt c1) (iv_lit (l := 0) (h := 0) (by decide)) (iv_top x1) (by decide)) (iv_sub (l := (-1)) (h := 1) (k_a_many _) (iv_lit (l := 1) (h := 1) (by decide)) (by decide)) (by decide)) (fun r7 hr7 => ?_)
          refine ⟨fun c8 => ?_, fun c8 => ?_⟩
          · skip
            refine ⟨fun c9 => ?_, fun c9 => ?_⟩
            · skip
              exact hpost _ _ _ (iv_w (iv_lit (l := (-2)) (h := (-2)) (by decide)) (by decide)) (iv_lit (l := 0) (h := 0) (by decide))
            · skip
              exact (iv_emp (iv_ne (l := 1) (h := 0) c9 (iv_lit (l := 0) (h := 0) (by decide)) (iv_lit (l := 0) (h := 0) (by decide)) (by decide)) (by decide)).elim
          · skip
            refine ⟨fun c10 => ?_, fun c10 => ?_⟩
            · skip
              refine ⟨fun c11 => ?_, fun c11 => ?_⟩
              · skip
                exact hpost _ _ _ (iv_w (iv_lit (l := (-2)) (h := (-2)) (by decide)) (by decide)) (iv_lit (l := 0) (h := 0) (by decide))
              · skip
                exact (iv_emp (iv_ne (l := 1) (h := 0) c11 (iv_lit (l := 0) (h := 0) (by decide)) (iv_lit (l := 0) (h := 0) (by decide)) (by decide)) (by decide)).elim
            · skip
              refine ⟨fun c12 => ?_, fun c12 => ?_⟩
              · skip
                exact (iv_emp (iv_eqa (l := 1) (h := 0) c12 (iv_lit (l := 1) (h := 1) (by decide)) (iv_lit (l := 0) (h := 0) (by decide)) (by decide)) (by decide)).elim
              · skip
                refine ⟨fun c13 => ?_, fun c13 => ?_⟩
                · skip
                  refine ⟨fun c14 => ?_, fun c14 => ?_⟩
                  · skip
                    exact hpost _ _ _ (iv_w (iv_lit (l := (-2)) (h := (-2)) (by decide)) (by decide)) (iv_lit (l := 0) (h := 0) (by decide))
                  · skip
                    exact (iv_emp (iv_ne (l := 1) (h := 0) c14 (iv_lit (l := 0) (h := 0) (by decide)) (iv_lit (l := 0) (h := 0) (by decide)) (by decide)) (by decide)).elim
                · skip
                  refine ⟨fun c15 => ?_, fun c15 => ?_⟩
                  · skip
                    refine ⟨fun c16 => ?_, fun c16 => ?_⟩
                    · skip
                      exact hpost _ _ _ (iv_w (iv_lit (l := (-2)) (h := (-2)) (by decide)) (by decide)) (iv_lit (l := 0) (h := 0) (by decide))
                    · skip
                      exact (iv_emp (iv_ne (l := 1) (h := 0) c16 (iv_lit (l := 0) (h := 0) (by decide)) (iv_lit (l := 0) (h := 0) (by decide)) (by decide)) (by decide)).elim
                  · skip
                    refine ⟨fun c17 => ?_, fun c17 => ?_⟩
                    · skip
                      exact (iv_emp (iv_eqa (l := 1) (h := 0) c17 (iv_lit (l := 1) (h := 1) (by decide)) (iv_lit (l := 0) (h := 0) (by decide)) (by decide)) (by decide)).elim
                    · skip
                      refine sp_factOf_w k_a_sights (iv_lea (l := 0) (h := 1) (r_nlt c3) (iv_leb (l := 0) (h := 2147483647) (r_nlt c1) (iv_lit (l := 0) (h := 0) (by decide)) (iv_top x1) (by decide)) (iv_sub (l := (-1)) (h := 1) (k_a_many _) (iv_lit (l := 1) (h := 1) (by decide)) (by decide)) (by decide)) (iv_lea (l := 0) (h := 9) (r_nlt c10) (iv_leb (l := 0) (h := 2147483647) (r_nlt c8) (iv_lit (l := 0) (h := 0) (by decide)) (iv_top x2) (by decide)) (iv_sub (l := (-1)) (h := 9) hr7 (iv_lit (l := 1) (h := 1) (by decide)) (by decide)) (by decide)) (iv_lea (l := 0) (h := 2) (r_nlt c15) (iv_leb (l := 0) (h := 2147483647) (r_nlt c13) (iv_lit (l := 0) (h := 0) (by decide)) (iv_top x3) (by decide)) (iv_lit (l := 2) (h := 2) (by decide)) (by decide)) (fun r18 hr18 => ?_)
                      exact hpost _ _ _ (iv_w hr18 (by decide)) (iv_lit (l := 0) (h := 0) (by decide))
        · skip
          refine ⟨fun c19 => ?_, fun c19 => ?_⟩
          · skip
            exact hpost _ _ _ (iv_w (iv_lit (l := (-2)) (h := (-2)) (by decide)) (by decide)) (iv_lit (l := 0) (h := 0) (by decide))
          · skip
            refine sp_facts k_a_sights (iv_lea (l := 0) (h := 1) (r_nlt c3) (iv_leb (l := 0) (h := 2147483647) (r_nlt c1) (iv_lit (l := 0) (h := 0) (by decide)) (iv_top x1) (by decide)) (iv_sub (l := (-1)) (h := 1) (k_a_many _) (iv_lit (l := 1) (h := 1) (by decide)) (by decide)) (by decide)) (fun r20 hr20 => ?_)
            exact hpost _ _ _ (iv_w hr20 (by decide)) (iv_lit (l := 0) (h := 0) (by decide))
      · skip
        exact (iv_emp (iv_eqa (l := 1) (h := 0) c5 (iv_lit (l := 1) (h := 1) (by decide)) (iv_lit (l := 0) (h := 0) (by decide)) (by decide)) (by decide)).elim
-- m_isFit
set_option maxRecDepth 20000 in
theorem s_m_isFit_89 {P41 : Int32 → Prop} {a_lands : Nat → Int32} {a_sights : Nat → Int32} {f_land : Int32} {f_huts : Int32} {a_run : Nat → Int32} {f_sight : Int32} {a_runs : Nat → Int32} {x1 : Int32} {x2 : Int32} {y0 : Int32} {y1 : Int32} {post : Int32 → (Nat → Int32) → (Nat → Int32) → Prop} (k_a_lands : mLand a_lands) (k_a_sights : mSig a_sights) (k_f_land : iv 0 1 f_land) (k_f_huts : iv 1 9 f_huts) (k_a_run : ∀ j, iv 0 1000000 (a_run j)) (k_f_sight : iv 0 1 f_sight) (k_a_runs : ∀ j, iv 0 1000000 (a_runs j)) (hx1 : iv 0 8 x1) (hx2 : iv 0 9 x2) (hy0 : iv 0 1 y0) (hy1 : iv 0 1 y1) (m41 : Int) (hm41 : m41 ≤ x2.toInt) (hP41 : ∀ (x2 : Int32), m41 < x2.toInt → iv 0 10 x2 → P41 x2) (hpost : ∀ (r : Int32) (a_run : Nat → Int32) (a_runs : Nat → Int32), iv 0 1 r → (∀ j, iv 0 1000000 (a_run j)) → (∀ j, iv 0 1000000 (a_runs j)) → post r a_run a_runs) : q_m_isFit_89 P41 a_lands a_sights f_land f_huts a_run f_sight a_runs x1 x2 y0 y1 post := by
  refine ⟨fun c1 => ?_, fun c1 => ?_⟩
  · skip
    intro w2 ew2
    have hw2 := iv_eq ew2 (iv_add (l := 1) (h := 10) hx2 (iv_lit (l := 1) (h := 1) (by decide)) (by decide))
    exact hP41 _ (ml_up hm41 (inc_lt ew2 hx2 (by decide))) (iv_w hw2 (by decide))
  · skip
    exact hpost _ _ _ (iv_w (iv_lit (l := 0) (h := 0) (by decide)) (by decide)) k_a_run k_a_runs
set_option maxRecDepth 20000 in
theorem s_m_isFit_74 {P41 : Int32 → Prop} {a_lands : Nat → Int32} {a_sights : Nat → Int32} {f_land : Int32} {f_huts : Int32} {a_run : Nat → Int32} {f_sight : Int32} {a_runs : Nat → Int32} {x1 : Int32} {x2 : Int32} {y0 : Int32} {post : Int32 → (Nat → Int32) → (Nat → Int32) → Prop} (k_a_lands : mLand a_lands) (k_a_sights : mSig a_sights) (k_f_land : iv 0 1 f_land) (k_f_huts : iv 1 9 f_huts) (k_a_run : ∀ j, iv 0 1000000 (a_run j)) (k_f_sight : iv 0 1 f_sight) (k_a_runs : ∀ j, iv 0 1000000 (a_runs j)) (hx1 : iv 0 8 x1) (hx2 : iv 0 9 x2) (hy0 : iv 0 1 y0) (m41 : Int) (hm41 : m41 ≤ x2.toInt) (hP41 : ∀ (x2 : Int32), m41 < x2.toInt → iv 0 10 x2 → P41 x2) (hpost : ∀ (r : Int32) (a_run : Nat → Int32) (a_runs : Nat → Int32), iv 0 1 r → (∀ j, iv 0 1000000 (a_run j)) → (∀ j, iv 0 1000000 (a_runs j)) → post r a_run a_runs) : q_m_isFit_74 P41 a_lands a_sights f_land f_huts a_run f_sight a_runs x1 x2 y0 post := by
  refine sp_factOf_0 k_a_sights k_f_sight hx2 (fun r1 hr1 => ?_)
  refine ⟨fun c2 => ?_, fun c2 => ?_⟩
  · skip
    exact s_m_isFit_89 k_a_lands k_a_sights k_f_land k_f_huts k_a_run k_f_sight k_a_runs hx1 hx2 hy0 (iv_w (iv_lit (l := 0) (h := 0) (by decide)) (by decide)) m41 hm41 hP41 hpost
  · skip
    exact s_m_isFit_89 k_a_lands k_a_sights k_f_land k_f_huts k_a_run k_f_sight k_a_runs hx1 hx2 hy0 (iv_w (iv_lit (l := 1) (h := 1) (by decide)) (by decide)) m41 hm41 hP41 hpost
set_option maxRecDepth 20000 in
theorem s_m_isFit_41 {a_lands : Nat → Int32} {a_sights : Nat → Int32} {f_land : Int32} {f_huts : Int32} {a_run : Nat → Int32} {f_sight : Int32} {a_runs : Nat → Int32} {x1 : Int32} {x2 : Int32} {post : Int32 → (Nat → Int32) → (Nat → Int32) → Prop} (k_a_lands : mLand a_lands) (k_a_sights : mSig a_sights) (k_f_land : iv 0 1 f_land) (k_f_huts : iv 1 9 f_huts) (k_a_run : ∀ j, iv 0 1000000 (a_run j)) (k_f_sight : iv 0 1 f_sight) (k_a_runs : ∀ j, iv 0 1000000 (a_runs j)) (hx1 : iv 0 8 x1) (hx2 : iv 0 10 x2) (hpost : ∀ (r : Int32) (a_run : Nat → Int32) (a_runs : Nat → Int32), iv 0 1 r → (∀ j, iv 0 1000000 (a_run j)) → (∀ j, iv 0 1000000 (a_runs j)) → post r a_run a_runs) : q_m_isFit_41 a_lands a_sights f_land f_huts a_run f_sight a_runs x1 x2 post := by
  intro P hP
  have loop : ∀ (n : Nat) (x2 : Int32), (10 - x2.toInt < (n : Int)) → (iv 0 10 x2) → P x2 := by
    intro n
    induction n with
    | zero => intro x2 hm hx2; exact (ms0_up hm hx2).elim
    | succ n ih =>
      intro x2 hm hx2
      apply hP
      refine sp_facts k_a_sights k_f_sight (fun r1 hr1 => ?_)
      refine ⟨fun c2 => ?_, fun c2 => ?_⟩
      · skip
        refine sp_of (a := 0) (b := 511) k_a_lands k_f_land (iv_lit (l := 3) (h := 3) (by decide)) (by decide +kernel) (fun r3 hr3 er3 => ?_)
        refine ⟨fun c4 => ?_, fun c4 => ?_⟩
        · skip
          refine ⟨iv_nb (iv_lit (l := 0) (h := 0) (by decide)) (by decide), ?_⟩
          refine ⟨fun c5 => ?_, fun c5 => ?_⟩
          · skip
            exact (iv_emp (iv_ne (l := 1) (h := 0) c5 (iv_lit (l := 0) (h := 0) (by decide)) (iv_lit (l := 0) (h := 0) (by decide)) (by decide)) (by decide)).elim
          · skip
            exact hpost _ _ _ (iv_w (iv_lit (l := 1) (h := 1) (by decide)) (by decide)) k_a_run k_a_runs
        · skip
          refine ⟨iv_nb (iv_lit (l := 1) (h := 1) (by decide)) (by decide), ?_⟩
          refine ⟨fun c6 => ?_, fun c6 => ?_⟩
          · skip
            exact hpost _ _ _ (iv_w (iv_lit (l := 0) (h := 0) (by decide)) (by decide)) k_a_run k_a_runs
          · skip
            exact (iv_emp (iv_eqa (l := 1) (h := 0) c6 (iv_lit (l := 1) (h := 1) (by decide)) (iv_lit (l := 0) (h := 0) (by decide)) (by decide)) (by decide)).elim
      · skip
        refine sp_factOf_1 k_a_sights k_f_sight (iv_lta (l := 0) (h := 9) (r_nle c2) hx2 hr1 (by decide)) (fun r7 hr7 => ?_)
        refine ⟨iv_in hr7 (by decide), ?_⟩
        refine sp_factOf_2 k_a_sights k_f_sight (iv_lta (l := 0) (h := 9) (r_nle c2) hx2 hr1 (by decide)) (fun r8 hr8 => ?_)
        refine ⟨fun c9 => ?_, fun c9 => ?_⟩
        · skip
          exact s_m_isFit_74 k_a_lands k_a_sights k_f_land k_f_huts k_a_run k_f_sight k_a_runs hx1 (iv_lta (l := 0) (h := 9) (r_nle c2) hx2 hr1 (by decide)) (iv_w (iv_lit (l := 0) (h := 0) (by decide)) (by decide)) x2.toInt (Int.le_refl _) (fun u0 hq g0 => ih u0 (ms_up hm hq) g0) hpost
        · skip
          exact s_m_isFit_74 k_a_lands k_a_sights k_f_land k_f_huts k_a_run k_f_sight k_a_runs hx1 (iv_lta (l := 0) (h := 9) (r_nle c2) hx2 hr1 (by decide)) (iv_w (iv_lit (l := 1) (h := 1) (by decide)) (by decide)) x2.toInt (Int.le_refl _) (fun u0 hq g0 => ih u0 (ms_up hm hq) g0) hpost
  exact loop _ _ (ms_init_up _ _) hx2
set_option maxRecDepth 20000 in
theorem s_m_isFit_8 {a_lands : Nat → Int32} {a_sights : Nat → Int32} {f_land : Int32} {f_huts : Int32} {a_run : Nat → Int32} {f_sight : Int32} {a_runs : Nat → Int32} {x1 : Int32} {x2 : Int32} {post : Int32 → (Nat → Int32) → (Nat → Int32) → Prop} (k_a_lands : mLand a_lands) (k_a_sights : mSig a_sights) (k_f_land : iv 0 1 f_land) (k_f_huts : iv 1 9 f_huts) (k_a_run : ∀ j, iv 0 1000000 (a_run j)) (k_f_sight : iv 0 1 f_sight) (k_a_runs : ∀ j, iv 0 1000000 (a_runs j)) (hx1 : iv 0 8 x1) (hx2 : iv 0 9 x2) (hpost : ∀ (r : Int32) (a_run : Nat → Int32) (a_runs : Nat → Int32), iv 0 1 r → (∀ j, iv 0 1000000 (a_run j)) → (∀ j, iv 0 1000000 (a_runs j)) → post r a_run a_runs) : q_m_isFit_8 a_lands a_sights f_land f_huts a_run f_sight a_runs x1 x2 post := by
  intro P hP
  have loop : ∀ (n : Nat) (x2 : Int32) (a_runs : Nat → Int32), (9 - x2.toInt < (n : Int)) → (iv 0 9 x2) → (∀ j, iv 0 1000000 (a_runs j)) → P x2 a_runs := by
    intro n
    induction n with
    | zero => intro x2 a_runs hm hx2 k_a_runs; exact (ms0_up hm hx2).elim
    | succ n ih =>
      intro x2 a_runs hm hx2 k_a_runs
      apply hP
      refine ⟨fun c1 => ?_, fun c1 => ?_⟩
      · skip
        exact s_m_isFit_41 k_a_lands k_a_sights k_f_land k_f_huts k_a_run k_f_sight k_a_runs hx1 (iv_w (iv_lit (l := 0) (h := 0) (by decide)) (by decide)) hpost
      · skip
        refine ⟨iv_in (iv_lta (l := 0) (h := 8) (r_nle c1) hx2 k_f_huts (by decide)) (by decide), ?_⟩
        intro w2 ew2
        have hw2 := iv_eq ew2 (k_a_run _)
        refine ⟨iv_in (iv_add (l := 0) (h := 80) (iv_mul (l := 0) (h := 72) (iv_lit (l := 9) (h := 9) (by decide)) hx1 (by decide)) (iv_lta (l := 0) (h := 8) (r_nle c1) hx2 k_f_huts (by decide)) (by decide)) (by decide), ?_⟩
        intro a3 ea3
        have k_a3 := iv_upd ea3 k_a_runs hw2
        intro w4 ew4
        have hw4 := iv_eq ew4 (iv_add (l := 1) (h := 9) (iv_lta (l := 0) (h := 8) (r_nle c1) hx2 k_f_huts (by decide)) (iv_lit (l := 1) (h := 1) (by decide)) (by decide))
        exact ih _ _ (ms_up hm (inc_lt ew4 (iv_lta (l := 0) (h := 8) (r_nle c1) hx2 k_f_huts (by decide)) (by decide))) (iv_w hw4 (by decide)) k_a3
  exact loop _ _ _ (ms_init_up _ _) hx2 k_a_runs
set_option maxRecDepth 20000 in
theorem s_m_isFit_0 {a_lands : Nat → Int32} {a_sights : Nat → Int32} {f_land : Int32} {f_huts : Int32} {a_run : Nat → Int32} {f_sight : Int32} {a_runs : Nat → Int32} {x1 : Int32} {post : Int32 → (Nat → Int32) → (Nat → Int32) → Prop} (k_a_lands : mLand a_lands) (k_a_sights : mSig a_sights) (k_f_land : iv 0 1 f_land) (k_f_huts : iv 1 9 f_huts) (k_a_run : ∀ j, iv 0 1000000 (a_run j)) (k_f_sight : iv 0 1 f_sight) (k_a_runs : ∀ j, iv 0 1000000 (a_runs j)) (hx1 : iv 0 8 x1) (hpost : ∀ (r : Int32) (a_run : Nat → Int32) (a_runs : Nat → Int32), iv 0 1 r → (∀ j, iv 0 1000000 (a_run j)) → (∀ j, iv 0 1000000 (a_runs j)) → post r a_run a_runs) : q_m_isFit_0 a_lands a_sights f_land f_huts a_run f_sight a_runs x1 post := by
  refine s_m_findRun_0 k_a_lands k_f_land (iv_w k_f_huts (by decide)) k_a_run hx1 (iv_w (iv_lit (l := 0) (h := 0) (by decide)) (by decide)) (fun o1 k_o1 => ?_)
  exact s_m_isFit_8 k_a_lands k_a_sights k_f_land k_f_huts k_o1 k_f_sight k_a_runs hx1 (iv_w (iv_lit (l := 0) (h := 0) (by decide)) (by decide)) hpost
-- m_askOf
set_option maxRecDepth 20000 in
theorem s_m_askOf_128 {P9 : Int32 → Int32 → Int32 → Prop} {f_huts : Int32} {a_runs : Nat → Int32} {x1 : Int32} {x2 : Int32} {x3 : Int32} {x4 : Int32} {post : Int32 → Prop} (k_f_huts : iv 0 9 f_huts) (k_a_runs : ∀ j, iv 0 1000000 (a_runs j)) (hx1 : iv 1 511 x1) (hx2 : iv (-1) 2147483647 x2) (hx3 : iv (-2147483648) 1000000 x3) (hx4 : iv 0 608 x4) (m9 : Int) (hm9 : m9 ≤ x4.toInt) (hP9 : ∀ (x2 : Int32) (x3 : Int32) (x4 : Int32), m9 < x4.toInt → iv (-1) 2147483647 x2 → iv (-2147483648) 1000000 x3 → iv 0 609 x4 → P9 x2 x3 x4) (hpost : ∀ (r : Int32), iv (-1) 2147483647 r → post r) : q_m_askOf_128 P9 f_huts a_runs x1 x2 x3 x4 post := by
  intro w1 ew1
  have hw1 := iv_eq ew1 (iv_add (l := 1) (h := 609) hx4 (iv_lit (l := 1) (h := 1) (by decide)) (by decide))
  exact hP9 _ _ _ (ml_up hm9 (inc_lt ew1 hx4 (by decide))) hx2 hx3 (iv_w hw1 (by decide))
set_option maxRecDepth 20000 in
theorem s_m_askOf_120 {P9 : Int32 → Int32 → Int32 → Prop} {f_huts : Int32} {a_runs : Nat → Int32} {x1 : Int32} {x3 : Int32} {x4 : Int32} {x7 : Int32} {y0 : Int32} {post : Int32 → Prop} (k_f_huts : iv 0 9 f_huts) (k_a_runs : ∀ j, iv 0 1000000 (a_runs j)) (hx1 : iv 1 511 x1) (hx3 : iv (-2147483648) 1000000 x3) (hx4 : iv 0 608 x4) (hy0 : iv (-1) 2147483647 y0) (m9 : Int) (hm9 : m9 ≤ x4.toInt) (hP9 : ∀ (x2 : Int32) (x3 : Int32) (x4 : Int32), m9 < x4.toInt → iv (-1) 2147483647 x2 → iv (-2147483648) 1000000 x3 → iv 0 609 x4 → P9 x2 x3 x4) (hpost : ∀ (r : Int32), iv (-1) 2147483647 r → post r) : q_m_askOf_120 P9 f_huts a_runs x1 x3 x4 x7 y0 post := by
  refine ⟨fun c1 => ?_, fun c1 => ?_⟩
  · skip
    exact s_m_askOf_128 k_f_huts k_a_runs hx1 hy0 (iv_lea (l := (-2147483648)) (h := 1000000) (r_le c1) (iv_top x7) hx3 (by decide)) hx4 m9 hm9 hP9 hpost
  · skip
    exact s_m_askOf_128 k_f_huts k_a_runs hx1 hy0 hx3 hx4 m9 hm9 hP9 hpost
set_option maxRecDepth 20000 in
theorem s_m_askOf_85 {P9 : Int32 → Int32 → Int32 → Prop} {P39 : Int32 → Int32 → Prop} {f_huts : Int32} {a_runs : Nat → Int32} {x1 : Int32} {x2 : Int32} {x3 : Int32} {x4 : Int32} {x5 : Int32} {x7 : Int32} {y0 : Int32} {y1 : Int32} {post : Int32 → Prop} (k_f_huts : iv 1 9 f_huts) (k_a_runs : ∀ j, iv 0 1000000 (a_runs j)) (hx1 : iv 1 511 x1) (hx2 : iv (-1) 2147483647 x2) (hx3 : iv (-2147483648) 1000000 x3) (hx4 : iv 0 608 x4) (hx5 : iv 0 8 x5) (hx7 : iv 0 8 x7) (hy1 : iv 0 1 y1) (m9 : Int) (hm9 : m9 ≤ x4.toInt) (hP9 : ∀ (x2 : Int32) (x3 : Int32) (x4 : Int32), m9 < x4.toInt → iv (-1) 2147483647 x2 → iv (-2147483648) 1000000 x3 → iv 0 609 x4 → P9 x2 x3 x4) (m39 : Int) (hm39 : m39 ≤ x7.toInt) (hP39 : ∀ (x6 : Int32) (x7 : Int32), m39 < x7.toInt → iv 0 9 x7 → P39 x6 x7) (hpost : ∀ (r : Int32), iv (-1) 2147483647 r → post r) : q_m_askOf_85 P9 P39 f_huts a_runs x1 x2 x3 x4 x5 x7 y0 y1 post := by
  intro w1 ew1
  intro w2 ew2
  have hw2 := iv_eq ew2 (iv_add (l := 1) (h := 9) hx7 (iv_lit (l := 1) (h := 1) (by decide)) (by decide))
  exact hP39 _ _ (ml_up hm39 (inc_lt ew2 hx7 (by decide))) (iv_w hw2 (by decide))
set_option maxRecDepth 20000 in
theorem s_m_askOf_84 {P9 : Int32 → Int32 → Int32 → Prop} {P39 : Int32 → Int32 → Prop} {f_huts : Int32} {a_runs : Nat → Int32} {x1 : Int32} {x2 : Int32} {x3 : Int32} {x4 : Int32} {x5 : Int32} {x7 : Int32} {y0 : Int32} {post : Int32 → Prop} (k_f_huts : iv 1 9 f_huts) (k_a_runs : ∀ j, iv 0 1000000 (a_runs j)) (hx1 : iv 1 511 x1) (hx2 : iv (-1) 2147483647 x2) (hx3 : iv (-2147483648) 1000000 x3) (hx4 : iv 0 608 x4) (hx5 : iv 0 8 x5) (hx7 : iv 0 8 x7) (m9 : Int) (hm9 : m9 ≤ x4.toInt) (hP9 : ∀ (x2 : Int32) (x3 : Int32) (x4 : Int32), m9 < x4.toInt → iv (-1) 2147483647 x2 → iv (-2147483648) 1000000 x3 → iv 0 609 x4 → P9 x2 x3 x4) (m39 : Int) (hm39 : m39 ≤ x7.toInt) (hP39 : ∀ (x6 : Int32) (x7 : Int32), m39 < x7.toInt → iv 0 9 x7 → P39 x6 x7) (hpost : ∀ (r : Int32), iv (-1) 2147483647 r → post r) : q_m_askOf_84 P9 P39 f_huts a_runs x1 x2 x3 x4 x5 x7 y0 post := by
  exact s_m_askOf_85 k_f_huts k_a_runs hx1 hx2 hx3 hx4 hx5 hx7 (iv_w (iv_lit (l := 0) (h := 0) (by decide)) (by decide)) m9 hm9 hP9 m39 hm39 hP39 hpost
set_option maxRecDepth 20000 in
theorem s_m_askOf_39 {P9 : Int32 → Int32 → Int32 → Prop} {f_huts : Int32} {a_runs : Nat → Int32} {x1 : Int32} {x2 : Int32} {x3 : Int32} {x4 : Int32} {x5 : Int32} {x6 : Int32} {x7 : Int32} {post : Int32 → Prop} (k_f_huts : iv 0 9 f_huts) (k_a_runs : ∀ j, iv 0 1000000 (a_runs j)) (hx1 : iv 1 511 x1) (hx2 : iv (-1) 2147483647 x2) (hx3 : iv (-2147483648) 1000000 x3) (hx4 : iv 0 608 x4) (hx5 : iv 0 8 x5) (hx7 : iv 0 9 x7) (m9 : Int) (hm9 : m9 ≤ x4.toInt) (hP9 : ∀ (x2 : Int32) (x3 : Int32) (x4 : Int32), m9 < x4.toInt → iv (-1) 2147483647 x2 → iv (-2147483648) 1000000 x3 → iv 0 609 x4 → P9 x2 x3 x4) (hpost : ∀ (r : Int32), iv (-1) 2147483647 r → post r) : q_m_askOf_39 P9 f_huts a_runs x1 x2 x3 x4 x5 x6 x7 post := by
  intro P hP
  have loop : ∀ (n : Nat) (x6 : Int32) (x7 : Int32), (9 - x7.toInt < (n : Int)) → (iv 0 9 x7) → P x6 x7 := by
    intro n
    induction n with
    | zero => intro x6 x7 hm hx7; exact (ms0_up hm hx7).elim
    | succ n ih =>
      intro x6 x7 hm hx7
      apply hP
      refine ⟨fun c1 => ?_, fun c1 => ?_⟩
      · skip
        refine s_m_ones_0 (iv_w hx1 (by decide)) (fun r2 => ?_)
        refine ⟨fun c3 => ?_, fun c3 => ?_⟩
        · skip
          refine ⟨fun c4 => ?_, fun c4 => ?_⟩
          · skip
            exact s_m_askOf_120 k_f_huts k_a_runs hx1 hx3 hx4 hx2 m9 hm9 hP9 hpost
          · skip
            exact s_m_askOf_120 k_f_huts k_a_runs hx1 (iv_w (iv_ltb (l := (-2147483647)) (h := 1000000) (r_nle c4) (iv_top _) hx3 (by decide)) (by decide)) hx4 (iv_w hx4 (by decide)) m9 hm9 hP9 hpost
        · skip
          refine ⟨fun c5 => ?_, fun c5 => ?_⟩
          · skip
            exact s_m_askOf_120 k_f_huts k_a_runs hx1 hx3 hx4 hx2 m9 hm9 hP9 hpost
          · skip
            exact s_m_askOf_120 k_f_huts k_a_runs hx1 (iv_w (iv_ltb (l := (-2147483646)) (h := 1000000) (r_nle c5) (iv_ltb (l := (-2147483647)) (h := 2147483647) (r_nle c3) (iv_top _) (iv_top x6) (by decide)) hx3 (by decide)) (by decide)) hx4 (iv_w hx4 (by decide)) m9 hm9 hP9 hpost
      · skip
        refine ⟨fun c6 => ?_, fun c6 => ?_⟩
        · skip
          refine ⟨fun c7 => ?_, fun c7 => ?_⟩
          · skip
            exact s_m_askOf_84 (iv_ltb (l := 1) (h := 9) (r_nle c1) hx7 k_f_huts (by decide)) k_a_runs hx1 hx2 hx3 hx4 hx5 (iv_lta (l := 0) (h := 8) (r_nle c1) hx7 k_f_huts (by decide)) m9 hm9 hP9 x7.toInt (Int.le_refl _) (fun u0 u1 hq g0 => ih u0 u1 (ms_up hm hq) g0) hpost
          · skip
            exact (iv_emp (iv_ne (l := 1) (h := 0) c7 (iv_lit (l := 0) (h := 0) (by decide)) (iv_lit (l := 0) (h := 0) (by decide)) (by decide)) (by decide)).elim
        · skip
          refine ⟨fun c8 => ?_, fun c8 => ?_⟩
          · skip
            exact (iv_emp (iv_eqa (l := 1) (h := 0) c8 (iv_lit (l := 1) (h := 1) (by decide)) (iv_lit (l := 0) (h := 0) (by decide)) (by decide)) (by decide)).elim
          · skip
            refine ⟨iv_in (iv_add (l := 0) (h := 80) (iv_mul (l := 0) (h := 72) (iv_lit (l := 9) (h := 9) (by decide)) (iv_lta (l := 0) (h := 8) (r_nle c1) hx7 k_f_huts (by decide)) (by decide)) hx5 (by decide)) (by decide), ?_⟩
            refine ⟨fun c9 => ?_, fun c9 => ?_⟩
            · skip
              exact s_m_askOf_84 (iv_ltb (l := 1) (h := 9) (r_nle c1) hx7 k_f_huts (by decide)) k_a_runs hx1 hx2 hx3 hx4 hx5 (iv_lta (l := 0) (h := 8) (r_nle c1) hx7 k_f_huts (by decide)) m9 hm9 hP9 x7.toInt (Int.le_refl _) (fun u0 u1 hq g0 => ih u0 u1 (ms_up hm hq) g0) hpost
            · skip
              exact s_m_askOf_85 (iv_ltb (l := 1) (h := 9) (r_nle c1) hx7 k_f_huts (by decide)) k_a_runs hx1 hx2 hx3 hx4 hx5 (iv_lta (l := 0) (h := 8) (r_nle c1) hx7 k_f_huts (by decide)) (iv_w (iv_lit (l := 1) (h := 1) (by decide)) (by decide)) m9 hm9 hP9 x7.toInt (Int.le_refl _) (fun u0 u1 hq g0 => ih u0 u1 (ms_up hm hq) g0) hpost
  exact loop _ _ _ (ms_init_up _ _) hx7
set_option maxRecDepth 20000 in
theorem s_m_askOf_9 {f_huts : Int32} {a_runs : Nat → Int32} {x1 : Int32} {x2 : Int32} {x3 : Int32} {x4 : Int32} {post : Int32 → Prop} (k_f_huts : iv 0 9 f_huts) (k_a_runs : ∀ j, iv 0 1000000 (a_runs j)) (hx1 : iv 1 511 x1) (hx2 : iv (-1) 2147483647 x2) (hx3 : iv (-2147483648) 1000000 x3) (hx4 : iv 0 609 x4) (hpost : ∀ (r : Int32), iv (-1) 2147483647 r → post r) : q_m_askOf_9 f_huts a_runs x1 x2 x3 x4 post := by
  intro P hP
  have loop : ∀ (n : Nat) (x2 : Int32) (x3 : Int32) (x4 : Int32), (609 - x4.toInt < (n : Int)) → (iv (-1) 2147483647 x2) → (iv (-2147483648) 1000000 x3) → (iv 0 609 x4) → P x2 x3 x4 := by
    intro n
    induction n with
    | zero => intro x2 x3 x4 hm hx2 hx3 hx4; exact (ms0_up hm hx4).elim
    | succ n ih =>
      intro x2 x3 x4 hm hx2 hx3 hx4
      apply hP
      refine ⟨fun c1 => ?_, fun c1 => ?_⟩
      · skip
        exact hpost _ hx2
      · skip
        intro w2 ew2
        have hw2 := iv_eq ew2 (iv_rem (l := 0) (h := 9) (iv_lea (l := 0) (h := 608) (r_nlt c1) hx4 (iv_lit (l := 608) (h := 608) (by decide)) (by decide)) (iv_lit (l := 10) (h := 10) (by decide)) (by decide))
        refine ⟨fun c3 => ?_, fun c3 => ?_⟩
        · skip
          exact (iv_emp (iv_lta (l := 0) (h := (-1)) (r_lt c3) hw2 (iv_lit (l := 0) (h := 0) (by decide)) (by decide)) (by decide)).elim
        · skip
          refine ⟨fun c4 => ?_, fun c4 => ?_⟩
          · skip
            refine ⟨iv_nb (iv_lit (l := 0) (h := 0) (by decide)) (by decide), ?_⟩
            refine ⟨fun c5 => ?_, fun c5 => ?_⟩
            · skip
              exact s_m_askOf_128 k_f_huts k_a_runs hx1 hx2 hx3 (iv_lea (l := 0) (h := 608) (r_nlt c1) hx4 (iv_lit (l := 608) (h := 608) (by decide)) (by decide)) x4.toInt (Int.le_refl _) (fun u0 u1 u2 hq g0 g1 g2 => ih u0 u1 u2 (ms_up hm hq) g0 g1 g2) hpost
            · skip
              exact (iv_emp (iv_ne (l := 1) (h := 0) c5 (iv_lit (l := 0) (h := 0) (by decide)) (iv_lit (l := 0) (h := 0) (by decide)) (by decide)) (by decide)).elim
          · skip
            refine ⟨iv_nb (iv_lit (l := 1) (h := 1) (by decide)) (by decide), ?_⟩
            refine ⟨fun c6 => ?_, fun c6 => ?_⟩
            · skip
              exact (iv_emp (iv_eqa (l := 1) (h := 0) c6 (iv_lit (l := 1) (h := 1) (by decide)) (iv_lit (l := 0) (h := 0) (by decide)) (by decide)) (by decide)).elim
            · skip
              exact s_m_askOf_39 k_f_huts k_a_runs hx1 hx2 hx3 (iv_lea (l := 0) (h := 608) (r_nlt c1) hx4 (iv_lit (l := 608) (h := 608) (by decide)) (by decide)) (iv_lea (l := 0) (h := 8) (r_nlt c4) hw2 (iv_sub (l := (-1)) (h := 8) k_f_huts (iv_lit (l := 1) (h := 1) (by decide)) (by decide)) (by decide)) (iv_w (iv_lit (l := 0) (h := 0) (by decide)) (by decide)) x4.toInt (Int.le_refl _) (fun u0 u1 u2 hq g0 g1 g2 => ih u0 u1 u2 (ms_up hm hq) g0 g1 g2) hpost
  exact loop _ _ _ _ (ms_init_up _ _) hx2 hx3 hx4
set_option maxRecDepth 20000 in
theorem s_m_askOf_0 {f_huts : Int32} {a_runs : Nat → Int32} {x1 : Int32} {post : Int32 → Prop} (k_f_huts : iv 0 9 f_huts) (k_a_runs : ∀ j, iv 0 1000000 (a_runs j)) (hx1 : iv 1 511 x1) (hpost : ∀ (r : Int32), iv (-1) 2147483647 r → post r) : q_m_askOf_0 f_huts a_runs x1 post := by
  exact s_m_askOf_9 k_f_huts k_a_runs hx1 (iv_w (iv_lit (l := (-1)) (h := (-1)) (by decide)) (by decide)) (iv_w (iv_lit (l := 1000000) (h := 1000000) (by decide)) (by decide)) (iv_w (iv_lit (l := 0) (h := 0) (by decide)) (by decide)) hpost
-- m_fits
set_option maxRecDepth 20000 in
theorem s_m_fits_93 {P65 : Int32 → Int32 → (Nat → Int32) → (Nat → Int32) → Prop} {f_code : Int32} {a_many : Nat → Int32} {a_lands : Nat → Int32} {a_sights : Nat → Int32} {f_land : Int32} {f_huts : Int32} {f_singers : Int32} {a_run : Nat → Int32} {f_sight : Int32} {a_runs : Nat → Int32} {x3 : Int32} {x5 : Int32} {y0 : Int32} {y1 : Int32} {post : Int32 → (Int32) → (Int32) → (Int32) → (Int32) → (Nat → Int32) → (Int32) → (Nat → Int32) → Prop} (k_f_code : iv 0 0 f_code) (k_a_many : ∀ j, iv 0 2 (a_many j)) (k_a_lands : mLand a_lands) (k_a_sights : mSig a_sights) (k_f_land : iv 0 1 f_land) (k_f_huts : iv 1 9 f_huts) (k_f_singers : iv 0 6 f_singers) (k_a_run : ∀ j, iv 0 1000000 (a_run j)) (k_f_sight : iv 0 1 f_sight) (k_a_runs : ∀ j, iv 0 1000000 (a_runs j)) (hx5 : iv 0 8 x5) (hy0 : iv 0 511 y0) (hy1 : iv 0 256 y1) (m65 : Int) (hm65 : m65 ≤ x5.toInt) (hP65 : ∀ (x4 : Int32) (x5 : Int32) (a_run : Nat → Int32) (a_runs : Nat → Int32), m65 < x5.toInt → iv 0 511 x4 → iv 0 9 x5 → (∀ j, iv 0 1000000 (a_run j)) → (∀ j, iv 0 1000000 (a_runs j)) → P65 x4 x5 a_run a_runs) (hpost : ∀ (r : Int32) (f_code : Int32) (f_land : Int32) (f_huts : Int32) (f_singers : Int32) (a_run : Nat → Int32) (f_sight : Int32) (a_runs : Nat → Int32), iv (-2) 2147483647 r → (iv 0 0 f_code) → (iv 0 1 f_land) → (iv 0 9 f_huts) → (iv 0 6 f_singers) → (∀ j, iv 0 1000000 (a_run j)) → (∀ j, iv 0 1000000 (a_runs j)) → post r f_code f_land f_huts f_singers a_run f_sight a_runs) : q_m_fits_93 P65 f_code a_many a_lands a_sights f_land f_huts f_singers a_run f_sight a_runs x3 x5 y0 y1 post := by
  intro w1 ew1
  have hw1 := iv_eq ew1 (iv_or 9 (l := 0) (h := 511) hy0 hy1 (by decide))
  intro w2 ew2
  have hw2 := iv_eq ew2 (iv_add (l := 1) (h := 9) hx5 (iv_lit (l := 1) (h := 1) (by decide)) (by decide))
  exact hP65 _ _ _ _ (ml_up hm65 (inc_lt ew2 hx5 (by decide))) hw1 (iv_w hw2 (by decide)) k_a_run k_a_runs
set_option maxRecDepth 20000 in
theorem s_m_fits_65 {f_code : Int32} {a_many : Nat → Int32} {a_lands : Nat → Int32} {a_sights : Nat → Int32} {f_land : Int32} {f_huts : Int32} {f_singers : Int32} {a_run : Nat → Int32} {f_sight : Int32} {a_runs : Nat → Int32} {x3 : Int32} {x4 : Int32} {x5 : Int32} {post : Int32 → (Int32) → (Int32) → (Int32) → (Int32) → (Nat → Int32) → (Int32) → (Nat → Int32) → Prop} (k_f_code : iv 0 0 f_code) (k_a_many : ∀ j, iv 0 2 (a_many j)) (k_a_lands : mLand a_lands) (k_a_sights : mSig a_sights) (k_f_land : iv 0 1 f_land) (k_f_huts : iv 0 9 f_huts) (k_f_singers : iv 0 6 f_singers) (k_a_run : ∀ j, iv 0 1000000 (a_run j)) (k_f_sight : iv 0 1 f_sight) (k_a_runs : ∀ j, iv 0 1000000 (a_runs j)) (hx4 : iv 0 511 x4) (hx5 : iv 0 9 x5) (hpost : ∀ (r : Int32) (f_code : Int32) (f_land : Int32) (f_huts : Int32) (f_singers : Int32) (a_run : Nat → Int32) (f_sight : Int32) (a_runs : Nat → Int32), iv (-2) 2147483647 r → (iv 0 0 f_code) → (iv 0 1 f_land) → (iv 0 9 f_huts) → (iv 0 6 f_singers) → (∀ j, iv 0 1000000 (a_run j)) → (∀ j, iv 0 1000000 (a_runs j)) → post r f_code f_land f_huts f_singers a_run f_sight a_runs) : q_m_fits_65 f_code a_many a_lands a_sights f_land f_huts f_singers a_run f_sight a_runs x3 x4 x5 post := by
  intro P hP
  have loop : ∀ (n : Nat) (x4 : Int32) (x5 : Int32) (a_run : Nat → Int32) (a_runs : Nat → Int32), (9 - x5.toInt < (n : Int)) → (iv 0 511 x4) → (iv 0 9 x5) → (∀ j, iv 0 1000000 (a_run j)) → (∀ j, iv 0 1000000 (a_runs j)) → P x4 x5 a_run a_runs := by
    intro n
    induction n with
    | zero => intro x4 x5 a_run a_runs hm hx4 hx5 k_a_run k_a_runs; exact (ms0_up hm hx5).elim
    | succ n ih =>
      intro x4 x5 a_run a_runs hm hx4 hx5 k_a_run k_a_runs
      apply hP
      refine ⟨fun c1 => ?_, fun c1 => ?_⟩
      · skip
        refine ⟨fun c2 => ?_, fun c2 => ?_⟩
        · skip
          refine ⟨fun c3 => ?_, fun c3 => ?_⟩
          · skip
            refine s_m_askOf_0 k_f_huts k_a_runs (iv_ne (l := 1) (h := 511) c3 hx4 (iv_lit (l := 0) (h := 0) (by decide)) (by decide)) (fun r4 hr4 => ?_)
            exact hpost _ _ _ _ _ _ _ _ (iv_w hr4 (by decide)) k_f_code k_f_land k_f_huts k_f_singers k_a_run k_a_runs
          · skip
            exact hpost _ _ _ _ _ _ _ _ (iv_w (iv_lit (l := (-1)) (h := (-1)) (by decide)) (by decide)) k_f_code k_f_land k_f_huts k_f_singers k_a_run k_a_runs
        · skip
          exact hpost _ _ _ _ _ _ _ _ (iv_w hx4 (by decide)) k_f_code k_f_land k_f_huts k_f_singers k_a_run k_a_runs
      · skip
        refine s_m_isFit_0 k_a_lands k_a_sights k_f_land (iv_ltb (l := 1) (h := 9) (r_nle c1) hx5 k_f_huts (by decide)) k_a_run k_f_sight k_a_runs (iv_lta (l := 0) (h := 8) (r_nle c1) hx5 k_f_huts (by decide)) (fun r5 o6 o7 hr5 k_o6 k_o7 => ?_)
        refine ⟨fun c8 => ?_, fun c8 => ?_⟩
        · skip
          exact s_m_fits_93 k_f_code k_a_many k_a_lands k_a_sights k_f_land (iv_ltb (l := 1) (h := 9) (r_nle c1) hx5 k_f_huts (by decide)) k_f_singers k_o6 k_f_sight k_o7 (iv_lta (l := 0) (h := 8) (r_nle c1) hx5 k_f_huts (by decide)) hx4 (iv_w (iv_lit (l := 0) (h := 0) (by decide)) (by decide)) x5.toInt (Int.le_refl _) (fun u0 u1 u2 u3 hq g0 g1 g2 g3 => ih u0 u1 u2 u3 (ms_up hm hq) g0 g1 g2 g3) hpost
        · skip
          exact s_m_fits_93 k_f_code k_a_many k_a_lands k_a_sights k_f_land (iv_ltb (l := 1) (h := 9) (r_nle c1) hx5 k_f_huts (by decide)) k_f_singers k_o6 k_f_sight k_o7 (iv_lta (l := 0) (h := 8) (r_nle c1) hx5 k_f_huts (by decide)) hx4 (iv_w (iv_shl1 (l := 1) (h := 256) (iv_lit (l := 1) (h := 1) (by decide)) (iv_lta (l := 0) (h := 8) (r_nle c1) hx5 k_f_huts (by decide)) (by decide)) (by decide)) x5.toInt (Int.le_refl _) (fun u0 u1 u2 u3 hq g0 g1 g2 g3 => ih u0 u1 u2 u3 (ms_up hm hq) g0 g1 g2 g3) hpost
  exact loop _ _ _ _ _ (ms_init_up _ _) hx4 hx5 k_a_run k_a_runs
set_option maxRecDepth 20000 in
theorem s_m_fits_27 {f_code : Int32} {a_many : Nat → Int32} {a_lands : Nat → Int32} {a_sights : Nat → Int32} {f_land : Int32} {f_huts : Int32} {f_singers : Int32} {a_run : Nat → Int32} {f_sight : Int32} {a_runs : Nat → Int32} {x3 : Int32} {x4 : Int32} {post : Int32 → (Int32) → (Int32) → (Int32) → (Int32) → (Nat → Int32) → (Int32) → (Nat → Int32) → Prop} (k_f_code : iv 0 0 f_code) (k_a_many : ∀ j, iv 0 2 (a_many j)) (k_a_lands : mLand a_lands) (k_a_sights : mSig a_sights) (k_f_land : iv 0 1 f_land) (k_f_huts : iv 0 9 f_huts) (k_f_singers : iv 0 6 f_singers) (k_a_run : ∀ j, iv 0 1000000 (a_run j)) (k_f_sight : iv 0 1 f_sight) (k_a_runs : ∀ j, iv 0 1000000 (a_runs j)) (hx4 : iv 0 10 x4) (hpost : ∀ (r : Int32) (f_code : Int32) (f_land : Int32) (f_huts : Int32) (f_singers : Int32) (a_run : Nat → Int32) (f_sight : Int32) (a_runs : Nat → Int32), iv (-2) 2147483647 r → (iv 0 0 f_code) → (iv 0 1 f_land) → (iv 0 9 f_huts) → (iv 0 6 f_singers) → (∀ j, iv 0 1000000 (a_run j)) → (∀ j, iv 0 1000000 (a_runs j)) → post r f_code f_land f_huts f_singers a_run f_sight a_runs) : q_m_fits_27 f_code a_many a_lands a_sights f_land f_huts f_singers a_run f_sight a_runs x3 x4 post := by
  intro P hP
  have loop : ∀ (n : Nat) (x4 : Int32), (10 - x4.toInt < (n : Int)) → (iv 0 10 x4) → P x4 := by
    intro n
    induction n with
    | zero => intro x4 hm hx4; exact (ms0_up hm hx4).elim
    | succ n ih =>
      intro x4 hm hx4
      apply hP
      refine sp_facts k_a_sights k_f_sight (fun r1 hr1 => ?_)
      refine ⟨fun c2 => ?_, fun c2 => ?_⟩
      · skip
        exact s_m_fits_65 k_f_code k_a_many k_a_lands k_a_sights k_f_land k_f_huts k_f_singers k_a_run k_f_sight k_a_runs (iv_w (iv_lit (l := 0) (h := 0) (by decide)) (by decide)) (iv_w (iv_lit (l := 0) (h := 0) (by decide)) (by decide)) hpost
      · skip
        refine sp_factOf_1 k_a_sights k_f_sight (iv_lta (l := 0) (h := 9) (r_nle c2) hx4 hr1 (by decide)) (fun r3 hr3 => ?_)
        refine ⟨fun c4 => ?_, fun c4 => ?_⟩
        · skip
          exact (iv_emp (iv_lta (l := 0) (h := (-1)) (r_lt c4) hr3 (iv_lit (l := 0) (h := 0) (by decide)) (by decide)) (by decide)).elim
        · skip
          refine ⟨fun c5 => ?_, fun c5 => ?_⟩
          · skip
            refine ⟨iv_nb (iv_lit (l := 0) (h := 0) (by decide)) (by decide), ?_⟩
            refine ⟨fun c6 => ?_, fun c6 => ?_⟩
            · skip
              exact (iv_emp (iv_ne (l := 1) (h := 0) c6 (iv_lit (l := 0) (h := 0) (by decide)) (iv_lit (l := 0) (h := 0) (by decide)) (by decide)) (by decide)).elim
            · skip
              exact hpost _ _ _ _ _ _ _ _ (iv_w (iv_lit (l := (-2)) (h := (-2)) (by decide)) (by decide)) k_f_code k_f_land k_f_huts k_f_singers k_a_run k_a_runs
          · skip
            refine ⟨iv_nb (iv_lit (l := 1) (h := 1) (by decide)) (by decide), ?_⟩
            refine ⟨fun c7 => ?_, fun c7 => ?_⟩
            · skip
              intro w8 ew8
              have hw8 := iv_eq ew8 (iv_add (l := 1) (h := 10) (iv_lta (l := 0) (h := 9) (r_nle c2) hx4 hr1 (by decide)) (iv_lit (l := 1) (h := 1) (by decide)) (by decide))
              exact ih _ (ms_up hm (inc_lt ew8 (iv_lta (l := 0) (h := 9) (r_nle c2) hx4 hr1 (by decide)) (by decide))) (iv_w hw8 (by decide))
            · skip
              exact (iv_emp (iv_eqa (l := 1) (h := 0) c7 (iv_lit (l := 1) (h := 1) (by decide)) (iv_lit (l := 0) (h := 0) (by decide)) (by decide)) (by decide)).elim
  exact loop _ _ (ms_init_up _ _) hx4
set_option maxRecDepth 20000 in
theorem s_m_fits_0 {f_code : Int32} {a_many : Nat → Int32} {a_lands : Nat → Int32} {a_sights : Nat → Int32} {f_land : Int32} {f_huts : Int32} {f_singers : Int32} {a_run : Nat → Int32} {f_sight : Int32} {a_runs : Nat → Int32} {x1 : Int32} {x2 : Int32} {x3 : Int32} {post : Int32 → (Int32) → (Int32) → (Int32) → (Int32) → (Nat → Int32) → (Int32) → (Nat → Int32) → Prop} (k_f_code : iv 0 0 f_code) (k_a_many : ∀ j, iv 0 2 (a_many j)) (k_a_lands : mLand a_lands) (k_a_sights : mSig a_sights) (k_f_land : iv 0 1 f_land) (k_f_huts : iv 0 9 f_huts) (k_f_singers : iv 0 6 f_singers) (k_a_run : ∀ j, iv 0 1000000 (a_run j)) (k_a_runs : ∀ j, iv 0 1000000 (a_runs j)) (hpost : ∀ (r : Int32) (f_code : Int32) (f_land : Int32) (f_huts : Int32) (f_singers : Int32) (a_run : Nat → Int32) (f_sight : Int32) (a_runs : Nat → Int32), iv (-2) 2147483647 r → (iv 0 0 f_code) → (iv 0 1 f_land) → (iv 0 9 f_huts) → (iv 0 6 f_singers) → (∀ j, iv 0 1000000 (a_run j)) → (∀ j, iv 0 1000000 (a_runs j)) → post r f_code f_land f_huts f_singers a_run f_sight a_runs) : q_m_fits_0 f_code a_many a_lands a_sights f_land f_huts f_singers a_run f_sight a_runs x1 x2 x3 post := by
  refine ⟨iv_in (iv_lit (l := 2) (h := 2) (by decide)) (by decide), ?_⟩
  refine ⟨fun c1 => ?_, fun c1 => ?_⟩
  · skip
    refine ⟨iv_nb (iv_lit (l := 0) (h := 0) (by decide)) (by decide), ?_⟩
    refine ⟨iv_nb (iv_lit (l := 0) (h := 0) (by decide)) (by decide), ?_⟩
    refine ⟨fun c2 => ?_, fun c2 => ?_⟩
    · skip
      exact hpost _ _ _ _ _ _ _ _ (iv_w (iv_lit (l := (-2)) (h := (-2)) (by decide)) (by decide)) (iv_lit (l := 0) (h := 0) (by decide)) k_f_land k_f_huts k_f_singers k_a_run k_a_runs
    · skip
      exact (iv_emp (iv_ne (l := 1) (h := 0) c2 (iv_lit (l := 0) (h := 0) (by decide)) (iv_lit (l := 0) (h := 0) (by decide)) (by decide)) (by decide)).elim
  · skip
    refine ⟨fun c3 => ?_, fun c3 => ?_⟩
    · skip
      refine ⟨iv_nb (iv_lit (l := 0) (h := 0) (by decide)) (by decide), ?_⟩
      refine ⟨iv_nb (iv_lit (l := 0) (h := 0) (by decide)) (by decide), ?_⟩
      refine ⟨fun c4 => ?_, fun c4 => ?_⟩
      · skip
        exact hpost _ _ _ _ _ _ _ _ (iv_w (iv_lit (l := (-2)) (h := (-2)) (by decide)) (by decide)) (iv_lit (l := 0) (h := 0) (by decide)) k_f_land k_f_huts k_f_singers k_a_run k_a_runs
      · skip
        exact (iv_emp (iv_ne (l := 1) (h := 0) c4 (iv_lit (l := 0) (h := 0) (by decide)) (iv_lit (l := 0) (h := 0) (by decide)) (by decide)) (by decide)).elim
    · skip
      refine ⟨iv_nb (iv_lit (l := 1) (h := 1) (by decide)) (by decide), ?_⟩
      refine ⟨iv_nb (iv_lit (l := 1) (h := 1) (by decide)) (by decide), ?_⟩
      refine ⟨fun c5 => ?_, fun c5 => ?_⟩
      · skip
        exact (iv_emp (iv_eqa (l := 1) (h := 0) c5 (iv_lit (l := 1) (h := 1) (by decide)) (iv_lit (l := 0) (h := 0) (by decide)) (by decide)) (by decide)).elim
      · skip
        refine ⟨iv_in (iv_lit (l := 0) (h := 0) (by decide)) (by decide), ?_⟩
        refine ⟨fun c6 => ?_, fun c6 => ?_⟩
        · skip
          refine ⟨iv_nb (iv_lit (l := 0) (h := 0) (by decide)) (by decide), ?_⟩
          refine ⟨fun c7 => ?_, fun c7 => ?_⟩
          · skip
            exact (iv_emp (iv_ne (l := 1) (h := 0) c7 (iv_lit (l := 0) (h := 0) (by decide)) (iv_lit (l := 0) (h := 0) (by decide)) (by decide)) (by decide)).elim
          · skip
            refine ⟨fun c8 => ?_, fun c8 => ?_⟩
            · skip
              exact (iv_emp (iv_ne (l := 1) (h := 0) c8 (iv_lit (l := 0) (h := 0) (by decide)) (iv_lit (l := 0) (h := 0) (by decide)) (by decide)) (by decide)).elim
            · skip
              exact hpost _ _ _ _ _ _ _ _ (iv_w (iv_lit (l := (-2)) (h := (-2)) (by decide)) (by decide)) (iv_lit (l := 0) (h := 0) (by decide)) k_f_land k_f_huts k_f_singers k_a_run k_a_runs
        · skip
          refine ⟨fun c9 => ?_, fun c9 => ?_⟩
          · skip
            refine ⟨iv_nb (iv_lit (l := 0) (h := 0) (by decide)) (by decide), ?_⟩
            refine ⟨fun c10 => ?_, fun c10 => ?_⟩
            · skip
              exact (iv_emp (iv_ne (l := 1) (h := 0) c10 (iv_lit (l := 0) (h := 0) (by decide)) (iv_lit (l := 0) (h := 0) (by decide)) (by decide)) (by decide)).elim
            · skip
              refine ⟨fun c11 => ?_, fun c11 => ?_⟩
              · skip
                exact (iv_emp (iv_ne (l := 1) (h := 0) c11 (iv_lit (l := 0) (h := 0) (by decide)) (iv_lit (l := 0) (h := 0) (by decide)) (by decide)) (by decide)).elim
              · skip
                exact hpost _ _ _ _ _ _ _ _ (iv_w (iv_lit (l := (-2)) (h := (-2)) (by decide)) (by decide)) (iv_lit (l := 0) (h := 0) (by decide)) k_f_land k_f_huts k_f_singers k_a_run k_a_runs
          · skip
            refine ⟨iv_nb (iv_lit (l := 1) (h := 1) (by decide)) (by decide), ?_⟩
            refine ⟨fun c12 => ?_, fun c12 => ?_⟩
            · skip
              refine sp_of (a := 0) (b := 9) k_a_lands (iv_lea (l := 0) (h := 1) (r_nlt c9) (iv_leb (l := 0) (h := 2147483647) (r_nlt c6) (iv_lit (l := 0) (h := 0) (by decide)) (iv_top x1) (by decide)) (iv_sub (l := (-1)) (h := 1) (k_a_many _) (iv_lit (l := 1) (h := 1) (by decide)) (by decide)) (by decide)) (iv_lit (l := 0) (h := 0) (by decide)) (by decide +kernel) (fun r13 hr13 er13 => ?_)
              refine sp_of (a := 0) (b := 6) k_a_lands (iv_lea (l := 0) (h := 1) (r_nlt c9) (iv_leb (l := 0) (h := 2147483647) (r_nlt c6) (iv_lit (l := 0) (h := 0) (by decide)) (iv_top x1) (by decide)) (iv_sub (l := (-1)) (h := 1) (k_a_many _) (iv_lit (l := 1) (h := 1) (by decide)) (by decide)) (by decide)) (iv_lit (l := 1) (h := 1) (by decide)) (by decide +kernel) (fun r14 hr14 er14 => ?_)
              refine ⟨fun c15 => ?_, fun c15 => ?_⟩
              · skip
                exact s_m_fits_27 (iv_lit (l := 0) (h := 0) (by decide)) k_a_many k_a_lands k_a_sights (iv_lea (l := 0) (h := 1) (r_nlt c9) (iv_leb (l := 0) (h := 2147483647) (r_nlt c6) (iv_lit (l := 0) (h := 0) (by decide)) (iv_top x1) (by decide)) (iv_sub (l := (-1)) (h := 1) (k_a_many _) (iv_lit (l := 1) (h := 1) (by decide)) (by decide)) (by decide)) hr13 hr14 k_a_run (iv_lea (l := 0) (h := 1) (r_nlt c3) (iv_leb (l := 0) (h := 2147483647) (r_nlt c1) (iv_lit (l := 0) (h := 0) (by decide)) (iv_top x2) (by decide)) (iv_sub (l := (-1)) (h := 1) (k_a_many _) (iv_lit (l := 1) (h := 1) (by decide)) (by decide)) (by decide)) k_a_runs (iv_w (iv_lit (l := 0) (h := 0) (by decide)) (by decide)) hpost
              · skip
                exact (iv_emp (iv_eqa (l := 1) (h := 0) c15 (iv_lit (l := 1) (h := 1) (by decide)) (iv_lit (l := 0) (h := 0) (by decide)) (by decide)) (by decide)).elim
            · skip
              exact (iv_emp (iv_eqa (l := 1) (h := 0) c12 (iv_lit (l := 1) (h := 1) (by decide)) (iv_lit (l := 0) (h := 0) (by decide)) (by decide)) (by decide)).elim
-- m_findRest
set_option maxRecDepth 20000 in
theorem s_m_findRest_159 {a_choirs : Nat → Int32} {f_choir : Int32} {f_voices : Int32} {a_rest : Nat → Int64} {x3 : Int64} {x5 : Int32} {post : Int64 → (Nat → Int64) → Prop} (k_a_choirs : mCho a_choirs) (k_f_choir : iv 0 1 f_choir) (k_f_voices : iv 0 9 f_voices) (hx5 : iv 0 9 x5) (hpost : ∀ (r : Int64) (a_rest : Nat → Int64), post r a_rest) : q_m_findRest_159 a_choirs f_choir f_voices a_rest x3 x5 post := by
  intro P hP
  have loop : ∀ (n : Nat) (x3 : Int64) (x5 : Int32), (9 - x5.toInt < (n : Int)) → (iv 0 9 x5) → P x3 x5 := by
    intro n
    induction n with
    | zero => intro x3 x5 hm hx5; exact (ms0_up hm hx5).elim
    | succ n ih =>
      intro x3 x5 hm hx5
      apply hP
      refine ⟨fun c1 => ?_, fun c1 => ?_⟩
      · skip
        exact hpost _ _
      · skip
        refine ⟨iv_in (iv_add (l := 9) (h := 2312) (iv_mul (l := 9) (h := 2304) (iv_lit (l := 9) (h := 9) (by decide)) (iv_shl1 (l := 1) (h := 256) (iv_lit (l := 1) (h := 1) (by decide)) (iv_lta (l := 0) (h := 8) (r_nle c1) hx5 k_f_voices (by decide)) (by decide)) (by decide)) (iv_lta (l := 0) (h := 8) (r_nle c1) hx5 k_f_voices (by decide)) (by decide)) (by decide), ?_⟩
        intro w2 ew2
        intro w3 ew3
        have hw3 := iv_eq ew3 (iv_add (l := 1) (h := 9) (iv_lta (l := 0) (h := 8) (r_nle c1) hx5 k_f_voices (by decide)) (iv_lit (l := 1) (h := 1) (by decide)) (by decide))
        exact ih _ _ (ms_up hm (inc_lt ew3 (iv_lta (l := 0) (h := 8) (r_nle c1) hx5 k_f_voices (by decide)) (by decide))) (iv_w hw3 (by decide))
  exact loop _ _ _ (ms_init_up _ _) hx5
set_option maxRecDepth 20000 in
theorem s_m_findRest_155 {a_choirs : Nat → Int32} {f_choir : Int32} {f_voices : Int32} {a_rest : Nat → Int64} {y0 : Int64} {post : Int64 → (Nat → Int64) → Prop} (k_a_choirs : mCho a_choirs) (k_f_choir : iv 0 1 f_choir) (k_f_voices : iv 0 9 f_voices) (hpost : ∀ (r : Int64) (a_rest : Nat → Int64), post r a_rest) : q_m_findRest_155 a_choirs f_choir f_voices a_rest y0 post := by
  exact s_m_findRest_159 k_a_choirs k_f_choir k_f_voices (iv_w (iv_lit (l := 0) (h := 0) (by decide)) (by decide)) hpost
set_option maxRecDepth 20000 in
theorem s_m_findRest_130 {P11 : Int32 → (Nat → Int64) → Prop} {P18 : Int32 → (Nat → Int64) → Prop} {a_choirs : Nat → Int32} {f_choir : Int32} {f_voices : Int32} {a_rest : Nat → Int64} {x1 : Int32} {x2 : Int32} {x3 : Int32} {x4 : Int32} {y0 : Int32} {y1 : Int64} {post : Int64 → (Nat → Int64) → Prop} (k_a_choirs : mCho a_choirs) (k_f_choir : iv 0 1 f_choir) (k_f_voices : iv 1 9 f_voices) (hx1 : iv 0 9 x1) (hx2 : iv 0 511 x2) (hx3 : iv 1 511 x3) (hx4 : iv 0 8 x4) (hy0 : iv 9 4607 y0) (m11 : Int) (hm11 : x3.toInt ≤ m11) (hP11 : ∀ (x3 : Int32) (a_rest : Nat → Int64), x3.toInt < m11 → iv 0 511 x3 → P11 x3 a_rest) (m18 : Int) (hm18 : m18 ≤ x4.toInt) (hP18 : ∀ (x4 : Int32) (a_rest : Nat → Int64), m18 < x4.toInt → iv 0 9 x4 → P18 x4 a_rest) (hpost : ∀ (r : Int64) (a_rest : Nat → Int64), post r a_rest) : q_m_findRest_130 P11 P18 a_choirs f_choir f_voices a_rest x1 x2 x3 x4 y0 y1 post := by
  refine ⟨iv_in hy0 (by decide), ?_⟩
  intro a1 ea1
  intro w2 ew2
  have hw2 := iv_eq ew2 (iv_add (l := 1) (h := 9) hx4 (iv_lit (l := 1) (h := 1) (by decide)) (by decide))
  exact hP18 _ _ (ml_up hm18 (inc_lt ew2 hx4 (by decide))) (iv_w hw2 (by decide))
set_option maxRecDepth 20000 in
theorem s_m_findRest_95 {P11 : Int32 → (Nat → Int64) → Prop} {P18 : Int32 → (Nat → Int64) → Prop} {P42 : Int64 → Int32 → Prop} {a_choirs : Nat → Int32} {f_choir : Int32} {f_voices : Int32} {a_rest : Nat → Int64} {x1 : Int32} {x2 : Int32} {x3 : Int32} {x4 : Int32} {x7 : Int32} {y0 : Int64} {y1 : Int64} {post : Int64 → (Nat → Int64) → Prop} (k_a_choirs : mCho a_choirs) (k_f_choir : iv 0 1 f_choir) (k_f_voices : iv 1 9 f_voices) (hx1 : iv 0 9 x1) (hx2 : iv 0 511 x2) (hx3 : iv 1 511 x3) (hx4 : iv 0 8 x4) (hx7 : iv 0 8 x7) (m11 : Int) (hm11 : x3.toInt ≤ m11) (hP11 : ∀ (x3 : Int32) (a_rest : Nat → Int64), x3.toInt < m11 → iv 0 511 x3 → P11 x3 a_rest) (m18 : Int) (hm18 : m18 ≤ x4.toInt) (hP18 : ∀ (x4 : Int32) (a_rest : Nat → Int64), m18 < x4.toInt → iv 0 9 x4 → P18 x4 a_rest) (m42 : Int) (hm42 : m42 ≤ x7.toInt) (hP42 : ∀ (x5 : Int64) (x7 : Int32), m42 < x7.toInt → iv 0 9 x7 → P42 x5 x7) (hpost : ∀ (r : Int64) (a_rest : Nat → Int64), post r a_rest) : q_m_findRest_95 P11 P18 P42 a_choirs f_choir f_voices a_rest x1 x2 x3 x4 x7 y0 y1 post := by
  intro w1 ew1
  intro w2 ew2
  have hw2 := iv_eq ew2 (iv_add (l := 1) (h := 9) hx7 (iv_lit (l := 1) (h := 1) (by decide)) (by decide))
  exact hP42 _ _ (ml_up hm42 (inc_lt ew2 hx7 (by decide))) (iv_w hw2 (by decide))
set_option maxRecDepth 20000 in
theorem s_m_findRest_94 {P11 : Int32 → (Nat → Int64) → Prop} {P18 : Int32 → (Nat → Int64) → Prop} {P42 : Int64 → Int32 → Prop} {a_choirs : Nat → Int32} {f_choir : Int32} {f_voices : Int32} {a_rest : Nat → Int64} {x1 : Int32} {x2 : Int32} {x3 : Int32} {x4 : Int32} {x7 : Int32} {y0 : Int64} {post : Int64 → (Nat → Int64) → Prop} (k_a_choirs : mCho a_choirs) (k_f_choir : iv 0 1 f_choir) (k_f_voices : iv 1 9 f_voices) (hx1 : iv 0 9 x1) (hx2 : iv 0 511 x2) (hx3 : iv 1 511 x3) (hx4 : iv 0 8 x4) (hx7 : iv 0 8 x7) (m11 : Int) (hm11 : x3.toInt ≤ m11) (hP11 : ∀ (x3 : Int32) (a_rest : Nat → Int64), x3.toInt < m11 → iv 0 511 x3 → P11 x3 a_rest) (m18 : Int) (hm18 : m18 ≤ x4.toInt) (hP18 : ∀ (x4 : Int32) (a_rest : Nat → Int64), m18 < x4.toInt → iv 0 9 x4 → P18 x4 a_rest) (m42 : Int) (hm42 : m42 ≤ x7.toInt) (hP42 : ∀ (x5 : Int64) (x7 : Int32), m42 < x7.toInt → iv 0 9 x7 → P42 x5 x7) (hpost : ∀ (r : Int64) (a_rest : Nat → Int64), post r a_rest) : q_m_findRest_94 P11 P18 P42 a_choirs f_choir f_voices a_rest x1 x2 x3 x4 x7 y0 post := by
  exact s_m_findRest_95 k_a_choirs k_f_choir k_f_voices hx1 hx2 hx3 hx4 hx7 m11 hm11 hP11 m18 hm18 hP18 m42 hm42 hP42 hpost
set_option maxRecDepth 20000 in
theorem s_m_findRest_42 {P11 : Int32 → (Nat → Int64) → Prop} {P18 : Int32 → (Nat → Int64) → Prop} {a_choirs : Nat → Int32} {f_choir : Int32} {f_voices : Int32} {a_rest : Nat → Int64} {x1 : Int32} {x2 : Int32} {x3 : Int32} {x4 : Int32} {x5 : Int64} {x7 : Int32} {post : Int64 → (Nat → Int64) → Prop} (k_a_choirs : mCho a_choirs) (k_f_choir : iv 0 1 f_choir) (k_f_voices : iv 1 9 f_voices) (hx1 : iv 0 9 x1) (hx2 : iv 0 511 x2) (hx3 : iv 1 511 x3) (hx4 : iv 0 8 x4) (hx7 : iv 0 9 x7) (m11 : Int) (hm11 : x3.toInt ≤ m11) (hP11 : ∀ (x3 : Int32) (a_rest : Nat → Int64), x3.toInt < m11 → iv 0 511 x3 → P11 x3 a_rest) (m18 : Int) (hm18 : m18 ≤ x4.toInt) (hP18 : ∀ (x4 : Int32) (a_rest : Nat → Int64), m18 < x4.toInt → iv 0 9 x4 → P18 x4 a_rest) (hpost : ∀ (r : Int64) (a_rest : Nat → Int64), post r a_rest) : q_m_findRest_42 P11 P18 a_choirs f_choir f_voices a_rest x1 x2 x3 x4 x5 x7 post := by
  intro P hP
  have loop : ∀ (n : Nat) (x5 : Int64) (x7 : Int32), (9 - x7.toInt < (n : Int)) → (iv 0 9 x7) → P x5 x7 := by
    intro n
    induction n with
    | zero => intro x5 x7 hm hx7; exact (ms0_up hm hx7).elim
    | succ n ih =>
      intro x5 x7 hm hx7
      apply hP
      refine ⟨fun c1 => ?_, fun c1 => ?_⟩
      · skip
        refine ⟨fun c2 => ?_, fun c2 => ?_⟩
        · skip
          refine ⟨fun c3 => ?_, fun c3 => ?_⟩
          · skip
            exact s_m_findRest_130 k_a_choirs k_f_choir k_f_voices hx1 hx2 hx3 hx4 (iv_add (l := 9) (h := 4607) (iv_mul (l := 9) (h := 4599) (iv_lit (l := 9) (h := 9) (by decide)) hx3 (by decide)) hx4 (by decide)) m11 hm11 hP11 m18 hm18 hP18 hpost
          · skip
            exact (iv_emp (iv_ne (l := 1) (h := 0) c3 (iv_lit (l := 0) (h := 0) (by decide)) (iv_lit (l := 0) (h := 0) (by decide)) (by decide)) (by decide)).elim
        · skip
          refine ⟨fun c4 => ?_, fun c4 => ?_⟩
          · skip
            exact (iv_emp (iv_eqa (l := 1) (h := 0) c4 (iv_lit (l := 1) (h := 1) (by decide)) (iv_lit (l := 0) (h := 0) (by decide)) (by decide)) (by decide)).elim
          · skip
            exact s_m_findRest_130 k_a_choirs k_f_choir k_f_voices hx1 hx2 hx3 hx4 (iv_add (l := 9) (h := 4607) (iv_mul (l := 9) (h := 4599) (iv_lit (l := 9) (h := 9) (by decide)) hx3 (by decide)) hx4 (by decide)) m11 hm11 hP11 m18 hm18 hP18 hpost
      · skip
        refine ⟨fun c5 => ?_, fun c5 => ?_⟩
        · skip
          refine ⟨fun c6 => ?_, fun c6 => ?_⟩
          · skip
            exact (iv_emp (iv_ne (l := 1) (h := 0) c6 (iv_lit (l := 0) (h := 0) (by decide)) (iv_lit (l := 0) (h := 0) (by decide)) (by decide)) (by decide)).elim
          · skip
            refine sp_voice_0 k_a_choirs k_f_choir hx4 (fun r7 hr7 => ?_)
            refine sp_voice_0 k_a_choirs k_f_choir (iv_lta (l := 0) (h := 8) (r_nle c1) hx7 k_f_voices (by decide)) (fun r8 hr8 => ?_)
            refine ⟨fun c9 => ?_, fun c9 => ?_⟩
            · skip
              refine ⟨fun c10 => ?_, fun c10 => ?_⟩
              · skip
                exact s_m_findRest_94 k_a_choirs k_f_choir k_f_voices hx1 hx2 hx3 hx4 (iv_lta (l := 0) (h := 8) (r_nle c1) hx7 k_f_voices (by decide)) m11 hm11 hP11 m18 hm18 hP18 x7.toInt (Int.le_refl _) (fun u0 u1 hq g0 => ih u0 u1 (ms_up hm hq) g0) hpost
              · skip
                exact (iv_emp (iv_ne (l := 1) (h := 0) c10 (iv_lit (l := 0) (h := 0) (by decide)) (iv_lit (l := 0) (h := 0) (by decide)) (by decide)) (by decide)).elim
            · skip
              refine sp_voice_1 k_a_choirs k_f_choir (iv_lta (l := 0) (h := 8) (r_nle c1) hx7 k_f_voices (by decide)) (fun r11 hr11 => ?_)
              refine sp_voice_1 k_a_choirs k_f_choir hx4 (fun r12 hr12 => ?_)
              refine ⟨fun c13 => ?_, fun c13 => ?_⟩
              · skip
                refine ⟨fun c14 => ?_, fun c14 => ?_⟩
                · skip
                  exact s_m_findRest_94 k_a_choirs k_f_choir k_f_voices hx1 hx2 hx3 hx4 (iv_lta (l := 0) (h := 8) (r_nle c1) hx7 k_f_voices (by decide)) m11 hm11 hP11 m18 hm18 hP18 x7.toInt (Int.le_refl _) (fun u0 u1 hq g0 => ih u0 u1 (ms_up hm hq) g0) hpost
                · skip
                  exact (iv_emp (iv_ne (l := 1) (h := 0) c14 (iv_lit (l := 0) (h := 0) (by decide)) (iv_lit (l := 0) (h := 0) (by decide)) (by decide)) (by decide)).elim
              · skip
                refine ⟨fun c15 => ?_, fun c15 => ?_⟩
                · skip
                  exact (iv_emp (iv_eqa (l := 1) (h := 0) c15 (iv_lit (l := 1) (h := 1) (by decide)) (iv_lit (l := 0) (h := 0) (by decide)) (by decide)) (by decide)).elim
                · skip
                  refine ⟨iv_in (iv_add (l := 0) (h := 4607) (iv_mul (l := 0) (h := 4599) (iv_lit (l := 9) (h := 9) (by decide)) (iv_or 9 (l := 0) (h := 511) hx3 (iv_shl1 (l := 1) (h := 256) (iv_lit (l := 1) (h := 1) (by decide)) (iv_lta (l := 0) (h := 8) (r_nle c1) hx7 k_f_voices (by decide)) (by decide)) (by decide)) (by decide)) (iv_lta (l := 0) (h := 8) (r_nle c1) hx7 k_f_voices (by decide)) (by decide)) (by decide), ?_⟩
                  exact s_m_findRest_95 k_a_choirs k_f_choir k_f_voices hx1 hx2 hx3 hx4 (iv_lta (l := 0) (h := 8) (r_nle c1) hx7 k_f_voices (by decide)) m11 hm11 hP11 m18 hm18 hP18 x7.toInt (Int.le_refl _) (fun u0 u1 hq g0 => ih u0 u1 (ms_up hm hq) g0) hpost
        · skip
          refine ⟨fun c16 => ?_, fun c16 => ?_⟩
          · skip
            exact s_m_findRest_94 k_a_choirs k_f_choir k_f_voices hx1 hx2 hx3 hx4 (iv_lta (l := 0) (h := 8) (r_nle c1) hx7 k_f_voices (by decide)) m11 hm11 hP11 m18 hm18 hP18 x7.toInt (Int.le_refl _) (fun u0 u1 hq g0 => ih u0 u1 (ms_up hm hq) g0) hpost
          · skip
            exact (iv_emp (iv_eqa (l := 1) (h := 0) c16 (iv_lit (l := 1) (h := 1) (by decide)) (iv_lit (l := 0) (h := 0) (by decide)) (by decide)) (by decide)).elim
  exact loop _ _ _ (ms_init_up _ _) hx7
set_option maxRecDepth 20000 in
theorem s_m_findRest_37 {P11 : Int32 → (Nat → Int64) → Prop} {P18 : Int32 → (Nat → Int64) → Prop} {a_choirs : Nat → Int32} {f_choir : Int32} {f_voices : Int32} {a_rest : Nat → Int64} {x1 : Int32} {x2 : Int32} {x3 : Int32} {x4 : Int32} {y0 : Int64} {post : Int64 → (Nat → Int64) → Prop} (k_a_choirs : mCho a_choirs) (k_f_choir : iv 0 1 f_choir) (k_f_voices : iv 1 9 f_voices) (hx1 : iv 0 9 x1) (hx2 : iv 0 511 x2) (hx3 : iv 1 511 x3) (hx4 : iv 0 8 x4) (m11 : Int) (hm11 : x3.toInt ≤ m11) (hP11 : ∀ (x3 : Int32) (a_rest : Nat → Int64), x3.toInt < m11 → iv 0 511 x3 → P11 x3 a_rest) (m18 : Int) (hm18 : m18 ≤ x4.toInt) (hP18 : ∀ (x4 : Int32) (a_rest : Nat → Int64), m18 < x4.toInt → iv 0 9 x4 → P18 x4 a_rest) (hpost : ∀ (r : Int64) (a_rest : Nat → Int64), post r a_rest) : q_m_findRest_37 P11 P18 a_choirs f_choir f_voices a_rest x1 x2 x3 x4 y0 post := by
  exact s_m_findRest_42 k_a_choirs k_f_choir k_f_voices hx1 hx2 hx3 hx4 (iv_w (iv_lit (l := 0) (h := 0) (by decide)) (by decide)) m11 hm11 hP11 m18 hm18 hP18 hpost
set_option maxRecDepth 20000 in
theorem s_m_findRest_18 {P11 : Int32 → (Nat → Int64) → Prop} {a_choirs : Nat → Int32} {f_choir : Int32} {f_voices : Int32} {a_rest : Nat → Int64} {x1 : Int32} {x2 : Int32} {x3 : Int32} {x4 : Int32} {post : Int64 → (Nat → Int64) → Prop} (k_a_choirs : mCho a_choirs) (k_f_choir : iv 0 1 f_choir) (k_f_voices : iv 0 9 f_voices) (hx1 : iv 0 9 x1) (hx2 : iv 0 511 x2) (hx3 : iv 1 511 x3) (hx4 : iv 0 9 x4) (m11 : Int) (hm11 : x3.toInt ≤ m11) (hP11 : ∀ (x3 : Int32) (a_rest : Nat → Int64), x3.toInt < m11 → iv 0 511 x3 → P11 x3 a_rest) (hpost : ∀ (r : Int64) (a_rest : Nat → Int64), post r a_rest) : q_m_findRest_18 P11 a_choirs f_choir f_voices a_rest x1 x2 x3 x4 post := by
  intro P hP
  have loop : ∀ (n : Nat) (x4 : Int32) (a_rest : Nat → Int64), (9 - x4.toInt < (n : Int)) → (iv 0 9 x4) → P x4 a_rest := by
    intro n
    induction n with
    | zero => intro x4 a_rest hm hx4; exact (ms0_up hm hx4).elim
    | succ n ih =>
      intro x4 a_rest hm hx4
      apply hP
      refine ⟨fun c1 => ?_, fun c1 => ?_⟩
      · skip
        intro w2 ew2
        have hw2 := iv_eq ew2 (iv_add (l := 0) (h := 510) hx3 (iv_lit (l := (-1)) (h := (-1)) (by decide)) (by decide))
        exact hP11 _ _ (ml_dn hm11 (dec_lt ew2 hx3 (by decide))) (iv_w hw2 (by decide))
      · skip
        refine ⟨fun c3 => ?_, fun c3 => ?_⟩
        · skip
          exact s_m_findRest_37 k_a_choirs k_f_choir (iv_ltb (l := 1) (h := 9) (r_nle c1) hx4 k_f_voices (by decide)) hx1 hx2 hx3 (iv_lta (l := 0) (h := 8) (r_nle c1) hx4 k_f_voices (by decide)) m11 hm11 hP11 x4.toInt (Int.le_refl _) (fun u0 u1 hq g0 => ih u0 u1 (ms_up hm hq) g0) hpost
        · skip
          exact s_m_findRest_37 k_a_choirs k_f_choir (iv_ltb (l := 1) (h := 9) (r_nle c1) hx4 k_f_voices (by decide)) hx1 (iv_w (iv_eqb (l := 1) (h := 511) c3 hx3 hx2 (by decide)) (by decide)) hx3 (iv_lta (l := 0) (h := 8) (r_nle c1) hx4 k_f_voices (by decide)) m11 hm11 hP11 x4.toInt (Int.le_refl _) (fun u0 u1 hq g0 => ih u0 u1 (ms_up hm hq) g0) hpost
  exact loop _ _ _ (ms_init_up _ _) hx4
set_option maxRecDepth 20000 in
theorem s_m_findRest_11 {a_choirs : Nat → Int32} {f_choir : Int32} {f_voices : Int32} {a_rest : Nat → Int64} {x1 : Int32} {x2 : Int32} {x3 : Int32} {post : Int64 → (Nat → Int64) → Prop} (k_a_choirs : mCho a_choirs) (k_f_choir : iv 0 1 f_choir) (k_f_voices : iv 0 9 f_voices) (hx1 : iv 0 9 x1) (hx2 : iv 0 511 x2) (hx3 : iv 0 511 x3) (hpost : ∀ (r : Int64) (a_rest : Nat → Int64), post r a_rest) : q_m_findRest_11 a_choirs f_choir f_voices a_rest x1 x2 x3 post := by
  intro P hP
  have loop : ∀ (n : Nat) (x3 : Int32) (a_rest : Nat → Int64), (x3.toInt - 0 < (n : Int)) → (iv 0 511 x3) → P x3 a_rest := by
    intro n
    induction n with
    | zero => intro x3 a_rest hm hx3; exact (ms0_dn hm hx3).elim
    | succ n ih =>
      intro x3 a_rest hm hx3
      apply hP
      refine ⟨fun c1 => ?_, fun c1 => ?_⟩
      · skip
        refine ⟨fun c2 => ?_, fun c2 => ?_⟩
        · skip
          exact s_m_findRest_155 k_a_choirs k_f_choir (iv_w (iv_ne (l := 1) (h := 9) c2 k_f_voices (iv_lit (l := 0) (h := 0) (by decide)) (by decide)) (by decide)) hpost
        · skip
          exact s_m_findRest_155 k_a_choirs k_f_choir (iv_w (iv_eqa (l := 0) (h := 0) c2 k_f_voices (iv_lit (l := 0) (h := 0) (by decide)) (by decide)) (by decide)) hpost
      · skip
        exact s_m_findRest_18 k_a_choirs k_f_choir k_f_voices hx1 hx2 (iv_ltb (l := 1) (h := 511) (r_nle c1) (iv_lit (l := 0) (h := 0) (by decide)) hx3 (by decide)) (iv_w (iv_lit (l := 0) (h := 0) (by decide)) (by decide)) x3.toInt (Int.le_refl _) (fun u0 u1 hq g0 => ih u0 u1 (ms_dn hm hq) g0) hpost
  exact loop _ _ _ (ms_init_dn _ _) hx3
set_option maxRecDepth 20000 in
theorem s_m_findRest_0 {a_choirs : Nat → Int32} {f_choir : Int32} {f_voices : Int32} {a_rest : Nat → Int64} {x1 : Int32} {post : Int64 → (Nat → Int64) → Prop} (k_a_choirs : mCho a_choirs) (k_f_choir : iv 0 1 f_choir) (k_f_voices : iv 0 9 f_voices) (hx1 : iv 0 9 x1) (hpost : ∀ (r : Int64) (a_rest : Nat → Int64), post r a_rest) : q_m_findRest_0 a_choirs f_choir f_voices a_rest x1 post := by
  intro w1 ew1
  have hw1 := iv_eq ew1 (iv_sub (l := 0) (h := 511) (iv_shl1 (l := 1) (h := 512) (iv_lit (l := 1) (h := 1) (by decide)) k_f_voices (by decide)) (iv_lit (l := 1) (h := 1) (by decide)) (by decide))
  exact s_m_findRest_11 k_a_choirs k_f_choir k_f_voices hx1 hw1 hw1 hpost
end
section
-- m_leastStep
set_option maxRecDepth 20000 in
theorem s_m_leastStep_2 {a_choirs : Nat → Int32} {f_choir : Int32} {f_voices : Int32} {a_rest : Nat → Int64} {x1 : Int32} {post : Int32 → (Nat → Int64) → Prop} (k_a_choirs : mCho a_choirs) (k_f_choir : iv 0 1 f_choir) (k_f_voices : iv 0 9 f_voices) (hx1 : iv 0 10 x1) (hpost : ∀ (r : Int32) (a_rest : Nat → Int64), iv (-1) 9 r → post r a_rest) : q_m_leastStep_2 a_choirs f_choir f_voices a_rest x1 post := by
  intro P hP
  have loop : ∀ (n : Nat) (x1 : Int32) (a_rest : Nat → Int64), (10 - x1.toInt < (n : Int)) → (iv 0 10 x1) → P x1 a_rest := by
    intro n
    induction n with
    | zero => intro x1 a_rest hm hx1; exact (ms0_up hm hx1).elim
    | succ n ih =>
      intro x1 a_rest hm hx1
      apply hP
      refine ⟨fun c1 => ?_, fun c1 => ?_⟩
      · skip
        exact hpost _ _ (iv_w (iv_lit (l := (-1)) (h := (-1)) (by decide)) (by decide))
      · skip
        refine s_m_findRest_0 k_a_choirs k_f_choir k_f_voices (iv_lea (l := 0) (h := 9) (r_nlt c1) hx1 (iv_lit (l := 9) (h := 9) (by decide)) (by decide)) (fun r2 o3 => ?_)
        refine ⟨fun c4 => ?_, fun c4 => ?_⟩
        · skip
          intro w5 ew5
          have hw5 := iv_eq ew5 (iv_add (l := 1) (h := 10) (iv_lea (l := 0) (h := 9) (r_nlt c1) hx1 (iv_lit (l := 9) (h := 9) (by decide)) (by decide)) (iv_lit (l := 1) (h := 1) (by decide)) (by decide))
          exact ih _ _ (ms_up hm (inc_lt ew5 (iv_lea (l := 0) (h := 9) (r_nlt c1) hx1 (iv_lit (l := 9) (h := 9) (by decide)) (by decide)) (by decide))) (iv_w hw5 (by decide))
        · skip
          exact hpost _ _ (iv_w (iv_lea (l := 0) (h := 9) (r_nlt c1) hx1 (iv_lit (l := 9) (h := 9) (by decide)) (by decide)) (by decide))
  exact loop _ _ _ (ms_init_up _ _) hx1
set_option maxRecDepth 20000 in
theorem s_m_leastStep_0 {a_choirs : Nat → Int32} {f_choir : Int32} {f_voices : Int32} {a_rest : Nat → Int64} {post : Int32 → (Nat → Int64) → Prop} (k_a_choirs : mCho a_choirs) (k_f_choir : iv 0 1 f_choir) (k_f_voices : iv 0 9 f_voices) (hpost : ∀ (r : Int32) (a_rest : Nat → Int64), iv (-1) 9 r → post r a_rest) : q_m_leastStep_0 a_choirs f_choir f_voices a_rest post := by
  exact s_m_leastStep_2 k_a_choirs k_f_choir k_f_voices (iv_w (iv_lit (l := 0) (h := 0) (by decide)) (by decide)) hpost
-- m_fall
set_option maxRecDepth 20000 in
theorem s_m_fall_33 {P6 : Int32 → Int32 → Int32 → Prop} {a_choirs : Nat → Int32} {f_choir : Int32} {f_voices : Int32} {x1 : Int32} {x3 : Int32} {y0 : Int32} {y1 : Int32} {post : Int32 → Prop} (k_a_choirs : mCho a_choirs) (k_f_choir : iv 0 1 f_choir) (k_f_voices : iv 1 9 f_voices) (hx1 : iv 0 1023 x1) (hx3 : iv 0 8 x3) (hy1 : iv 0 1 y1) (m6 : Int) (hm6 : m6 ≤ x3.toInt) (hP6 : ∀ (x1 : Int32) (x2 : Int32) (x3 : Int32), m6 < x3.toInt → iv 0 1023 x1 → iv 0 9 x3 → P6 x1 x2 x3) (hpost : ∀ (r : Int32), post r) : q_m_fall_33 P6 a_choirs f_choir f_voices x1 x3 y0 y1 post := by
  intro w1 ew1
  refine sp_voice_1 k_a_choirs k_f_choir hx3 (fun r2 hr2 => ?_)
  intro w3 ew3
  have hw3 := iv_eq ew3 (iv_or 10 (l := 0) (h := 1023) hx1 (iv_shl1 (l := 1) (h := 512) (iv_lit (l := 1) (h := 1) (by decide)) hr2 (by decide)) (by decide))
  intro w4 ew4
  have hw4 := iv_eq ew4 (iv_add (l := 1) (h := 9) hx3 (iv_lit (l := 1) (h := 1) (by decide)) (by decide))
  exact hP6 _ _ _ (ml_up hm6 (inc_lt ew4 hx3 (by decide))) hw3 (iv_w hw4 (by decide))
set_option maxRecDepth 20000 in
theorem s_m_fall_6 {a_choirs : Nat → Int32} {f_choir : Int32} {f_voices : Int32} {x1 : Int32} {x2 : Int32} {x3 : Int32} {post : Int32 → Prop} (k_a_choirs : mCho a_choirs) (k_f_choir : iv 0 1 f_choir) (k_f_voices : iv 0 9 f_voices) (hx1 : iv 0 1023 x1) (hx3 : iv 0 9 x3) (hpost : ∀ (r : Int32), post r) : q_m_fall_6 a_choirs f_choir f_voices x1 x2 x3 post := by
  intro P hP
  have loop : ∀ (n : Nat) (x1 : Int32) (x2 : Int32) (x3 : Int32), (9 - x3.toInt < (n : Int)) → (iv 0 1023 x1) → (iv 0 9 x3) → P x1 x2 x3 := by
    intro n
    induction n with
    | zero => intro x1 x2 x3 hm hx1 hx3; exact (ms0_up hm hx3).elim
    | succ n ih =>
      intro x1 x2 x3 hm hx1 hx3
      apply hP
      refine ⟨fun c1 => ?_, fun c1 => ?_⟩
      · skip
        exact hpost _
      · skip
        refine sp_voice_1 k_a_choirs k_f_choir (iv_lta (l := 0) (h := 8) (r_nle c1) hx3 k_f_voices (by decide)) (fun r2 hr2 => ?_)
        refine ⟨fun c3 => ?_, fun c3 => ?_⟩
        · skip
          refine ⟨fun c4 => ?_, fun c4 => ?_⟩
          · skip
            exact s_m_fall_33 k_a_choirs k_f_choir (iv_ltb (l := 1) (h := 9) (r_nle c1) hx3 k_f_voices (by decide)) hx1 (iv_lta (l := 0) (h := 8) (r_nle c1) hx3 k_f_voices (by decide)) (iv_w (iv_lit (l := 1) (h := 1) (by decide)) (by decide)) x3.toInt (Int.le_refl _) (fun u0 u1 u2 hq g0 g1 => ih u0 u1 u2 (ms_up hm hq) g0 g1) hpost
          · skip
            exact (iv_emp (iv_ne (l := 1) (h := 0) c4 (iv_lit (l := 0) (h := 0) (by decide)) (iv_lit (l := 0) (h := 0) (by decide)) (by decide)) (by decide)).elim
        · skip
          refine ⟨fun c5 => ?_, fun c5 => ?_⟩
          · skip
            exact (iv_emp (iv_eqa (l := 1) (h := 0) c5 (iv_lit (l := 1) (h := 1) (by decide)) (iv_lit (l := 0) (h := 0) (by decide)) (by decide)) (by decide)).elim
          · skip
            exact s_m_fall_33 k_a_choirs k_f_choir (iv_ltb (l := 1) (h := 9) (r_nle c1) hx3 k_f_voices (by decide)) hx1 (iv_lta (l := 0) (h := 8) (r_nle c1) hx3 k_f_voices (by decide)) (iv_w (iv_lit (l := 0) (h := 0) (by decide)) (by decide)) x3.toInt (Int.le_refl _) (fun u0 u1 u2 hq g0 g1 => ih u0 u1 u2 (ms_up hm hq) g0 g1) hpost
  exact loop _ _ _ _ (ms_init_up _ _) hx1 hx3
set_option maxRecDepth 20000 in
theorem s_m_fall_0 {a_choirs : Nat → Int32} {f_choir : Int32} {f_voices : Int32} {post : Int32 → Prop} (k_a_choirs : mCho a_choirs) (k_f_choir : iv 0 1 f_choir) (k_f_voices : iv 0 9 f_voices) (hpost : ∀ (r : Int32), post r) : q_m_fall_0 a_choirs f_choir f_voices post := by
  exact s_m_fall_6 k_a_choirs k_f_choir k_f_voices (iv_w (iv_lit (l := 0) (h := 0) (by decide)) (by decide)) (iv_w (iv_lit (l := 0) (h := 0) (by decide)) (by decide)) hpost
-- m_choir
set_option maxRecDepth 20000 in
theorem s_m_choir_0 {f_code : Int32} {a_many : Nat → Int32} {a_choirs : Nat → Int32} {f_choir : Int32} {f_voices : Int32} {a_rest : Nat → Int64} {x1 : Int32} {x2 : Int32} {post : Int32 → (Int32) → (Int32) → (Int32) → (Nat → Int64) → Prop} (k_f_code : iv 0 0 f_code) (k_a_many : ∀ j, iv 0 2 (a_many j)) (k_a_choirs : mCho a_choirs) (k_f_voices : iv 0 9 f_voices) (hpost : ∀ (r : Int32) (f_code : Int32) (f_choir : Int32) (f_voices : Int32) (a_rest : Nat → Int64), (iv 0 0 f_code) → (iv 0 9 f_voices) → post r f_code f_choir f_voices a_rest) : q_m_choir_0 f_code a_many a_choirs f_choir f_voices a_rest x1 x2 post := by
  refine ⟨iv_in (iv_lit (l := 3) (h := 3) (by decide)) (by decide), ?_⟩
  refine ⟨fun c1 => ?_, fun c1 => ?_⟩
  · skip
    refine ⟨iv_nb (iv_lit (l := 0) (h := 0) (by decide)) (by decide), ?_⟩
    refine ⟨fun c2 => ?_, fun c2 => ?_⟩
    · skip
      exact (iv_emp (iv_ne (l := 1) (h := 0) c2 (iv_lit (l := 0) (h := 0) (by decide)) (iv_lit (l := 0) (h := 0) (by decide)) (by decide)) (by decide)).elim
    · skip
      refine ⟨fun c3 => ?_, fun c3 => ?_⟩
      · skip
        exact (iv_emp (iv_ne (l := 1) (h := 0) c3 (iv_lit (l := 0) (h := 0) (by decide)) (iv_lit (l := 0) (h := 0) (by decide)) (by decide)) (by decide)).elim
      · skip
        exact hpost _ _ _ _ _ (iv_lit (l := 0) (h := 0) (by decide)) k_f_voices
  · skip
    refine ⟨fun c4 => ?_, fun c4 => ?_⟩
    · skip
      refine ⟨iv_nb (iv_lit (l := 0) (h := 0) (by decide)) (by decide), ?_⟩
      refine ⟨fun c5 => ?_, fun c5 => ?_⟩
      · skip
        exact (iv_emp (iv_ne (l := 1) (h := 0) c5 (iv_lit (l := 0) (h := 0) (by decide)) (iv_lit (l := 0) (h := 0) (by decide)) (by decide)) (by decide)).elim
      · skip
        refine ⟨fun c6 => ?_, fun c6 => ?_⟩
        · skip
          exact (iv_emp (iv_ne (l := 1) (h := 0) c6 (iv_lit (l := 0) (h := 0) (by decide)) (iv_lit (l := 0) (h := 0) (by decide)) (by decide)) (by decide)).elim
        · skip
          exact hpost _ _ _ _ _ (iv_lit (l := 0) (h := 0) (by decide)) k_f_voices
    · skip
      refine ⟨iv_nb (iv_lit (l := 1) (h := 1) (by decide)) (by decide), ?_⟩
      refine ⟨fun c7 => ?_, fun c7 => ?_⟩
      · skip
        refine ⟨iv_in (iv_mul (l := 0) (h := 20) (iv_lit (l := 20) (h := 20) (by decide)) (iv_lea (l := 0) (h := 1) (r_nlt c4) (iv_leb (l := 0) (h := 2147483647) (r_nlt c1) (iv_lit (l := 0) (h := 0) (by decide)) (iv_top x1) (by decide)) (iv_sub (l := (-1)) (h := 1) (k_a_many _) (iv_lit (l := 1) (h := 1) (by decide)) (by decide)) (by decide)) (by decide)) (by decide), ?_⟩
        intro w8 ew8
        have hw8 := iv_eq ew8 (cho_0 k_a_choirs (iv_lea (l := 0) (h := 1) (r_nlt c4) (iv_leb (l := 0) (h := 2147483647) (r_nlt c1) (iv_lit (l := 0) (h := 0) (by decide)) (iv_top x1) (by decide)) (iv_sub (l := (-1)) (h := 1) (k_a_many _) (iv_lit (l := 1) (h := 1) (by decide)) (by decide)) (by decide)))
        refine ⟨fun c9 => ?_, fun c9 => ?_⟩
        · skip
          refine ⟨fun c10 => ?_, fun c10 => ?_⟩
          · skip
            refine ⟨fun c11 => ?_, fun c11 => ?_⟩
            · skip
              refine ⟨fun c12 => ?_, fun c12 => ?_⟩
              · skip
                refine ⟨fun c13 => ?_, fun c13 => ?_⟩
                · skip
                  refine ⟨fun c14 => ?_, fun c14 => ?_⟩
                  · skip
                    refine ⟨fun c15 => ?_, fun c15 => ?_⟩
                    · skip
                      refine ⟨fun c16 => ?_, fun c16 => ?_⟩
                      · skip
                        refine ⟨fun c17 => ?_, fun c17 => ?_⟩
                        · skip
                          exact hpost _ _ _ _ _ (iv_lit (l := 0) (h := 0) (by decide)) hw8
                        · skip
                          refine s_m_fall_0 k_a_choirs (iv_lea (l := 0) (h := 1) (r_nlt c4) (iv_leb (l := 0) (h := 2147483647) (r_nlt c1) (iv_lit (l := 0) (h := 0) (by decide)) (iv_top x1) (by decide)) (iv_sub (l := (-1)) (h := 1) (k_a_many _) (iv_lit (l := 1) (h := 1) (by decide)) (by decide)) (by decide)) hw8 (fun r18 => ?_)
                          exact hpost _ _ _ _ _ (iv_lit (l := 0) (h := 0) (by decide)) hw8
                      · skip
                        refine s_m_leastStep_0 k_a_choirs (iv_lea (l := 0) (h := 1) (r_nlt c4) (iv_leb (l := 0) (h := 2147483647) (r_nlt c1) (iv_lit (l := 0) (h := 0) (by decide)) (iv_top x1) (by decide)) (iv_sub (l := (-1)) (h := 1) (k_a_many _) (iv_lit (l := 1) (h := 1) (by decide)) (by decide)) (by decide)) hw8 (fun r19 o20 hr19 => ?_)
                        exact hpost _ _ _ _ _ (iv_lit (l := 0) (h := 0) (by decide)) hw8
                    · skip
                      refine sp_stepOf k_a_choirs (iv_lea (l := 0) (h := 1) (r_nlt c4) (iv_leb (l := 0) (h := 2147483647) (r_nlt c1) (iv_lit (l := 0) (h := 0) (by decide)) (iv_top x1) (by decide)) (iv_sub (l := (-1)) (h := 1) (k_a_many _) (iv_lit (l := 1) (h := 1) (by decide)) (by decide)) (by decide)) (fun r21 hr21 => ?_)
                      exact hpost _ _ _ _ _ (iv_lit (l := 0) (h := 0) (by decide)) hw8
                  · skip
                    exact hpost _ _ _ _ _ (iv_lit (l := 0) (h := 0) (by decide)) hw8
                · skip
                  exact (iv_emp (iv_ne (l := 1) (h := 0) c13 (iv_lit (l := 0) (h := 0) (by decide)) (iv_lit (l := 0) (h := 0) (by decide)) (by decide)) (by decide)).elim
              · skip
                exact (iv_emp (iv_lea (l := 20) (h := 9) (r_nlt c12) (iv_lit (l := 20) (h := 20) (by decide)) (iv_lta (l := (-2147483648)) (h := 9) (r_lt c10) (iv_top x2) (iv_lit (l := 10) (h := 10) (by decide)) (by decide)) (by decide)) (by decide)).elim
            · skip
              exact (iv_emp (iv_ne (l := 1) (h := 0) c11 (iv_lit (l := 0) (h := 0) (by decide)) (iv_lit (l := 0) (h := 0) (by decide)) (by decide)) (by decide)).elim
          · skip
            refine ⟨fun c22 => ?_, fun c22 => ?_⟩
            · skip
              refine ⟨fun c23 => ?_, fun c23 => ?_⟩
              · skip
                refine ⟨fun c24 => ?_, fun c24 => ?_⟩
                · skip
                  refine ⟨fun c25 => ?_, fun c25 => ?_⟩
                  · skip
                    refine ⟨fun c26 => ?_, fun c26 => ?_⟩
                    · skip
                      refine ⟨fun c27 => ?_, fun c27 => ?_⟩
                      · skip
                        refine ⟨fun c28 => ?_, fun c28 => ?_⟩
                        · skip
                          refine ⟨fun c29 => ?_, fun c29 => ?_⟩
                          · skip
                            exact hpost _ _ _ _ _ (iv_lit (l := 0) (h := 0) (by decide)) hw8
                          · skip
                            exact (iv_emp (iv_eqa (l := 10) (h := 3) c29 (iv_lta (l := 10) (h := 19) (r_lt c24) (iv_leb (l := 10) (h := 2147483647) (r_nlt c10) (iv_lit (l := 10) (h := 10) (by decide)) (iv_top x2) (by decide)) (iv_lit (l := 20) (h := 20) (by decide)) (by decide)) (iv_lit (l := 3) (h := 3) (by decide)) (by decide)) (by decide)).elim
                        · skip
                          exact (iv_emp (iv_eqa (l := 10) (h := 2) c28 (iv_lta (l := 10) (h := 19) (r_lt c24) (iv_leb (l := 10) (h := 2147483647) (r_nlt c10) (iv_lit (l := 10) (h := 10) (by decide)) (iv_top x2) (by decide)) (iv_lit (l := 20) (h := 20) (by decide)) (by decide)) (iv_lit (l := 2) (h := 2) (by decide)) (by decide)) (by decide)).elim
                      · skip
                        exact (iv_emp (iv_eqa (l := 10) (h := 1) c27 (iv_lta (l := 10) (h := 19) (r_lt c24) (iv_leb (l := 10) (h := 2147483647) (r_nlt c10) (iv_lit (l := 10) (h := 10) (by decide)) (iv_top x2) (by decide)) (iv_lit (l := 20) (h := 20) (by decide)) (by decide)) (iv_lit (l := 1) (h := 1) (by decide)) (by decide)) (by decide)).elim
                    · skip
                      exact (iv_emp (iv_eqa (l := 10) (h := 0) c26 (iv_lta (l := 10) (h := 19) (r_lt c24) (iv_leb (l := 10) (h := 2147483647) (r_nlt c10) (iv_lit (l := 10) (h := 10) (by decide)) (iv_top x2) (by decide)) (iv_lit (l := 20) (h := 20) (by decide)) (by decide)) (iv_lit (l := 0) (h := 0) (by decide)) (by decide)) (by decide)).elim
                  · skip
                    exact (iv_emp (iv_ne (l := 1) (h := 0) c25 (iv_lit (l := 0) (h := 0) (by decide)) (iv_lit (l := 0) (h := 0) (by decide)) (by decide)) (by decide)).elim
                · skip
                  refine ⟨fun c30 => ?_, fun c30 => ?_⟩
                  · skip
                    refine ⟨fun c31 => ?_, fun c31 => ?_⟩
                    · skip
                      refine ⟨fun c32 => ?_, fun c32 => ?_⟩
                      · skip
                        refine ⟨fun c33 => ?_, fun c33 => ?_⟩
                        · skip
                          refine ⟨fun c34 => ?_, fun c34 => ?_⟩
                          · skip
                            refine ⟨fun c35 => ?_, fun c35 => ?_⟩
                            · skip
                              exact hpost _ _ _ _ _ (iv_lit (l := 0) (h := 0) (by decide)) hw8
                            · skip
                              exact (iv_emp (iv_eqa (l := 20) (h := 3) c35 (iv_leb (l := 20) (h := 2147483647) (r_nlt c24) (iv_lit (l := 20) (h := 20) (by decide)) (iv_leb (l := 10) (h := 2147483647) (r_nlt c10) (iv_lit (l := 10) (h := 10) (by decide)) (iv_top x2) (by decide)) (by decide)) (iv_lit (l := 3) (h := 3) (by decide)) (by decide)) (by decide)).elim
                          · skip
                            exact (iv_emp (iv_eqa (l := 20) (h := 2) c34 (iv_leb (l := 20) (h := 2147483647) (r_nlt c24) (iv_lit (l := 20) (h := 20) (by decide)) (iv_leb (l := 10) (h := 2147483647) (r_nlt c10) (iv_lit (l := 10) (h := 10) (by decide)) (iv_top x2) (by decide)) (by decide)) (iv_lit (l := 2) (h := 2) (by decide)) (by decide)) (by decide)).elim
                        · skip
                          exact (iv_emp (iv_eqa (l := 20) (h := 1) c33 (iv_leb (l := 20) (h := 2147483647) (r_nlt c24) (iv_lit (l := 20) (h := 20) (by decide)) (iv_leb (l := 10) (h := 2147483647) (r_nlt c10) (iv_lit (l := 10) (h := 10) (by decide)) (iv_top x2) (by decide)) (by decide)) (iv_lit (l := 1) (h := 1) (by decide)) (by decide)) (by decide)).elim
                      · skip
                        exact (iv_emp (iv_eqa (l := 20) (h := 0) c32 (iv_leb (l := 20) (h := 2147483647) (r_nlt c24) (iv_lit (l := 20) (h := 20) (by decide)) (iv_leb (l := 10) (h := 2147483647) (r_nlt c10) (iv_lit (l := 10) (h := 10) (by decide)) (iv_top x2) (by decide)) (by decide)) (iv_lit (l := 0) (h := 0) (by decide)) (by decide)) (by decide)).elim
                    · skip
                      exact (iv_emp (iv_ne (l := 1) (h := 0) c31 (iv_lit (l := 0) (h := 0) (by decide)) (iv_lit (l := 0) (h := 0) (by decide)) (by decide)) (by decide)).elim
                  · skip
                    refine ⟨fun c36 => ?_, fun c36 => ?_⟩
                    · skip
                      exact (iv_emp (iv_eqa (l := 1) (h := 0) c36 (iv_lit (l := 1) (h := 1) (by decide)) (iv_lit (l := 0) (h := 0) (by decide)) (by decide)) (by decide)).elim
                    · skip
                      refine sp_voice_1 k_a_choirs (iv_lea (l := 0) (h := 1) (r_nlt c4) (iv_leb (l := 0) (h := 2147483647) (r_nlt c1) (iv_lit (l := 0) (h := 0) (by decide)) (iv_top x1) (by decide)) (iv_sub (l := (-1)) (h := 1) (k_a_many _) (iv_lit (l := 1) (h := 1) (by decide)) (by decide)) (by decide)) (iv_sub (l := 0) (h := 8) (iv_lea (l := 20) (h := 28) (r_nlt c30) (iv_leb (l := 20) (h := 2147483647) (r_nlt c24) (iv_lit (l := 20) (h := 20) (by decide)) (iv_leb (l := 10) (h := 2147483647) (r_nlt c10) (iv_lit (l := 10) (h := 10) (by decide)) (iv_top x2) (by decide)) (by decide)) (iv_add (l := 19) (h := 28) (iv_lit (l := 19) (h := 19) (by decide)) hw8 (by decide)) (by decide)) (iv_lit (l := 20) (h := 20) (by decide)) (by decide)) (fun r37 hr37 => ?_)
                      exact hpost _ _ _ _ _ (iv_lit (l := 0) (h := 0) (by decide)) hw8
              · skip
                exact (iv_emp (iv_ne (l := 1) (h := 0) c23 (iv_lit (l := 0) (h := 0) (by decide)) (iv_lit (l := 0) (h := 0) (by decide)) (by decide)) (by decide)).elim
            · skip
              refine ⟨fun c38 => ?_, fun c38 => ?_⟩
              · skip
                exact (iv_emp (iv_eqa (l := 1) (h := 0) c38 (iv_lit (l := 1) (h := 1) (by decide)) (iv_lit (l := 0) (h := 0) (by decide)) (by decide)) (by decide)).elim
              · skip
                refine sp_voice_0 k_a_choirs (iv_lea (l := 0) (h := 1) (r_nlt c4) (iv_leb (l := 0) (h := 2147483647) (r_nlt c1) (iv_lit (l := 0) (h := 0) (by decide)) (iv_top x1) (by decide)) (iv_sub (l := (-1)) (h := 1) (k_a_many _) (iv_lit (l := 1) (h := 1) (by decide)) (by decide)) (by decide)) (iv_sub (l := 0) (h := 8) (iv_lea (l := 10) (h := 18) (r_nlt c22) (iv_leb (l := 10) (h := 2147483647) (r_nlt c10) (iv_lit (l := 10) (h := 10) (by decide)) (iv_top x2) (by decide)) (iv_add (l := 9) (h := 18) (iv_lit (l := 9) (h := 9) (by decide)) hw8 (by decide)) (by decide)) (iv_lit (l := 10) (h := 10) (by decide)) (by decide)) (fun r39 hr39 => ?_)
                exact hpost _ _ _ _ _ (iv_lit (l := 0) (h := 0) (by decide)) hw8
        · skip
          exact (iv_emp (iv_eqa (l := 1) (h := 0) c9 (iv_lit (l := 1) (h := 1) (by decide)) (iv_lit (l := 0) (h := 0) (by decide)) (by decide)) (by decide)).elim
      · skip
        exact (iv_emp (iv_eqa (l := 1) (h := 0) c7 (iv_lit (l := 1) (h := 1) (by decide)) (iv_lit (l := 0) (h := 0) (by decide)) (by decide)) (by decide)).elim
-- m_orders
set_option maxRecDepth 20000 in
theorem s_m_orders_0 {f_code : Int32} {a_many : Nat → Int32} {a_choirs : Nat → Int32} {f_choir : Int32} {f_voices : Int32} {a_rest : Nat → Int64} {x1 : Int32} {post : Int64 → (Int32) → (Int32) → (Int32) → (Nat → Int64) → Prop} (k_f_code : iv 0 0 f_code) (k_a_many : ∀ j, iv 0 2 (a_many j)) (k_a_choirs : mCho a_choirs) (k_f_voices : iv 0 9 f_voices) (hpost : ∀ (r : Int64) (f_code : Int32) (f_choir : Int32) (f_voices : Int32) (a_rest : Nat → Int64), (iv 0 0 f_code) → (iv 0 9 f_voices) → post r f_code f_choir f_voices a_rest) : q_m_orders_0 f_code a_many a_choirs f_choir f_voices a_rest x1 post := by
  refine ⟨iv_in (iv_lit (l := 3) (h := 3) (by decide)) (by decide), ?_⟩
  refine ⟨fun c1 => ?_, fun c1 => ?_⟩
  · skip
    refine ⟨iv_nb (iv_lit (l := 0) (h := 0) (by decide)) (by decide), ?_⟩
    refine ⟨fun c2 => ?_, fun c2 => ?_⟩
    · skip
      exact (iv_emp (iv_ne (l := 1) (h := 0) c2 (iv_lit (l := 0) (h := 0) (by decide)) (iv_lit (l := 0) (h := 0) (by decide)) (by decide)) (by decide)).elim
    · skip
      refine ⟨fun c3 => ?_, fun c3 => ?_⟩
      · skip
        exact hpost _ _ _ _ _ (iv_lit (l := 0) (h := 0) (by decide)) k_f_voices
      · skip
        exact (iv_emp (iv_ne (l := 1) (h := 0) c3 (iv_lit (l := 0) (h := 0) (by decide)) (iv_lit (l := 0) (h := 0) (by decide)) (by decide)) (by decide)).elim
  · skip
    refine ⟨fun c4 => ?_, fun c4 => ?_⟩
    · skip
      refine ⟨iv_nb (iv_lit (l := 0) (h := 0) (by decide)) (by decide), ?_⟩
      refine ⟨fun c5 => ?_, fun c5 => ?_⟩
      · skip
        exact (iv_emp (iv_ne (l := 1) (h := 0) c5 (iv_lit (l := 0) (h := 0) (by decide)) (iv_lit (l := 0) (h := 0) (by decide)) (by decide)) (by decide)).elim
      · skip
        refine ⟨fun c6 => ?_, fun c6 => ?_⟩
        · skip
          exact hpost _ _ _ _ _ (iv_lit (l := 0) (h := 0) (by decide)) k_f_voices
        · skip
          exact (iv_emp (iv_ne (l := 1) (h := 0) c6 (iv_lit (l := 0) (h := 0) (by decide)) (iv_lit (l := 0) (h := 0) (by decide)) (by decide)) (by decide)).elim
    · skip
      refine ⟨iv_nb (iv_lit (l := 1) (h := 1) (by decide)) (by decide), ?_⟩
      refine ⟨fun c7 => ?_, fun c7 => ?_⟩
      · skip
        refine ⟨iv_in (iv_mul (l := 0) (h := 20) (iv_lit (l := 20) (h := 20) (by decide)) (iv_lea (l := 0) (h := 1) (r_nlt c4) (iv_leb (l := 0) (h := 2147483647) (r_nlt c1) (iv_lit (l := 0) (h := 0) (by decide)) (iv_top x1) (by decide)) (iv_sub (l := (-1)) (h := 1) (k_a_many _) (iv_lit (l := 1) (h := 1) (by decide)) (by decide)) (by decide)) (by decide)) (by decide), ?_⟩
        intro w8 ew8
        have hw8 := iv_eq ew8 (cho_0 k_a_choirs (iv_lea (l := 0) (h := 1) (r_nlt c4) (iv_leb (l := 0) (h := 2147483647) (r_nlt c1) (iv_lit (l := 0) (h := 0) (by decide)) (iv_top x1) (by decide)) (iv_sub (l := (-1)) (h := 1) (k_a_many _) (iv_lit (l := 1) (h := 1) (by decide)) (by decide)) (by decide)))
        refine ⟨fun c9 => ?_, fun c9 => ?_⟩
        · skip
          exact (iv_emp (iv_eqa (l := 1) (h := 0) c9 (iv_lit (l := 1) (h := 1) (by decide)) (iv_lit (l := 0) (h := 0) (by decide)) (by decide)) (by decide)).elim
        · skip
          refine sp_stepOf k_a_choirs (iv_lea (l := 0) (h := 1) (r_nlt c4) (iv_leb (l := 0) (h := 2147483647) (r_nlt c1) (iv_lit (l := 0) (h := 0) (by decide)) (iv_top x1) (by decide)) (iv_sub (l := (-1)) (h := 1) (k_a_many _) (iv_lit (l := 1) (h := 1) (by decide)) (by decide)) (by decide)) (fun r10 hr10 => ?_)
          refine s_m_findRest_0 k_a_choirs (iv_lea (l := 0) (h := 1) (r_nlt c4) (iv_leb (l := 0) (h := 2147483647) (r_nlt c1) (iv_lit (l := 0) (h := 0) (by decide)) (iv_top x1) (by decide)) (iv_sub (l := (-1)) (h := 1) (k_a_many _) (iv_lit (l := 1) (h := 1) (by decide)) (by decide)) (by decide)) hw8 hr10 (fun r11 o12 => ?_)
          exact hpost _ _ _ _ _ (iv_lit (l := 0) (h := 0) (by decide)) hw8
      · skip
        exact (iv_emp (iv_eqa (l := 1) (h := 0) c7 (iv_lit (l := 1) (h := 1) (by decide)) (iv_lit (l := 0) (h := 0) (by decide)) (by decide)) (by decide)).elim
-- m_order
/-- a bit of a set -/
def bt (s k : Nat) : Prop := ((nI s >>> (nI k &&& 31)) &&& 1) = 1
def bc (s : Nat) : Nat := (List.range 9).countP (fun k => s.testBit k)
theorem od_1 : ∀ s, s < 512 → ∀ k, k < 9 → (nI s ||| ((1 : Int32) <<< (nI k &&& 31))) = nI (s ||| 2 ^ k) := by decide +kernel
theorem od_3 : ∀ s, s < 512 → ∀ k, k < 9 → ¬ ((nI s >>> (nI k &&& 31)) &&& 1) = 1 → s < s ||| 2 ^ k := by decide +kernel
theorem od_4 : ∀ s, s < 512 → ∀ k, k < 9 → ((nI (s ||| 2 ^ k) >>> (nI k &&& 31)) &&& 1) = 1 := by decide +kernel
theorem od_5 : ∀ s, s < 512 → ∀ k, k < 9 → ¬ ((nI s >>> (nI k &&& 31)) &&& 1) = 1 → bc (s ||| 2 ^ k) = bc s + 1 := by decide +kernel
theorem od_6 : ∀ V, V < 10 → bc (2 ^ V - 1) = V := by decide +kernel
theorem od_7 : ∀ V, V < 10 → (((1 : Int32) <<< (nI V &&& 31)) - (1 : Int32)) = nI (2 ^ V - 1) := by decide +kernel
theorem od_8 : ∀ k, k < 9 → ((9 : Int32) * ((1 : Int32) <<< (nI k &&& 31))) + nI k = nI (9 * 2 ^ k + k) := by decide +kernel
theorem od_p {V : Nat} (h : V ≤ 9) : 2 ^ V ≤ 512 := Nat.le_trans (Nat.pow_le_pow_right (by omega) h) (by decide)
theorem od_or {V s k : Nat} (hs : s < 2 ^ V) (hk : k < V) : s ||| 2 ^ k < 2 ^ V := Nat.or_lt_two_pow hs (Nat.pow_lt_pow_right (by omega) hk)
theorem od_ix {s k : Nat} : ((9 : Int32) * nI s) + nI k = nI (9 * s + k) := by
  have e : (9 : Int32) = nI 9 := rfl
  rw [e, pk_mul, nI_add]
/-- who may stand behind whom -/
def fo (ch : Nat → Int32) (C : Nat) (st : Int32) (a k : Nat) : Prop := ¬ ch (20 * C + 1 + 2 * a) = ch (20 * C + 1 + 2 * k) ∧ ¬ (ch (20 * C + 1 + 2 * a + 1) + st) < ch (20 * C + 1 + 2 * k + 1)
theorem sp_voiceE {ch : Nat → Int32} {C k w : Nat} {post : Int32 → Prop} (hC : C ≤ 1) (hk : k < 9) (hw : w ≤ 1) (hp : post (ch (20 * C + 1 + 2 * k + w))) : q_m_voice_0 ch (nI C) (nI k) (nI w) post := by
  have e1 : (20 : Int32) = nI 20 := rfl
  unfold q_m_voice_0
  rw [e1, ix2 20]
  refine ⟨vp_in_nI (by omega) (by omega), ?_⟩
  rw [nI_clamp (by omega)]
  exact hp
theorem sp_stepE {ch : Nat → Int32} {C : Nat} {post : Int32 → Prop} (hC : C ≤ 1) (hp : post (ch (20 * C + 19))) : q_m_stepOf_0 ch (nI C) post := by
  have e1 : (20 : Int32) = nI 20 := rfl
  have e2 : (19 : Int32) = nI 19 := rfl
  unfold q_m_stepOf_0
  rw [e1, e2, pk_mul, nI_add]
  refine ⟨vp_in_nI (by omega) (by omega), ?_⟩
  rw [nI_clamp (by omega)]
  exact hp
theorem sp_follows {ch : Nat → Int32} {C a k : Nat} {st : Int32} {post : Int32 → Prop} (hC : C ≤ 1) (ha : a < 9) (hk : k < 9) (h1 : fo ch C st a k → post 1) (h0 : ¬ fo ch C st a k → post 0) : q_m_follows_0 ch (nI C) (nI a) (nI k) st post :=
  sp_voiceE (w := 0) hC ha (by omega) (sp_voiceE (w := 0) hC hk (by omega) ⟨fun e => h0 (fun h => h.1 e), fun e => sp_voiceE (w := 1) hC hk (by omega) (sp_voiceE (w := 1) hC ha (by omega) ⟨fun g => h0 (fun h => h.2 g), fun g => h1 ⟨e, g⟩⟩)⟩)
def odQ (ch : Nat → Int32) (C V : Nat) (st : Int32) (rest : Nat → Int64) (s a : Nat) : Prop := s ≠ 2 ^ V - 1 → bt s a → ¬ rest (9 * s + a) = 0 → ∃ k, k < V ∧ ¬ bt s k ∧ fo ch C st a k ∧ ¬ rest (9 * (s ||| 2 ^ k) + k) = 0
theorem odQ_upd {ch : Nat → Int32} {C V : Nat} {st : Int32} {rest : Nat → Int64} {s a s0 a0 : Nat} {v : Int64} (hV : V ≤ 9) (hs : s < 2 ^ V) (h0 : s0 ≤ s) (ha : a < V) (ha0 : a0 < V) (hne : s0 < s ∨ a ≠ a0) (h : odQ ch C V st rest s a) : odQ ch C V st (vp_updL rest (9 * s0 + a0) v) s a := by
  have hp := od_p hV
  intro h1 h2 h3
  have e : vp_updL rest (9 * s0 + a0) v (9 * s + a) = rest (9 * s + a) := by unfold vp_updL; rw [if_neg (by omega)]
  rw [e] at h3
  obtain ⟨k, hk, g1, g2, g3⟩ := h h1 h2 h3
  refine ⟨k, hk, g1, g2, ?_⟩
  have hlt := od_3 s (by omega) k (by omega) g1
  have e2 : vp_updL rest (9 * s0 + a0) v (9 * (s ||| 2 ^ k) + k) = rest (9 * (s ||| 2 ^ k) + k) := by unfold vp_updL; rw [if_neg (by omega)]
  rw [e2]
  exact g3
theorem od_add {x y : Int64} (h : ¬ x + y = 0) : ¬ x = 0 ∨ ¬ y = 0 := by
  by_cases hx : x = 0
  · right
    intro hy
    subst hx hy
    exact h (by decide)
  · exact Or.inl hx
theorem sp_findRestE {ch : Nat → Int32} {C V : Nat} {st : Int32} {rest : Nat → Int64} {post : Int64 → (Nat → Int64) → Prop} (hC : C ≤ 1) (hV : V ≤ 9)
    (hpost : ∀ (r : Int64) (rest : Nat → Int64), (∀ t, 0 < t → t < 2 ^ V → ∀ a, a < V → odQ ch C V st rest t a) → (¬ r = 0 → 0 < V → ∃ k, k < V ∧ ¬ rest (9 * 2 ^ k + k) = 0) → post r rest) : q_m_findRest_0 ch (nI C) (nI V) rest st post := by
  have hp := od_p hV
  intro v1 ev
  rw [od_7 V (by omega)] at ev
  subst ev
  intro P hP
  have tail : ∀ (rest : Nat → Int64) (y : Int64), (∀ t, 0 < t → t < 2 ^ V → ∀ a, a < V → odQ ch C V st rest t a) → (0 < V → y = 0) → q_m_findRest_155 ch (nI C) (nI V) rest y post := by
    intro rest y hR hy P2 hP2
    have loop : ∀ (n j : Nat) (x : Int64), n + j = V → (¬ x = 0 → 0 < V → ∃ k, k < j ∧ ¬ rest (9 * 2 ^ k + k) = 0) → P2 x (nI j) := by
      intro n
      induction n with
      | zero =>
        intro j x hj hx
        apply hP2
        refine ⟨fun _ => hpost x rest hR (fun h1 h2 => ?_), fun h => absurd (nI_le (by omega) (by omega)) h⟩
        obtain ⟨k, hk, e⟩ := hx h1 h2
        exact ⟨k, by omega, e⟩
      | succ n ih =>
        intro j x hj hx
        apply hP2
        refine ⟨fun h => absurd h (nI_ge (by omega) (by omega)), fun _ => ?_⟩
        rw [od_8 j (by omega)]
        have hj2 : 2 ^ j ≤ 256 := Nat.le_trans (Nat.pow_le_pow_right (by omega) (show j ≤ 8 by omega)) (by decide)
        refine ⟨vp_in_nI (by omega) (by omega), fun v1 e1 v2 e2 => ?_⟩
        rw [nI_clamp (by omega)] at e1
        rw [e2, nI_1]
        refine ih (j + 1) v1 (by omega) (fun h1 h2 => ?_)
        rw [e1] at h1
        rcases od_add h1 with h3 | h3
        · obtain ⟨k, hk, e⟩ := hx h3 h2
          exact ⟨k, by omega, e⟩
        · exact ⟨j, by omega, h3⟩
    refine loop V 0 y (by omega) (fun h1 h2 => absurd (hy h2) h1)
  have loop : ∀ (s : Nat) (rest : Nat → Int64), s < 2 ^ V → (∀ t, s < t → t < 2 ^ V → ∀ a, a < V → odQ ch C V st rest t a) → P (nI s) rest := by
    intro s
    induction s with
    | zero =>
      intro rest hs hR
      apply hP
      refine ⟨fun _ => ⟨fun _ => tail rest 0 hR (fun _ => rfl), fun h0 => tail rest 1 hR (fun h => ?_)⟩, fun h => absurd (by decide) h⟩
      exact absurd h0 (nI_ne0 h (by omega))
    | succ s ih =>
      intro rest hs hR
      apply hP
      refine ⟨fun h => absurd h (nI_nle (by omega) (by omega)), fun _ => ?_⟩
      intro P2 hP2
      have loop2 : ∀ (n a : Nat) (rest : Nat → Int64), n + a = V → (∀ t, s + 1 < t → t < 2 ^ V → ∀ a, a < V → odQ ch C V st rest t a) → (∀ b, b < a → odQ ch C V st rest (s + 1) b) → P2 (nI a) rest := by
        intro n
        induction n with
        | zero =>
          intro a rest ha hR hQ
          apply hP2
          refine ⟨fun _ v1 e1 => ?_, fun h => absurd (nI_le (by omega) (by omega)) h⟩
          rw [e1, pk_m1]
          refine ih rest (by omega) (fun t ht ht2 b hb => ?_)
          by_cases he : t = s + 1
          · subst he; exact hQ b (by omega)
          · exact hR t (by omega) ht2 b hb
        | succ n ih2 =>
          intro a rest ha hR hQ
          apply hP2
          refine ⟨fun h => absurd h (nI_ge (by omega) (by omega)), fun _ => ?_⟩
          have fin_ : ∀ v : Int64, (s + 1 ≠ 2 ^ V - 1 → bt (s + 1) a → ¬ v = 0 → ∃ k, k < V ∧ ¬ bt (s + 1) k ∧ fo ch C st a k ∧ ¬ rest (9 * ((s + 1) ||| 2 ^ k) + k) = 0) → q_m_findRest_130 P P2 ch (nI C) (nI V) rest st (nI (2 ^ V - 1)) (nI (s + 1)) (nI a) (((9 : Int32) * nI (s + 1)) + nI a) v post := by
            intro v hv
            rw [od_ix]
            refine ⟨vp_in_nI (by omega) (by omega), fun rest1 er v1 e1 => ?_⟩
            rw [nI_clamp (by omega)] at er
            rw [e1, nI_1]
            refine ih2 (a + 1) rest1 (by omega) (fun t ht ht2 b hb => ?_) (fun b hb => ?_)
            · rw [er]
              exact odQ_upd hV ht2 (by omega) hb (by omega) (Or.inl ht) (hR t ht ht2 b hb)
            · by_cases he : b = a
              · subst he
                intro g1 g2 g3
                have e3 : rest1 (9 * (s + 1) + b) = v := by rw [er]; unfold vp_updL; rw [if_pos rfl]
                rw [e3] at g3
                obtain ⟨k, hk, k1, k2, k3⟩ := hv g1 g2 g3
                refine ⟨k, hk, k1, k2, ?_⟩
                have hlt := od_3 (s + 1) (by omega) k (by omega) k1
                have e4 : rest1 (9 * ((s + 1) ||| 2 ^ k) + k) = rest (9 * ((s + 1) ||| 2 ^ k) + k) := by rw [er]; unfold vp_updL; rw [if_neg (by omega)]
                rw [e4]
                exact k3
              · rw [er]
                exact odQ_upd hV hs (Nat.le_refl _) (by omega) (by omega) (Or.inr he) (hQ b (by omega))
          have inner : ∀ y : Int64, (s + 1 ≠ 2 ^ V - 1 → y = 0) → q_m_findRest_37 P P2 ch (nI C) (nI V) rest st (nI (2 ^ V - 1)) (nI (s + 1)) (nI a) y post := by
            intro y hy P3 hP3
            have loop3 : ∀ (q j : Nat) (x : Int64), q + j = V → (s + 1 ≠ 2 ^ V - 1 → ¬ x = 0 → ∃ k, k < V ∧ ¬ bt (s + 1) k ∧ fo ch C st a k ∧ ¬ rest (9 * ((s + 1) ||| 2 ^ k) + k) = 0) → P3 x (nI j) := by
              intro q
              induction q with
              | zero =>
                intro j x hj hx
                apply hP3
                refine ⟨fun _ => ?_, fun h => absurd (nI_le (by omega) (by omega)) h⟩
                exact ⟨fun hnb => iz (fin_ 0 (fun _ hb _ => absurd hb hnb)), fun hb => oi (fin_ x (fun g1 _ g3 => hx g1 g3))⟩
              | succ q ih3 =>
                intro j x hj hx
                apply hP3
                refine ⟨fun h => absurd h (nI_ge (by omega) (by omega)), fun _ => ?_⟩
                have k94 : q_m_findRest_94 P P2 P3 ch (nI C) (nI V) rest st (nI (2 ^ V - 1)) (nI (s + 1)) (nI a) (nI j) x post := by
                  intro v1 e1 v2 e2
                  rw [e2, nI_1]
                  refine ih3 (j + 1) v1 (by omega) (fun g1 g2 => hx g1 ?_)
                  intro g3
                  rw [e1, g3] at g2
                  exact g2 (by decide)
                refine ⟨fun hnb => zi ?_, fun _ => io k94⟩
                refine sp_follows hC (by omega) (by omega) (fun hf => oi ?_) (fun _ => iz k94)
                have hlt := od_p hV
                have hor := od_or (k := j) hs (by omega)
                rw [od_1 (s + 1) (by omega) j (by omega), od_ix]
                refine ⟨vp_in_nI (by omega) (by omega), fun v1 e1 v2 e2 => ?_⟩
                rw [nI_clamp (by omega)] at e1
                rw [e2, nI_1]
                refine ih3 (j + 1) v1 (by omega) (fun g1 g2 => ?_)
                rw [e1] at g2
                rcases od_add g2 with g3 | g3
                · exact hx g1 g3
                · exact ⟨j, by omega, hnb, hf, g3⟩
            exact loop3 V 0 y (by omega) (fun g1 g2 => absurd (hy g1) g2)
          refine ⟨fun _ => inner 0 (fun _ => rfl), fun he => inner 1 (fun hne => ?_)⟩
          exact absurd ((nI_eq (by omega) (by omega)).mp he) hne
      exact loop2 V 0 rest (by omega) hR (fun b hb => absurd hb (by omega))
  have h1 : 0 < 2 ^ V := Nat.pow_pos (by omega)
  exact loop (2 ^ V - 1) rest (by omega) (fun t ht ht2 => absurd ht2 (by omega))
theorem sp_hasChoir {many ch : Nat → Int32} {c v x : Int32} {post : Int32 → Int32 → Int32 → Prop} (hm : ∀ j, iv 0 2 (many j)) (hE : mCho ch) (h0 : post 0 x v) (h1 : ∀ C V, C ≤ 1 → V ≤ 9 → x = nI C → post 1 (nI C) (nI V)) : q_m_hasChoir_0 many ch c v x post := by
  refine ⟨by unfold vp_in; decide, sp_in (fun _ => ⟨rfl, zi h0⟩) (fun g1 g2 => ⟨rfl, io ?_⟩)⟩
  have hx : iv 0 1 x := iv_lea (r_le g2) (iv_leb (l := 0) (h := 2147483647) (r_le g1) (iv_lit (l := 0) (h := 0) (by decide)) (iv_top x) (by decide)) (iv_sub (l := -1) (h := 1) (hm _) (iv_lit (l := 1) (h := 1) (by decide)) (by decide)) (by decide)
  obtain ⟨C, rfl, -, hC, hC2⟩ := iv_nI hx (by omega)
  have e1 : (20 : Int32) = nI 20 := rfl
  rw [e1, pk_mul]
  refine ⟨vp_in_nI (by omega) (by omega), fun v1 ev => ?_⟩
  rw [nI_clamp (by omega)] at ev
  obtain ⟨V, hVe, -, hV, hV2⟩ := iv_nI (hE C (by omega)).1 (by omega)
  rw [ev, hVe]
  exact h1 C V (by omega) (by omega) rfl
theorem s_m_order_0 {f_code : Int32} {a_many : Nat → Int32} {a_choirs : Nat → Int32} {f_choir : Int32} {f_voices : Int32} {a_rest : Nat → Int64} {x1 : Int32} {x2 : Int32} {post : Int32 → (Int32) → (Int32) → (Int32) → (Nat → Int64) → Prop} (k_f_code : iv 0 0 f_code) (k_a_many : ∀ j, iv 0 2 (a_many j)) (k_a_choirs : mCho a_choirs) (k_f_voices : iv 0 9 f_voices) (hpost : ∀ (r : Int32) (f_code : Int32) (f_choir : Int32) (f_voices : Int32) (a_rest : Nat → Int64), (iv 0 0 f_code) → (iv 0 9 f_voices) → post r f_code f_choir f_voices a_rest) : q_m_order_0 f_code a_many a_choirs f_choir f_voices a_rest x1 x2 post := by
  refine sp_hasChoir k_a_many k_a_choirs (iz (hpost _ _ _ _ _ (iv_lit (by decide)) k_f_voices)) (fun C V hC hV hxC => oi ?_)
  have hVi : iv 0 9 (nI V) := iv_ofN (by omega) (by omega) (by omega)
  refine sp_in (fun _ => iz (hpost _ _ _ _ _ (iv_lit (by decide)) hVi)) (fun g1 g2 => oi ?_)
  have hx2 : ∃ K, K < V ∧ x2 = nI K := by
    have h3 := r_le g1
    have h4 := r_le g2
    have e0 : (0 : Int32).toInt = 0 := rfl
    have e1 : (nI V - 1).toInt = (V : Int) - 1 := pk_sub_toInt (b := 1) (by omega) (by omega)
    rw [e1] at h4
    rw [e0] at h3
    obtain ⟨K, rfl, -, hK, hK2⟩ := iv_nI (a := 0) (b := (V : Int) - 1) (x := x2) ⟨h3, h4⟩ (by omega)
    exact ⟨K, by omega, rfl⟩
  obtain ⟨K, hK, rfl⟩ := hx2
  have hp := od_p hV
  refine sp_stepE hC (sp_findRestE hC hV (fun r rest hR hT => ⟨fun hne => ?_, fun _ => hpost _ _ _ _ _ (iv_lit (by decide)) hVi⟩))
  have hr0 : ¬ r = 0 := fun h => hne ((lg_cmp_eq r 0).mpr h)
  intro P hP
  have loop : ∀ (n i s : Nat) (x4 : Int32), n + i = K + 1 → s < 2 ^ V → bc s = i → ((s = 0 ∧ x4 = -1) ∨ ∃ a, a < V ∧ x4 = nI a ∧ bt s a ∧ ¬ rest (9 * s + a) = 0 ∧ 0 < s) → P (nI s) x4 (nI i) := by
    intro n
    induction n with
    | zero =>
      intro i s x4 hi hs hb hx
      apply hP
      exact ⟨fun _ => hpost _ _ _ _ _ (iv_lit (by decide)) hVi, fun h => absurd (nI_lt (by omega) (by omega)) h⟩
    | succ n ih =>
      intro i s x4 hi hs hb hx
      apply hP
      refine ⟨fun h => absurd h (nI_nlt (by omega) (by omega)), fun _ => ?_⟩
      have hs512 : s < 512 := by omega
      obtain ⟨k0, hk0, w1, w2, w3⟩ : ∃ k0, k0 < V ∧ ¬ bt s k0 ∧ (x4 = -1 ∨ ∃ a, a < V ∧ x4 = nI a ∧ fo a_choirs C (a_choirs (20 * C + 19)) a k0) ∧ ¬ rest (9 * (s ||| 2 ^ k0) + k0) = 0 := by
        rcases hx with ⟨rfl, rfl⟩ | ⟨a, ha, rfl, hba, hra, hs0⟩
        · obtain ⟨k, hk, e⟩ := hT hr0 (by omega)
          refine ⟨k, hk, ?_, Or.inl rfl, ?_⟩
          · have z0 : ∀ k, k < 9 → ¬ ((nI 0 >>> (nI k &&& 31)) &&& 1) = 1 := by decide +kernel
            exact z0 k (by omega)
          · rw [Nat.zero_or]; exact e
        · have hall : s ≠ 2 ^ V - 1 := fun h => by
            have := od_6 V (by omega)
            rw [← h] at this
            omega
          obtain ⟨k, hk, g1, g2, g3⟩ := hR s hs0 hs a ha hall hba hra
          exact ⟨k, hk, g1, Or.inr ⟨a, ha, rfl, g2⟩, g3⟩
      intro P2 hP2
      have loop2 : ∀ (m j : Nat), m + j = k0 → P2 (nI j) := by
        intro m
        induction m with
        | zero =>
          intro j hj
          have hjk : j = k0 := by omega
          subst hjk
          apply hP2
          have k89 : q_m_order_89 P P2 0 a_many a_choirs (nI C) (nI V) rest (nI K) (nI s) x4 (nI i) (nI j) post := by
            have hor := od_or hs hk0
            unfold q_m_order_89
            rw [od_1 s hs512 j (by omega), od_ix]
            refine ⟨vp_in_nI (by omega) (by omega), fun _ v1 e1 v2 e2 => ?_, fun h => ?_⟩
            · rw [e1, e2, nI_1]
              refine ih (i + 1) (s ||| 2 ^ j) (nI j) (by omega) hor ?_ (Or.inr ⟨j, hk0, rfl, od_4 s hs512 j (by omega), w3, ?_⟩)
              · rw [od_5 s hs512 j (by omega) w1, hb]
              · have := od_3 s hs512 j (by omega) w1
                omega
            · rw [nI_clamp (by omega)] at h
              exact absurd ((lg_cmp_eq _ _).mp h) w3
          refine ⟨fun _ => zi ⟨fun _ => k89, fun h4 => ?_⟩, fun h => absurd h w1⟩
          rcases w2 with w2 | ⟨a, ha, rfl, hf⟩
          · exact absurd w2 h4
          · exact sp_stepE hC (sp_follows hC (by omega) (by omega) (fun _ => oi k89) (fun h => absurd hf h))
        | succ m ih2 =>
          intro j hj
          apply hP2
          have k111 : q_m_order_111 P P2 0 a_many a_choirs (nI C) (nI V) rest (nI K) (nI s) x4 (nI i) (nI j) post := by
            intro v1 e1
            rw [e1, nI_1]
            exact ih2 (j + 1) (by omega)
          refine ⟨fun hnb => zi ?_, fun _ => io k111⟩
          have hjV : j < V := by omega
          have k89 : q_m_order_89 P P2 0 a_many a_choirs (nI C) (nI V) rest (nI K) (nI s) x4 (nI i) (nI j) post := by
            have hor := od_or hs hjV
            unfold q_m_order_89
            rw [od_1 s hs512 j (by omega), od_ix]
            refine ⟨vp_in_nI (by omega) (by omega), fun hn v1 e1 v2 e2 => ?_, fun _ => k111⟩
            rw [nI_clamp (by omega)] at hn
            rw [e1, e2, nI_1]
            refine ih (i + 1) (s ||| 2 ^ j) (nI j) (by omega) hor ?_ (Or.inr ⟨j, hjV, rfl, od_4 s hs512 j (by omega), fun h => hn ((lg_cmp_eq _ _).mpr h), ?_⟩)
            · rw [od_5 s hs512 j (by omega) hnb, hb]
            · have := od_3 s hs512 j (by omega) hnb
              omega
          refine ⟨fun _ => k89, fun h4 => ?_⟩
          rcases w2 with w2 | ⟨a, ha, rfl, hf⟩
          · exact absurd w2 h4
          · exact sp_stepE hC (sp_follows hC (by omega) (by omega) (fun _ => oi k89) (fun _ => iz k111))
      exact loop2 k0 0 (by omega)
  exact loop (K + 1) 0 0 (-1) (by omega) (Nat.pow_pos (by omega)) (by decide) (Or.inl ⟨rfl, rfl⟩)
-- m_odds
set_option maxRecDepth 20000 in
theorem s_m_odds_136 {f_code : Int32} {a_many : Nat → Int32} {a_lands : Nat → Int32} {a_evenings : Nat → Int32} {f_land : Int32} {f_huts : Int32} {f_singers : Int32} {f_evening : Int32} {a_at : Nat → Int32} {a_knows : Nat → Int32} {a_climbed : Nat → Int32} {a_snow : Nat → Int32} {a_level : Nat → Int32} {f_begun : Int32} {f_minute : Int32} {f_avalanches : Int32} {x3 : Int32} {x4 : Int32} {x5 : Int64} {x7 : Int64} {x9 : Int32} {post : Int64 → (Int32) → (Int32) → (Int32) → (Int32) → (Int32) → (Nat → Int32) → (Nat → Int32) → (Nat → Int32) → (Nat → Int32) → (Nat → Int32) → (Int32) → (Int32) → (Int32) → Prop} (k_f_code : iv 0 0 f_code) (k_a_many : ∀ j, iv 0 2 (a_many j)) (k_a_lands : mLand a_lands) (k_a_evenings : mEve a_evenings) (k_f_land : iv 0 1 f_land) (k_f_huts : iv 0 9 f_huts) (k_f_singers : iv 0 6 f_singers) (k_f_evening : iv 0 1 f_evening) (k_a_at : ∀ j, iv 0 8 (a_at j)) (k_a_knows : ∀ j, iv 0 31 (a_knows j)) (k_a_climbed : ∀ j, iv 0 1 (a_climbed j)) (k_a_level : ∀ j, iv (-9) 108 (a_level j)) (k_f_begun : iv 0 31 f_begun) (k_f_avalanches : iv (-2147483648) 18 f_avalanches) (hx3 : iv 0 1 x3) (hx4 : iv 1 10 x4) (hx9 : iv 0 18 x9) (hpost : ∀ (r : Int64) (f_code : Int32) (f_land : Int32) (f_huts : Int32) (f_singers : Int32) (f_evening : Int32) (a_at : Nat → Int32) (a_knows : Nat → Int32) (a_climbed : Nat → Int32) (a_snow : Nat → Int32) (a_level : Nat → Int32) (f_begun : Int32) (f_minute : Int32) (f_avalanches : Int32), (iv 0 0 f_code) → (iv 0 1 f_land) → (iv 0 9 f_huts) → (iv 0 6 f_singers) → (∀ j, iv 0 8 (a_at j)) → (∀ j, iv 0 31 (a_knows j)) → (∀ j, iv 0 1 (a_climbed j)) → (∀ j, iv (-9) 108 (a_level j)) → (iv 0 31 f_begun) → post r f_code f_land f_huts f_singers f_evening a_at a_knows a_climbed a_snow a_level f_begun f_minute f_avalanches) : q_m_odds_136 f_code a_many a_lands a_evenings f_land f_huts f_singers f_evening a_at a_knows a_climbed a_snow a_level f_begun f_minute f_avalanches x3 x4 x5 x7 x9 post := by
  intro P hP
  have loop : ∀ (n : Nat) (x5 : Int64) (x7 : Int64) (x9 : Int32), (18 - x9.toInt < (n : Int)) → (iv 0 18 x9) → P x5 x7 x9 := by
    intro n
    induction n with
    | zero => intro x5 x7 x9 hm hx9; exact (ms0_up hm hx9).elim
    | succ n ih =>
      intro x5 x7 x9 hm hx9
      apply hP
      refine ⟨fun c1 => ?_, fun c1 => ?_⟩
      · skip
        refine ⟨fun c2 => ?_, fun c2 => ?_⟩
        · skip
          exact hpost _ _ _ _ _ _ _ _ _ _ _ _ _ _ k_f_code k_f_land k_f_huts k_f_singers k_a_at k_a_knows k_a_climbed k_a_level k_f_begun
        · skip
          exact hpost _ _ _ _ _ _ _ _ _ _ _ _ _ _ k_f_code k_f_land k_f_huts k_f_singers k_a_at k_a_knows k_a_climbed k_a_level k_f_begun
      · skip
        refine sp_of (a := 0) (b := 10) k_a_lands k_f_land (iv_lit (l := 6) (h := 6) (by decide)) (by decide +kernel) (fun r3 hr3 er3 => ?_)
        refine ⟨iv_ne0 hx4 (by decide), ?_⟩
        intro w4 ew4
        refine ⟨iv_ne0 hx4 (by decide), ?_⟩
        intro w5 ew5
        intro w6 ew6
        have hw6 := iv_eq ew6 (iv_add (l := 1) (h := 18) (iv_lta (l := 0) (h := 17) (r_nle c1) hx9 k_f_avalanches (by decide)) (iv_lit (l := 1) (h := 1) (by decide)) (by decide))
        exact ih _ _ _ (ms_up hm (inc_lt ew6 (iv_lta (l := 0) (h := 17) (r_nle c1) hx9 k_f_avalanches (by decide)) (by decide))) (iv_w hw6 (by decide))
  exact loop _ _ _ _ (ms_init_up _ _) hx9
set_option maxRecDepth 20000 in
theorem s_m_odds_125 {f_code : Int32} {a_many : Nat → Int32} {a_lands : Nat → Int32} {a_evenings : Nat → Int32} {f_land : Int32} {f_huts : Int32} {f_singers : Int32} {f_evening : Int32} {a_at : Nat → Int32} {a_knows : Nat → Int32} {a_climbed : Nat → Int32} {a_snow : Nat → Int32} {a_level : Nat → Int32} {f_begun : Int32} {f_minute : Int32} {f_avalanches : Int32} {x3 : Int32} {y0 : Int32} {post : Int64 → (Int32) → (Int32) → (Int32) → (Int32) → (Int32) → (Nat → Int32) → (Nat → Int32) → (Nat → Int32) → (Nat → Int32) → (Nat → Int32) → (Int32) → (Int32) → (Int32) → Prop} (k_f_code : iv 0 0 f_code) (k_a_many : ∀ j, iv 0 2 (a_many j)) (k_a_lands : mLand a_lands) (k_a_evenings : mEve a_evenings) (k_f_land : iv 0 1 f_land) (k_f_huts : iv 0 9 f_huts) (k_f_singers : iv 0 6 f_singers) (k_f_evening : iv 0 1 f_evening) (k_a_at : ∀ j, iv 0 8 (a_at j)) (k_a_knows : ∀ j, iv 0 31 (a_knows j)) (k_a_climbed : ∀ j, iv 0 1 (a_climbed j)) (k_a_level : ∀ j, iv (-9) 108 (a_level j)) (k_f_begun : iv 0 31 f_begun) (k_f_avalanches : iv (-2147483648) 18 f_avalanches) (hx3 : iv 0 1 x3) (hy0 : iv 1 10 y0) (hpost : ∀ (r : Int64) (f_code : Int32) (f_land : Int32) (f_huts : Int32) (f_singers : Int32) (f_evening : Int32) (a_at : Nat → Int32) (a_knows : Nat → Int32) (a_climbed : Nat → Int32) (a_snow : Nat → Int32) (a_level : Nat → Int32) (f_begun : Int32) (f_minute : Int32) (f_avalanches : Int32), (iv 0 0 f_code) → (iv 0 1 f_land) → (iv 0 9 f_huts) → (iv 0 6 f_singers) → (∀ j, iv 0 8 (a_at j)) → (∀ j, iv 0 31 (a_knows j)) → (∀ j, iv 0 1 (a_climbed j)) → (∀ j, iv (-9) 108 (a_level j)) → (iv 0 31 f_begun) → post r f_code f_land f_huts f_singers f_evening a_at a_knows a_climbed a_snow a_level f_begun f_minute f_avalanches) : q_m_odds_125 f_code a_many a_lands a_evenings f_land f_huts f_singers f_evening a_at a_knows a_climbed a_snow a_level f_begun f_minute f_avalanches x3 y0 post := by
  exact s_m_odds_136 k_f_code k_a_many k_a_lands k_a_evenings k_f_land k_f_huts k_f_singers k_f_evening k_a_at k_a_knows k_a_climbed k_a_level k_f_begun k_f_avalanches hx3 hy0 (iv_w (iv_lit (l := 0) (h := 0) (by decide)) (by decide)) hpost
set_option maxRecDepth 20000 in
theorem s_m_odds_90 {f_code : Int32} {a_many : Nat → Int32} {a_lands : Nat → Int32} {a_evenings : Nat → Int32} {f_land : Int32} {f_huts : Int32} {f_singers : Int32} {f_evening : Int32} {a_at : Nat → Int32} {a_knows : Nat → Int32} {a_climbed : Nat → Int32} {a_snow : Nat → Int32} {a_level : Nat → Int32} {f_begun : Int32} {f_minute : Int32} {f_avalanches : Int32} {x3 : Int32} {post : Int64 → (Int32) → (Int32) → (Int32) → (Int32) → (Int32) → (Nat → Int32) → (Nat → Int32) → (Nat → Int32) → (Nat → Int32) → (Nat → Int32) → (Int32) → (Int32) → (Int32) → Prop} (k_f_code : iv 0 0 f_code) (k_a_many : ∀ j, iv 0 2 (a_many j)) (k_a_lands : mLand a_lands) (k_a_evenings : mEve a_evenings) (k_f_land : iv 0 1 f_land) (k_f_huts : iv 0 9 f_huts) (k_f_singers : iv 0 6 f_singers) (k_f_evening : iv 0 1 f_evening) (k_a_at : ∀ j, iv 0 8 (a_at j)) (k_a_knows : ∀ j, iv 0 31 (a_knows j)) (k_a_climbed : ∀ j, iv 0 1 (a_climbed j)) (k_a_level : ∀ j, iv (-9) 108 (a_level j)) (k_f_begun : iv 0 31 f_begun) (k_f_avalanches : iv (-2147483648) 18 f_avalanches) (hx3 : iv 0 1 x3) (hpost : ∀ (r : Int64) (f_code : Int32) (f_land : Int32) (f_huts : Int32) (f_singers : Int32) (f_evening : Int32) (a_at : Nat → Int32) (a_knows : Nat → Int32) (a_climbed : Nat → Int32) (a_snow : Nat → Int32) (a_level : Nat → Int32) (f_begun : Int32) (f_minute : Int32) (f_avalanches : Int32), (iv 0 0 f_code) → (iv 0 1 f_land) → (iv 0 9 f_huts) → (iv 0 6 f_singers) → (∀ j, iv 0 8 (a_at j)) → (∀ j, iv 0 31 (a_knows j)) → (∀ j, iv 0 1 (a_climbed j)) → (∀ j, iv (-9) 108 (a_level j)) → (iv 0 31 f_begun) → post r f_code f_land f_huts f_singers f_evening a_at a_knows a_climbed a_snow a_level f_begun f_minute f_avalanches) : q_m_odds_90 f_code a_many a_lands a_evenings f_land f_huts f_singers f_evening a_at a_knows a_climbed a_snow a_level f_begun f_minute f_avalanches x3 post := by
  exact s_m_odds_125 k_f_code k_a_many k_a_lands k_a_evenings k_f_land k_f_huts k_f_singers k_f_evening k_a_at k_a_knows k_a_climbed k_a_level k_f_begun k_f_avalanches hx3 (iv_w (iv_lit (l := 10) (h := 10) (by decide)) (by decide)) hpost
set_option maxRecDepth 20000 in
theorem s_m_odds_0 {f_code : Int32} {a_many : Nat → Int32} {a_lands : Nat → Int32} {a_evenings : Nat → Int32} {f_land : Int32} {f_huts : Int32} {f_singers : Int32} {f_evening : Int32} {a_at : Nat → Int32} {a_knows : Nat → Int32} {a_climbed : Nat → Int32} {a_snow : Nat → Int32} {a_level : Nat → Int32} {f_begun : Int32} {f_minute : Int32} {f_avalanches : Int32} {x1 : Int32} {x2 : Int32} {x3 : Int32} {post : Int64 → (Int32) → (Int32) → (Int32) → (Int32) → (Int32) → (Nat → Int32) → (Nat → Int32) → (Nat → Int32) → (Nat → Int32) → (Nat → Int32) → (Int32) → (Int32) → (Int32) → Prop} (k_f_code : iv 0 0 f_code) (k_a_many : ∀ j, iv 0 2 (a_many j)) (k_a_lands : mLand a_lands) (k_a_evenings : mEve a_evenings) (k_f_land : iv 0 1 f_land) (k_f_huts : iv 0 9 f_huts) (k_f_singers : iv 0 6 f_singers) (k_a_at : ∀ j, iv 0 8 (a_at j)) (k_a_knows : ∀ j, iv 0 31 (a_knows j)) (k_a_climbed : ∀ j, iv 0 1 (a_climbed j)) (k_a_level : ∀ j, iv (-9) 108 (a_level j)) (k_f_begun : iv 0 31 f_begun) (hpost : ∀ (r : Int64) (f_code : Int32) (f_land : Int32) (f_huts : Int32) (f_singers : Int32) (f_evening : Int32) (a_at : Nat → Int32) (a_knows : Nat → Int32) (a_climbed : Nat → Int32) (a_snow : Nat → Int32) (a_level : Nat → Int32) (f_begun : Int32) (f_minute : Int32) (f_avalanches : Int32), (iv 0 0 f_code) → (iv 0 1 f_land) → (iv 0 9 f_huts) → (iv 0 6 f_singers) → (∀ j, iv 0 8 (a_at j)) → (∀ j, iv 0 31 (a_knows j)) → (∀ j, iv 0 1 (a_climbed j)) → (∀ j, iv (-9) 108 (a_level j)) → (iv 0 31 f_begun) → post r f_code f_land f_huts f_singers f_evening a_at a_knows a_climbed a_snow a_level f_begun f_minute f_avalanches) : q_m_odds_0 f_code a_many a_lands a_evenings f_land f_huts f_singers f_evening a_at a_knows a_climbed a_snow a_level f_begun f_minute f_avalanches x1 x2 x3 post := by
  refine ⟨fun c1 => ?_, fun c1 => ?_⟩
  · skip
    refine ⟨fun c2 => ?_, fun c2 => ?_⟩
    · skip
      exact hpost _ _ _ _ _ _ _ _ _ _ _ _ _ _ (iv_lit (l := 0) (h := 0) (by decide)) k_f_land k_f_huts k_f_singers k_a_at k_a_knows k_a_climbed k_a_level k_f_begun
    · skip
      exact (iv_emp (iv_ne (l := 1) (h := 0) c2 (iv_lit (l := 0) (h := 0) (by decide)) (iv_lit (l := 0) (h := 0) (by decide)) (by decide)) (by decide)).elim
  · skip
    refine ⟨fun c3 => ?_, fun c3 => ?_⟩
    · skip
      refine ⟨fun c4 => ?_, fun c4 => ?_⟩
      · skip
        exact hpost _ _ _ _ _ _ _ _ _ _ _ _ _ _ (iv_lit (l := 0) (h := 0) (by decide)) k_f_land k_f_huts k_f_singers k_a_at k_a_knows k_a_climbed k_a_level k_f_begun
      · skip
        exact (iv_emp (iv_ne (l := 1) (h := 0) c4 (iv_lit (l := 0) (h := 0) (by decide)) (iv_lit (l := 0) (h := 0) (by decide)) (by decide)) (by decide)).elim
    · skip
      refine ⟨fun c5 => ?_, fun c5 => ?_⟩
      · skip
        exact (iv_emp (iv_eqa (l := 1) (h := 0) c5 (iv_lit (l := 1) (h := 1) (by decide)) (iv_lit (l := 0) (h := 0) (by decide)) (by decide)) (by decide)).elim
      · skip
        refine ⟨iv_in (iv_lit (l := 1) (h := 1) (by decide)) (by decide), ?_⟩
        refine ⟨fun c6 => ?_, fun c6 => ?_⟩
        · skip
          refine ⟨iv_nb (iv_lit (l := 0) (h := 0) (by decide)) (by decide), ?_⟩
          refine ⟨iv_nb (iv_lit (l := 0) (h := 0) (by decide)) (by decide), ?_⟩
          refine ⟨fun c7 => ?_, fun c7 => ?_⟩
          · skip
            refine ⟨fun c8 => ?_, fun c8 => ?_⟩
            · skip
              exact (iv_emp (iv_ne (l := 1) (h := 0) c8 (iv_lit (l := 0) (h := 0) (by decide)) (iv_lit (l := 0) (h := 0) (by decide)) (by decide)) (by decide)).elim
            · skip
              exact hpost _ _ _ _ _ _ _ _ _ _ _ _ _ _ (iv_lit (l := 0) (h := 0) (by decide)) k_f_land k_f_huts k_f_singers k_a_at k_a_knows k_a_climbed k_a_level k_f_begun
          · skip
            exact (iv_emp (iv_ne (l := 1) (h := 0) c7 (iv_lit (l := 0) (h := 0) (by decide)) (iv_lit (l := 0) (h := 0) (by decide)) (by decide)) (by decide)).elim
        · skip
          refine ⟨fun c9 => ?_, fun c9 => ?_⟩
          · skip
            refine ⟨iv_nb (iv_lit (l := 0) (h := 0) (by decide)) (by decide), ?_⟩
            refine ⟨iv_nb (iv_lit (l := 0) (h := 0) (by decide)) (by decide), ?_⟩
            refine ⟨fun c10 => ?_, fun c10 => ?_⟩
            · skip
              refine ⟨fun c11 => ?_, fun c11 => ?_⟩
              · skip
                exact (iv_emp (iv_ne (l := 1) (h := 0) c11 (iv_lit (l := 0) (h := 0) (by decide)) (iv_lit (l := 0) (h := 0) (by decide)) (by decide)) (by decide)).elim
              · skip
                exact hpost _ _ _ _ _ _ _ _ _ _ _ _ _ _ (iv_lit (l := 0) (h := 0) (by decide)) k_f_land k_f_huts k_f_singers k_a_at k_a_knows k_a_climbed k_a_level k_f_begun
            · skip
              exact (iv_emp (iv_ne (l := 1) (h := 0) c10 (iv_lit (l := 0) (h := 0) (by decide)) (iv_lit (l := 0) (h := 0) (by decide)) (by decide)) (by decide)).elim
          · skip
            refine ⟨iv_nb (iv_lit (l := 1) (h := 1) (by decide)) (by decide), ?_⟩
            refine ⟨iv_nb (iv_lit (l := 1) (h := 1) (by decide)) (by decide), ?_⟩
            refine ⟨fun c12 => ?_, fun c12 => ?_⟩
            · skip
              exact (iv_emp (iv_eqa (l := 1) (h := 0) c12 (iv_lit (l := 1) (h := 1) (by decide)) (iv_lit (l := 0) (h := 0) (by decide)) (by decide)) (by decide)).elim
            · skip
              refine ⟨iv_in (iv_lit (l := 0) (h := 0) (by decide)) (by decide), ?_⟩
              refine ⟨fun c13 => ?_, fun c13 => ?_⟩
              · skip
                refine ⟨iv_nb (iv_lit (l := 0) (h := 0) (by decide)) (by decide), ?_⟩
                refine ⟨fun c14 => ?_, fun c14 => ?_⟩
                · skip
                  exact (iv_emp (iv_ne (l := 1) (h := 0) c14 (iv_lit (l := 0) (h := 0) (by decide)) (iv_lit (l := 0) (h := 0) (by decide)) (by decide)) (by decide)).elim
                · skip
                  refine ⟨fun c15 => ?_, fun c15 => ?_⟩
                  · skip
                    refine ⟨fun c16 => ?_, fun c16 => ?_⟩
                    · skip
                      exact (iv_emp (iv_ne (l := 1) (h := 0) c16 (iv_lit (l := 0) (h := 0) (by decide)) (iv_lit (l := 0) (h := 0) (by decide)) (by decide)) (by decide)).elim
                    · skip
                      exact hpost _ _ _ _ _ _ _ _ _ _ _ _ _ _ (iv_lit (l := 0) (h := 0) (by decide)) k_f_land k_f_huts k_f_singers k_a_at k_a_knows k_a_climbed k_a_level k_f_begun
                  · skip
                    exact (iv_emp (iv_ne (l := 1) (h := 0) c15 (iv_lit (l := 0) (h := 0) (by decide)) (iv_lit (l := 0) (h := 0) (by decide)) (by decide)) (by decide)).elim
              · skip
                refine ⟨fun c17 => ?_, fun c17 => ?_⟩
                · skip
                  refine ⟨iv_nb (iv_lit (l := 0) (h := 0) (by decide)) (by decide), ?_⟩
                  refine ⟨fun c18 => ?_, fun c18 => ?_⟩
                  · skip
                    exact (iv_emp (iv_ne (l := 1) (h := 0) c18 (iv_lit (l := 0) (h := 0) (by decide)) (iv_lit (l := 0) (h := 0) (by decide)) (by decide)) (by decide)).elim
                  · skip
                    refine ⟨fun c19 => ?_, fun c19 => ?_⟩
                    · skip
                      refine ⟨fun c20 => ?_, fun c20 => ?_⟩
                      · skip
                        exact (iv_emp (iv_ne (l := 1) (h := 0) c20 (iv_lit (l := 0) (h := 0) (by decide)) (iv_lit (l := 0) (h := 0) (by decide)) (by decide)) (by decide)).elim
                      · skip
                        exact hpost _ _ _ _ _ _ _ _ _ _ _ _ _ _ (iv_lit (l := 0) (h := 0) (by decide)) k_f_land k_f_huts k_f_singers k_a_at k_a_knows k_a_climbed k_a_level k_f_begun
                    · skip
                      exact (iv_emp (iv_ne (l := 1) (h := 0) c19 (iv_lit (l := 0) (h := 0) (by decide)) (iv_lit (l := 0) (h := 0) (by decide)) (by decide)) (by decide)).elim
                · skip
                  refine ⟨iv_nb (iv_lit (l := 1) (h := 1) (by decide)) (by decide), ?_⟩
                  refine ⟨fun c21 => ?_, fun c21 => ?_⟩
                  · skip
                    refine sp_of (a := 0) (b := 9) k_a_lands (iv_lea (l := 0) (h := 1) (r_nlt c17) (iv_leb (l := 0) (h := 2147483647) (r_nlt c13) (iv_lit (l := 0) (h := 0) (by decide)) (iv_top x1) (by decide)) (iv_sub (l := (-1)) (h := 1) (k_a_many _) (iv_lit (l := 1) (h := 1) (by decide)) (by decide)) (by decide)) (iv_lit (l := 0) (h := 0) (by decide)) (by decide +kernel) (fun r22 hr22 er22 => ?_)
                    refine sp_of (a := 0) (b := 6) k_a_lands (iv_lea (l := 0) (h := 1) (r_nlt c17) (iv_leb (l := 0) (h := 2147483647) (r_nlt c13) (iv_lit (l := 0) (h := 0) (by decide)) (iv_top x1) (by decide)) (iv_sub (l := (-1)) (h := 1) (k_a_many _) (iv_lit (l := 1) (h := 1) (by decide)) (by decide)) (by decide)) (iv_lit (l := 1) (h := 1) (by decide)) (by decide +kernel) (fun r23 hr23 er23 => ?_)
                    refine ⟨fun c24 => ?_, fun c24 => ?_⟩
                    · skip
                      exact (iv_emp (iv_eqa (l := 1) (h := 0) c24 (iv_lit (l := 1) (h := 1) (by decide)) (iv_lit (l := 0) (h := 0) (by decide)) (by decide)) (by decide)).elim
                    · skip
                      refine ⟨fun c25 => ?_, fun c25 => ?_⟩
                      · skip
                        refine sp_deeds k_a_evenings (iv_lea (l := 0) (h := 1) (r_nlt c9) (iv_leb (l := 0) (h := 2147483647) (r_nlt c6) (iv_lit (l := 0) (h := 0) (by decide)) (iv_top x2) (by decide)) (iv_sub (l := (-1)) (h := 1) (k_a_many _) (iv_lit (l := 1) (h := 1) (by decide)) (by decide)) (by decide)) (fun r26 hr26 => ?_)
                        refine s_m_play_0 k_a_lands k_a_evenings (iv_lea (l := 0) (h := 1) (r_nlt c17) (iv_leb (l := 0) (h := 2147483647) (r_nlt c13) (iv_lit (l := 0) (h := 0) (by decide)) (iv_top x1) (by decide)) (iv_sub (l := (-1)) (h := 1) (k_a_many _) (iv_lit (l := 1) (h := 1) (by decide)) (by decide)) (by decide)) hr22 hr23 (iv_lea (l := 0) (h := 1) (r_nlt c9) (iv_leb (l := 0) (h := 2147483647) (r_nlt c6) (iv_lit (l := 0) (h := 0) (by decide)) (iv_top x2) (by decide)) (iv_sub (l := (-1)) (h := 1) (k_a_many _) (iv_lit (l := 1) (h := 1) (by decide)) (by decide)) (by decide)) k_a_at k_a_knows k_a_climbed k_a_level k_f_begun hr26 (fun r27 o28 o29 o30 o31 o32 o33 o34 o35 hr27 k_o28 k_o29 k_o30 k_o32 k_o33 => ?_)
                        refine ⟨fun c36 => ?_, fun c36 => ?_⟩
                        · skip
                          refine ⟨fun c37 => ?_, fun c37 => ?_⟩
                          · skip
                            refine sp_of (a := 0) (b := 10) k_a_lands (iv_lea (l := 0) (h := 1) (r_nlt c17) (iv_leb (l := 0) (h := 2147483647) (r_nlt c13) (iv_lit (l := 0) (h := 0) (by decide)) (iv_top x1) (by decide)) (iv_sub (l := (-1)) (h := 1) (k_a_many _) (iv_lit (l := 1) (h := 1) (by decide)) (by decide)) (by decide)) (iv_lit (l := 6) (h := 6) (by decide)) (by decide +kernel) (fun r38 hr38 er38 => ?_)
                            refine ⟨fun c39 => ?_, fun c39 => ?_⟩
                            · skip
                              exact s_m_odds_90 (iv_lit (l := 0) (h := 0) (by decide)) k_a_many k_a_lands k_a_evenings (iv_lea (l := 0) (h := 1) (r_nlt c17) (iv_leb (l := 0) (h := 2147483647) (r_nlt c13) (iv_lit (l := 0) (h := 0) (by decide)) (iv_top x1) (by decide)) (iv_sub (l := (-1)) (h := 1) (k_a_many _) (iv_lit (l := 1) (h := 1) (by decide)) (by decide)) (by decide)) hr22 hr23 (iv_lea (l := 0) (h := 1) (r_nlt c9) (iv_leb (l := 0) (h := 2147483647) (r_nlt c6) (iv_lit (l := 0) (h := 0) (by decide)) (iv_top x2) (by decide)) (iv_sub (l := (-1)) (h := 1) (k_a_many _) (iv_lit (l := 1) (h := 1) (by decide)) (by decide)) (by decide)) k_o28 k_o29 k_o30 k_o32 k_o33 (iv_lea (l := (-2147483648)) (h := 18) (r_le c37) (iv_top o35) (iv_lit (l := 18) (h := 18) (by decide)) (by decide)) (iv_ne (l := 0) (h := 1) c36 (iv_lea (l := 0) (h := 2) (r_nlt c3) (iv_leb (l := 0) (h := 2147483647) (r_nlt c1) (iv_lit (l := 0) (h := 0) (by decide)) (iv_top x3) (by decide)) (iv_lit (l := 2) (h := 2) (by decide)) (by decide)) (iv_lit (l := 2) (h := 2) (by decide)) (by decide)) hpost
                            · skip
                              refine sp_of (a := 0) (b := 10) k_a_lands (iv_lea (l := 0) (h := 1) (r_nlt c17) (iv_leb (l := 0) (h := 2147483647) (r_nlt c13) (iv_lit (l := 0) (h := 0) (by decide)) (iv_top x1) (by decide)) (iv_sub (l := (-1)) (h := 1) (k_a_many _) (iv_lit (l := 1) (h := 1) (by decide)) (by decide)) (by decide)) (iv_lit (l := 6) (h := 6) (by decide)) (by decide +kernel) (fun r40 hr40 er40 => ?_)
                              refine ⟨fun c41 => ?_, fun c41 => ?_⟩
                              · skip
                                refine sp_of (a := 0) (b := 10) k_a_lands (iv_lea (l := 0) (h := 1) (r_nlt c17) (iv_leb (l := 0) (h := 2147483647) (r_nlt c13) (iv_lit (l := 0) (h := 0) (by decide)) (iv_top x1) (by decide)) (iv_sub (l := (-1)) (h := 1) (k_a_many _) (iv_lit (l := 1) (h := 1) (by decide)) (by decide)) (by decide)) (iv_lit (l := 6) (h := 6) (by decide)) (by decide +kernel) (fun r42 hr42 er42 => ?_)
                                refine ⟨fun c43 => ?_, fun c43 => ?_⟩
                                · skip
                                  refine sp_of (a := 0) (b := 10) k_a_lands (iv_lea (l := 0) (h := 1) (r_nlt c17) (iv_leb (l := 0) (h := 2147483647) (r_nlt c13) (iv_lit (l := 0) (h := 0) (by decide)) (iv_top x1) (by decide)) (iv_sub (l := (-1)) (h := 1) (k_a_many _) (iv_lit (l := 1) (h := 1) (by decide)) (by decide)) (by decide)) (iv_lit (l := 6) (h := 6) (by decide)) (by decide +kernel) (fun r44 hr44 er44 => ?_)
                                  refine ⟨fun c45 => ?_, fun c45 => ?_⟩
                                  · skip
                                    exact s_m_odds_125 (iv_lit (l := 0) (h := 0) (by decide)) k_a_many k_a_lands k_a_evenings (iv_lea (l := 0) (h := 1) (r_nlt c17) (iv_leb (l := 0) (h := 2147483647) (r_nlt c13) (iv_lit (l := 0) (h := 0) (by decide)) (iv_top x1) (by decide)) (iv_sub (l := (-1)) (h := 1) (k_a_many _) (iv_lit (l := 1) (h := 1) (by decide)) (by decide)) (by decide)) hr22 hr23 (iv_lea (l := 0) (h := 1) (r_nlt c9) (iv_leb (l := 0) (h := 2147483647) (r_nlt c6) (iv_lit (l := 0) (h := 0) (by decide)) (iv_top x2) (by decide)) (iv_sub (l := (-1)) (h := 1) (k_a_many _) (iv_lit (l := 1) (h := 1) (by decide)) (by decide)) (by decide)) k_o28 k_o29 k_o30 k_o32 k_o33 (iv_lea (l := (-2147483648)) (h := 18) (r_le c37) (iv_top o35) (iv_lit (l := 18) (h := 18) (by decide)) (by decide)) (iv_ne (l := 0) (h := 1) c36 (iv_lea (l := 0) (h := 2) (r_nlt c3) (iv_leb (l := 0) (h := 2147483647) (r_nlt c1) (iv_lit (l := 0) (h := 0) (by decide)) (iv_top x3) (by decide)) (iv_lit (l := 2) (h := 2) (by decide)) (by decide)) (iv_lit (l := 2) (h := 2) (by decide)) (by decide)) (iv_w (iv_lit (l := 1) (h := 1) (by decide)) (by decide)) hpost
                                  · skip
                                    exact s_m_odds_125 (iv_lit (l := 0) (h := 0) (by decide)) k_a_many k_a_lands k_a_evenings (iv_lea (l := 0) (h := 1) (r_nlt c17) (iv_leb (l := 0) (h := 2147483647) (r_nlt c13) (iv_lit (l := 0) (h := 0) (by decide)) (iv_top x1) (by decide)) (iv_sub (l := (-1)) (h := 1) (k_a_many _) (iv_lit (l := 1) (h := 1) (by decide)) (by decide)) (by decide)) hr22 hr23 (iv_lea (l := 0) (h := 1) (r_nlt c9) (iv_leb (l := 0) (h := 2147483647) (r_nlt c6) (iv_lit (l := 0) (h := 0) (by decide)) (iv_top x2) (by decide)) (iv_sub (l := (-1)) (h := 1) (k_a_many _) (iv_lit (l := 1) (h := 1) (by decide)) (by decide)) (by decide)) k_o28 k_o29 k_o30 k_o32 k_o33 (iv_lea (l := (-2147483648)) (h := 18) (r_le c37) (iv_top o35) (iv_lit (l := 18) (h := 18) (by decide)) (by decide)) (iv_ne (l := 0) (h := 1) c36 (iv_lea (l := 0) (h := 2) (r_nlt c3) (iv_leb (l := 0) (h := 2147483647) (r_nlt c1) (iv_lit (l := 0) (h := 0) (by decide)) (iv_top x3) (by decide)) (iv_lit (l := 2) (h := 2) (by decide)) (by decide)) (iv_lit (l := 2) (h := 2) (by decide)) (by decide)) (iv_w (iv_lit (l := 2) (h := 2) (by decide)) (by decide)) hpost
                                · skip
                                  exact s_m_odds_125 (iv_lit (l := 0) (h := 0) (by decide)) k_a_many k_a_lands k_a_evenings (iv_lea (l := 0) (h := 1) (r_nlt c17) (iv_leb (l := 0) (h := 2147483647) (r_nlt c13) (iv_lit (l := 0) (h := 0) (by decide)) (iv_top x1) (by decide)) (iv_sub (l := (-1)) (h := 1) (k_a_many _) (iv_lit (l := 1) (h := 1) (by decide)) (by decide)) (by decide)) hr22 hr23 (iv_lea (l := 0) (h := 1) (r_nlt c9) (iv_leb (l := 0) (h := 2147483647) (r_nlt c6) (iv_lit (l := 0) (h := 0) (by decide)) (iv_top x2) (by decide)) (iv_sub (l := (-1)) (h := 1) (k_a_many _) (iv_lit (l := 1) (h := 1) (by decide)) (by decide)) (by decide)) k_o28 k_o29 k_o30 k_o32 k_o33 (iv_lea (l := (-2147483648)) (h := 18) (r_le c37) (iv_top o35) (iv_lit (l := 18) (h := 18) (by decide)) (by decide)) (iv_ne (l := 0) (h := 1) c36 (iv_lea (l := 0) (h := 2) (r_nlt c3) (iv_leb (l := 0) (h := 2147483647) (r_nlt c1) (iv_lit (l := 0) (h := 0) (by decide)) (iv_top x3) (by decide)) (iv_lit (l := 2) (h := 2) (by decide)) (by decide)) (iv_lit (l := 2) (h := 2) (by decide)) (by decide)) (iv_w (iv_lit (l := 5) (h := 5) (by decide)) (by decide)) hpost
                              · skip
                                exact s_m_odds_90 (iv_lit (l := 0) (h := 0) (by decide)) k_a_many k_a_lands k_a_evenings (iv_lea (l := 0) (h := 1) (r_nlt c17) (iv_leb (l := 0) (h := 2147483647) (r_nlt c13) (iv_lit (l := 0) (h := 0) (by decide)) (iv_top x1) (by decide)) (iv_sub (l := (-1)) (h := 1) (k_a_many _) (iv_lit (l := 1) (h := 1) (by decide)) (by decide)) (by decide)) hr22 hr23 (iv_lea (l := 0) (h := 1) (r_nlt c9) (iv_leb (l := 0) (h := 2147483647) (r_nlt c6) (iv_lit (l := 0) (h := 0) (by decide)) (iv_top x2) (by decide)) (iv_sub (l := (-1)) (h := 1) (k_a_many _) (iv_lit (l := 1) (h := 1) (by decide)) (by decide)) (by decide)) k_o28 k_o29 k_o30 k_o32 k_o33 (iv_lea (l := (-2147483648)) (h := 18) (r_le c37) (iv_top o35) (iv_lit (l := 18) (h := 18) (by decide)) (by decide)) (iv_ne (l := 0) (h := 1) c36 (iv_lea (l := 0) (h := 2) (r_nlt c3) (iv_leb (l := 0) (h := 2147483647) (r_nlt c1) (iv_lit (l := 0) (h := 0) (by decide)) (iv_top x3) (by decide)) (iv_lit (l := 2) (h := 2) (by decide)) (by decide)) (iv_lit (l := 2) (h := 2) (by decide)) (by decide)) hpost
                          · skip
                            exact hpost _ _ _ _ _ _ _ _ _ _ _ _ _ _ (iv_lit (l := 0) (h := 0) (by decide)) (iv_lea (l := 0) (h := 1) (r_nlt c17) (iv_leb (l := 0) (h := 2147483647) (r_nlt c13) (iv_lit (l := 0) (h := 0) (by decide)) (iv_top x1) (by decide)) (iv_sub (l := (-1)) (h := 1) (k_a_many _) (iv_lit (l := 1) (h := 1) (by decide)) (by decide)) (by decide)) hr22 hr23 k_o28 k_o29 k_o30 k_o32 k_o33
                        · skip
                          refine sp_of (a := 0) (b := 10) k_a_lands (iv_lea (l := 0) (h := 1) (r_nlt c17) (iv_leb (l := 0) (h := 2147483647) (r_nlt c13) (iv_lit (l := 0) (h := 0) (by decide)) (iv_top x1) (by decide)) (iv_sub (l := (-1)) (h := 1) (k_a_many _) (iv_lit (l := 1) (h := 1) (by decide)) (by decide)) (by decide)) (iv_lit (l := 6) (h := 6) (by decide)) (by decide +kernel) (fun r46 hr46 er46 => ?_)
                          exact hpost _ _ _ _ _ _ _ _ _ _ _ _ _ _ (iv_lit (l := 0) (h := 0) (by decide)) (iv_lea (l := 0) (h := 1) (r_nlt c17) (iv_leb (l := 0) (h := 2147483647) (r_nlt c13) (iv_lit (l := 0) (h := 0) (by decide)) (iv_top x1) (by decide)) (iv_sub (l := (-1)) (h := 1) (k_a_many _) (iv_lit (l := 1) (h := 1) (by decide)) (by decide)) (by decide)) hr22 hr23 k_o28 k_o29 k_o30 k_o32 k_o33
                      · skip
                        exact (iv_emp (iv_eqa (l := 1) (h := 0) c25 (iv_lit (l := 1) (h := 1) (by decide)) (iv_lit (l := 0) (h := 0) (by decide)) (by decide)) (by decide)).elim
                  · skip
                    exact (iv_emp (iv_eqa (l := 1) (h := 0) c21 (iv_lit (l := 1) (h := 1) (by decide)) (iv_lit (l := 0) (h := 0) (by decide)) (by decide)) (by decide)).elim
-- m_drawDeed
set_option maxRecDepth 20000 in
theorem s_m_drawDeed_0 {a_lands : Nat → Int32} {f_land : Int32} {f_huts : Int32} {f_singers : Int32} {a_at : Nat → Int32} {a_knows : Nat → Int32} {a_climbed : Nat → Int32} {a_snow : Nat → Int32} {a_level : Nat → Int32} {f_begun : Int32} {f_minute : Int32} {f_avalanches : Int32} {f_seed : Int32} {post : (Nat → Int32) → (Nat → Int32) → (Nat → Int32) → (Nat → Int32) → (Int32) → (Int32) → (Int32) → (Int32) → Prop} (k_a_lands : mLand a_lands) (k_f_land : iv 0 1 f_land) (k_f_huts : iv 1 9 f_huts) (k_f_singers : iv 1 6 f_singers) (k_a_at : ∀ j, iv 0 8 (a_at j)) (k_a_knows : ∀ j, iv 0 31 (a_knows j)) (k_a_climbed : ∀ j, iv 0 1 (a_climbed j)) (k_a_level : ∀ j, iv (-9) 108 (a_level j)) (k_f_begun : iv 0 31 f_begun) (hpost : ∀ (a_at : Nat → Int32) (a_knows : Nat → Int32) (a_snow : Nat → Int32) (a_level : Nat → Int32) (f_begun : Int32) (f_minute : Int32) (f_avalanches : Int32) (f_seed : Int32), (∀ j, iv 0 8 (a_at j)) → (∀ j, iv 0 31 (a_knows j)) → (∀ j, iv (-9) 108 (a_level j)) → (iv 0 31 f_begun) → post a_at a_knows a_snow a_level f_begun f_minute f_avalanches f_seed) : q_m_drawDeed_0 a_lands f_land f_huts f_singers a_at a_knows a_climbed a_snow a_level f_begun f_minute f_avalanches f_seed post := by
  intro w1 ew1
  refine ⟨iv_ne0 k_f_singers (by decide), ?_⟩
  intro w2 ew2
  refine ⟨iv_ne0 (iv_lit (l := 8) (h := 8) (by decide)) (by decide), ?_⟩
  refine ⟨fun c3 => ?_, fun c3 => ?_⟩
  · skip
    intro w4 ew4
    refine ⟨iv_ne0 (iv_lit (l := 5) (h := 5) (by decide)) (by decide), ?_⟩
    refine ⟨iv_in (iv_rem (l := 0) (h := 5) (iv_ushr16 _) k_f_singers (by decide)) (by decide), ?_⟩
    refine ⟨fun c5 => ?_, fun c5 => ?_⟩
    · skip
      refine ⟨fun c6 => ?_, fun c6 => ?_⟩
      · skip
        refine ⟨fun c7 => ?_, fun c7 => ?_⟩
        · skip
          refine ⟨iv_in (iv_rem (l := 0) (h := 5) (iv_ushr16 _) k_f_singers (by decide)) (by decide), ?_⟩
          refine ⟨fun c8 => ?_, fun c8 => ?_⟩
          · skip
            refine ⟨fun c9 => ?_, fun c9 => ?_⟩
            · skip
              refine ⟨fun c10 => ?_, fun c10 => ?_⟩
              · skip
                exact hpost _ _ _ _ _ _ _ _ k_a_at k_a_knows k_a_level k_f_begun
              · skip
                exact (iv_emp (iv_ne (l := 1) (h := 0) c10 (iv_lit (l := 0) (h := 0) (by decide)) (iv_lit (l := 0) (h := 0) (by decide)) (by decide)) (by decide)).elim
            · skip
              exact (iv_emp (iv_ne (l := 1) (h := 0) c9 (iv_lit (l := 0) (h := 0) (by decide)) (iv_lit (l := 0) (h := 0) (by decide)) (by decide)) (by decide)).elim
          · skip
            exact (iv_emp (iv_eqa (l := 1) (h := 0) c8 (iv_ne (l := 0) (h := 0) c5 (iv_andr (l := 0) (h := 1) (iv_lit (l := 1) (h := 1) (by decide)) (by decide)) (iv_lit (l := 1) (h := 1) (by decide)) (by decide)) (iv_lit (l := 1) (h := 1) (by decide)) (by decide)) (by decide)).elim
        · skip
          exact (iv_emp (iv_ne (l := 1) (h := 0) c7 (iv_lit (l := 0) (h := 0) (by decide)) (iv_lit (l := 0) (h := 0) (by decide)) (by decide)) (by decide)).elim
      · skip
        exact (iv_emp (iv_ne (l := 1) (h := 0) c6 (iv_lit (l := 0) (h := 0) (by decide)) (iv_lit (l := 0) (h := 0) (by decide)) (by decide)) (by decide)).elim
    · skip
      refine ⟨fun c11 => ?_, fun c11 => ?_⟩
      · skip
        exact (iv_emp (iv_eqa (l := 1) (h := 0) c11 (iv_lit (l := 1) (h := 1) (by decide)) (iv_lit (l := 0) (h := 0) (by decide)) (by decide)) (by decide)).elim
      · skip
        refine ⟨fun c12 => ?_, fun c12 => ?_⟩
        · skip
          refine ⟨fun c13 => ?_, fun c13 => ?_⟩
          · skip
            exact (iv_emp (iv_ne (l := 1) (h := 0) c13 (iv_lit (l := 0) (h := 0) (by decide)) (iv_lit (l := 0) (h := 0) (by decide)) (by decide)) (by decide)).elim
          · skip
            refine ⟨iv_in (iv_rem (l := 0) (h := 5) (iv_ushr16 _) k_f_singers (by decide)) (by decide), ?_⟩
            refine sp_of (a := 0) (b := 511) k_a_lands k_f_land (iv_lit (l := 3) (h := 3) (by decide)) (by decide +kernel) (fun r14 hr14 er14 => ?_)
            refine ⟨fun c15 => ?_, fun c15 => ?_⟩
            · skip
              refine ⟨iv_nb (iv_lit (l := 0) (h := 0) (by decide)) (by decide), ?_⟩
              refine ⟨fun c16 => ?_, fun c16 => ?_⟩
              · skip
                exact (iv_emp (iv_ne (l := 1) (h := 0) c16 (iv_lit (l := 0) (h := 0) (by decide)) (iv_lit (l := 0) (h := 0) (by decide)) (by decide)) (by decide)).elim
              · skip
                refine ⟨fun c17 => ?_, fun c17 => ?_⟩
                · skip
                  exact (iv_emp (iv_eqa (l := 1) (h := 0) c17 (iv_lit (l := 1) (h := 1) (by decide)) (iv_lit (l := 0) (h := 0) (by decide)) (by decide)) (by decide)).elim
                · skip
                  refine s_m_sounds_0 k_a_lands k_f_land (iv_w k_f_singers (by decide)) k_a_at k_a_knows k_a_climbed k_a_level k_f_begun (iv_rem (l := 0) (h := 5) (iv_ushr16 _) k_f_singers (by decide)) (iv_rem (l := 0) (h := 4) (iv_ushr16 _) (iv_lit (l := 5) (h := 5) (by decide)) (by decide)) (fun o18 o19 o20 k_o18 k_o19 k_o20 => ?_)
                  exact hpost _ _ _ _ _ _ _ _ k_a_at k_o18 k_o19 k_o20
            · skip
              refine ⟨iv_nb (iv_lit (l := 1) (h := 1) (by decide)) (by decide), ?_⟩
              refine ⟨fun c21 => ?_, fun c21 => ?_⟩
              · skip
                refine ⟨fun c22 => ?_, fun c22 => ?_⟩
                · skip
                  refine ⟨iv_in (iv_rem (l := 0) (h := 5) (iv_ushr16 _) k_f_singers (by decide)) (by decide), ?_⟩
                  refine ⟨fun c23 => ?_, fun c23 => ?_⟩
                  · skip
                    exact (iv_emp (iv_ne (l := 2) (h := 1) c23 (iv_eqa (l := 1) (h := 1) c5 (iv_andr (l := 0) (h := 1) (iv_lit (l := 1) (h := 1) (by decide)) (by decide)) (iv_lit (l := 1) (h := 1) (by decide)) (by decide)) (iv_lit (l := 1) (h := 1) (by decide)) (by decide)) (by decide)).elim
                  · skip
                    refine ⟨fun c24 => ?_, fun c24 => ?_⟩
                    · skip
                      exact (iv_emp (iv_eqa (l := 1) (h := 0) c24 (iv_lit (l := 1) (h := 1) (by decide)) (iv_lit (l := 0) (h := 0) (by decide)) (by decide)) (by decide)).elim
                    · skip
                      refine ⟨fun c25 => ?_, fun c25 => ?_⟩
                      · skip
                        refine ⟨fun c26 => ?_, fun c26 => ?_⟩
                        · skip
                          refine ⟨fun c27 => ?_, fun c27 => ?_⟩
                          · skip
                            exact hpost _ _ _ _ _ _ _ _ k_a_at k_a_knows k_a_level k_f_begun
                          · skip
                            exact (iv_emp (iv_ne (l := 1) (h := 0) c27 (iv_lit (l := 0) (h := 0) (by decide)) (iv_lit (l := 0) (h := 0) (by decide)) (by decide)) (by decide)).elim
                        · skip
                          exact (iv_emp (iv_ne (l := 1) (h := 0) c26 (iv_lit (l := 0) (h := 0) (by decide)) (iv_lit (l := 0) (h := 0) (by decide)) (by decide)) (by decide)).elim
                      · skip
                        exact (iv_emp (iv_eqa (l := 1) (h := 0) c25 (iv_ne (l := 0) (h := 0) c12 (iv_andr (l := 0) (h := 1) (iv_lit (l := 1) (h := 1) (by decide)) (by decide)) (iv_lit (l := 1) (h := 1) (by decide)) (by decide)) (iv_lit (l := 1) (h := 1) (by decide)) (by decide)) (by decide)).elim
                · skip
                  exact (iv_emp (iv_ne (l := 1) (h := 0) c22 (iv_lit (l := 0) (h := 0) (by decide)) (iv_lit (l := 0) (h := 0) (by decide)) (by decide)) (by decide)).elim
              · skip
                exact (iv_emp (iv_eqa (l := 1) (h := 0) c21 (iv_lit (l := 1) (h := 1) (by decide)) (iv_lit (l := 0) (h := 0) (by decide)) (by decide)) (by decide)).elim
        · skip
          refine ⟨fun c28 => ?_, fun c28 => ?_⟩
          · skip
            refine ⟨fun c29 => ?_, fun c29 => ?_⟩
            · skip
              refine ⟨iv_in (iv_rem (l := 0) (h := 5) (iv_ushr16 _) k_f_singers (by decide)) (by decide), ?_⟩
              refine ⟨fun c30 => ?_, fun c30 => ?_⟩
              · skip
                exact (iv_emp (iv_ne (l := 2) (h := 1) c30 (iv_eqa (l := 1) (h := 1) c5 (iv_andr (l := 0) (h := 1) (iv_lit (l := 1) (h := 1) (by decide)) (by decide)) (iv_lit (l := 1) (h := 1) (by decide)) (by decide)) (iv_lit (l := 1) (h := 1) (by decide)) (by decide)) (by decide)).elim
              · skip
                refine ⟨fun c31 => ?_, fun c31 => ?_⟩
                · skip
                  exact (iv_emp (iv_eqa (l := 1) (h := 0) c31 (iv_lit (l := 1) (h := 1) (by decide)) (iv_lit (l := 0) (h := 0) (by decide)) (by decide)) (by decide)).elim
                · skip
                  refine ⟨fun c32 => ?_, fun c32 => ?_⟩
                  · skip
                    exact (iv_emp (iv_ne (l := 2) (h := 1) c32 (iv_eqa (l := 1) (h := 1) c12 (iv_andr (l := 0) (h := 1) (iv_lit (l := 1) (h := 1) (by decide)) (by decide)) (iv_lit (l := 1) (h := 1) (by decide)) (by decide)) (iv_lit (l := 1) (h := 1) (by decide)) (by decide)) (by decide)).elim
                  · skip
                    refine ⟨fun c33 => ?_, fun c33 => ?_⟩
                    · skip
                      exact (iv_emp (iv_eqa (l := 1) (h := 0) c33 (iv_lit (l := 1) (h := 1) (by decide)) (iv_lit (l := 0) (h := 0) (by decide)) (by decide)) (by decide)).elim
                    · skip
                      refine ⟨iv_in (iv_rem (l := 0) (h := 5) (iv_ushr16 _) k_f_singers (by decide)) (by decide), ?_⟩
                      refine sp_of (a := 0) (b := 511) k_a_lands k_f_land (iv_lit (l := 3) (h := 3) (by decide)) (by decide +kernel) (fun r34 hr34 er34 => ?_)
                      refine ⟨fun c35 => ?_, fun c35 => ?_⟩
                      · skip
                        refine ⟨iv_nb (iv_lit (l := 0) (h := 0) (by decide)) (by decide), ?_⟩
                        refine ⟨fun c36 => ?_, fun c36 => ?_⟩
                        · skip
                          exact (iv_emp (iv_ne (l := 1) (h := 0) c36 (iv_lit (l := 0) (h := 0) (by decide)) (iv_lit (l := 0) (h := 0) (by decide)) (by decide)) (by decide)).elim
                        · skip
                          refine ⟨fun c37 => ?_, fun c37 => ?_⟩
                          · skip
                            exact (iv_emp (iv_eqa (l := 1) (h := 0) c37 (iv_lit (l := 1) (h := 1) (by decide)) (iv_lit (l := 0) (h := 0) (by decide)) (by decide)) (by decide)).elim
                          · skip
                            refine s_m_sings_0 k_a_lands k_f_land (iv_w k_f_singers (by decide)) k_a_at k_a_knows k_a_climbed k_a_level k_f_begun (iv_rem (l := 0) (h := 5) (iv_ushr16 _) k_f_singers (by decide)) (iv_rem (l := 0) (h := 4) (iv_ushr16 _) (iv_lit (l := 5) (h := 5) (by decide)) (by decide)) (iv_w (iv_lit (l := 0) (h := 0) (by decide)) (by decide)) (fun o38 o39 o40 o41 o42 k_o38 k_o40 k_o41 => ?_)
                            exact hpost _ _ _ _ _ _ _ _ k_a_at k_o38 k_o40 k_o41
                      · skip
                        refine ⟨iv_nb (iv_lit (l := 1) (h := 1) (by decide)) (by decide), ?_⟩
                        refine ⟨fun c43 => ?_, fun c43 => ?_⟩
                        · skip
                          refine ⟨fun c44 => ?_, fun c44 => ?_⟩
                          · skip
                            exact hpost _ _ _ _ _ _ _ _ k_a_at k_a_knows k_a_level k_f_begun
                          · skip
                            exact (iv_emp (iv_ne (l := 1) (h := 0) c44 (iv_lit (l := 0) (h := 0) (by decide)) (iv_lit (l := 0) (h := 0) (by decide)) (by decide)) (by decide)).elim
                        · skip
                          exact (iv_emp (iv_eqa (l := 1) (h := 0) c43 (iv_lit (l := 1) (h := 1) (by decide)) (iv_lit (l := 0) (h := 0) (by decide)) (by decide)) (by decide)).elim
            · skip
              exact (iv_emp (iv_ne (l := 1) (h := 0) c29 (iv_lit (l := 0) (h := 0) (by decide)) (iv_lit (l := 0) (h := 0) (by decide)) (by decide)) (by decide)).elim
          · skip
            exact (iv_emp (iv_eqa (l := 1) (h := 0) c28 (iv_lit (l := 1) (h := 1) (by decide)) (iv_lit (l := 0) (h := 0) (by decide)) (by decide)) (by decide)).elim
  · skip
    intro w45 ew45
    refine ⟨iv_ne0 k_f_huts (by decide), ?_⟩
    refine ⟨fun c46 => ?_, fun c46 => ?_⟩
    · skip
      exact (iv_emp (iv_lta (l := 0) (h := (-1)) (r_lt c46) (iv_rem (l := 0) (h := 8) (iv_ushr16 _) k_f_huts (by decide)) (iv_lit (l := 0) (h := 0) (by decide)) (by decide)) (by decide)).elim
    · skip
      refine ⟨fun c47 => ?_, fun c47 => ?_⟩
      · skip
        refine ⟨iv_nb (iv_lit (l := 0) (h := 0) (by decide)) (by decide), ?_⟩
        refine ⟨fun c48 => ?_, fun c48 => ?_⟩
        · skip
          refine ⟨fun c49 => ?_, fun c49 => ?_⟩
          · skip
            exact hpost _ _ _ _ _ _ _ _ k_a_at k_a_knows k_a_level k_f_begun
          · skip
            exact (iv_emp (iv_ne (l := 1) (h := 0) c49 (iv_lit (l := 0) (h := 0) (by decide)) (iv_lit (l := 0) (h := 0) (by decide)) (by decide)) (by decide)).elim
        · skip
          exact (iv_emp (iv_ne (l := 1) (h := 0) c48 (iv_lit (l := 0) (h := 0) (by decide)) (iv_lit (l := 0) (h := 0) (by decide)) (by decide)) (by decide)).elim
      · skip
        refine ⟨iv_nb (iv_lit (l := 1) (h := 1) (by decide)) (by decide), ?_⟩
        refine ⟨fun c50 => ?_, fun c50 => ?_⟩
        · skip
          exact (iv_emp (iv_eqa (l := 1) (h := 0) c50 (iv_lit (l := 1) (h := 1) (by decide)) (iv_lit (l := 0) (h := 0) (by decide)) (by decide)) (by decide)).elim
        · skip
          refine ⟨iv_in (iv_rem (l := 0) (h := 5) (iv_ushr16 _) k_f_singers (by decide)) (by decide), ?_⟩
          refine sp_of (a := 0) (b := 9) k_a_lands k_f_land (iv_add (l := 51) (h := 131) (iv_add (l := 51) (h := 123) (iv_lit (l := 51) (h := 51) (by decide)) (iv_mul (l := 0) (h := 72) (iv_lit (l := 9) (h := 9) (by decide)) (k_a_at _) (by decide)) (by decide)) (iv_rem (l := 0) (h := 8) (iv_ushr16 _) k_f_huts (by decide)) (by decide)) (by decide +kernel) (fun r51 hr51 er51 => ?_)
          refine ⟨fun c52 => ?_, fun c52 => ?_⟩
          · skip
            exact hpost _ _ _ _ _ _ _ _ k_a_at k_a_knows k_a_level k_f_begun
          · skip
            refine ⟨iv_in (iv_rem (l := 0) (h := 5) (iv_ushr16 _) k_f_singers (by decide)) (by decide), ?_⟩
            refine ⟨fun c53 => ?_, fun c53 => ?_⟩
            · skip
              exact hpost _ _ _ _ _ _ _ _ k_a_at k_a_knows k_a_level k_f_begun
            · skip
              refine ⟨iv_in (iv_rem (l := 0) (h := 5) (iv_ushr16 _) k_f_singers (by decide)) (by decide), ?_⟩
              refine ⟨iv_in (k_a_at _) (by decide), ?_⟩
              refine sp_of (a := 0) (b := 9) k_a_lands k_f_land (iv_lit (l := 5) (h := 5) (by decide)) (by decide +kernel) (fun r54 hr54 er54 => ?_)
              refine ⟨fun c55 => ?_, fun c55 => ?_⟩
              · skip
                refine ⟨fun c56 => ?_, fun c56 => ?_⟩
                · skip
                  exact (iv_emp (iv_ne (l := 1) (h := 0) c56 (iv_lit (l := 0) (h := 0) (by decide)) (iv_lit (l := 0) (h := 0) (by decide)) (by decide)) (by decide)).elim
                · skip
                  refine ⟨iv_in (iv_rem (l := 0) (h := 8) (iv_ushr16 _) k_f_huts (by decide)) (by decide), ?_⟩
                  refine sp_of (a := 0) (b := 9) k_a_lands k_f_land (iv_lit (l := 5) (h := 5) (by decide)) (by decide +kernel) (fun r57 hr57 er57 => ?_)
                  refine ⟨fun c58 => ?_, fun c58 => ?_⟩
                  · skip
                    refine ⟨fun c59 => ?_, fun c59 => ?_⟩
                    · skip
                      refine ⟨iv_in (iv_rem (l := 0) (h := 5) (iv_ushr16 _) k_f_singers (by decide)) (by decide), ?_⟩
                      intro a60 ea60
                      have k_a60 := iv_upd ea60 k_a_at (iv_rem (l := 0) (h := 8) (iv_ushr16 _) k_f_huts (by decide))
                      intro w61 ew61
                      exact hpost _ _ _ _ _ _ _ _ k_a60 k_a_knows k_a_level k_f_begun
                    · skip
                      exact (iv_emp (iv_ne (l := 1) (h := 0) c59 (iv_lit (l := 0) (h := 0) (by decide)) (iv_lit (l := 0) (h := 0) (by decide)) (by decide)) (by decide)).elim
                  · skip
                    refine ⟨fun c62 => ?_, fun c62 => ?_⟩
                    · skip
                      exact (iv_emp (iv_eqa (l := 1) (h := 0) c62 (iv_lit (l := 1) (h := 1) (by decide)) (iv_lit (l := 0) (h := 0) (by decide)) (by decide)) (by decide)).elim
                    · skip
                      exact hpost _ _ _ _ _ _ _ _ k_a_at k_a_knows k_a_level k_f_begun
              · skip
                refine ⟨fun c63 => ?_, fun c63 => ?_⟩
                · skip
                  exact hpost _ _ _ _ _ _ _ _ k_a_at k_a_knows k_a_level k_f_begun
                · skip
                  exact (iv_emp (iv_eqa (l := 1) (h := 0) c63 (iv_lit (l := 1) (h := 1) (by decide)) (iv_lit (l := 0) (h := 0) (by decide)) (by decide)) (by decide)).elim
-- m_drawn
set_option maxRecDepth 20000 in
theorem s_m_drawn_46 {f_code : Int32} {a_many : Nat → Int32} {a_lands : Nat → Int32} {f_land : Int32} {f_huts : Int32} {f_singers : Int32} {a_at : Nat → Int32} {a_knows : Nat → Int32} {a_climbed : Nat → Int32} {a_snow : Nat → Int32} {a_level : Nat → Int32} {f_begun : Int32} {f_minute : Int32} {f_avalanches : Int32} {f_seed : Int32} {x3 : Int32} {x4 : Int32} {x5 : Int32} {post : Int32 → (Int32) → (Int32) → (Int32) → (Int32) → (Nat → Int32) → (Nat → Int32) → (Nat → Int32) → (Nat → Int32) → (Nat → Int32) → (Int32) → (Int32) → (Int32) → (Int32) → Prop} (k_f_code : iv 0 0 f_code) (k_a_many : ∀ j, iv 0 2 (a_many j)) (k_a_lands : mLand a_lands) (k_f_land : iv 0 1 f_land) (k_f_huts : iv 1 9 f_huts) (k_f_singers : iv 1 6 f_singers) (k_a_at : ∀ j, iv 0 8 (a_at j)) (k_a_knows : ∀ j, iv 0 31 (a_knows j)) (k_a_climbed : ∀ j, iv 0 1 (a_climbed j)) (k_a_level : ∀ j, iv (-9) 108 (a_level j)) (k_f_begun : iv 0 31 f_begun) (hx3 : iv 0 60 x3) (hx5 : iv 0 60 x5) (hpost : ∀ (r : Int32) (f_code : Int32) (f_land : Int32) (f_huts : Int32) (f_singers : Int32) (a_at : Nat → Int32) (a_knows : Nat → Int32) (a_climbed : Nat → Int32) (a_snow : Nat → Int32) (a_level : Nat → Int32) (f_begun : Int32) (f_minute : Int32) (f_avalanches : Int32) (f_seed : Int32), (iv 0 0 f_code) → (iv 0 1 f_land) → (iv 0 9 f_huts) → (iv 0 6 f_singers) → (∀ j, iv 0 8 (a_at j)) → (∀ j, iv 0 31 (a_knows j)) → (∀ j, iv 0 1 (a_climbed j)) → (∀ j, iv (-9) 108 (a_level j)) → (iv 0 31 f_begun) → post r f_code f_land f_huts f_singers a_at a_knows a_climbed a_snow a_level f_begun f_minute f_avalanches f_seed) : q_m_drawn_46 f_code a_many a_lands f_land f_huts f_singers a_at a_knows a_climbed a_snow a_level f_begun f_minute f_avalanches f_seed x3 x4 x5 post := by
  intro P hP
  have loop : ∀ (n : Nat) (x5 : Int32) (a_at : Nat → Int32) (a_knows : Nat → Int32) (a_snow : Nat → Int32) (a_level : Nat → Int32) (f_begun : Int32) (f_minute : Int32) (f_avalanches : Int32) (f_seed : Int32), (60 - x5.toInt < (n : Int)) → (iv 0 60 x5) → (∀ j, iv 0 8 (a_at j)) → (∀ j, iv 0 31 (a_knows j)) → (∀ j, iv (-9) 108 (a_level j)) → (iv 0 31 f_begun) → P x5 a_at a_knows a_snow a_level f_begun f_minute f_avalanches f_seed := by
    intro n
    induction n with
    | zero => intro x5 a_at a_knows a_snow a_level f_begun f_minute f_avalanches f_seed hm hx5 k_a_at k_a_knows k_a_level k_f_begun; exact (ms0_up hm hx5).elim
    | succ n ih =>
      intro x5 a_at a_knows a_snow a_level f_begun f_minute f_avalanches f_seed hm hx5 k_a_at k_a_knows k_a_level k_f_begun
      apply hP
      refine ⟨fun c1 => ?_, fun c1 => ?_⟩
      · skip
        refine s_m_ofState_0 k_a_lands k_f_land (iv_w k_f_huts (by decide)) (iv_w k_f_singers (by decide)) k_a_at k_a_knows k_a_climbed k_a_level k_f_begun (fun r2 => ?_)
        exact hpost _ _ _ _ _ _ _ _ _ _ _ _ _ _ k_f_code k_f_land (iv_w k_f_huts (by decide)) (iv_w k_f_singers (by decide)) k_a_at k_a_knows k_a_climbed k_a_level k_f_begun
      · skip
        refine s_m_drawDeed_0 k_a_lands k_f_land k_f_huts k_f_singers k_a_at k_a_knows k_a_climbed k_a_level k_f_begun (fun o3 o4 o5 o6 o7 o8 o9 o10 k_o3 k_o4 k_o6 k_o7 => ?_)
        intro w11 ew11
        have hw11 := iv_eq ew11 (iv_add (l := 1) (h := 60) (iv_lta (l := 0) (h := 59) (r_nle c1) hx5 hx3 (by decide)) (iv_lit (l := 1) (h := 1) (by decide)) (by decide))
        exact ih _ _ _ _ _ _ _ _ _ (ms_up hm (inc_lt ew11 (iv_lta (l := 0) (h := 59) (r_nle c1) hx5 hx3 (by decide)) (by decide))) (iv_w hw11 (by decide)) k_o3 k_o4 k_o6 k_o7
  exact loop _ _ _ _ _ _ _ _ _ _ (ms_init_up _ _) hx5 k_a_at k_a_knows k_a_level k_f_begun
set_option maxRecDepth 20000 in
theorem s_m_drawn_0 {f_code : Int32} {a_many : Nat → Int32} {a_lands : Nat → Int32} {f_land : Int32} {f_huts : Int32} {f_singers : Int32} {a_at : Nat → Int32} {a_knows : Nat → Int32} {a_climbed : Nat → Int32} {a_snow : Nat → Int32} {a_level : Nat → Int32} {f_begun : Int32} {f_minute : Int32} {f_avalanches : Int32} {f_seed : Int32} {x1 : Int32} {x2 : Int32} {x3 : Int32} {x4 : Int32} {post : Int32 → (Int32) → (Int32) → (Int32) → (Int32) → (Nat → Int32) → (Nat → Int32) → (Nat → Int32) → (Nat → Int32) → (Nat → Int32) → (Int32) → (Int32) → (Int32) → (Int32) → Prop} (k_f_code : iv 0 0 f_code) (k_a_many : ∀ j, iv 0 2 (a_many j)) (k_a_lands : mLand a_lands) (k_f_land : iv 0 1 f_land) (k_f_huts : iv 0 9 f_huts) (k_f_singers : iv 0 6 f_singers) (k_a_at : ∀ j, iv 0 8 (a_at j)) (k_a_knows : ∀ j, iv 0 31 (a_knows j)) (k_a_climbed : ∀ j, iv 0 1 (a_climbed j)) (k_a_level : ∀ j, iv (-9) 108 (a_level j)) (k_f_begun : iv 0 31 f_begun) (hpost : ∀ (r : Int32) (f_code : Int32) (f_land : Int32) (f_huts : Int32) (f_singers : Int32) (a_at : Nat → Int32) (a_knows : Nat → Int32) (a_climbed : Nat → Int32) (a_snow : Nat → Int32) (a_level : Nat → Int32) (f_begun : Int32) (f_minute : Int32) (f_avalanches : Int32) (f_seed : Int32), (iv 0 0 f_code) → (iv 0 1 f_land) → (iv 0 9 f_huts) → (iv 0 6 f_singers) → (∀ j, iv 0 8 (a_at j)) → (∀ j, iv 0 31 (a_knows j)) → (∀ j, iv 0 1 (a_climbed j)) → (∀ j, iv (-9) 108 (a_level j)) → (iv 0 31 f_begun) → post r f_code f_land f_huts f_singers a_at a_knows a_climbed a_snow a_level f_begun f_minute f_avalanches f_seed) : q_m_drawn_0 f_code a_many a_lands f_land f_huts f_singers a_at a_knows a_climbed a_snow a_level f_begun f_minute f_avalanches f_seed x1 x2 x3 x4 post := by
  refine ⟨fun c1 => ?_, fun c1 => ?_⟩
  · skip
    refine ⟨fun c2 => ?_, fun c2 => ?_⟩
    · skip
      exact hpost _ _ _ _ _ _ _ _ _ _ _ _ _ _ (iv_lit (l := 0) (h := 0) (by decide)) k_f_land k_f_huts k_f_singers k_a_at k_a_knows k_a_climbed k_a_level k_f_begun
    · skip
      exact (iv_emp (iv_ne (l := 1) (h := 0) c2 (iv_lit (l := 0) (h := 0) (by decide)) (iv_lit (l := 0) (h := 0) (by decide)) (by decide)) (by decide)).elim
  · skip
    refine ⟨fun c3 => ?_, fun c3 => ?_⟩
    · skip
      refine ⟨fun c4 => ?_, fun c4 => ?_⟩
      · skip
        exact hpost _ _ _ _ _ _ _ _ _ _ _ _ _ _ (iv_lit (l := 0) (h := 0) (by decide)) k_f_land k_f_huts k_f_singers k_a_at k_a_knows k_a_climbed k_a_level k_f_begun
      · skip
        exact (iv_emp (iv_ne (l := 1) (h := 0) c4 (iv_lit (l := 0) (h := 0) (by decide)) (iv_lit (l := 0) (h := 0) (by decide)) (by decide)) (by decide)).elim
    · skip
      refine ⟨fun c5 => ?_, fun c5 => ?_⟩
      · skip
        exact (iv_emp (iv_eqa (l := 1) (h := 0) c5 (iv_lit (l := 1) (h := 1) (by decide)) (iv_lit (l := 0) (h := 0) (by decide)) (by decide)) (by decide)).elim
      · skip
        refine ⟨iv_in (iv_lit (l := 0) (h := 0) (by decide)) (by decide), ?_⟩
        refine ⟨fun c6 => ?_, fun c6 => ?_⟩
        · skip
          refine ⟨iv_nb (iv_lit (l := 0) (h := 0) (by decide)) (by decide), ?_⟩
          refine ⟨fun c7 => ?_, fun c7 => ?_⟩
          · skip
            exact (iv_emp (iv_ne (l := 1) (h := 0) c7 (iv_lit (l := 0) (h := 0) (by decide)) (iv_lit (l := 0) (h := 0) (by decide)) (by decide)) (by decide)).elim
          · skip
            refine ⟨fun c8 => ?_, fun c8 => ?_⟩
            · skip
              exact hpost _ _ _ _ _ _ _ _ _ _ _ _ _ _ (iv_lit (l := 0) (h := 0) (by decide)) k_f_land k_f_huts k_f_singers k_a_at k_a_knows k_a_climbed k_a_level k_f_begun
            · skip
              exact (iv_emp (iv_ne (l := 1) (h := 0) c8 (iv_lit (l := 0) (h := 0) (by decide)) (iv_lit (l := 0) (h := 0) (by decide)) (by decide)) (by decide)).elim
        · skip
          refine ⟨fun c9 => ?_, fun c9 => ?_⟩
          · skip
            refine ⟨iv_nb (iv_lit (l := 0) (h := 0) (by decide)) (by decide), ?_⟩
            refine ⟨fun c10 => ?_, fun c10 => ?_⟩
            · skip
              exact (iv_emp (iv_ne (l := 1) (h := 0) c10 (iv_lit (l := 0) (h := 0) (by decide)) (iv_lit (l := 0) (h := 0) (by decide)) (by decide)) (by decide)).elim
            · skip
              refine ⟨fun c11 => ?_, fun c11 => ?_⟩
              · skip
                exact hpost _ _ _ _ _ _ _ _ _ _ _ _ _ _ (iv_lit (l := 0) (h := 0) (by decide)) k_f_land k_f_huts k_f_singers k_a_at k_a_knows k_a_climbed k_a_level k_f_begun
              · skip
                exact (iv_emp (iv_ne (l := 1) (h := 0) c11 (iv_lit (l := 0) (h := 0) (by decide)) (iv_lit (l := 0) (h := 0) (by decide)) (by decide)) (by decide)).elim
          · skip
            refine ⟨iv_nb (iv_lit (l := 1) (h := 1) (by decide)) (by decide), ?_⟩
            refine ⟨fun c12 => ?_, fun c12 => ?_⟩
            · skip
              refine sp_of (a := 0) (b := 9) k_a_lands (iv_lea (l := 0) (h := 1) (r_nlt c9) (iv_leb (l := 0) (h := 2147483647) (r_nlt c6) (iv_lit (l := 0) (h := 0) (by decide)) (iv_top x1) (by decide)) (iv_sub (l := (-1)) (h := 1) (k_a_many _) (iv_lit (l := 1) (h := 1) (by decide)) (by decide)) (by decide)) (iv_lit (l := 0) (h := 0) (by decide)) (by decide +kernel) (fun r13 hr13 er13 => ?_)
              refine sp_of (a := 0) (b := 6) k_a_lands (iv_lea (l := 0) (h := 1) (r_nlt c9) (iv_leb (l := 0) (h := 2147483647) (r_nlt c6) (iv_lit (l := 0) (h := 0) (by decide)) (iv_top x1) (by decide)) (iv_sub (l := (-1)) (h := 1) (k_a_many _) (iv_lit (l := 1) (h := 1) (by decide)) (by decide)) (by decide)) (iv_lit (l := 1) (h := 1) (by decide)) (by decide +kernel) (fun r14 hr14 er14 => ?_)
              refine ⟨fun c15 => ?_, fun c15 => ?_⟩
              · skip
                exact (iv_emp (iv_eqa (l := 1) (h := 0) c15 (iv_lit (l := 1) (h := 1) (by decide)) (iv_lit (l := 0) (h := 0) (by decide)) (by decide)) (by decide)).elim
              · skip
                refine ⟨fun c16 => ?_, fun c16 => ?_⟩
                · skip
                  refine s_m_begin_0 k_a_lands (iv_lea (l := 0) (h := 1) (r_nlt c9) (iv_leb (l := 0) (h := 2147483647) (r_nlt c6) (iv_lit (l := 0) (h := 0) (by decide)) (iv_top x1) (by decide)) (iv_sub (l := (-1)) (h := 1) (k_a_many _) (iv_lit (l := 1) (h := 1) (by decide)) (by decide)) (by decide)) k_a_at k_a_knows k_a_climbed k_f_begun (fun o17 o18 o19 o20 o21 o22 o23 k_o17 k_o18 k_o19 k_o21 k_o22 k_o23 => ?_)
                  exact s_m_drawn_46 (iv_lit (l := 0) (h := 0) (by decide)) k_a_many k_a_lands (iv_lea (l := 0) (h := 1) (r_nlt c9) (iv_leb (l := 0) (h := 2147483647) (r_nlt c6) (iv_lit (l := 0) (h := 0) (by decide)) (iv_top x1) (by decide)) (iv_sub (l := (-1)) (h := 1) (k_a_many _) (iv_lit (l := 1) (h := 1) (by decide)) (by decide)) (by decide)) (hut1 k_a_lands (iv_lea (l := 0) (h := 1) (r_nlt c9) (iv_leb (l := 0) (h := 2147483647) (r_nlt c6) (iv_lit (l := 0) (h := 0) (by decide)) (iv_top x1) (by decide)) (iv_sub (l := (-1)) (h := 1) (k_a_many _) (iv_lit (l := 1) (h := 1) (by decide)) (by decide)) (by decide)) hr13 er13 er14 c16) (iv_ne (l := 1) (h := 6) c16 hr14 (iv_lit (l := 0) (h := 0) (by decide)) (by decide)) k_o17 k_o18 k_o19 k_a_level (iv_w k_o21 (by decide)) (iv_lea (l := 0) (h := 60) (r_nlt c3) (iv_leb (l := 0) (h := 2147483647) (r_nlt c1) (iv_lit (l := 0) (h := 0) (by decide)) (iv_top x3) (by decide)) (iv_lit (l := 60) (h := 60) (by decide)) (by decide)) (iv_w (iv_lit (l := 0) (h := 0) (by decide)) (by decide)) hpost
                · skip
                  exact hpost _ _ _ _ _ _ _ _ _ _ _ _ _ _ (iv_lit (l := 0) (h := 0) (by decide)) (iv_lea (l := 0) (h := 1) (r_nlt c9) (iv_leb (l := 0) (h := 2147483647) (r_nlt c6) (iv_lit (l := 0) (h := 0) (by decide)) (iv_top x1) (by decide)) (iv_sub (l := (-1)) (h := 1) (k_a_many _) (iv_lit (l := 1) (h := 1) (by decide)) (by decide)) (by decide)) hr13 (iv_w (iv_eqa (l := 0) (h := 0) c16 hr14 (iv_lit (l := 0) (h := 0) (by decide)) (by decide)) (by decide)) k_a_at k_a_knows k_a_climbed k_a_level k_f_begun
            · skip
              exact (iv_emp (iv_eqa (l := 1) (h := 0) c12 (iv_lit (l := 1) (h := 1) (by decide)) (iv_lit (l := 0) (h := 0) (by decide)) (by decide)) (by decide)).elim
-- m_psalm
set_option maxRecDepth 20000 in
theorem s_m_psalm_136 {P58 : Int32 → Int32 → Int32 → Int32 → (Nat → Int32) → Prop} {f_code : Int32} {a_many : Nat → Int32} {a_lands : Nat → Int32} {f_land : Int32} {f_huts : Int32} {f_singers : Int32} {a_run : Nat → Int32} {x2 : Int32} {x3 : Int32} {x4 : Int32} {x5 : Int32} {x6 : Int32} {x7 : Int32} {x8 : Int32} {post : Int32 → (Int32) → (Int32) → (Int32) → (Int32) → (Nat → Int32) → Prop} (k_f_code : iv 0 0 f_code) (k_a_many : ∀ j, iv 0 2 (a_many j)) (k_a_lands : mLand a_lands) (k_f_land : iv 0 1 f_land) (k_f_huts : iv 1 9 f_huts) (k_f_singers : iv 0 6 f_singers) (k_a_run : ∀ j, iv 0 1000000 (a_run j)) (hx2 : iv 0 8 x2) (hx3 : iv 0 99 x3) (hx4 : iv 0 2 x4) (hx5 : iv 0 511 x5) (hx6 : iv (-1) 8 x6) (hx7 : iv 0 1000000 x7) (hx8 : iv 0 8 x8) (m58 : Int) (hm58 : m58 ≤ x8.toInt) (hP58 : ∀ (x5 : Int32) (x6 : Int32) (x7 : Int32) (x8 : Int32) (a_run : Nat → Int32), m58 < x8.toInt → iv 0 511 x5 → iv (-1) 8 x6 → iv 0 1000000 x7 → iv 0 9 x8 → (∀ j, iv 0 1000000 (a_run j)) → P58 x5 x6 x7 x8 a_run) (hpost : ∀ (r : Int32) (f_code : Int32) (f_land : Int32) (f_huts : Int32) (f_singers : Int32) (a_run : Nat → Int32), iv (-1000000) 511 r → (iv 0 0 f_code) → (iv 0 1 f_land) → (iv 0 9 f_huts) → (iv 0 6 f_singers) → (∀ j, iv 0 1000000 (a_run j)) → post r f_code f_land f_huts f_singers a_run) : q_m_psalm_136 P58 f_code a_many a_lands f_land f_huts f_singers a_run x2 x3 x4 x5 x6 x7 x8 post := by
  intro w1 ew1
  have hw1 := iv_eq ew1 (iv_add (l := 1) (h := 9) hx8 (iv_lit (l := 1) (h := 1) (by decide)) (by decide))
  exact hP58 _ _ _ _ _ (ml_up hm58 (inc_lt ew1 hx8 (by decide))) hx5 hx6 hx7 (iv_w hw1 (by decide)) k_a_run
set_option maxRecDepth 20000 in
theorem s_m_psalm_121 {P58 : Int32 → Int32 → Int32 → Int32 → (Nat → Int32) → Prop} {f_code : Int32} {a_many : Nat → Int32} {a_lands : Nat → Int32} {f_land : Int32} {f_huts : Int32} {f_singers : Int32} {a_run : Nat → Int32} {x2 : Int32} {x3 : Int32} {x4 : Int32} {x5 : Int32} {x7 : Int32} {x8 : Int32} {y0 : Int32} {post : Int32 → (Int32) → (Int32) → (Int32) → (Int32) → (Nat → Int32) → Prop} (k_f_code : iv 0 0 f_code) (k_a_many : ∀ j, iv 0 2 (a_many j)) (k_a_lands : mLand a_lands) (k_f_land : iv 0 1 f_land) (k_f_huts : iv 1 9 f_huts) (k_f_singers : iv 0 6 f_singers) (k_a_run : ∀ j, iv 0 1000000 (a_run j)) (hx2 : iv 0 8 x2) (hx3 : iv 0 99 x3) (hx4 : iv 0 2 x4) (hx5 : iv 0 511 x5) (hx7 : iv 0 1000000 x7) (hx8 : iv 0 8 x8) (hy0 : iv 0 8 y0) (m58 : Int) (hm58 : m58 ≤ x8.toInt) (hP58 : ∀ (x5 : Int32) (x6 : Int32) (x7 : Int32) (x8 : Int32) (a_run : Nat → Int32), m58 < x8.toInt → iv 0 511 x5 → iv (-1) 8 x6 → iv 0 1000000 x7 → iv 0 9 x8 → (∀ j, iv 0 1000000 (a_run j)) → P58 x5 x6 x7 x8 a_run) (hpost : ∀ (r : Int32) (f_code : Int32) (f_land : Int32) (f_huts : Int32) (f_singers : Int32) (a_run : Nat → Int32), iv (-1000000) 511 r → (iv 0 0 f_code) → (iv 0 1 f_land) → (iv 0 9 f_huts) → (iv 0 6 f_singers) → (∀ j, iv 0 1000000 (a_run j)) → post r f_code f_land f_huts f_singers a_run) : q_m_psalm_121 P58 f_code a_many a_lands f_land f_huts f_singers a_run x2 x3 x4 x5 x7 x8 y0 post := by
  refine ⟨iv_in hx2 (by decide), ?_⟩
  refine ⟨fun c1 => ?_, fun c1 => ?_⟩
  · skip
    exact s_m_psalm_136 k_f_code k_a_many k_a_lands k_f_land k_f_huts k_f_singers k_a_run hx2 hx3 hx4 hx5 (iv_w hy0 (by decide)) (k_a_run _) hx8 m58 hm58 hP58 hpost
  · skip
    exact s_m_psalm_136 k_f_code k_a_many k_a_lands k_f_land k_f_huts k_f_singers k_a_run hx2 hx3 hx4 hx5 (iv_w hy0 (by decide)) (iv_w (iv_lta (l := 0) (h := 999999) (r_nle c1) hx7 (k_a_run _) (by decide)) (by decide)) hx8 m58 hm58 hP58 hpost
set_option maxRecDepth 20000 in
theorem s_m_psalm_114 {P58 : Int32 → Int32 → Int32 → Int32 → (Nat → Int32) → Prop} {f_code : Int32} {a_many : Nat → Int32} {a_lands : Nat → Int32} {f_land : Int32} {f_huts : Int32} {f_singers : Int32} {a_run : Nat → Int32} {x2 : Int32} {x3 : Int32} {x4 : Int32} {x5 : Int32} {x7 : Int32} {x8 : Int32} {post : Int32 → (Int32) → (Int32) → (Int32) → (Int32) → (Nat → Int32) → Prop} (k_f_code : iv 0 0 f_code) (k_a_many : ∀ j, iv 0 2 (a_many j)) (k_a_lands : mLand a_lands) (k_f_land : iv 0 1 f_land) (k_f_huts : iv 1 9 f_huts) (k_f_singers : iv 0 6 f_singers) (k_a_run : ∀ j, iv 0 1000000 (a_run j)) (hx2 : iv 0 8 x2) (hx3 : iv 0 99 x3) (hx4 : iv 0 2 x4) (hx5 : iv 0 511 x5) (hx7 : iv 0 1000000 x7) (hx8 : iv 0 8 x8) (m58 : Int) (hm58 : m58 ≤ x8.toInt) (hP58 : ∀ (x5 : Int32) (x6 : Int32) (x7 : Int32) (x8 : Int32) (a_run : Nat → Int32), m58 < x8.toInt → iv 0 511 x5 → iv (-1) 8 x6 → iv 0 1000000 x7 → iv 0 9 x8 → (∀ j, iv 0 1000000 (a_run j)) → P58 x5 x6 x7 x8 a_run) (hpost : ∀ (r : Int32) (f_code : Int32) (f_land : Int32) (f_huts : Int32) (f_singers : Int32) (a_run : Nat → Int32), iv (-1000000) 511 r → (iv 0 0 f_code) → (iv 0 1 f_land) → (iv 0 9 f_huts) → (iv 0 6 f_singers) → (∀ j, iv 0 1000000 (a_run j)) → post r f_code f_land f_huts f_singers a_run) : q_m_psalm_114 P58 f_code a_many a_lands f_land f_huts f_singers a_run x2 x3 x4 x5 x7 x8 post := by
  exact s_m_psalm_121 k_f_code k_a_many k_a_lands k_f_land k_f_huts k_f_singers k_a_run hx2 hx3 hx4 hx5 hx7 hx8 hx8 m58 hm58 hP58 hpost
set_option maxRecDepth 20000 in
theorem s_m_psalm_58 {f_code : Int32} {a_many : Nat → Int32} {a_lands : Nat → Int32} {f_land : Int32} {f_huts : Int32} {f_singers : Int32} {a_run : Nat → Int32} {x2 : Int32} {x3 : Int32} {x4 : Int32} {x5 : Int32} {x6 : Int32} {x7 : Int32} {x8 : Int32} {post : Int32 → (Int32) → (Int32) → (Int32) → (Int32) → (Nat → Int32) → Prop} (k_f_code : iv 0 0 f_code) (k_a_many : ∀ j, iv 0 2 (a_many j)) (k_a_lands : mLand a_lands) (k_f_land : iv 0 1 f_land) (k_f_huts : iv 0 9 f_huts) (k_f_singers : iv 0 6 f_singers) (k_a_run : ∀ j, iv 0 1000000 (a_run j)) (hx2 : iv 0 8 x2) (hx3 : iv 0 99 x3) (hx4 : iv 0 2 x4) (hx5 : iv 0 511 x5) (hx6 : iv (-1) 8 x6) (hx7 : iv 0 1000000 x7) (hx8 : iv 0 9 x8) (hpost : ∀ (r : Int32) (f_code : Int32) (f_land : Int32) (f_huts : Int32) (f_singers : Int32) (a_run : Nat → Int32), iv (-1000000) 511 r → (iv 0 0 f_code) → (iv 0 1 f_land) → (iv 0 9 f_huts) → (iv 0 6 f_singers) → (∀ j, iv 0 1000000 (a_run j)) → post r f_code f_land f_huts f_singers a_run) : q_m_psalm_58 f_code a_many a_lands f_land f_huts f_singers a_run x2 x3 x4 x5 x6 x7 x8 post := by
  intro P hP
  have loop : ∀ (n : Nat) (x5 : Int32) (x6 : Int32) (x7 : Int32) (x8 : Int32) (a_run : Nat → Int32), (9 - x8.toInt < (n : Int)) → (iv 0 511 x5) → (iv (-1) 8 x6) → (iv 0 1000000 x7) → (iv 0 9 x8) → (∀ j, iv 0 1000000 (a_run j)) → P x5 x6 x7 x8 a_run := by
    intro n
    induction n with
    | zero => intro x5 x6 x7 x8 a_run hm hx5 hx6 hx7 hx8 k_a_run; exact (ms0_up hm hx8).elim
    | succ n ih =>
      intro x5 x6 x7 x8 a_run hm hx5 hx6 hx7 hx8 k_a_run
      apply hP
      refine ⟨fun c1 => ?_, fun c1 => ?_⟩
      · skip
        refine ⟨fun c2 => ?_, fun c2 => ?_⟩
        · skip
          refine ⟨fun c3 => ?_, fun c3 => ?_⟩
          · skip
            refine ⟨fun c4 => ?_, fun c4 => ?_⟩
            · skip
              exact hpost _ _ _ _ _ _ (iv_w (iv_sub (l := (-1000000)) (h := 99) hx3 hx7 (by decide)) (by decide)) k_f_code k_f_land k_f_huts k_f_singers k_a_run
            · skip
              exact hpost _ _ _ _ _ _ (iv_w (iv_lit (l := (-1)) (h := (-1)) (by decide)) (by decide)) k_f_code k_f_land k_f_huts k_f_singers k_a_run
          · skip
            exact hpost _ _ _ _ _ _ (iv_w hx6 (by decide)) k_f_code k_f_land k_f_huts k_f_singers k_a_run
        · skip
          exact hpost _ _ _ _ _ _ (iv_w hx5 (by decide)) k_f_code k_f_land k_f_huts k_f_singers k_a_run
      · skip
        refine s_m_findRun_0 k_a_lands k_f_land (iv_w (iv_ltb (l := 1) (h := 9) (r_nle c1) hx8 k_f_huts (by decide)) (by decide)) k_a_run (iv_lta (l := 0) (h := 8) (r_nle c1) hx8 k_f_huts (by decide)) (iv_w (iv_lit (l := 0) (h := 0) (by decide)) (by decide)) (fun o5 k_o5 => ?_)
        refine ⟨iv_in hx2 (by decide), ?_⟩
        refine ⟨fun c6 => ?_, fun c6 => ?_⟩
        · skip
          exact s_m_psalm_136 k_f_code k_a_many k_a_lands k_f_land (iv_ltb (l := 1) (h := 9) (r_nle c1) hx8 k_f_huts (by decide)) k_f_singers k_o5 hx2 hx3 hx4 hx5 hx6 hx7 (iv_lta (l := 0) (h := 8) (r_nle c1) hx8 k_f_huts (by decide)) x8.toInt (Int.le_refl _) (fun u0 u1 u2 u3 u4 hq g0 g1 g2 g3 g4 => ih u0 u1 u2 u3 u4 (ms_up hm hq) g0 g1 g2 g3 g4) hpost
        · skip
          intro w7 ew7
          have hw7 := iv_eq ew7 (iv_or 9 (l := 0) (h := 511) hx5 (iv_shl1 (l := 1) (h := 256) (iv_lit (l := 1) (h := 1) (by decide)) (iv_lta (l := 0) (h := 8) (r_nle c1) hx8 k_f_huts (by decide)) (by decide)) (by decide))
          refine ⟨fun c8 => ?_, fun c8 => ?_⟩
          · skip
            exact s_m_psalm_114 k_f_code k_a_many k_a_lands k_f_land (iv_ltb (l := 1) (h := 9) (r_nle c1) hx8 k_f_huts (by decide)) k_f_singers k_o5 hx2 hx3 hx4 hw7 hx7 (iv_lta (l := 0) (h := 8) (r_nle c1) hx8 k_f_huts (by decide)) x8.toInt (Int.le_refl _) (fun u0 u1 u2 u3 u4 hq g0 g1 g2 g3 g4 => ih u0 u1 u2 u3 u4 (ms_up hm hq) g0 g1 g2 g3 g4) hpost
          · skip
            refine sp_of (a := 0) (b := 99) k_a_lands k_f_land (iv_add (l := 7) (h := 15) (iv_lit (l := 7) (h := 7) (by decide)) (iv_lta (l := 0) (h := 8) (r_nle c1) hx8 k_f_huts (by decide)) (by decide)) (by decide +kernel) (fun r9 hr9 er9 => ?_)
            refine sp_of (a := 0) (b := 99) k_a_lands k_f_land (iv_add (l := 7) (h := 15) (iv_lit (l := 7) (h := 7) (by decide)) (iv_ne (l := 0) (h := 8) c8 hx6 (iv_lit (l := (-1)) (h := (-1)) (by decide)) (by decide)) (by decide)) (by decide +kernel) (fun r10 hr10 er10 => ?_)
            refine ⟨fun c11 => ?_, fun c11 => ?_⟩
            · skip
              exact s_m_psalm_121 k_f_code k_a_many k_a_lands k_f_land (iv_ltb (l := 1) (h := 9) (r_nle c1) hx8 k_f_huts (by decide)) k_f_singers k_o5 hx2 hx3 hx4 hw7 hx7 (iv_lta (l := 0) (h := 8) (r_nle c1) hx8 k_f_huts (by decide)) (iv_ne (l := 0) (h := 8) c8 hx6 (iv_lit (l := (-1)) (h := (-1)) (by decide)) (by decide)) x8.toInt (Int.le_refl _) (fun u0 u1 u2 u3 u4 hq g0 g1 g2 g3 g4 => ih u0 u1 u2 u3 u4 (ms_up hm hq) g0 g1 g2 g3 g4) hpost
            · skip
              exact s_m_psalm_114 k_f_code k_a_many k_a_lands k_f_land (iv_ltb (l := 1) (h := 9) (r_nle c1) hx8 k_f_huts (by decide)) k_f_singers k_o5 hx2 hx3 hx4 hw7 hx7 (iv_lta (l := 0) (h := 8) (r_nle c1) hx8 k_f_huts (by decide)) x8.toInt (Int.le_refl _) (fun u0 u1 u2 u3 u4 hq g0 g1 g2 g3 g4 => ih u0 u1 u2 u3 u4 (ms_up hm hq) g0 g1 g2 g3 g4) hpost
  exact loop _ _ _ _ _ _ (ms_init_up _ _) hx5 hx6 hx7 hx8 k_a_run
set_option maxRecDepth 20000 in
theorem s_m_psalm_0 {f_code : Int32} {a_many : Nat → Int32} {a_lands : Nat → Int32} {f_land : Int32} {f_huts : Int32} {f_singers : Int32} {a_run : Nat → Int32} {x1 : Int32} {x2 : Int32} {x3 : Int32} {x4 : Int32} {post : Int32 → (Int32) → (Int32) → (Int32) → (Int32) → (Nat → Int32) → Prop} (k_f_code : iv 0 0 f_code) (k_a_many : ∀ j, iv 0 2 (a_many j)) (k_a_lands : mLand a_lands) (k_f_land : iv 0 1 f_land) (k_f_huts : iv 0 9 f_huts) (k_f_singers : iv 0 6 f_singers) (k_a_run : ∀ j, iv 0 1000000 (a_run j)) (hpost : ∀ (r : Int32) (f_code : Int32) (f_land : Int32) (f_huts : Int32) (f_singers : Int32) (a_run : Nat → Int32), iv (-1000000) 511 r → (iv 0 0 f_code) → (iv 0 1 f_land) → (iv 0 9 f_huts) → (iv 0 6 f_singers) → (∀ j, iv 0 1000000 (a_run j)) → post r f_code f_land f_huts f_singers a_run) : q_m_psalm_0 f_code a_many a_lands f_land f_huts f_singers a_run x1 x2 x3 x4 post := by
  refine ⟨iv_in (iv_lit (l := 0) (h := 0) (by decide)) (by decide), ?_⟩
  refine ⟨fun c1 => ?_, fun c1 => ?_⟩
  · skip
    refine ⟨iv_nb (iv_lit (l := 0) (h := 0) (by decide)) (by decide), ?_⟩
    refine ⟨fun c2 => ?_, fun c2 => ?_⟩
    · skip
      exact (iv_emp (iv_ne (l := 1) (h := 0) c2 (iv_lit (l := 0) (h := 0) (by decide)) (iv_lit (l := 0) (h := 0) (by decide)) (by decide)) (by decide)).elim
    · skip
      refine ⟨fun c3 => ?_, fun c3 => ?_⟩
      · skip
        exact hpost _ _ _ _ _ _ (iv_w (iv_lit (l := (-2)) (h := (-2)) (by decide)) (by decide)) (iv_lit (l := 0) (h := 0) (by decide)) k_f_land k_f_huts k_f_singers k_a_run
      · skip
        exact (iv_emp (iv_ne (l := 1) (h := 0) c3 (iv_lit (l := 0) (h := 0) (by decide)) (iv_lit (l := 0) (h := 0) (by decide)) (by decide)) (by decide)).elim
  · skip
    refine ⟨fun c4 => ?_, fun c4 => ?_⟩
    · skip
      refine ⟨iv_nb (iv_lit (l := 0) (h := 0) (by decide)) (by decide), ?_⟩
      refine ⟨fun c5 => ?_, fun c5 => ?_⟩
      · skip
        exact (iv_emp (iv_ne (l := 1) (h := 0) c5 (iv_lit (l := 0) (h := 0) (by decide)) (iv_lit (l := 0) (h := 0) (by decide)) (by decide)) (by decide)).elim
      · skip
        refine ⟨fun c6 => ?_, fun c6 => ?_⟩
        · skip
          exact hpost _ _ _ _ _ _ (iv_w (iv_lit (l := (-2)) (h := (-2)) (by decide)) (by decide)) (iv_lit (l := 0) (h := 0) (by decide)) k_f_land k_f_huts k_f_singers k_a_run
        · skip
          exact (iv_emp (iv_ne (l := 1) (h := 0) c6 (iv_lit (l := 0) (h := 0) (by decide)) (iv_lit (l := 0) (h := 0) (by decide)) (by decide)) (by decide)).elim
    · skip
      refine ⟨iv_nb (iv_lit (l := 1) (h := 1) (by decide)) (by decide), ?_⟩
      refine ⟨fun c7 => ?_, fun c7 => ?_⟩
      · skip
        refine sp_of (a := 0) (b := 9) k_a_lands (iv_lea (l := 0) (h := 1) (r_nlt c4) (iv_leb (l := 0) (h := 2147483647) (r_nlt c1) (iv_lit (l := 0) (h := 0) (by decide)) (iv_top x1) (by decide)) (iv_sub (l := (-1)) (h := 1) (k_a_many _) (iv_lit (l := 1) (h := 1) (by decide)) (by decide)) (by decide)) (iv_lit (l := 0) (h := 0) (by decide)) (by decide +kernel) (fun r8 hr8 er8 => ?_)
        refine sp_of (a := 0) (b := 6) k_a_lands (iv_lea (l := 0) (h := 1) (r_nlt c4) (iv_leb (l := 0) (h := 2147483647) (r_nlt c1) (iv_lit (l := 0) (h := 0) (by decide)) (iv_top x1) (by decide)) (iv_sub (l := (-1)) (h := 1) (k_a_many _) (iv_lit (l := 1) (h := 1) (by decide)) (by decide)) (by decide)) (iv_lit (l := 1) (h := 1) (by decide)) (by decide +kernel) (fun r9 hr9 er9 => ?_)
        refine ⟨fun c10 => ?_, fun c10 => ?_⟩
        · skip
          exact (iv_emp (iv_eqa (l := 1) (h := 0) c10 (iv_lit (l := 1) (h := 1) (by decide)) (iv_lit (l := 0) (h := 0) (by decide)) (by decide)) (by decide)).elim
        · skip
          refine ⟨fun c11 => ?_, fun c11 => ?_⟩
          · skip
            refine ⟨iv_nb (iv_lit (l := 0) (h := 0) (by decide)) (by decide), ?_⟩
            refine ⟨fun c12 => ?_, fun c12 => ?_⟩
            · skip
              exact hpost _ _ _ _ _ _ (iv_w (iv_lit (l := (-2)) (h := (-2)) (by decide)) (by decide)) (iv_lit (l := 0) (h := 0) (by decide)) (iv_lea (l := 0) (h := 1) (r_nlt c4) (iv_leb (l := 0) (h := 2147483647) (r_nlt c1) (iv_lit (l := 0) (h := 0) (by decide)) (iv_top x1) (by decide)) (iv_sub (l := (-1)) (h := 1) (k_a_many _) (iv_lit (l := 1) (h := 1) (by decide)) (by decide)) (by decide)) hr8 hr9 k_a_run
            · skip
              exact (iv_emp (iv_ne (l := 1) (h := 0) c12 (iv_lit (l := 0) (h := 0) (by decide)) (iv_lit (l := 0) (h := 0) (by decide)) (by decide)) (by decide)).elim
          · skip
            refine ⟨fun c13 => ?_, fun c13 => ?_⟩
            · skip
              refine ⟨iv_nb (iv_lit (l := 0) (h := 0) (by decide)) (by decide), ?_⟩
              refine ⟨fun c14 => ?_, fun c14 => ?_⟩
              · skip
                exact hpost _ _ _ _ _ _ (iv_w (iv_lit (l := (-2)) (h := (-2)) (by decide)) (by decide)) (iv_lit (l := 0) (h := 0) (by decide)) (iv_lea (l := 0) (h := 1) (r_nlt c4) (iv_leb (l := 0) (h := 2147483647) (r_nlt c1) (iv_lit (l := 0) (h := 0) (by decide)) (iv_top x1) (by decide)) (iv_sub (l := (-1)) (h := 1) (k_a_many _) (iv_lit (l := 1) (h := 1) (by decide)) (by decide)) (by decide)) hr8 hr9 k_a_run
              · skip
                exact (iv_emp (iv_ne (l := 1) (h := 0) c14 (iv_lit (l := 0) (h := 0) (by decide)) (iv_lit (l := 0) (h := 0) (by decide)) (by decide)) (by decide)).elim
            · skip
              refine ⟨iv_nb (iv_lit (l := 1) (h := 1) (by decide)) (by decide), ?_⟩
              refine ⟨fun c15 => ?_, fun c15 => ?_⟩
              · skip
                exact (iv_emp (iv_eqa (l := 1) (h := 0) c15 (iv_lit (l := 1) (h := 1) (by decide)) (iv_lit (l := 0) (h := 0) (by decide)) (by decide)) (by decide)).elim
              · skip
                refine ⟨fun c16 => ?_, fun c16 => ?_⟩
                · skip
                  refine ⟨fun c17 => ?_, fun c17 => ?_⟩
                  · skip
                    exact hpost _ _ _ _ _ _ (iv_w (iv_lit (l := (-2)) (h := (-2)) (by decide)) (by decide)) (iv_lit (l := 0) (h := 0) (by decide)) (iv_lea (l := 0) (h := 1) (r_nlt c4) (iv_leb (l := 0) (h := 2147483647) (r_nlt c1) (iv_lit (l := 0) (h := 0) (by decide)) (iv_top x1) (by decide)) (iv_sub (l := (-1)) (h := 1) (k_a_many _) (iv_lit (l := 1) (h := 1) (by decide)) (by decide)) (by decide)) hr8 hr9 k_a_run
                  · skip
                    exact (iv_emp (iv_ne (l := 1) (h := 0) c17 (iv_lit (l := 0) (h := 0) (by decide)) (iv_lit (l := 0) (h := 0) (by decide)) (by decide)) (by decide)).elim
                · skip
                  refine ⟨fun c18 => ?_, fun c18 => ?_⟩
                  · skip
                    refine ⟨fun c19 => ?_, fun c19 => ?_⟩
                    · skip
                      exact hpost _ _ _ _ _ _ (iv_w (iv_lit (l := (-2)) (h := (-2)) (by decide)) (by decide)) (iv_lit (l := 0) (h := 0) (by decide)) (iv_lea (l := 0) (h := 1) (r_nlt c4) (iv_leb (l := 0) (h := 2147483647) (r_nlt c1) (iv_lit (l := 0) (h := 0) (by decide)) (iv_top x1) (by decide)) (iv_sub (l := (-1)) (h := 1) (k_a_many _) (iv_lit (l := 1) (h := 1) (by decide)) (by decide)) (by decide)) hr8 hr9 k_a_run
                    · skip
                      exact (iv_emp (iv_ne (l := 1) (h := 0) c19 (iv_lit (l := 0) (h := 0) (by decide)) (iv_lit (l := 0) (h := 0) (by decide)) (by decide)) (by decide)).elim
                  · skip
                    refine ⟨fun c20 => ?_, fun c20 => ?_⟩
                    · skip
                      exact (iv_emp (iv_eqa (l := 1) (h := 0) c20 (iv_lit (l := 1) (h := 1) (by decide)) (iv_lit (l := 0) (h := 0) (by decide)) (by decide)) (by decide)).elim
                    · skip
                      refine ⟨fun c21 => ?_, fun c21 => ?_⟩
                      · skip
                        refine ⟨fun c22 => ?_, fun c22 => ?_⟩
                        · skip
                          exact (iv_emp (iv_ne (l := 1) (h := 0) c22 (iv_lit (l := 0) (h := 0) (by decide)) (iv_lit (l := 0) (h := 0) (by decide)) (by decide)) (by decide)).elim
                        · skip
                          exact hpost _ _ _ _ _ _ (iv_w (iv_lit (l := (-2)) (h := (-2)) (by decide)) (by decide)) (iv_lit (l := 0) (h := 0) (by decide)) (iv_lea (l := 0) (h := 1) (r_nlt c4) (iv_leb (l := 0) (h := 2147483647) (r_nlt c1) (iv_lit (l := 0) (h := 0) (by decide)) (iv_top x1) (by decide)) (iv_sub (l := (-1)) (h := 1) (k_a_many _) (iv_lit (l := 1) (h := 1) (by decide)) (by decide)) (by decide)) hr8 hr9 k_a_run
                      · skip
                        refine ⟨fun c23 => ?_, fun c23 => ?_⟩
                        · skip
                          refine ⟨fun c24 => ?_, fun c24 => ?_⟩
                          · skip
                            exact (iv_emp (iv_ne (l := 1) (h := 0) c24 (iv_lit (l := 0) (h := 0) (by decide)) (iv_lit (l := 0) (h := 0) (by decide)) (by decide)) (by decide)).elim
                          · skip
                            exact hpost _ _ _ _ _ _ (iv_w (iv_lit (l := (-2)) (h := (-2)) (by decide)) (by decide)) (iv_lit (l := 0) (h := 0) (by decide)) (iv_lea (l := 0) (h := 1) (r_nlt c4) (iv_leb (l := 0) (h := 2147483647) (r_nlt c1) (iv_lit (l := 0) (h := 0) (by decide)) (iv_top x1) (by decide)) (iv_sub (l := (-1)) (h := 1) (k_a_many _) (iv_lit (l := 1) (h := 1) (by decide)) (by decide)) (by decide)) hr8 hr9 k_a_run
                        · skip
                          refine ⟨fun c25 => ?_, fun c25 => ?_⟩
                          · skip
                            exact s_m_psalm_58 (iv_lit (l := 0) (h := 0) (by decide)) k_a_many k_a_lands (iv_lea (l := 0) (h := 1) (r_nlt c4) (iv_leb (l := 0) (h := 2147483647) (r_nlt c1) (iv_lit (l := 0) (h := 0) (by decide)) (iv_top x1) (by decide)) (iv_sub (l := (-1)) (h := 1) (k_a_many _) (iv_lit (l := 1) (h := 1) (by decide)) (by decide)) (by decide)) hr8 hr9 k_a_run (iv_lea (l := 0) (h := 8) (r_nlt c13) (iv_leb (l := 0) (h := 2147483647) (r_nlt c11) (iv_lit (l := 0) (h := 0) (by decide)) (iv_top x2) (by decide)) (iv_sub (l := (-1)) (h := 8) hr8 (iv_lit (l := 1) (h := 1) (by decide)) (by decide)) (by decide)) (iv_lea (l := 0) (h := 99) (r_nlt c18) (iv_leb (l := 0) (h := 2147483647) (r_nlt c16) (iv_lit (l := 0) (h := 0) (by decide)) (iv_top x3) (by decide)) (iv_lit (l := 99) (h := 99) (by decide)) (by decide)) (iv_lea (l := 0) (h := 2) (r_nlt c23) (iv_leb (l := 0) (h := 2147483647) (r_nlt c21) (iv_lit (l := 0) (h := 0) (by decide)) (iv_top x4) (by decide)) (iv_lit (l := 2) (h := 2) (by decide)) (by decide)) (iv_w (iv_lit (l := 0) (h := 0) (by decide)) (by decide)) (iv_w (iv_lit (l := (-1)) (h := (-1)) (by decide)) (by decide)) (iv_w (iv_lit (l := 1000000) (h := 1000000) (by decide)) (by decide)) (iv_w (iv_lit (l := 0) (h := 0) (by decide)) (by decide)) hpost
                          · skip
                            exact (iv_emp (iv_eqa (l := 1) (h := 0) c25 (iv_lit (l := 1) (h := 1) (by decide)) (iv_lit (l := 0) (h := 0) (by decide)) (by decide)) (by decide)).elim
      · skip
        exact (iv_emp (iv_eqa (l := 1) (h := 0) c7 (iv_lit (l := 1) (h := 1) (by decide)) (iv_lit (l := 0) (h := 0) (by decide)) (by decide)) (by decide)).elim
-- m_meet
set_option maxRecDepth 20000 in
theorem s_m_meet_117 {P51 : Int32 → Int32 → Int32 → Prop} {f_code : Int32} {a_many : Nat → Int32} {a_lands : Nat → Int32} {f_land : Int32} {f_huts : Int32} {f_singers : Int32} {a_far : Nat → Int32} {x2 : Int32} {x3 : Int32} {x4 : Int32} {x6 : Int32} {x7 : Int32} {x8 : Int32} {y0 : Int32} {post : Int32 → (Int32) → (Int32) → (Int32) → (Int32) → (Nat → Int32) → Prop} (k_f_code : iv 0 0 f_code) (k_a_many : ∀ j, iv 0 2 (a_many j)) (k_a_lands : mLand a_lands) (k_f_land : iv 0 1 f_land) (k_f_huts : iv 1 9 f_huts) (k_f_singers : iv 0 6 f_singers) (k_a_far : ∀ j, iv 0 1000000 (a_far j)) (hx2 : iv 0 5 x2) (hx3 : iv 0 5 x3) (hx6 : iv 0 1000000 x6) (hx7 : iv 0 8 x7) (hx8 : iv 0 1000000 x8) (hy0 : iv (-1) 8 y0) (m51 : Int) (hm51 : m51 ≤ x7.toInt) (hP51 : ∀ (x5 : Int32) (x6 : Int32) (x7 : Int32), m51 < x7.toInt → iv (-1) 8 x5 → iv 0 1000000 x6 → iv 0 9 x7 → P51 x5 x6 x7) (hpost : ∀ (r : Int32) (f_code : Int32) (f_land : Int32) (f_huts : Int32) (f_singers : Int32) (a_far : Nat → Int32), iv (-1) 1000000 r → (iv 0 0 f_code) → (iv 0 1 f_land) → (iv 0 9 f_huts) → (iv 0 6 f_singers) → (∀ j, iv 0 1000000 (a_far j)) → post r f_code f_land f_huts f_singers a_far) : q_m_meet_117 P51 f_code a_many a_lands f_land f_huts f_singers a_far x2 x3 x4 x6 x7 x8 y0 post := by
  refine ⟨fun c1 => ?_, fun c1 => ?_⟩
  · skip
    intro w2 ew2
    have hw2 := iv_eq ew2 (iv_add (l := 1) (h := 9) hx7 (iv_lit (l := 1) (h := 1) (by decide)) (by decide))
    exact hP51 _ _ _ (ml_up hm51 (inc_lt ew2 hx7 (by decide))) hy0 hx8 (iv_w hw2 (by decide))
  · skip
    intro w3 ew3
    have hw3 := iv_eq ew3 (iv_add (l := 1) (h := 9) hx7 (iv_lit (l := 1) (h := 1) (by decide)) (by decide))
    exact hP51 _ _ _ (ml_up hm51 (inc_lt ew3 hx7 (by decide))) hy0 (iv_w (iv_lta (l := 0) (h := 999999) (r_nle c1) hx6 hx8 (by decide)) (by decide)) (iv_w hw3 (by decide))
set_option maxRecDepth 20000 in
theorem s_m_meet_145 {f_code : Int32} {a_many : Nat → Int32} {a_lands : Nat → Int32} {f_land : Int32} {f_huts : Int32} {f_singers : Int32} {a_far : Nat → Int32} {x5 : Int32} {post : Int32 → (Int32) → (Int32) → (Int32) → (Int32) → (Nat → Int32) → Prop} (k_f_code : iv 0 0 f_code) (k_a_many : ∀ j, iv 0 2 (a_many j)) (k_a_lands : mLand a_lands) (k_f_land : iv 0 1 f_land) (k_f_huts : iv 0 9 f_huts) (k_f_singers : iv 0 6 f_singers) (k_a_far : ∀ j, iv 0 1000000 (a_far j)) (hx5 : iv (-1) 8 x5) (hpost : ∀ (r : Int32) (f_code : Int32) (f_land : Int32) (f_huts : Int32) (f_singers : Int32) (a_far : Nat → Int32), iv (-1) 1000000 r → (iv 0 0 f_code) → (iv 0 1 f_land) → (iv 0 9 f_huts) → (iv 0 6 f_singers) → (∀ j, iv 0 1000000 (a_far j)) → post r f_code f_land f_huts f_singers a_far) : q_m_meet_145 f_code a_many a_lands f_land f_huts f_singers a_far x5 post := by
  exact hpost _ _ _ _ _ _ (iv_w hx5 (by decide)) k_f_code k_f_land k_f_huts k_f_singers k_a_far
set_option maxRecDepth 20000 in
theorem s_m_meet_51 {f_code : Int32} {a_many : Nat → Int32} {a_lands : Nat → Int32} {f_land : Int32} {f_huts : Int32} {f_singers : Int32} {a_far : Nat → Int32} {x2 : Int32} {x3 : Int32} {x4 : Int32} {x5 : Int32} {x6 : Int32} {x7 : Int32} {post : Int32 → (Int32) → (Int32) → (Int32) → (Int32) → (Nat → Int32) → Prop} (k_f_code : iv 0 0 f_code) (k_a_many : ∀ j, iv 0 2 (a_many j)) (k_a_lands : mLand a_lands) (k_f_land : iv 0 1 f_land) (k_f_huts : iv 0 9 f_huts) (k_f_singers : iv 0 6 f_singers) (k_a_far : ∀ j, iv 0 1000000 (a_far j)) (hx2 : iv 0 5 x2) (hx3 : iv 0 5 x3) (hx5 : iv (-1) 8 x5) (hx6 : iv 0 1000000 x6) (hx7 : iv 0 9 x7) (hpost : ∀ (r : Int32) (f_code : Int32) (f_land : Int32) (f_huts : Int32) (f_singers : Int32) (a_far : Nat → Int32), iv (-1) 1000000 r → (iv 0 0 f_code) → (iv 0 1 f_land) → (iv 0 9 f_huts) → (iv 0 6 f_singers) → (∀ j, iv 0 1000000 (a_far j)) → post r f_code f_land f_huts f_singers a_far) : q_m_meet_51 f_code a_many a_lands f_land f_huts f_singers a_far x2 x3 x4 x5 x6 x7 post := by
  intro P hP
  have loop : ∀ (n : Nat) (x5 : Int32) (x6 : Int32) (x7 : Int32), (9 - x7.toInt < (n : Int)) → (iv (-1) 8 x5) → (iv 0 1000000 x6) → (iv 0 9 x7) → P x5 x6 x7 := by
    intro n
    induction n with
    | zero => intro x5 x6 x7 hm hx5 hx6 hx7; exact (ms0_up hm hx7).elim
    | succ n ih =>
      intro x5 x6 x7 hm hx5 hx6 hx7
      apply hP
      refine ⟨fun c1 => ?_, fun c1 => ?_⟩
      · skip
        refine ⟨fun c2 => ?_, fun c2 => ?_⟩
        · skip
          exact s_m_meet_145 k_f_code k_a_many k_a_lands k_f_land k_f_huts k_f_singers k_a_far (iv_w (iv_eqa (l := (-1)) (h := (-1)) c2 hx5 (iv_lit (l := (-1)) (h := (-1)) (by decide)) (by decide)) (by decide)) hpost
        · skip
          refine ⟨fun c3 => ?_, fun c3 => ?_⟩
          · skip
            exact hpost _ _ _ _ _ _ (iv_w hx6 (by decide)) k_f_code k_f_land k_f_huts k_f_singers k_a_far
          · skip
            exact s_m_meet_145 k_f_code k_a_many k_a_lands k_f_land k_f_huts k_f_singers k_a_far (iv_w (iv_ne (l := 0) (h := 8) c2 hx5 (iv_lit (l := (-1)) (h := (-1)) (by decide)) (by decide)) (by decide)) hpost
      · skip
        refine sp_of (a := 0) (b := 8) k_a_lands k_f_land (iv_add (l := 25) (h := 30) (iv_lit (l := 25) (h := 25) (by decide)) hx2 (by decide)) (by decide +kernel) (fun r4 hr4 er4 => ?_)
        refine ⟨iv_in (iv_add (l := 0) (h := 80) (iv_mul (l := 0) (h := 72) (iv_lit (l := 9) (h := 9) (by decide)) hr4 (by decide)) (iv_lta (l := 0) (h := 8) (r_nle c1) hx7 k_f_huts (by decide)) (by decide)) (by decide), ?_⟩
        refine sp_of (a := 0) (b := 8) k_a_lands k_f_land (iv_add (l := 25) (h := 30) (iv_lit (l := 25) (h := 25) (by decide)) hx3 (by decide)) (by decide +kernel) (fun r5 hr5 er5 => ?_)
        refine ⟨iv_in (iv_add (l := 0) (h := 80) (iv_mul (l := 0) (h := 72) (iv_lit (l := 9) (h := 9) (by decide)) hr5 (by decide)) (iv_lta (l := 0) (h := 8) (r_nle c1) hx7 k_f_huts (by decide)) (by decide)) (by decide), ?_⟩
        refine ⟨fun c6 => ?_, fun c6 => ?_⟩
        · skip
          refine ⟨fun c7 => ?_, fun c7 => ?_⟩
          · skip
            exact s_m_meet_117 k_f_code k_a_many k_a_lands k_f_land (iv_ltb (l := 1) (h := 9) (r_nle c1) hx7 k_f_huts (by decide)) k_f_singers k_a_far hx2 hx3 hx6 (iv_lta (l := 0) (h := 8) (r_nle c1) hx7 k_f_huts (by decide)) (k_a_far _) hx5 x7.toInt (Int.le_refl _) (fun u0 u1 u2 hq g0 g1 g2 => ih u0 u1 u2 (ms_up hm hq) g0 g1 g2) hpost
          · skip
            exact s_m_meet_117 k_f_code k_a_many k_a_lands k_f_land (iv_ltb (l := 1) (h := 9) (r_nle c1) hx7 k_f_huts (by decide)) k_f_singers k_a_far hx2 hx3 (iv_w (iv_ltb (l := 1) (h := 1000000) (r_nle c7) (k_a_far _) hx6 (by decide)) (by decide)) (iv_lta (l := 0) (h := 8) (r_nle c1) hx7 k_f_huts (by decide)) (iv_w (iv_lta (l := 0) (h := 999999) (r_nle c7) (k_a_far _) hx6 (by decide)) (by decide)) (iv_w (iv_lta (l := 0) (h := 8) (r_nle c1) hx7 k_f_huts (by decide)) (by decide)) x7.toInt (Int.le_refl _) (fun u0 u1 u2 hq g0 g1 g2 => ih u0 u1 u2 (ms_up hm hq) g0 g1 g2) hpost
        · skip
          refine ⟨fun c8 => ?_, fun c8 => ?_⟩
          · skip
            exact s_m_meet_117 k_f_code k_a_many k_a_lands k_f_land (iv_ltb (l := 1) (h := 9) (r_nle c1) hx7 k_f_huts (by decide)) k_f_singers k_a_far hx2 hx3 hx6 (iv_lta (l := 0) (h := 8) (r_nle c1) hx7 k_f_huts (by decide)) (iv_w (iv_ltb (l := 1) (h := 1000000) (r_nle c6) (k_a_far _) (k_a_far _) (by decide)) (by decide)) hx5 x7.toInt (Int.le_refl _) (fun u0 u1 u2 hq g0 g1 g2 => ih u0 u1 u2 (ms_up hm hq) g0 g1 g2) hpost
          · skip
            exact s_m_meet_117 k_f_code k_a_many k_a_lands k_f_land (iv_ltb (l := 1) (h := 9) (r_nle c1) hx7 k_f_huts (by decide)) k_f_singers k_a_far hx2 hx3 (iv_w (iv_ltb (l := 2) (h := 1000000) (r_nle c8) (iv_ltb (l := 1) (h := 1000000) (r_nle c6) (k_a_far _) (k_a_far _) (by decide)) hx6 (by decide)) (by decide)) (iv_lta (l := 0) (h := 8) (r_nle c1) hx7 k_f_huts (by decide)) (iv_w (iv_lta (l := 1) (h := 999999) (r_nle c8) (iv_ltb (l := 1) (h := 1000000) (r_nle c6) (k_a_far _) (k_a_far _) (by decide)) hx6 (by decide)) (by decide)) (iv_w (iv_lta (l := 0) (h := 8) (r_nle c1) hx7 k_f_huts (by decide)) (by decide)) x7.toInt (Int.le_refl _) (fun u0 u1 u2 hq g0 g1 g2 => ih u0 u1 u2 (ms_up hm hq) g0 g1 g2) hpost
  exact loop _ _ _ _ (ms_init_up _ _) hx5 hx6 hx7
set_option maxRecDepth 20000 in
theorem s_m_meet_0 {f_code : Int32} {a_many : Nat → Int32} {a_lands : Nat → Int32} {f_land : Int32} {f_huts : Int32} {f_singers : Int32} {a_far : Nat → Int32} {x1 : Int32} {x2 : Int32} {x3 : Int32} {x4 : Int32} {post : Int32 → (Int32) → (Int32) → (Int32) → (Int32) → (Nat → Int32) → Prop} (k_f_code : iv 0 0 f_code) (k_a_many : ∀ j, iv 0 2 (a_many j)) (k_a_lands : mLand a_lands) (k_f_land : iv 0 1 f_land) (k_f_huts : iv 0 9 f_huts) (k_f_singers : iv 0 6 f_singers) (k_a_far : ∀ j, iv 0 1000000 (a_far j)) (hpost : ∀ (r : Int32) (f_code : Int32) (f_land : Int32) (f_huts : Int32) (f_singers : Int32) (a_far : Nat → Int32), iv (-1) 1000000 r → (iv 0 0 f_code) → (iv 0 1 f_land) → (iv 0 9 f_huts) → (iv 0 6 f_singers) → (∀ j, iv 0 1000000 (a_far j)) → post r f_code f_land f_huts f_singers a_far) : q_m_meet_0 f_code a_many a_lands f_land f_huts f_singers a_far x1 x2 x3 x4 post := by
  refine ⟨iv_in (iv_lit (l := 0) (h := 0) (by decide)) (by decide), ?_⟩
  refine ⟨fun c1 => ?_, fun c1 => ?_⟩
  · skip
    refine ⟨iv_nb (iv_lit (l := 0) (h := 0) (by decide)) (by decide), ?_⟩
    refine ⟨fun c2 => ?_, fun c2 => ?_⟩
    · skip
      exact (iv_emp (iv_ne (l := 1) (h := 0) c2 (iv_lit (l := 0) (h := 0) (by decide)) (iv_lit (l := 0) (h := 0) (by decide)) (by decide)) (by decide)).elim
    · skip
      refine ⟨fun c3 => ?_, fun c3 => ?_⟩
      · skip
        exact hpost _ _ _ _ _ _ (iv_w (iv_lit (l := (-1)) (h := (-1)) (by decide)) (by decide)) (iv_lit (l := 0) (h := 0) (by decide)) k_f_land k_f_huts k_f_singers k_a_far
      · skip
        exact (iv_emp (iv_ne (l := 1) (h := 0) c3 (iv_lit (l := 0) (h := 0) (by decide)) (iv_lit (l := 0) (h := 0) (by decide)) (by decide)) (by decide)).elim
  · skip
    refine ⟨fun c4 => ?_, fun c4 => ?_⟩
    · skip
      refine ⟨iv_nb (iv_lit (l := 0) (h := 0) (by decide)) (by decide), ?_⟩
      refine ⟨fun c5 => ?_, fun c5 => ?_⟩
      · skip
        exact (iv_emp (iv_ne (l := 1) (h := 0) c5 (iv_lit (l := 0) (h := 0) (by decide)) (iv_lit (l := 0) (h := 0) (by decide)) (by decide)) (by decide)).elim
      · skip
        refine ⟨fun c6 => ?_, fun c6 => ?_⟩
        · skip
          exact hpost _ _ _ _ _ _ (iv_w (iv_lit (l := (-1)) (h := (-1)) (by decide)) (by decide)) (iv_lit (l := 0) (h := 0) (by decide)) k_f_land k_f_huts k_f_singers k_a_far
        · skip
          exact (iv_emp (iv_ne (l := 1) (h := 0) c6 (iv_lit (l := 0) (h := 0) (by decide)) (iv_lit (l := 0) (h := 0) (by decide)) (by decide)) (by decide)).elim
    · skip
      refine ⟨iv_nb (iv_lit (l := 1) (h := 1) (by decide)) (by decide), ?_⟩
      refine ⟨fun c7 => ?_, fun c7 => ?_⟩
      · skip
        refine sp_of (a := 0) (b := 9) k_a_lands (iv_lea (l := 0) (h := 1) (r_nlt c4) (iv_leb (l := 0) (h := 2147483647) (r_nlt c1) (iv_lit (l := 0) (h := 0) (by decide)) (iv_top x1) (by decide)) (iv_sub (l := (-1)) (h := 1) (k_a_many _) (iv_lit (l := 1) (h := 1) (by decide)) (by decide)) (by decide)) (iv_lit (l := 0) (h := 0) (by decide)) (by decide +kernel) (fun r8 hr8 er8 => ?_)
        refine sp_of (a := 0) (b := 6) k_a_lands (iv_lea (l := 0) (h := 1) (r_nlt c4) (iv_leb (l := 0) (h := 2147483647) (r_nlt c1) (iv_lit (l := 0) (h := 0) (by decide)) (iv_top x1) (by decide)) (iv_sub (l := (-1)) (h := 1) (k_a_many _) (iv_lit (l := 1) (h := 1) (by decide)) (by decide)) (by decide)) (iv_lit (l := 1) (h := 1) (by decide)) (by decide +kernel) (fun r9 hr9 er9 => ?_)
        refine ⟨fun c10 => ?_, fun c10 => ?_⟩
        · skip
          exact (iv_emp (iv_eqa (l := 1) (h := 0) c10 (iv_lit (l := 1) (h := 1) (by decide)) (iv_lit (l := 0) (h := 0) (by decide)) (by decide)) (by decide)).elim
        · skip
          refine ⟨fun c11 => ?_, fun c11 => ?_⟩
          · skip
            refine ⟨iv_nb (iv_lit (l := 0) (h := 0) (by decide)) (by decide), ?_⟩
            refine ⟨fun c12 => ?_, fun c12 => ?_⟩
            · skip
              exact hpost _ _ _ _ _ _ (iv_w (iv_lit (l := (-1)) (h := (-1)) (by decide)) (by decide)) (iv_lit (l := 0) (h := 0) (by decide)) (iv_lea (l := 0) (h := 1) (r_nlt c4) (iv_leb (l := 0) (h := 2147483647) (r_nlt c1) (iv_lit (l := 0) (h := 0) (by decide)) (iv_top x1) (by decide)) (iv_sub (l := (-1)) (h := 1) (k_a_many _) (iv_lit (l := 1) (h := 1) (by decide)) (by decide)) (by decide)) hr8 hr9 k_a_far
            · skip
              exact (iv_emp (iv_ne (l := 1) (h := 0) c12 (iv_lit (l := 0) (h := 0) (by decide)) (iv_lit (l := 0) (h := 0) (by decide)) (by decide)) (by decide)).elim
          · skip
            refine ⟨fun c13 => ?_, fun c13 => ?_⟩
            · skip
              refine ⟨iv_nb (iv_lit (l := 0) (h := 0) (by decide)) (by decide), ?_⟩
              refine ⟨fun c14 => ?_, fun c14 => ?_⟩
              · skip
                exact hpost _ _ _ _ _ _ (iv_w (iv_lit (l := (-1)) (h := (-1)) (by decide)) (by decide)) (iv_lit (l := 0) (h := 0) (by decide)) (iv_lea (l := 0) (h := 1) (r_nlt c4) (iv_leb (l := 0) (h := 2147483647) (r_nlt c1) (iv_lit (l := 0) (h := 0) (by decide)) (iv_top x1) (by decide)) (iv_sub (l := (-1)) (h := 1) (k_a_many _) (iv_lit (l := 1) (h := 1) (by decide)) (by decide)) (by decide)) hr8 hr9 k_a_far
              · skip
                exact (iv_emp (iv_ne (l := 1) (h := 0) c14 (iv_lit (l := 0) (h := 0) (by decide)) (iv_lit (l := 0) (h := 0) (by decide)) (by decide)) (by decide)).elim
            · skip
              refine ⟨iv_nb (iv_lit (l := 1) (h := 1) (by decide)) (by decide), ?_⟩
              refine ⟨fun c15 => ?_, fun c15 => ?_⟩
              · skip
                exact (iv_emp (iv_eqa (l := 1) (h := 0) c15 (iv_lit (l := 1) (h := 1) (by decide)) (iv_lit (l := 0) (h := 0) (by decide)) (by decide)) (by decide)).elim
              · skip
                refine ⟨fun c16 => ?_, fun c16 => ?_⟩
                · skip
                  refine ⟨iv_nb (iv_lit (l := 0) (h := 0) (by decide)) (by decide), ?_⟩
                  refine ⟨fun c17 => ?_, fun c17 => ?_⟩
                  · skip
                    exact hpost _ _ _ _ _ _ (iv_w (iv_lit (l := (-1)) (h := (-1)) (by decide)) (by decide)) (iv_lit (l := 0) (h := 0) (by decide)) (iv_lea (l := 0) (h := 1) (r_nlt c4) (iv_leb (l := 0) (h := 2147483647) (r_nlt c1) (iv_lit (l := 0) (h := 0) (by decide)) (iv_top x1) (by decide)) (iv_sub (l := (-1)) (h := 1) (k_a_many _) (iv_lit (l := 1) (h := 1) (by decide)) (by decide)) (by decide)) hr8 hr9 k_a_far
                  · skip
                    exact (iv_emp (iv_ne (l := 1) (h := 0) c17 (iv_lit (l := 0) (h := 0) (by decide)) (iv_lit (l := 0) (h := 0) (by decide)) (by decide)) (by decide)).elim
                · skip
                  refine ⟨fun c18 => ?_, fun c18 => ?_⟩
                  · skip
                    refine ⟨iv_nb (iv_lit (l := 0) (h := 0) (by decide)) (by decide), ?_⟩
                    refine ⟨fun c19 => ?_, fun c19 => ?_⟩
                    · skip
                      exact hpost _ _ _ _ _ _ (iv_w (iv_lit (l := (-1)) (h := (-1)) (by decide)) (by decide)) (iv_lit (l := 0) (h := 0) (by decide)) (iv_lea (l := 0) (h := 1) (r_nlt c4) (iv_leb (l := 0) (h := 2147483647) (r_nlt c1) (iv_lit (l := 0) (h := 0) (by decide)) (iv_top x1) (by decide)) (iv_sub (l := (-1)) (h := 1) (k_a_many _) (iv_lit (l := 1) (h := 1) (by decide)) (by decide)) (by decide)) hr8 hr9 k_a_far
                    · skip
                      exact (iv_emp (iv_ne (l := 1) (h := 0) c19 (iv_lit (l := 0) (h := 0) (by decide)) (iv_lit (l := 0) (h := 0) (by decide)) (by decide)) (by decide)).elim
                  · skip
                    refine ⟨iv_nb (iv_lit (l := 1) (h := 1) (by decide)) (by decide), ?_⟩
                    refine ⟨fun c20 => ?_, fun c20 => ?_⟩
                    · skip
                      exact (iv_emp (iv_eqa (l := 1) (h := 0) c20 (iv_lit (l := 1) (h := 1) (by decide)) (iv_lit (l := 0) (h := 0) (by decide)) (by decide)) (by decide)).elim
                    · skip
                      refine ⟨fun c21 => ?_, fun c21 => ?_⟩
                      · skip
                        refine s_m_findFar_0 k_a_lands (iv_lea (l := 0) (h := 1) (r_nlt c4) (iv_leb (l := 0) (h := 2147483647) (r_nlt c1) (iv_lit (l := 0) (h := 0) (by decide)) (iv_top x1) (by decide)) (iv_sub (l := (-1)) (h := 1) (k_a_many _) (iv_lit (l := 1) (h := 1) (by decide)) (by decide)) (by decide)) hr8 k_a_far (fun o22 k_o22 => ?_)
                        exact s_m_meet_51 (iv_lit (l := 0) (h := 0) (by decide)) k_a_many k_a_lands (iv_lea (l := 0) (h := 1) (r_nlt c4) (iv_leb (l := 0) (h := 2147483647) (r_nlt c1) (iv_lit (l := 0) (h := 0) (by decide)) (iv_top x1) (by decide)) (iv_sub (l := (-1)) (h := 1) (k_a_many _) (iv_lit (l := 1) (h := 1) (by decide)) (by decide)) (by decide)) hr8 hr9 k_o22 (iv_lea (l := 0) (h := 5) (r_nlt c13) (iv_leb (l := 0) (h := 2147483647) (r_nlt c11) (iv_lit (l := 0) (h := 0) (by decide)) (iv_top x2) (by decide)) (iv_sub (l := (-1)) (h := 5) hr9 (iv_lit (l := 1) (h := 1) (by decide)) (by decide)) (by decide)) (iv_lea (l := 0) (h := 5) (r_nlt c18) (iv_leb (l := 0) (h := 2147483647) (r_nlt c16) (iv_lit (l := 0) (h := 0) (by decide)) (iv_top x3) (by decide)) (iv_leb (l := 0) (h := 5) (r_nlt c13) (iv_leb (l := 0) (h := 2147483647) (r_nlt c11) (iv_lit (l := 0) (h := 0) (by decide)) (iv_top x2) (by decide)) (iv_sub (l := (-1)) (h := 5) hr9 (iv_lit (l := 1) (h := 1) (by decide)) (by decide)) (by decide)) (by decide)) (iv_w (iv_lit (l := (-1)) (h := (-1)) (by decide)) (by decide)) (iv_w (iv_lit (l := 1000000) (h := 1000000) (by decide)) (by decide)) (iv_w (iv_lit (l := 0) (h := 0) (by decide)) (by decide)) hpost
                      · skip
                        exact hpost _ _ _ _ _ _ (iv_w (iv_lit (l := (-1)) (h := (-1)) (by decide)) (by decide)) (iv_lit (l := 0) (h := 0) (by decide)) (iv_lea (l := 0) (h := 1) (r_nlt c4) (iv_leb (l := 0) (h := 2147483647) (r_nlt c1) (iv_lit (l := 0) (h := 0) (by decide)) (iv_top x1) (by decide)) (iv_sub (l := (-1)) (h := 1) (k_a_many _) (iv_lit (l := 1) (h := 1) (by decide)) (by decide)) (by decide)) hr8 hr9 k_a_far
      · skip
        exact (iv_emp (iv_eqa (l := 1) (h := 0) c7 (iv_lit (l := 1) (h := 1) (by decide)) (iv_lit (l := 0) (h := 0) (by decide)) (by decide)) (by decide)).elim
end
section
-- m_carry
set_option maxRecDepth 20000 in
theorem s_m_carry_136 {f_code : Int32} {a_many : Nat → Int32} {a_lands : Nat → Int32} {f_land : Int32} {f_huts : Int32} {f_singers : Int32} {a_run : Nat → Int32} {a_far : Nat → Int32} {x4 : Int32} {post : Int32 → (Int32) → (Int32) → (Int32) → (Int32) → (Nat → Int32) → (Nat → Int32) → Prop} (k_f_code : iv 0 0 f_code) (k_a_many : ∀ j, iv 0 2 (a_many j)) (k_a_lands : mLand a_lands) (k_f_land : iv 0 1 f_land) (k_f_huts : iv 0 9 f_huts) (k_f_singers : iv 0 6 f_singers) (k_a_run : ∀ j, iv 0 1000000 (a_run j)) (k_a_far : ∀ j, iv 0 1000000 (a_far j)) (hx4 : iv (-1) 8 x4) (hpost : ∀ (r : Int32) (f_code : Int32) (f_land : Int32) (f_huts : Int32) (f_singers : Int32) (a_run : Nat → Int32) (a_far : Nat → Int32), iv (-1) 1000000 r → (iv 0 0 f_code) → (iv 0 1 f_land) → (iv 0 9 f_huts) → (iv 0 6 f_singers) → (∀ j, iv 0 1000000 (a_run j)) → (∀ j, iv 0 1000000 (a_far j)) → post r f_code f_land f_huts f_singers a_run a_far) : q_m_carry_136 f_code a_many a_lands f_land f_huts f_singers a_run a_far x4 post := by
  exact hpost _ _ _ _ _ _ _ (iv_w hx4 (by decide)) k_f_code k_f_land k_f_huts k_f_singers k_a_run k_a_far
set_option maxRecDepth 20000 in
theorem s_m_carry_109 {P38 : Int32 → Int32 → Int32 → (Nat → Int32) → Prop} {f_code : Int32} {a_many : Nat → Int32} {a_lands : Nat → Int32} {f_land : Int32} {f_huts : Int32} {f_singers : Int32} {a_run : Nat → Int32} {a_far : Nat → Int32} {x2 : Int32} {x3 : Int32} {x5 : Int32} {x6 : Int32} {x7 : Int32} {y0 : Int32} {post : Int32 → (Int32) → (Int32) → (Int32) → (Int32) → (Nat → Int32) → (Nat → Int32) → Prop} (k_f_code : iv 0 0 f_code) (k_a_many : ∀ j, iv 0 2 (a_many j)) (k_a_lands : mLand a_lands) (k_f_land : iv 0 1 f_land) (k_f_huts : iv 1 9 f_huts) (k_f_singers : iv 0 6 f_singers) (k_a_run : ∀ j, iv 0 1000000 (a_run j)) (k_a_far : ∀ j, iv 0 1000000 (a_far j)) (hx2 : iv 0 5 x2) (hx5 : iv 0 1000000 x5) (hx6 : iv 0 8 x6) (hx7 : iv 0 2000000 x7) (hy0 : iv (-1) 8 y0) (m38 : Int) (hm38 : m38 ≤ x6.toInt) (hP38 : ∀ (x4 : Int32) (x5 : Int32) (x6 : Int32) (a_run : Nat → Int32), m38 < x6.toInt → iv (-1) 8 x4 → iv 0 1000000 x5 → iv 0 9 x6 → (∀ j, iv 0 1000000 (a_run j)) → P38 x4 x5 x6 a_run) (hpost : ∀ (r : Int32) (f_code : Int32) (f_land : Int32) (f_huts : Int32) (f_singers : Int32) (a_run : Nat → Int32) (a_far : Nat → Int32), iv (-1) 1000000 r → (iv 0 0 f_code) → (iv 0 1 f_land) → (iv 0 9 f_huts) → (iv 0 6 f_singers) → (∀ j, iv 0 1000000 (a_run j)) → (∀ j, iv 0 1000000 (a_far j)) → post r f_code f_land f_huts f_singers a_run a_far) : q_m_carry_109 P38 f_code a_many a_lands f_land f_huts f_singers a_run a_far x2 x3 x5 x6 x7 y0 post := by
  refine ⟨fun c1 => ?_, fun c1 => ?_⟩
  · skip
    intro w2 ew2
    have hw2 := iv_eq ew2 (iv_add (l := 1) (h := 9) hx6 (iv_lit (l := 1) (h := 1) (by decide)) (by decide))
    exact hP38 _ _ _ _ (ml_up hm38 (inc_lt ew2 hx6 (by decide))) hy0 (iv_lea (l := 0) (h := 1000000) (r_le c1) hx7 hx5 (by decide)) (iv_w hw2 (by decide)) k_a_run
  · skip
    intro w3 ew3
    have hw3 := iv_eq ew3 (iv_add (l := 1) (h := 9) hx6 (iv_lit (l := 1) (h := 1) (by decide)) (by decide))
    exact hP38 _ _ _ _ (ml_up hm38 (inc_lt ew3 hx6 (by decide))) hy0 hx5 (iv_w hw3 (by decide)) k_a_run
set_option maxRecDepth 20000 in
theorem s_m_carry_93 {P38 : Int32 → Int32 → Int32 → (Nat → Int32) → Prop} {f_code : Int32} {a_many : Nat → Int32} {a_lands : Nat → Int32} {f_land : Int32} {f_huts : Int32} {f_singers : Int32} {a_run : Nat → Int32} {a_far : Nat → Int32} {x2 : Int32} {x3 : Int32} {x4 : Int32} {x5 : Int32} {x6 : Int32} {y0 : Int32} {post : Int32 → (Int32) → (Int32) → (Int32) → (Int32) → (Nat → Int32) → (Nat → Int32) → Prop} (k_f_code : iv 0 0 f_code) (k_a_many : ∀ j, iv 0 2 (a_many j)) (k_a_lands : mLand a_lands) (k_f_land : iv 0 1 f_land) (k_f_huts : iv 1 9 f_huts) (k_f_singers : iv 0 6 f_singers) (k_a_run : ∀ j, iv 0 1000000 (a_run j)) (k_a_far : ∀ j, iv 0 1000000 (a_far j)) (hx2 : iv 0 5 x2) (hx4 : iv (-1) 8 x4) (hx5 : iv 0 1000000 x5) (hx6 : iv 0 8 x6) (hy0 : iv 0 2000000 y0) (m38 : Int) (hm38 : m38 ≤ x6.toInt) (hP38 : ∀ (x4 : Int32) (x5 : Int32) (x6 : Int32) (a_run : Nat → Int32), m38 < x6.toInt → iv (-1) 8 x4 → iv 0 1000000 x5 → iv 0 9 x6 → (∀ j, iv 0 1000000 (a_run j)) → P38 x4 x5 x6 a_run) (hpost : ∀ (r : Int32) (f_code : Int32) (f_land : Int32) (f_huts : Int32) (f_singers : Int32) (a_run : Nat → Int32) (a_far : Nat → Int32), iv (-1) 1000000 r → (iv 0 0 f_code) → (iv 0 1 f_land) → (iv 0 9 f_huts) → (iv 0 6 f_singers) → (∀ j, iv 0 1000000 (a_run j)) → (∀ j, iv 0 1000000 (a_far j)) → post r f_code f_land f_huts f_singers a_run a_far) : q_m_carry_93 P38 f_code a_many a_lands f_land f_huts f_singers a_run a_far x2 x3 x4 x5 x6 y0 post := by
  refine ⟨fun c1 => ?_, fun c1 => ?_⟩
  · skip
    exact s_m_carry_109 k_f_code k_a_many k_a_lands k_f_land k_f_huts k_f_singers k_a_run k_a_far hx2 hx5 hx6 hy0 hx4 m38 hm38 hP38 hpost
  · skip
    exact s_m_carry_109 k_f_code k_a_many k_a_lands k_f_land k_f_huts k_f_singers k_a_run k_a_far hx2 (iv_w (iv_ltb (l := 1) (h := 1000000) (r_nle c1) hy0 hx5 (by decide)) (by decide)) hx6 (iv_w (iv_lta (l := 0) (h := 999999) (r_nle c1) hy0 hx5 (by decide)) (by decide)) (iv_w hx6 (by decide)) m38 hm38 hP38 hpost
set_option maxRecDepth 20000 in
theorem s_m_carry_38 {f_code : Int32} {a_many : Nat → Int32} {a_lands : Nat → Int32} {f_land : Int32} {f_huts : Int32} {f_singers : Int32} {a_run : Nat → Int32} {a_far : Nat → Int32} {x2 : Int32} {x3 : Int32} {x4 : Int32} {x5 : Int32} {x6 : Int32} {post : Int32 → (Int32) → (Int32) → (Int32) → (Int32) → (Nat → Int32) → (Nat → Int32) → Prop} (k_f_code : iv 0 0 f_code) (k_a_many : ∀ j, iv 0 2 (a_many j)) (k_a_lands : mLand a_lands) (k_f_land : iv 0 1 f_land) (k_f_huts : iv 0 9 f_huts) (k_f_singers : iv 0 6 f_singers) (k_a_run : ∀ j, iv 0 1000000 (a_run j)) (k_a_far : ∀ j, iv 0 1000000 (a_far j)) (hx2 : iv 0 5 x2) (hx4 : iv (-1) 8 x4) (hx5 : iv 0 1000000 x5) (hx6 : iv 0 9 x6) (hpost : ∀ (r : Int32) (f_code : Int32) (f_land : Int32) (f_huts : Int32) (f_singers : Int32) (a_run : Nat → Int32) (a_far : Nat → Int32), iv (-1) 1000000 r → (iv 0 0 f_code) → (iv 0 1 f_land) → (iv 0 9 f_huts) → (iv 0 6 f_singers) → (∀ j, iv 0 1000000 (a_run j)) → (∀ j, iv 0 1000000 (a_far j)) → post r f_code f_land f_huts f_singers a_run a_far) : q_m_carry_38 f_code a_many a_lands f_land f_huts f_singers a_run a_far x2 x3 x4 x5 x6 post := by
  intro P hP
  have loop : ∀ (n : Nat) (x4 : Int32) (x5 : Int32) (x6 : Int32) (a_run : Nat → Int32), (9 - x6.toInt < (n : Int)) → (iv (-1) 8 x4) → (iv 0 1000000 x5) → (iv 0 9 x6) → (∀ j, iv 0 1000000 (a_run j)) → P x4 x5 x6 a_run := by
    intro n
    induction n with
    | zero => intro x4 x5 x6 a_run hm hx4 hx5 hx6 k_a_run; exact (ms0_up hm hx6).elim
    | succ n ih =>
      intro x4 x5 x6 a_run hm hx4 hx5 hx6 k_a_run
      apply hP
      refine ⟨fun c1 => ?_, fun c1 => ?_⟩
      · skip
        refine ⟨fun c2 => ?_, fun c2 => ?_⟩
        · skip
          exact s_m_carry_136 k_f_code k_a_many k_a_lands k_f_land k_f_huts k_f_singers k_a_run k_a_far (iv_w (iv_eqa (l := (-1)) (h := (-1)) c2 hx4 (iv_lit (l := (-1)) (h := (-1)) (by decide)) (by decide)) (by decide)) hpost
        · skip
          refine ⟨fun c3 => ?_, fun c3 => ?_⟩
          · skip
            exact hpost _ _ _ _ _ _ _ (iv_w hx5 (by decide)) k_f_code k_f_land k_f_huts k_f_singers k_a_run k_a_far
          · skip
            exact s_m_carry_136 k_f_code k_a_many k_a_lands k_f_land k_f_huts k_f_singers k_a_run k_a_far (iv_w (iv_ne (l := 0) (h := 8) c2 hx4 (iv_lit (l := (-1)) (h := (-1)) (by decide)) (by decide)) (by decide)) hpost
      · skip
        refine s_m_findRun_0 k_a_lands k_f_land (iv_w (iv_ltb (l := 1) (h := 9) (r_nle c1) hx6 k_f_huts (by decide)) (by decide)) k_a_run (iv_lta (l := 0) (h := 8) (r_nle c1) hx6 k_f_huts (by decide)) (iv_w (iv_lit (l := 0) (h := 0) (by decide)) (by decide)) (fun o4 k_o4 => ?_)
        refine sp_of (a := 0) (b := 511) k_a_lands k_f_land (iv_lit (l := 3) (h := 3) (by decide)) (by decide +kernel) (fun r5 hr5 er5 => ?_)
        refine ⟨fun c6 => ?_, fun c6 => ?_⟩
        · skip
          refine ⟨iv_nb (iv_lit (l := 0) (h := 0) (by decide)) (by decide), ?_⟩
          refine ⟨fun c7 => ?_, fun c7 => ?_⟩
          · skip
            refine sp_of (a := 0) (b := 8) k_a_lands k_f_land (iv_add (l := 25) (h := 30) (iv_lit (l := 25) (h := 25) (by decide)) hx2 (by decide)) (by decide +kernel) (fun r8 hr8 er8 => ?_)
            refine ⟨iv_in (iv_add (l := 0) (h := 80) (iv_mul (l := 0) (h := 72) (iv_lit (l := 9) (h := 9) (by decide)) hr8 (by decide)) (iv_lta (l := 0) (h := 8) (r_nle c1) hx6 k_f_huts (by decide)) (by decide)) (by decide), ?_⟩
            refine s_m_lastVillage_0 k_a_lands k_f_land (iv_ltb (l := 1) (h := 9) (r_nle c1) hx6 k_f_huts (by decide)) k_o4 (fun r9 hr9 => ?_)
            exact s_m_carry_93 k_f_code k_a_many k_a_lands k_f_land (iv_ltb (l := 1) (h := 9) (r_nle c1) hx6 k_f_huts (by decide)) k_f_singers k_o4 k_a_far hx2 hx4 hx5 (iv_lta (l := 0) (h := 8) (r_nle c1) hx6 k_f_huts (by decide)) (iv_add (l := 0) (h := 2000000) (k_a_far _) hr9 (by decide)) x6.toInt (Int.le_refl _) (fun u0 u1 u2 u3 hq g0 g1 g2 g3 => ih u0 u1 u2 u3 (ms_up hm hq) g0 g1 g2 g3) hpost
          · skip
            exact (iv_emp (iv_ne (l := 1) (h := 0) c7 (iv_lit (l := 0) (h := 0) (by decide)) (iv_lit (l := 0) (h := 0) (by decide)) (by decide)) (by decide)).elim
        · skip
          refine ⟨iv_nb (iv_lit (l := 1) (h := 1) (by decide)) (by decide), ?_⟩
          refine ⟨fun c10 => ?_, fun c10 => ?_⟩
          · skip
            exact (iv_emp (iv_eqa (l := 1) (h := 0) c10 (iv_lit (l := 1) (h := 1) (by decide)) (iv_lit (l := 0) (h := 0) (by decide)) (by decide)) (by decide)).elim
          · skip
            exact s_m_carry_93 k_f_code k_a_many k_a_lands k_f_land (iv_ltb (l := 1) (h := 9) (r_nle c1) hx6 k_f_huts (by decide)) k_f_singers k_o4 k_a_far hx2 hx4 hx5 (iv_lta (l := 0) (h := 8) (r_nle c1) hx6 k_f_huts (by decide)) (iv_w (iv_lit (l := 1000000) (h := 1000000) (by decide)) (by decide)) x6.toInt (Int.le_refl _) (fun u0 u1 u2 u3 hq g0 g1 g2 g3 => ih u0 u1 u2 u3 (ms_up hm hq) g0 g1 g2 g3) hpost
  exact loop _ _ _ _ _ (ms_init_up _ _) hx4 hx5 hx6 k_a_run
set_option maxRecDepth 20000 in
theorem s_m_carry_0 {f_code : Int32} {a_many : Nat → Int32} {a_lands : Nat → Int32} {f_land : Int32} {f_huts : Int32} {f_singers : Int32} {a_run : Nat → Int32} {a_far : Nat → Int32} {x1 : Int32} {x2 : Int32} {x3 : Int32} {post : Int32 → (Int32) → (Int32) → (Int32) → (Int32) → (Nat → Int32) → (Nat → Int32) → Prop} (k_f_code : iv 0 0 f_code) (k_a_many : ∀ j, iv 0 2 (a_many j)) (k_a_lands : mLand a_lands) (k_f_land : iv 0 1 f_land) (k_f_huts : iv 0 9 f_huts) (k_f_singers : iv 0 6 f_singers) (k_a_run : ∀ j, iv 0 1000000 (a_run j)) (k_a_far : ∀ j, iv 0 1000000 (a_far j)) (hpost : ∀ (r : Int32) (f_code : Int32) (f_land : Int32) (f_huts : Int32) (f_singers : Int32) (a_run : Nat → Int32) (a_far : Nat → Int32), iv (-1) 1000000 r → (iv 0 0 f_code) → (iv 0 1 f_land) → (iv 0 9 f_huts) → (iv 0 6 f_singers) → (∀ j, iv 0 1000000 (a_run j)) → (∀ j, iv 0 1000000 (a_far j)) → post r f_code f_land f_huts f_singers a_run a_far) : q_m_carry_0 f_code a_many a_lands f_land f_huts f_singers a_run a_far x1 x2 x3 post := by
  refine ⟨iv_in (iv_lit (l := 0) (h := 0) (by decide)) (by decide), ?_⟩
  refine ⟨fun c1 => ?_, fun c1 => ?_⟩
  · skip
    refine ⟨iv_nb (iv_lit (l := 0) (h := 0) (by decide)) (by decide), ?_⟩
    refine ⟨fun c2 => ?_, fun c2 => ?_⟩
    · skip
      exact (iv_emp (iv_ne (l := 1) (h := 0) c2 (iv_lit (l := 0) (h := 0) (by decide)) (iv_lit (l := 0) (h := 0) (by decide)) (by decide)) (by decide)).elim
    · skip
      refine ⟨fun c3 => ?_, fun c3 => ?_⟩
      · skip
        exact hpost _ _ _ _ _ _ _ (iv_w (iv_lit (l := (-1)) (h := (-1)) (by decide)) (by decide)) (iv_lit (l := 0) (h := 0) (by decide)) k_f_land k_f_huts k_f_singers k_a_run k_a_far
      · skip
        exact (iv_emp (iv_ne (l := 1) (h := 0) c3 (iv_lit (l := 0) (h := 0) (by decide)) (iv_lit (l := 0) (h := 0) (by decide)) (by decide)) (by decide)).elim
  · skip
    refine ⟨fun c4 => ?_, fun c4 => ?_⟩
    · skip
      refine ⟨iv_nb (iv_lit (l := 0) (h := 0) (by decide)) (by decide), ?_⟩
      refine ⟨fun c5 => ?_, fun c5 => ?_⟩
      · skip
        exact (iv_emp (iv_ne (l := 1) (h := 0) c5 (iv_lit (l := 0) (h := 0) (by decide)) (iv_lit (l := 0) (h := 0) (by decide)) (by decide)) (by decide)).elim
      · skip
        refine ⟨fun c6 => ?_, fun c6 => ?_⟩
        · skip
          exact hpost _ _ _ _ _ _ _ (iv_w (iv_lit (l := (-1)) (h := (-1)) (by decide)) (by decide)) (iv_lit (l := 0) (h := 0) (by decide)) k_f_land k_f_huts k_f_singers k_a_run k_a_far
        · skip
          exact (iv_emp (iv_ne (l := 1) (h := 0) c6 (iv_lit (l := 0) (h := 0) (by decide)) (iv_lit (l := 0) (h := 0) (by decide)) (by decide)) (by decide)).elim
    · skip
      refine ⟨iv_nb (iv_lit (l := 1) (h := 1) (by decide)) (by decide), ?_⟩
      refine ⟨fun c7 => ?_, fun c7 => ?_⟩
      · skip
        refine sp_of (a := 0) (b := 9) k_a_lands (iv_lea (l := 0) (h := 1) (r_nlt c4) (iv_leb (l := 0) (h := 2147483647) (r_nlt c1) (iv_lit (l := 0) (h := 0) (by decide)) (iv_top x1) (by decide)) (iv_sub (l := (-1)) (h := 1) (k_a_many _) (iv_lit (l := 1) (h := 1) (by decide)) (by decide)) (by decide)) (iv_lit (l := 0) (h := 0) (by decide)) (by decide +kernel) (fun r8 hr8 er8 => ?_)
        refine sp_of (a := 0) (b := 6) k_a_lands (iv_lea (l := 0) (h := 1) (r_nlt c4) (iv_leb (l := 0) (h := 2147483647) (r_nlt c1) (iv_lit (l := 0) (h := 0) (by decide)) (iv_top x1) (by decide)) (iv_sub (l := (-1)) (h := 1) (k_a_many _) (iv_lit (l := 1) (h := 1) (by decide)) (by decide)) (by decide)) (iv_lit (l := 1) (h := 1) (by decide)) (by decide +kernel) (fun r9 hr9 er9 => ?_)
        refine ⟨fun c10 => ?_, fun c10 => ?_⟩
        · skip
          exact (iv_emp (iv_eqa (l := 1) (h := 0) c10 (iv_lit (l := 1) (h := 1) (by decide)) (iv_lit (l := 0) (h := 0) (by decide)) (by decide)) (by decide)).elim
        · skip
          refine ⟨fun c11 => ?_, fun c11 => ?_⟩
          · skip
            refine ⟨iv_nb (iv_lit (l := 0) (h := 0) (by decide)) (by decide), ?_⟩
            refine ⟨fun c12 => ?_, fun c12 => ?_⟩
            · skip
              exact (iv_emp (iv_ne (l := 1) (h := 0) c12 (iv_lit (l := 0) (h := 0) (by decide)) (iv_lit (l := 0) (h := 0) (by decide)) (by decide)) (by decide)).elim
            · skip
              exact hpost _ _ _ _ _ _ _ (iv_w (iv_lit (l := (-1)) (h := (-1)) (by decide)) (by decide)) (iv_lit (l := 0) (h := 0) (by decide)) (iv_lea (l := 0) (h := 1) (r_nlt c4) (iv_leb (l := 0) (h := 2147483647) (r_nlt c1) (iv_lit (l := 0) (h := 0) (by decide)) (iv_top x1) (by decide)) (iv_sub (l := (-1)) (h := 1) (k_a_many _) (iv_lit (l := 1) (h := 1) (by decide)) (by decide)) (by decide)) hr8 hr9 k_a_run k_a_far
          · skip
            refine ⟨fun c13 => ?_, fun c13 => ?_⟩
            · skip
              refine ⟨iv_nb (iv_lit (l := 0) (h := 0) (by decide)) (by decide), ?_⟩
              refine ⟨fun c14 => ?_, fun c14 => ?_⟩
              · skip
                exact (iv_emp (iv_ne (l := 1) (h := 0) c14 (iv_lit (l := 0) (h := 0) (by decide)) (iv_lit (l := 0) (h := 0) (by decide)) (by decide)) (by decide)).elim
              · skip
                exact hpost _ _ _ _ _ _ _ (iv_w (iv_lit (l := (-1)) (h := (-1)) (by decide)) (by decide)) (iv_lit (l := 0) (h := 0) (by decide)) (iv_lea (l := 0) (h := 1) (r_nlt c4) (iv_leb (l := 0) (h := 2147483647) (r_nlt c1) (iv_lit (l := 0) (h := 0) (by decide)) (iv_top x1) (by decide)) (iv_sub (l := (-1)) (h := 1) (k_a_many _) (iv_lit (l := 1) (h := 1) (by decide)) (by decide)) (by decide)) hr8 hr9 k_a_run k_a_far
            · skip
              refine ⟨iv_nb (iv_lit (l := 1) (h := 1) (by decide)) (by decide), ?_⟩
              refine ⟨fun c15 => ?_, fun c15 => ?_⟩
              · skip
                refine s_m_findFar_0 k_a_lands (iv_lea (l := 0) (h := 1) (r_nlt c4) (iv_leb (l := 0) (h := 2147483647) (r_nlt c1) (iv_lit (l := 0) (h := 0) (by decide)) (iv_top x1) (by decide)) (iv_sub (l := (-1)) (h := 1) (k_a_many _) (iv_lit (l := 1) (h := 1) (by decide)) (by decide)) (by decide)) hr8 k_a_far (fun o16 k_o16 => ?_)
                exact s_m_carry_38 (iv_lit (l := 0) (h := 0) (by decide)) k_a_many k_a_lands (iv_lea (l := 0) (h := 1) (r_nlt c4) (iv_leb (l := 0) (h := 2147483647) (r_nlt c1) (iv_lit (l := 0) (h := 0) (by decide)) (iv_top x1) (by decide)) (iv_sub (l := (-1)) (h := 1) (k_a_many _) (iv_lit (l := 1) (h := 1) (by decide)) (by decide)) (by decide)) hr8 hr9 k_a_run k_o16 (iv_lea (l := 0) (h := 5) (r_nlt c13) (iv_leb (l := 0) (h := 2147483647) (r_nlt c11) (iv_lit (l := 0) (h := 0) (by decide)) (iv_top x2) (by decide)) (iv_sub (l := (-1)) (h := 5) hr9 (iv_lit (l := 1) (h := 1) (by decide)) (by decide)) (by decide)) (iv_w (iv_lit (l := (-1)) (h := (-1)) (by decide)) (by decide)) (iv_w (iv_lit (l := 1000000) (h := 1000000) (by decide)) (by decide)) (iv_w (iv_lit (l := 0) (h := 0) (by decide)) (by decide)) hpost
              · skip
                exact (iv_emp (iv_eqa (l := 1) (h := 0) c15 (iv_lit (l := 1) (h := 1) (by decide)) (iv_lit (l := 0) (h := 0) (by decide)) (by decide)) (by decide)).elim
      · skip
        exact (iv_emp (iv_eqa (l := 1) (h := 0) c7 (iv_lit (l := 1) (h := 1) (by decide)) (iv_lit (l := 0) (h := 0) (by decide)) (by decide)) (by decide)).elim
-- m_join
set_option maxRecDepth 20000 in
theorem s_m_join_128 {P86 : Int32 → Int32 → Int32 → Prop} {f_code : Int32} {a_many : Nat → Int32} {a_lands : Nat → Int32} {f_land : Int32} {f_huts : Int32} {f_singers : Int32} {a_run : Nat → Int32} {a_other : Nat → Int32} {x4 : Int32} {x6 : Int32} {x7 : Int32} {x8 : Int32} {y0 : Int32} {post : Int32 → (Int32) → (Int32) → (Int32) → (Int32) → (Nat → Int32) → (Nat → Int32) → Prop} (k_f_code : iv 0 0 f_code) (k_a_many : ∀ j, iv 0 2 (a_many j)) (k_a_lands : mLand a_lands) (k_f_land : iv 0 1 f_land) (k_f_huts : iv 1 9 f_huts) (k_f_singers : iv 0 6 f_singers) (k_a_run : ∀ j, iv 0 1000000 (a_run j)) (k_a_other : ∀ j, iv 0 1000000 (a_other j)) (hx6 : iv 0 1000000 x6) (hx7 : iv 0 8 x7) (hx8 : iv 0 1000000 x8) (hy0 : iv (-1) 8 y0) (m86 : Int) (hm86 : m86 ≤ x7.toInt) (hP86 : ∀ (x5 : Int32) (x6 : Int32) (x7 : Int32), m86 < x7.toInt → iv (-1) 8 x5 → iv 0 1000000 x6 → iv 0 9 x7 → P86 x5 x6 x7) (hpost : ∀ (r : Int32) (f_code : Int32) (f_land : Int32) (f_huts : Int32) (f_singers : Int32) (a_run : Nat → Int32) (a_other : Nat → Int32), iv (-1) 1000000 r → (iv 0 0 f_code) → (iv 0 1 f_land) → (iv 0 9 f_huts) → (iv 0 6 f_singers) → (∀ j, iv 0 1000000 (a_run j)) → (∀ j, iv 0 1000000 (a_other j)) → post r f_code f_land f_huts f_singers a_run a_other) : q_m_join_128 P86 f_code a_many a_lands f_land f_huts f_singers a_run a_other x4 x6 x7 x8 y0 post := by
  refine ⟨fun c1 => ?_, fun c1 => ?_⟩
  · skip
    intro w2 ew2
    have hw2 := iv_eq ew2 (iv_add (l := 1) (h := 9) hx7 (iv_lit (l := 1) (h := 1) (by decide)) (by decide))
    exact hP86 _ _ _ (ml_up hm86 (inc_lt ew2 hx7 (by decide))) hy0 hx8 (iv_w hw2 (by decide))
  · skip
    intro w3 ew3
    have hw3 := iv_eq ew3 (iv_add (l := 1) (h := 9) hx7 (iv_lit (l := 1) (h := 1) (by decide)) (by decide))
    exact hP86 _ _ _ (ml_up hm86 (inc_lt ew3 hx7 (by decide))) hy0 (iv_w (iv_lta (l := 0) (h := 999999) (r_nle c1) hx6 hx8 (by decide)) (by decide)) (iv_w hw3 (by decide))
set_option maxRecDepth 20000 in
theorem s_m_join_156 {f_code : Int32} {a_many : Nat → Int32} {a_lands : Nat → Int32} {f_land : Int32} {f_huts : Int32} {f_singers : Int32} {a_run : Nat → Int32} {a_other : Nat → Int32} {x5 : Int32} {post : Int32 → (Int32) → (Int32) → (Int32) → (Int32) → (Nat → Int32) → (Nat → Int32) → Prop} (k_f_code : iv 0 0 f_code) (k_a_many : ∀ j, iv 0 2 (a_many j)) (k_a_lands : mLand a_lands) (k_f_land : iv 0 1 f_land) (k_f_huts : iv 0 9 f_huts) (k_f_singers : iv 0 6 f_singers) (k_a_run : ∀ j, iv 0 1000000 (a_run j)) (k_a_other : ∀ j, iv 0 1000000 (a_other j)) (hx5 : iv (-1) 8 x5) (hpost : ∀ (r : Int32) (f_code : Int32) (f_land : Int32) (f_huts : Int32) (f_singers : Int32) (a_run : Nat → Int32) (a_other : Nat → Int32), iv (-1) 1000000 r → (iv 0 0 f_code) → (iv 0 1 f_land) → (iv 0 9 f_huts) → (iv 0 6 f_singers) → (∀ j, iv 0 1000000 (a_run j)) → (∀ j, iv 0 1000000 (a_other j)) → post r f_code f_land f_huts f_singers a_run a_other) : q_m_join_156 f_code a_many a_lands f_land f_huts f_singers a_run a_other x5 post := by
  exact hpost _ _ _ _ _ _ _ (iv_w hx5 (by decide)) k_f_code k_f_land k_f_huts k_f_singers k_a_run k_a_other
set_option maxRecDepth 20000 in
theorem s_m_join_86 {f_code : Int32} {a_many : Nat → Int32} {a_lands : Nat → Int32} {f_land : Int32} {f_huts : Int32} {f_singers : Int32} {a_run : Nat → Int32} {a_other : Nat → Int32} {x4 : Int32} {x5 : Int32} {x6 : Int32} {x7 : Int32} {post : Int32 → (Int32) → (Int32) → (Int32) → (Int32) → (Nat → Int32) → (Nat → Int32) → Prop} (k_f_code : iv 0 0 f_code) (k_a_many : ∀ j, iv 0 2 (a_many j)) (k_a_lands : mLand a_lands) (k_f_land : iv 0 1 f_land) (k_f_huts : iv 0 9 f_huts) (k_f_singers : iv 0 6 f_singers) (k_a_run : ∀ j, iv 0 1000000 (a_run j)) (k_a_other : ∀ j, iv 0 1000000 (a_other j)) (hx5 : iv (-1) 8 x5) (hx6 : iv 0 1000000 x6) (hx7 : iv 0 9 x7) (hpost : ∀ (r : Int32) (f_code : Int32) (f_land : Int32) (f_huts : Int32) (f_singers : Int32) (a_run : Nat → Int32) (a_other : Nat → Int32), iv (-1) 1000000 r → (iv 0 0 f_code) → (iv 0 1 f_land) → (iv 0 9 f_huts) → (iv 0 6 f_singers) → (∀ j, iv 0 1000000 (a_run j)) → (∀ j, iv 0 1000000 (a_other j)) → post r f_code f_land f_huts f_singers a_run a_other) : q_m_join_86 f_code a_many a_lands f_land f_huts f_singers a_run a_other x4 x5 x6 x7 post := by
  intro P hP
  have loop : ∀ (n : Nat) (x5 : Int32) (x6 : Int32) (x7 : Int32), (9 - x7.toInt < (n : Int)) → (iv (-1) 8 x5) → (iv 0 1000000 x6) → (iv 0 9 x7) → P x5 x6 x7 := by
    intro n
    induction n with
    | zero => intro x5 x6 x7 hm hx5 hx6 hx7; exact (ms0_up hm hx7).elim
    | succ n ih =>
      intro x5 x6 x7 hm hx5 hx6 hx7
      apply hP
      refine ⟨fun c1 => ?_, fun c1 => ?_⟩
      · skip
        refine ⟨fun c2 => ?_, fun c2 => ?_⟩
        · skip
          exact s_m_join_156 k_f_code k_a_many k_a_lands k_f_land k_f_huts k_f_singers k_a_run k_a_other (iv_w (iv_eqa (l := (-1)) (h := (-1)) c2 hx5 (iv_lit (l := (-1)) (h := (-1)) (by decide)) (by decide)) (by decide)) hpost
        · skip
          refine ⟨fun c3 => ?_, fun c3 => ?_⟩
          · skip
            exact hpost _ _ _ _ _ _ _ (iv_w hx6 (by decide)) k_f_code k_f_land k_f_huts k_f_singers k_a_run k_a_other
          · skip
            exact s_m_join_156 k_f_code k_a_many k_a_lands k_f_land k_f_huts k_f_singers k_a_run k_a_other (iv_w (iv_ne (l := 0) (h := 8) c2 hx5 (iv_lit (l := (-1)) (h := (-1)) (by decide)) (by decide)) (by decide)) hpost
      · skip
        refine ⟨iv_in (iv_lta (l := 0) (h := 8) (r_nle c1) hx7 k_f_huts (by decide)) (by decide), ?_⟩
        refine ⟨iv_in (iv_lta (l := 0) (h := 8) (r_nle c1) hx7 k_f_huts (by decide)) (by decide), ?_⟩
        refine ⟨fun c4 => ?_, fun c4 => ?_⟩
        · skip
          refine ⟨fun c5 => ?_, fun c5 => ?_⟩
          · skip
            exact s_m_join_128 k_f_code k_a_many k_a_lands k_f_land (iv_ltb (l := 1) (h := 9) (r_nle c1) hx7 k_f_huts (by decide)) k_f_singers k_a_run k_a_other hx6 (iv_lta (l := 0) (h := 8) (r_nle c1) hx7 k_f_huts (by decide)) (k_a_other _) hx5 x7.toInt (Int.le_refl _) (fun u0 u1 u2 hq g0 g1 g2 => ih u0 u1 u2 (ms_up hm hq) g0 g1 g2) hpost
          · skip
            exact s_m_join_128 k_f_code k_a_many k_a_lands k_f_land (iv_ltb (l := 1) (h := 9) (r_nle c1) hx7 k_f_huts (by decide)) k_f_singers k_a_run k_a_other (iv_w (iv_ltb (l := 1) (h := 1000000) (r_nle c5) (k_a_other _) hx6 (by decide)) (by decide)) (iv_lta (l := 0) (h := 8) (r_nle c1) hx7 k_f_huts (by decide)) (iv_w (iv_lta (l := 0) (h := 999999) (r_nle c5) (k_a_other _) hx6 (by decide)) (by decide)) (iv_w (iv_lta (l := 0) (h := 8) (r_nle c1) hx7 k_f_huts (by decide)) (by decide)) x7.toInt (Int.le_refl _) (fun u0 u1 u2 hq g0 g1 g2 => ih u0 u1 u2 (ms_up hm hq) g0 g1 g2) hpost
        · skip
          refine ⟨fun c6 => ?_, fun c6 => ?_⟩
          · skip
            exact s_m_join_128 k_f_code k_a_many k_a_lands k_f_land (iv_ltb (l := 1) (h := 9) (r_nle c1) hx7 k_f_huts (by decide)) k_f_singers k_a_run k_a_other hx6 (iv_lta (l := 0) (h := 8) (r_nle c1) hx7 k_f_huts (by decide)) (iv_w (iv_ltb (l := 1) (h := 1000000) (r_nle c4) (k_a_other _) (k_a_run _) (by decide)) (by decide)) hx5 x7.toInt (Int.le_refl _) (fun u0 u1 u2 hq g0 g1 g2 => ih u0 u1 u2 (ms_up hm hq) g0 g1 g2) hpost
          · skip
            exact s_m_join_128 k_f_code k_a_many k_a_lands k_f_land (iv_ltb (l := 1) (h := 9) (r_nle c1) hx7 k_f_huts (by decide)) k_f_singers k_a_run k_a_other (iv_w (iv_ltb (l := 2) (h := 1000000) (r_nle c6) (iv_ltb (l := 1) (h := 1000000) (r_nle c4) (k_a_other _) (k_a_run _) (by decide)) hx6 (by decide)) (by decide)) (iv_lta (l := 0) (h := 8) (r_nle c1) hx7 k_f_huts (by decide)) (iv_w (iv_lta (l := 1) (h := 999999) (r_nle c6) (iv_ltb (l := 1) (h := 1000000) (r_nle c4) (k_a_other _) (k_a_run _) (by decide)) hx6 (by decide)) (by decide)) (iv_w (iv_lta (l := 0) (h := 8) (r_nle c1) hx7 k_f_huts (by decide)) (by decide)) x7.toInt (Int.le_refl _) (fun u0 u1 u2 hq g0 g1 g2 => ih u0 u1 u2 (ms_up hm hq) g0 g1 g2) hpost
  exact loop _ _ _ _ (ms_init_up _ _) hx5 hx6 hx7
set_option maxRecDepth 20000 in
theorem s_m_join_40 {f_code : Int32} {a_many : Nat → Int32} {a_lands : Nat → Int32} {f_land : Int32} {f_huts : Int32} {f_singers : Int32} {a_run : Nat → Int32} {a_other : Nat → Int32} {x3 : Int32} {x4 : Int32} {x5 : Int32} {post : Int32 → (Int32) → (Int32) → (Int32) → (Int32) → (Nat → Int32) → (Nat → Int32) → Prop} (k_f_code : iv 0 0 f_code) (k_a_many : ∀ j, iv 0 2 (a_many j)) (k_a_lands : mLand a_lands) (k_f_land : iv 0 1 f_land) (k_f_huts : iv 0 9 f_huts) (k_f_singers : iv 0 6 f_singers) (k_a_run : ∀ j, iv 0 1000000 (a_run j)) (k_a_other : ∀ j, iv 0 1000000 (a_other j)) (hx3 : iv 0 8 x3) (hx5 : iv 0 9 x5) (hpost : ∀ (r : Int32) (f_code : Int32) (f_land : Int32) (f_huts : Int32) (f_singers : Int32) (a_run : Nat → Int32) (a_other : Nat → Int32), iv (-1) 1000000 r → (iv 0 0 f_code) → (iv 0 1 f_land) → (iv 0 9 f_huts) → (iv 0 6 f_singers) → (∀ j, iv 0 1000000 (a_run j)) → (∀ j, iv 0 1000000 (a_other j)) → post r f_code f_land f_huts f_singers a_run a_other) : q_m_join_40 f_code a_many a_lands f_land f_huts f_singers a_run a_other x3 x4 x5 post := by
  intro P hP
  have loop : ∀ (n : Nat) (x5 : Int32) (a_other : Nat → Int32), (9 - x5.toInt < (n : Int)) → (iv 0 9 x5) → (∀ j, iv 0 1000000 (a_other j)) → P x5 a_other := by
    intro n
    induction n with
    | zero => intro x5 a_other hm hx5 k_a_other; exact (ms0_up hm hx5).elim
    | succ n ih =>
      intro x5 a_other hm hx5 k_a_other
      apply hP
      refine ⟨fun c1 => ?_, fun c1 => ?_⟩
      · skip
        refine s_m_findRun_0 k_a_lands k_f_land k_f_huts k_a_run hx3 (iv_w (iv_lit (l := 0) (h := 0) (by decide)) (by decide)) (fun o2 k_o2 => ?_)
        exact s_m_join_86 k_f_code k_a_many k_a_lands k_f_land k_f_huts k_f_singers k_o2 k_a_other (iv_w (iv_lit (l := (-1)) (h := (-1)) (by decide)) (by decide)) (iv_w (iv_lit (l := 1000000) (h := 1000000) (by decide)) (by decide)) (iv_w (iv_lit (l := 0) (h := 0) (by decide)) (by decide)) hpost
      · skip
        refine ⟨iv_in (iv_lta (l := 0) (h := 8) (r_nle c1) hx5 k_f_huts (by decide)) (by decide), ?_⟩
        intro w3 ew3
        have hw3 := iv_eq ew3 (k_a_run _)
        refine ⟨iv_in (iv_lta (l := 0) (h := 8) (r_nle c1) hx5 k_f_huts (by decide)) (by decide), ?_⟩
        intro a4 ea4
        have k_a4 := iv_upd ea4 k_a_other hw3
        intro w5 ew5
        have hw5 := iv_eq ew5 (iv_add (l := 1) (h := 9) (iv_lta (l := 0) (h := 8) (r_nle c1) hx5 k_f_huts (by decide)) (iv_lit (l := 1) (h := 1) (by decide)) (by decide))
        exact ih _ _ (ms_up hm (inc_lt ew5 (iv_lta (l := 0) (h := 8) (r_nle c1) hx5 k_f_huts (by decide)) (by decide))) (iv_w hw5 (by decide)) k_a4
  exact loop _ _ _ (ms_init_up _ _) hx5 k_a_other
set_option maxRecDepth 20000 in
theorem s_m_join_0 {f_code : Int32} {a_many : Nat → Int32} {a_lands : Nat → Int32} {f_land : Int32} {f_huts : Int32} {f_singers : Int32} {a_run : Nat → Int32} {a_other : Nat → Int32} {x1 : Int32} {x2 : Int32} {x3 : Int32} {x4 : Int32} {post : Int32 → (Int32) → (Int32) → (Int32) → (Int32) → (Nat → Int32) → (Nat → Int32) → Prop} (k_f_code : iv 0 0 f_code) (k_a_many : ∀ j, iv 0 2 (a_many j)) (k_a_lands : mLand a_lands) (k_f_land : iv 0 1 f_land) (k_f_huts : iv 0 9 f_huts) (k_f_singers : iv 0 6 f_singers) (k_a_run : ∀ j, iv 0 1000000 (a_run j)) (k_a_other : ∀ j, iv 0 1000000 (a_other j)) (hpost : ∀ (r : Int32) (f_code : Int32) (f_land : Int32) (f_huts : Int32) (f_singers : Int32) (a_run : Nat → Int32) (a_other : Nat → Int32), iv (-1) 1000000 r → (iv 0 0 f_code) → (iv 0 1 f_land) → (iv 0 9 f_huts) → (iv 0 6 f_singers) → (∀ j, iv 0 1000000 (a_run j)) → (∀ j, iv 0 1000000 (a_other j)) → post r f_code f_land f_huts f_singers a_run a_other) : q_m_join_0 f_code a_many a_lands f_land f_huts f_singers a_run a_other x1 x2 x3 x4 post := by
  refine ⟨iv_in (iv_lit (l := 0) (h := 0) (by decide)) (by decide), ?_⟩
  refine ⟨fun c1 => ?_, fun c1 => ?_⟩
  · skip
    refine ⟨iv_nb (iv_lit (l := 0) (h := 0) (by decide)) (by decide), ?_⟩
    refine ⟨fun c2 => ?_, fun c2 => ?_⟩
    · skip
      exact (iv_emp (iv_ne (l := 1) (h := 0) c2 (iv_lit (l := 0) (h := 0) (by decide)) (iv_lit (l := 0) (h := 0) (by decide)) (by decide)) (by decide)).elim
    · skip
      refine ⟨fun c3 => ?_, fun c3 => ?_⟩
      · skip
        exact hpost _ _ _ _ _ _ _ (iv_w (iv_lit (l := (-1)) (h := (-1)) (by decide)) (by decide)) (iv_lit (l := 0) (h := 0) (by decide)) k_f_land k_f_huts k_f_singers k_a_run k_a_other
      · skip
        exact (iv_emp (iv_ne (l := 1) (h := 0) c3 (iv_lit (l := 0) (h := 0) (by decide)) (iv_lit (l := 0) (h := 0) (by decide)) (by decide)) (by decide)).elim
  · skip
    refine ⟨fun c4 => ?_, fun c4 => ?_⟩
    · skip
      refine ⟨iv_nb (iv_lit (l := 0) (h := 0) (by decide)) (by decide), ?_⟩
      refine ⟨fun c5 => ?_, fun c5 => ?_⟩
      · skip
        exact (iv_emp (iv_ne (l := 1) (h := 0) c5 (iv_lit (l := 0) (h := 0) (by decide)) (iv_lit (l := 0) (h := 0) (by decide)) (by decide)) (by decide)).elim
      · skip
        refine ⟨fun c6 => ?_, fun c6 => ?_⟩
        · skip
          exact hpost _ _ _ _ _ _ _ (iv_w (iv_lit (l := (-1)) (h := (-1)) (by decide)) (by decide)) (iv_lit (l := 0) (h := 0) (by decide)) k_f_land k_f_huts k_f_singers k_a_run k_a_other
        · skip
          exact (iv_emp (iv_ne (l := 1) (h := 0) c6 (iv_lit (l := 0) (h := 0) (by decide)) (iv_lit (l := 0) (h := 0) (by decide)) (by decide)) (by decide)).elim
    · skip
      refine ⟨iv_nb (iv_lit (l := 1) (h := 1) (by decide)) (by decide), ?_⟩
      refine ⟨fun c7 => ?_, fun c7 => ?_⟩
      · skip
        refine sp_of (a := 0) (b := 9) k_a_lands (iv_lea (l := 0) (h := 1) (r_nlt c4) (iv_leb (l := 0) (h := 2147483647) (r_nlt c1) (iv_lit (l := 0) (h := 0) (by decide)) (iv_top x1) (by decide)) (iv_sub (l := (-1)) (h := 1) (k_a_many _) (iv_lit (l := 1) (h := 1) (by decide)) (by decide)) (by decide)) (iv_lit (l := 0) (h := 0) (by decide)) (by decide +kernel) (fun r8 hr8 er8 => ?_)
        refine sp_of (a := 0) (b := 6) k_a_lands (iv_lea (l := 0) (h := 1) (r_nlt c4) (iv_leb (l := 0) (h := 2147483647) (r_nlt c1) (iv_lit (l := 0) (h := 0) (by decide)) (iv_top x1) (by decide)) (iv_sub (l := (-1)) (h := 1) (k_a_many _) (iv_lit (l := 1) (h := 1) (by decide)) (by decide)) (by decide)) (iv_lit (l := 1) (h := 1) (by decide)) (by decide +kernel) (fun r9 hr9 er9 => ?_)
        refine ⟨fun c10 => ?_, fun c10 => ?_⟩
        · skip
          exact (iv_emp (iv_eqa (l := 1) (h := 0) c10 (iv_lit (l := 1) (h := 1) (by decide)) (iv_lit (l := 0) (h := 0) (by decide)) (by decide)) (by decide)).elim
        · skip
          refine ⟨fun c11 => ?_, fun c11 => ?_⟩
          · skip
            refine ⟨iv_nb (iv_lit (l := 0) (h := 0) (by decide)) (by decide), ?_⟩
            refine ⟨fun c12 => ?_, fun c12 => ?_⟩
            · skip
              exact hpost _ _ _ _ _ _ _ (iv_w (iv_lit (l := (-1)) (h := (-1)) (by decide)) (by decide)) (iv_lit (l := 0) (h := 0) (by decide)) (iv_lea (l := 0) (h := 1) (r_nlt c4) (iv_leb (l := 0) (h := 2147483647) (r_nlt c1) (iv_lit (l := 0) (h := 0) (by decide)) (iv_top x1) (by decide)) (iv_sub (l := (-1)) (h := 1) (k_a_many _) (iv_lit (l := 1) (h := 1) (by decide)) (by decide)) (by decide)) hr8 hr9 k_a_run k_a_other
            · skip
              exact (iv_emp (iv_ne (l := 1) (h := 0) c12 (iv_lit (l := 0) (h := 0) (by decide)) (iv_lit (l := 0) (h := 0) (by decide)) (by decide)) (by decide)).elim
          · skip
            refine ⟨fun c13 => ?_, fun c13 => ?_⟩
            · skip
              refine ⟨iv_nb (iv_lit (l := 0) (h := 0) (by decide)) (by decide), ?_⟩
              refine ⟨fun c14 => ?_, fun c14 => ?_⟩
              · skip
                exact hpost _ _ _ _ _ _ _ (iv_w (iv_lit (l := (-1)) (h := (-1)) (by decide)) (by decide)) (iv_lit (l := 0) (h := 0) (by decide)) (iv_lea (l := 0) (h := 1) (r_nlt c4) (iv_leb (l := 0) (h := 2147483647) (r_nlt c1) (iv_lit (l := 0) (h := 0) (by decide)) (iv_top x1) (by decide)) (iv_sub (l := (-1)) (h := 1) (k_a_many _) (iv_lit (l := 1) (h := 1) (by decide)) (by decide)) (by decide)) hr8 hr9 k_a_run k_a_other
              · skip
                exact (iv_emp (iv_ne (l := 1) (h := 0) c14 (iv_lit (l := 0) (h := 0) (by decide)) (iv_lit (l := 0) (h := 0) (by decide)) (by decide)) (by decide)).elim
            · skip
              refine ⟨iv_nb (iv_lit (l := 1) (h := 1) (by decide)) (by decide), ?_⟩
              refine ⟨fun c15 => ?_, fun c15 => ?_⟩
              · skip
                exact (iv_emp (iv_eqa (l := 1) (h := 0) c15 (iv_lit (l := 1) (h := 1) (by decide)) (iv_lit (l := 0) (h := 0) (by decide)) (by decide)) (by decide)).elim
              · skip
                refine ⟨fun c16 => ?_, fun c16 => ?_⟩
                · skip
                  refine ⟨iv_nb (iv_lit (l := 0) (h := 0) (by decide)) (by decide), ?_⟩
                  refine ⟨fun c17 => ?_, fun c17 => ?_⟩
                  · skip
                    exact (iv_emp (iv_ne (l := 1) (h := 0) c17 (iv_lit (l := 0) (h := 0) (by decide)) (iv_lit (l := 0) (h := 0) (by decide)) (by decide)) (by decide)).elim
                  · skip
                    exact hpost _ _ _ _ _ _ _ (iv_w (iv_lit (l := (-1)) (h := (-1)) (by decide)) (by decide)) (iv_lit (l := 0) (h := 0) (by decide)) (iv_lea (l := 0) (h := 1) (r_nlt c4) (iv_leb (l := 0) (h := 2147483647) (r_nlt c1) (iv_lit (l := 0) (h := 0) (by decide)) (iv_top x1) (by decide)) (iv_sub (l := (-1)) (h := 1) (k_a_many _) (iv_lit (l := 1) (h := 1) (by decide)) (by decide)) (by decide)) hr8 hr9 k_a_run k_a_other
                · skip
                  refine ⟨fun c18 => ?_, fun c18 => ?_⟩
                  · skip
                    refine ⟨iv_nb (iv_lit (l := 0) (h := 0) (by decide)) (by decide), ?_⟩
                    refine ⟨fun c19 => ?_, fun c19 => ?_⟩
                    · skip
                      exact (iv_emp (iv_ne (l := 1) (h := 0) c19 (iv_lit (l := 0) (h := 0) (by decide)) (iv_lit (l := 0) (h := 0) (by decide)) (by decide)) (by decide)).elim
                    · skip
                      exact hpost _ _ _ _ _ _ _ (iv_w (iv_lit (l := (-1)) (h := (-1)) (by decide)) (by decide)) (iv_lit (l := 0) (h := 0) (by decide)) (iv_lea (l := 0) (h := 1) (r_nlt c4) (iv_leb (l := 0) (h := 2147483647) (r_nlt c1) (iv_lit (l := 0) (h := 0) (by decide)) (iv_top x1) (by decide)) (iv_sub (l := (-1)) (h := 1) (k_a_many _) (iv_lit (l := 1) (h := 1) (by decide)) (by decide)) (by decide)) hr8 hr9 k_a_run k_a_other
                  · skip
                    refine ⟨iv_nb (iv_lit (l := 1) (h := 1) (by decide)) (by decide), ?_⟩
                    refine ⟨fun c20 => ?_, fun c20 => ?_⟩
                    · skip
                      refine s_m_findRun_0 k_a_lands (iv_lea (l := 0) (h := 1) (r_nlt c4) (iv_leb (l := 0) (h := 2147483647) (r_nlt c1) (iv_lit (l := 0) (h := 0) (by decide)) (iv_top x1) (by decide)) (iv_sub (l := (-1)) (h := 1) (k_a_many _) (iv_lit (l := 1) (h := 1) (by decide)) (by decide)) (by decide)) hr8 k_a_run (iv_lea (l := 0) (h := 8) (r_nlt c13) (iv_leb (l := 0) (h := 2147483647) (r_nlt c11) (iv_lit (l := 0) (h := 0) (by decide)) (iv_top x2) (by decide)) (iv_sub (l := (-1)) (h := 8) hr8 (iv_lit (l := 1) (h := 1) (by decide)) (by decide)) (by decide)) (iv_w (iv_lit (l := 0) (h := 0) (by decide)) (by decide)) (fun o21 k_o21 => ?_)
                      exact s_m_join_40 (iv_lit (l := 0) (h := 0) (by decide)) k_a_many k_a_lands (iv_lea (l := 0) (h := 1) (r_nlt c4) (iv_leb (l := 0) (h := 2147483647) (r_nlt c1) (iv_lit (l := 0) (h := 0) (by decide)) (iv_top x1) (by decide)) (iv_sub (l := (-1)) (h := 1) (k_a_many _) (iv_lit (l := 1) (h := 1) (by decide)) (by decide)) (by decide)) hr8 hr9 k_o21 k_a_other (iv_lea (l := 0) (h := 8) (r_nlt c18) (iv_leb (l := 0) (h := 2147483647) (r_nlt c16) (iv_lit (l := 0) (h := 0) (by decide)) (iv_top x3) (by decide)) (iv_leb (l := 0) (h := 8) (r_nlt c13) (iv_leb (l := 0) (h := 2147483647) (r_nlt c11) (iv_lit (l := 0) (h := 0) (by decide)) (iv_top x2) (by decide)) (iv_sub (l := (-1)) (h := 8) hr8 (iv_lit (l := 1) (h := 1) (by decide)) (by decide)) (by decide)) (by decide)) (iv_w (iv_lit (l := 0) (h := 0) (by decide)) (by decide)) hpost
                    · skip
                      exact (iv_emp (iv_eqa (l := 1) (h := 0) c20 (iv_lit (l := 1) (h := 1) (by decide)) (iv_lit (l := 0) (h := 0) (by decide)) (by decide)) (by decide)).elim
      · skip
        exact (iv_emp (iv_eqa (l := 1) (h := 0) c7 (iv_lit (l := 1) (h := 1) (by decide)) (iv_lit (l := 0) (h := 0) (by decide)) (by decide)) (by decide)).elim
-- m_slopes
set_option maxRecDepth 20000 in
theorem s_m_slopes_121 {P38 : Int32 → Int32 → Int32 → Int32 → Int32 → (Nat → Int32) → (Nat → Int32) → (Nat → Int32) → (Nat → Int32) → (Nat → Int32) → Prop} {f_code : Int32} {a_many : Nat → Int32} {a_lands : Nat → Int32} {f_land : Int32} {f_huts : Int32} {f_singers : Int32} {a_run : Nat → Int32} {a_routes : Nat → Int32} {a_longest : Nat → Int32} {a_steep : Nat → Int32} {a_laid : Nat → Int32} {x2 : Int32} {x3 : Int32} {x4 : Int32} {x5 : Int32} {x6 : Int32} {x7 : Int32} {x9 : Int32} {post : Int32 → (Int32) → (Int32) → (Int32) → (Int32) → (Nat → Int32) → (Nat → Int32) → (Nat → Int32) → (Nat → Int32) → (Nat → Int32) → Prop} (k_f_code : iv 0 0 f_code) (k_a_many : ∀ j, iv 0 2 (a_many j)) (k_a_lands : mLand a_lands) (k_f_land : iv 0 1 f_land) (k_f_huts : iv 1 9 f_huts) (k_f_singers : iv 0 6 f_singers) (k_a_run : ∀ j, iv 0 1000000 (a_run j)) (k_a_laid : ∀ j, iv 0 1 (a_laid j)) (hx2 : iv 0 3 x2) (hx3 : iv 0 511 x3) (hx4 : iv 0 511 x4) (hx6 : iv 0 2147483647 x6) (hx7 : iv 0 8 x7) (hx9 : iv 0 9 x9) (m38 : Int) (hm38 : m38 ≤ x7.toInt) (hP38 : ∀ (x3 : Int32) (x4 : Int32) (x5 : Int32) (x6 : Int32) (x7 : Int32) (a_run : Nat → Int32) (a_routes : Nat → Int32) (a_longest : Nat → Int32) (a_steep : Nat → Int32) (a_laid : Nat → Int32), m38 < x7.toInt → iv 0 511 x3 → iv 0 511 x4 → iv 0 2147483647 x6 → iv 0 9 x7 → (∀ j, iv 0 1000000 (a_run j)) → (∀ j, iv 0 1 (a_laid j)) → P38 x3 x4 x5 x6 x7 a_run a_routes a_longest a_steep a_laid) (hpost : ∀ (r : Int32) (f_code : Int32) (f_land : Int32) (f_huts : Int32) (f_singers : Int32) (a_run : Nat → Int32) (a_routes : Nat → Int32) (a_longest : Nat → Int32) (a_steep : Nat → Int32) (a_laid : Nat → Int32), (iv 0 0 f_code) → (iv 0 1 f_land) → (iv 0 9 f_huts) → (iv 0 6 f_singers) → (∀ j, iv 0 1000000 (a_run j)) → (∀ j, iv 0 1 (a_laid j)) → post r f_code f_land f_huts f_singers a_run a_routes a_longest a_steep a_laid) : q_m_slopes_121 P38 f_code a_many a_lands f_land f_huts f_singers a_run a_routes a_longest a_steep a_laid x2 x3 x4 x5 x6 x7 x9 post := by
  intro P hP
  have loop : ∀ (n : Nat) (x6 : Int32) (x9 : Int32), (9 - x9.toInt < (n : Int)) → (iv 0 2147483647 x6) → (iv 0 9 x9) → P x6 x9 := by
    intro n
    induction n with
    | zero => intro x6 x9 hm hx6 hx9; exact (ms0_up hm hx9).elim
    | succ n ih =>
      intro x6 x9 hm hx6 hx9
      apply hP
      refine ⟨fun c1 => ?_, fun c1 => ?_⟩
      · skip
        intro w2 ew2
        have hw2 := iv_eq ew2 (iv_add (l := 1) (h := 9) hx7 (iv_lit (l := 1) (h := 1) (by decide)) (by decide))
        exact hP38 _ _ _ _ _ _ _ _ _ _ (ml_up hm38 (inc_lt ew2 hx7 (by decide))) hx3 hx4 hx6 (iv_w hw2 (by decide)) k_a_run k_a_laid
      · skip
        refine ⟨iv_in (iv_lta (l := 0) (h := 8) (r_nle c1) hx9 k_f_huts (by decide)) (by decide), ?_⟩
        refine ⟨fun c3 => ?_, fun c3 => ?_⟩
        · skip
          intro w4 ew4
          have hw4 := iv_eq ew4 (iv_add (l := 1) (h := 9) (iv_lta (l := 0) (h := 8) (r_nle c1) hx9 k_f_huts (by decide)) (iv_lit (l := 1) (h := 1) (by decide)) (by decide))
          exact ih _ _ (ms_up hm (inc_lt ew4 (iv_lta (l := 0) (h := 8) (r_nle c1) hx9 k_f_huts (by decide)) (by decide))) (iv_leb (l := 0) (h := 2147483647) (r_le c3) hx6 (iv_top _) (by decide)) (iv_w hw4 (by decide))
        · skip
          intro w5 ew5
          have hw5 := iv_eq ew5 (iv_add (l := 1) (h := 9) (iv_lta (l := 0) (h := 8) (r_nle c1) hx9 k_f_huts (by decide)) (iv_lit (l := 1) (h := 1) (by decide)) (by decide))
          exact ih _ _ (ms_up hm (inc_lt ew5 (iv_lta (l := 0) (h := 8) (r_nle c1) hx9 k_f_huts (by decide)) (by decide))) hx6 (iv_w hw5 (by decide))
  exact loop _ _ _ (ms_init_up _ _) hx6 hx9
set_option maxRecDepth 20000 in
theorem s_m_slopes_99 {P38 : Int32 → Int32 → Int32 → Int32 → Int32 → (Nat → Int32) → (Nat → Int32) → (Nat → Int32) → (Nat → Int32) → (Nat → Int32) → Prop} {f_code : Int32} {a_many : Nat → Int32} {a_lands : Nat → Int32} {f_land : Int32} {f_huts : Int32} {f_singers : Int32} {a_run : Nat → Int32} {a_routes : Nat → Int32} {a_longest : Nat → Int32} {a_steep : Nat → Int32} {a_laid : Nat → Int32} {x2 : Int32} {x3 : Int32} {x5 : Int32} {x6 : Int32} {x7 : Int32} {x8 : Int32} {y0 : Int32} {y1 : Int32} {post : Int32 → (Int32) → (Int32) → (Int32) → (Int32) → (Nat → Int32) → (Nat → Int32) → (Nat → Int32) → (Nat → Int32) → (Nat → Int32) → Prop} (k_f_code : iv 0 0 f_code) (k_a_many : ∀ j, iv 0 2 (a_many j)) (k_a_lands : mLand a_lands) (k_f_land : iv 0 1 f_land) (k_f_huts : iv 1 9 f_huts) (k_f_singers : iv 0 6 f_singers) (k_a_run : ∀ j, iv 0 1000000 (a_run j)) (k_a_laid : ∀ j, iv 0 1 (a_laid j)) (hx2 : iv 0 3 x2) (hx3 : iv 0 511 x3) (hx6 : iv 0 2147483647 x6) (hx7 : iv 0 8 x7) (hx8 : iv 0 511 x8) (hy0 : iv 0 511 y0) (hy1 : iv 0 256 y1) (m38 : Int) (hm38 : m38 ≤ x7.toInt) (hP38 : ∀ (x3 : Int32) (x4 : Int32) (x5 : Int32) (x6 : Int32) (x7 : Int32) (a_run : Nat → Int32) (a_routes : Nat → Int32) (a_longest : Nat → Int32) (a_steep : Nat → Int32) (a_laid : Nat → Int32), m38 < x7.toInt → iv 0 511 x3 → iv 0 511 x4 → iv 0 2147483647 x6 → iv 0 9 x7 → (∀ j, iv 0 1000000 (a_run j)) → (∀ j, iv 0 1 (a_laid j)) → P38 x3 x4 x5 x6 x7 a_run a_routes a_longest a_steep a_laid) (hpost : ∀ (r : Int32) (f_code : Int32) (f_land : Int32) (f_huts : Int32) (f_singers : Int32) (a_run : Nat → Int32) (a_routes : Nat → Int32) (a_longest : Nat → Int32) (a_steep : Nat → Int32) (a_laid : Nat → Int32), (iv 0 0 f_code) → (iv 0 1 f_land) → (iv 0 9 f_huts) → (iv 0 6 f_singers) → (∀ j, iv 0 1000000 (a_run j)) → (∀ j, iv 0 1 (a_laid j)) → post r f_code f_land f_huts f_singers a_run a_routes a_longest a_steep a_laid) : q_m_slopes_99 P38 f_code a_many a_lands f_land f_huts f_singers a_run a_routes a_longest a_steep a_laid x2 x3 x5 x6 x7 x8 y0 y1 post := by
  intro w1 ew1
  have hw1 := iv_eq ew1 (iv_or 9 (l := 0) (h := 511) hy0 hy1 (by decide))
  refine s_m_ones_0 (iv_w hx8 (by decide)) (fun r2 => ?_)
  intro w3 ew3
  refine s_m_findRoutes_0 k_a_lands k_f_land (iv_w k_f_huts (by decide)) k_a_laid (fun o4 o5 o6 o7 k_o7 => ?_)
  exact s_m_slopes_121 k_f_code k_a_many k_a_lands k_f_land k_f_huts k_f_singers k_a_run k_o7 hx2 hx3 hw1 hx6 hx7 (iv_w (iv_lit (l := 0) (h := 0) (by decide)) (by decide)) m38 hm38 hP38 hpost
set_option maxRecDepth 20000 in
theorem s_m_slopes_98 {P38 : Int32 → Int32 → Int32 → Int32 → Int32 → (Nat → Int32) → (Nat → Int32) → (Nat → Int32) → (Nat → Int32) → (Nat → Int32) → Prop} {f_code : Int32} {a_many : Nat → Int32} {a_lands : Nat → Int32} {f_land : Int32} {f_huts : Int32} {f_singers : Int32} {a_run : Nat → Int32} {a_routes : Nat → Int32} {a_longest : Nat → Int32} {a_steep : Nat → Int32} {a_laid : Nat → Int32} {x2 : Int32} {x3 : Int32} {x5 : Int32} {x6 : Int32} {x7 : Int32} {x8 : Int32} {y0 : Int32} {post : Int32 → (Int32) → (Int32) → (Int32) → (Int32) → (Nat → Int32) → (Nat → Int32) → (Nat → Int32) → (Nat → Int32) → (Nat → Int32) → Prop} (k_f_code : iv 0 0 f_code) (k_a_many : ∀ j, iv 0 2 (a_many j)) (k_a_lands : mLand a_lands) (k_f_land : iv 0 1 f_land) (k_f_huts : iv 1 9 f_huts) (k_f_singers : iv 0 6 f_singers) (k_a_run : ∀ j, iv 0 1000000 (a_run j)) (k_a_laid : ∀ j, iv 0 1 (a_laid j)) (hx2 : iv 0 3 x2) (hx3 : iv 0 511 x3) (hx6 : iv 0 2147483647 x6) (hx7 : iv 0 8 x7) (hx8 : iv 0 511 x8) (hy0 : iv 0 511 y0) (m38 : Int) (hm38 : m38 ≤ x7.toInt) (hP38 : ∀ (x3 : Int32) (x4 : Int32) (x5 : Int32) (x6 : Int32) (x7 : Int32) (a_run : Nat → Int32) (a_routes : Nat → Int32) (a_longest : Nat → Int32) (a_steep : Nat → Int32) (a_laid : Nat → Int32), m38 < x7.toInt → iv 0 511 x3 → iv 0 511 x4 → iv 0 2147483647 x6 → iv 0 9 x7 → (∀ j, iv 0 1000000 (a_run j)) → (∀ j, iv 0 1 (a_laid j)) → P38 x3 x4 x5 x6 x7 a_run a_routes a_longest a_steep a_laid) (hpost : ∀ (r : Int32) (f_code : Int32) (f_land : Int32) (f_huts : Int32) (f_singers : Int32) (a_run : Nat → Int32) (a_routes : Nat → Int32) (a_longest : Nat → Int32) (a_steep : Nat → Int32) (a_laid : Nat → Int32), (iv 0 0 f_code) → (iv 0 1 f_land) → (iv 0 9 f_huts) → (iv 0 6 f_singers) → (∀ j, iv 0 1000000 (a_run j)) → (∀ j, iv 0 1 (a_laid j)) → post r f_code f_land f_huts f_singers a_run a_routes a_longest a_steep a_laid) : q_m_slopes_98 P38 f_code a_many a_lands f_land f_huts f_singers a_run a_routes a_longest a_steep a_laid x2 x3 x5 x6 x7 x8 y0 post := by
  exact s_m_slopes_99 k_f_code k_a_many k_a_lands k_f_land k_f_huts k_f_singers k_a_run k_a_laid hx2 hx3 hx6 hx7 hx8 hy0 (iv_w (iv_lit (l := 0) (h := 0) (by decide)) (by decide)) m38 hm38 hP38 hpost
set_option maxRecDepth 20000 in
theorem s_m_slopes_38 {f_code : Int32} {a_many : Nat → Int32} {a_lands : Nat → Int32} {f_land : Int32} {f_huts : Int32} {f_singers : Int32} {a_run : Nat → Int32} {a_routes : Nat → Int32} {a_longest : Nat → Int32} {a_steep : Nat → Int32} {a_laid : Nat → Int32} {x2 : Int32} {x3 : Int32} {x4 : Int32} {x5 : Int32} {x6 : Int32} {x7 : Int32} {post : Int32 → (Int32) → (Int32) → (Int32) → (Int32) → (Nat → Int32) → (Nat → Int32) → (Nat → Int32) → (Nat → Int32) → (Nat → Int32) → Prop} (k_f_code : iv 0 0 f_code) (k_a_many : ∀ j, iv 0 2 (a_many j)) (k_a_lands : mLand a_lands) (k_f_land : iv 0 1 f_land) (k_f_huts : iv 0 9 f_huts) (k_f_singers : iv 0 6 f_singers) (k_a_run : ∀ j, iv 0 1000000 (a_run j)) (k_a_laid : ∀ j, iv 0 1 (a_laid j)) (hx2 : iv 0 3 x2) (hx3 : iv 0 511 x3) (hx4 : iv 0 511 x4) (hx6 : iv 0 2147483647 x6) (hx7 : iv 0 9 x7) (hpost : ∀ (r : Int32) (f_code : Int32) (f_land : Int32) (f_huts : Int32) (f_singers : Int32) (a_run : Nat → Int32) (a_routes : Nat → Int32) (a_longest : Nat → Int32) (a_steep : Nat → Int32) (a_laid : Nat → Int32), (iv 0 0 f_code) → (iv 0 1 f_land) → (iv 0 9 f_huts) → (iv 0 6 f_singers) → (∀ j, iv 0 1000000 (a_run j)) → (∀ j, iv 0 1 (a_laid j)) → post r f_code f_land f_huts f_singers a_run a_routes a_longest a_steep a_laid) : q_m_slopes_38 f_code a_many a_lands f_land f_huts f_singers a_run a_routes a_longest a_steep a_laid x2 x3 x4 x5 x6 x7 post := by
  intro P hP
  have loop : ∀ (n : Nat) (x3 : Int32) (x4 : Int32) (x5 : Int32) (x6 : Int32) (x7 : Int32) (a_run : Nat → Int32) (a_routes : Nat → Int32) (a_longest : Nat → Int32) (a_steep : Nat → Int32) (a_laid : Nat → Int32), (9 - x7.toInt < (n : Int)) → (iv 0 511 x3) → (iv 0 511 x4) → (iv 0 2147483647 x6) → (iv 0 9 x7) → (∀ j, iv 0 1000000 (a_run j)) → (∀ j, iv 0 1 (a_laid j)) → P x3 x4 x5 x6 x7 a_run a_routes a_longest a_steep a_laid := by
    intro n
    induction n with
    | zero => intro x3 x4 x5 x6 x7 a_run a_routes a_longest a_steep a_laid hm hx3 hx4 hx6 hx7 k_a_run k_a_laid; exact (ms0_up hm hx7).elim
    | succ n ih =>
      intro x3 x4 x5 x6 x7 a_run a_routes a_longest a_steep a_laid hm hx3 hx4 hx6 hx7 k_a_run k_a_laid
      apply hP
      refine ⟨fun c1 => ?_, fun c1 => ?_⟩
      · skip
        refine ⟨fun c2 => ?_, fun c2 => ?_⟩
        · skip
          refine ⟨fun c3 => ?_, fun c3 => ?_⟩
          · skip
            refine ⟨fun c4 => ?_, fun c4 => ?_⟩
            · skip
              exact hpost _ _ _ _ _ _ _ _ _ _ k_f_code k_f_land k_f_huts k_f_singers k_a_run k_a_laid
            · skip
              exact hpost _ _ _ _ _ _ _ _ _ _ k_f_code k_f_land k_f_huts k_f_singers k_a_run k_a_laid
          · skip
            exact hpost _ _ _ _ _ _ _ _ _ _ k_f_code k_f_land k_f_huts k_f_singers k_a_run k_a_laid
        · skip
          refine sp_of (a := 0) (b := 511) k_a_lands k_f_land (iv_lit (l := 3) (h := 3) (by decide)) (by decide +kernel) (fun r5 hr5 er5 => ?_)
          exact hpost _ _ _ _ _ _ _ _ _ _ k_f_code k_f_land k_f_huts k_f_singers k_a_run k_a_laid
      · skip
        refine s_m_findRun_0 k_a_lands k_f_land (iv_w (iv_ltb (l := 1) (h := 9) (r_nle c1) hx7 k_f_huts (by decide)) (by decide)) k_a_run (iv_lta (l := 0) (h := 8) (r_nle c1) hx7 k_f_huts (by decide)) (iv_w (iv_lit (l := 0) (h := 0) (by decide)) (by decide)) (fun o6 k_o6 => ?_)
        refine s_m_comesBy_0 (iv_w (iv_ltb (l := 1) (h := 9) (r_nle c1) hx7 k_f_huts (by decide)) (by decide)) k_o6 (iv_w (iv_lit (l := 999999) (h := 999999) (by decide)) (by decide)) (fun r7 hr7 => ?_)
        intro w8 ew8
        have hw8 := iv_eq ew8 (iv_andl (l := 0) (h := 511) hr7 (by decide))
        intro w9 ew9
        have hw9 := iv_eq ew9 (iv_or 9 (l := 0) (h := 511) hx3 hw8 (by decide))
        refine ⟨fun c10 => ?_, fun c10 => ?_⟩
        · skip
          exact s_m_slopes_98 k_f_code k_a_many k_a_lands k_f_land (iv_ltb (l := 1) (h := 9) (r_nle c1) hx7 k_f_huts (by decide)) k_f_singers k_o6 k_a_laid hx2 hw9 hx6 (iv_lta (l := 0) (h := 8) (r_nle c1) hx7 k_f_huts (by decide)) (iv_w (iv_ne (l := 1) (h := 511) c10 hw8 (iv_lit (l := 0) (h := 0) (by decide)) (by decide)) (by decide)) hx4 x7.toInt (Int.le_refl _) (fun u0 u1 u2 u3 u4 u5 u6 u7 u8 u9 hq g0 g1 g2 g3 g4 g5 => ih u0 u1 u2 u3 u4 u5 u6 u7 u8 u9 (ms_up hm hq) g0 g1 g2 g3 g4 g5) hpost
        · skip
          refine sp_of (a := 0) (b := 511) k_a_lands k_f_land (iv_lit (l := 3) (h := 3) (by decide)) (by decide +kernel) (fun r11 hr11 er11 => ?_)
          refine ⟨fun c12 => ?_, fun c12 => ?_⟩
          · skip
            refine ⟨iv_nb (iv_lit (l := 0) (h := 0) (by decide)) (by decide), ?_⟩
            refine ⟨fun c13 => ?_, fun c13 => ?_⟩
            · skip
              exact (iv_emp (iv_ne (l := 1) (h := 0) c13 (iv_lit (l := 0) (h := 0) (by decide)) (iv_lit (l := 0) (h := 0) (by decide)) (by decide)) (by decide)).elim
            · skip
              exact s_m_slopes_99 k_f_code k_a_many k_a_lands k_f_land (iv_ltb (l := 1) (h := 9) (r_nle c1) hx7 k_f_huts (by decide)) k_f_singers k_o6 k_a_laid hx2 hw9 hx6 (iv_lta (l := 0) (h := 8) (r_nle c1) hx7 k_f_huts (by decide)) (iv_w (iv_eqa (l := 0) (h := 0) c10 hw8 (iv_lit (l := 0) (h := 0) (by decide)) (by decide)) (by decide)) hx4 (iv_w (iv_shl1 (l := 1) (h := 256) (iv_lit (l := 1) (h := 1) (by decide)) (iv_lta (l := 0) (h := 8) (r_nle c1) hx7 k_f_huts (by decide)) (by decide)) (by decide)) x7.toInt (Int.le_refl _) (fun u0 u1 u2 u3 u4 u5 u6 u7 u8 u9 hq g0 g1 g2 g3 g4 g5 => ih u0 u1 u2 u3 u4 u5 u6 u7 u8 u9 (ms_up hm hq) g0 g1 g2 g3 g4 g5) hpost
          · skip
            refine ⟨iv_nb (iv_lit (l := 1) (h := 1) (by decide)) (by decide), ?_⟩
            refine ⟨fun c14 => ?_, fun c14 => ?_⟩
            · skip
              exact s_m_slopes_98 k_f_code k_a_many k_a_lands k_f_land (iv_ltb (l := 1) (h := 9) (r_nle c1) hx7 k_f_huts (by decide)) k_f_singers k_o6 k_a_laid hx2 hw9 hx6 (iv_lta (l := 0) (h := 8) (r_nle c1) hx7 k_f_huts (by decide)) (iv_w (iv_eqa (l := 0) (h := 0) c10 hw8 (iv_lit (l := 0) (h := 0) (by decide)) (by decide)) (by decide)) hx4 x7.toInt (Int.le_refl _) (fun u0 u1 u2 u3 u4 u5 u6 u7 u8 u9 hq g0 g1 g2 g3 g4 g5 => ih u0 u1 u2 u3 u4 u5 u6 u7 u8 u9 (ms_up hm hq) g0 g1 g2 g3 g4 g5) hpost
            · skip
              exact (iv_emp (iv_eqa (l := 1) (h := 0) c14 (iv_lit (l := 1) (h := 1) (by decide)) (iv_lit (l := 0) (h := 0) (by decide)) (by decide)) (by decide)).elim
  exact loop _ _ _ _ _ _ _ _ _ _ _ (ms_init_up _ _) hx3 hx4 hx6 hx7 k_a_run k_a_laid
set_option maxRecDepth 20000 in
theorem s_m_slopes_0 {f_code : Int32} {a_many : Nat → Int32} {a_lands : Nat → Int32} {f_land : Int32} {f_huts : Int32} {f_singers : Int32} {a_run : Nat → Int32} {a_routes : Nat → Int32} {a_longest : Nat → Int32} {a_steep : Nat → Int32} {a_laid : Nat → Int32} {x1 : Int32} {x2 : Int32} {post : Int32 → (Int32) → (Int32) → (Int32) → (Int32) → (Nat → Int32) → (Nat → Int32) → (Nat → Int32) → (Nat → Int32) → (Nat → Int32) → Prop} (k_f_code : iv 0 0 f_code) (k_a_many : ∀ j, iv 0 2 (a_many j)) (k_a_lands : mLand a_lands) (k_f_land : iv 0 1 f_land) (k_f_huts : iv 0 9 f_huts) (k_f_singers : iv 0 6 f_singers) (k_a_run : ∀ j, iv 0 1000000 (a_run j)) (k_a_laid : ∀ j, iv 0 1 (a_laid j)) (hpost : ∀ (r : Int32) (f_code : Int32) (f_land : Int32) (f_huts : Int32) (f_singers : Int32) (a_run : Nat → Int32) (a_routes : Nat → Int32) (a_longest : Nat → Int32) (a_steep : Nat → Int32) (a_laid : Nat → Int32), (iv 0 0 f_code) → (iv 0 1 f_land) → (iv 0 9 f_huts) → (iv 0 6 f_singers) → (∀ j, iv 0 1000000 (a_run j)) → (∀ j, iv 0 1 (a_laid j)) → post r f_code f_land f_huts f_singers a_run a_routes a_longest a_steep a_laid) : q_m_slopes_0 f_code a_many a_lands f_land f_huts f_singers a_run a_routes a_longest a_steep a_laid x1 x2 post := by
  refine ⟨iv_in (iv_lit (l := 0) (h := 0) (by decide)) (by decide), ?_⟩
  refine ⟨fun c1 => ?_, fun c1 => ?_⟩
  · skip
    refine ⟨iv_nb (iv_lit (l := 0) (h := 0) (by decide)) (by decide), ?_⟩
    refine ⟨fun c2 => ?_, fun c2 => ?_⟩
    · skip
      exact (iv_emp (iv_ne (l := 1) (h := 0) c2 (iv_lit (l := 0) (h := 0) (by decide)) (iv_lit (l := 0) (h := 0) (by decide)) (by decide)) (by decide)).elim
    · skip
      refine ⟨fun c3 => ?_, fun c3 => ?_⟩
      · skip
        exact hpost _ _ _ _ _ _ _ _ _ _ (iv_lit (l := 0) (h := 0) (by decide)) k_f_land k_f_huts k_f_singers k_a_run k_a_laid
      · skip
        exact (iv_emp (iv_ne (l := 1) (h := 0) c3 (iv_lit (l := 0) (h := 0) (by decide)) (iv_lit (l := 0) (h := 0) (by decide)) (by decide)) (by decide)).elim
  · skip
    refine ⟨fun c4 => ?_, fun c4 => ?_⟩
    · skip
      refine ⟨iv_nb (iv_lit (l := 0) (h := 0) (by decide)) (by decide), ?_⟩
      refine ⟨fun c5 => ?_, fun c5 => ?_⟩
      · skip
        exact (iv_emp (iv_ne (l := 1) (h := 0) c5 (iv_lit (l := 0) (h := 0) (by decide)) (iv_lit (l := 0) (h := 0) (by decide)) (by decide)) (by decide)).elim
      · skip
        refine ⟨fun c6 => ?_, fun c6 => ?_⟩
        · skip
          exact hpost _ _ _ _ _ _ _ _ _ _ (iv_lit (l := 0) (h := 0) (by decide)) k_f_land k_f_huts k_f_singers k_a_run k_a_laid
        · skip
          exact (iv_emp (iv_ne (l := 1) (h := 0) c6 (iv_lit (l := 0) (h := 0) (by decide)) (iv_lit (l := 0) (h := 0) (by decide)) (by decide)) (by decide)).elim
    · skip
      refine ⟨iv_nb (iv_lit (l := 1) (h := 1) (by decide)) (by decide), ?_⟩
      refine ⟨fun c7 => ?_, fun c7 => ?_⟩
      · skip
        refine sp_of (a := 0) (b := 9) k_a_lands (iv_lea (l := 0) (h := 1) (r_nlt c4) (iv_leb (l := 0) (h := 2147483647) (r_nlt c1) (iv_lit (l := 0) (h := 0) (by decide)) (iv_top x1) (by decide)) (iv_sub (l := (-1)) (h := 1) (k_a_many _) (iv_lit (l := 1) (h := 1) (by decide)) (by decide)) (by decide)) (iv_lit (l := 0) (h := 0) (by decide)) (by decide +kernel) (fun r8 hr8 er8 => ?_)
        refine sp_of (a := 0) (b := 6) k_a_lands (iv_lea (l := 0) (h := 1) (r_nlt c4) (iv_leb (l := 0) (h := 2147483647) (r_nlt c1) (iv_lit (l := 0) (h := 0) (by decide)) (iv_top x1) (by decide)) (iv_sub (l := (-1)) (h := 1) (k_a_many _) (iv_lit (l := 1) (h := 1) (by decide)) (by decide)) (by decide)) (iv_lit (l := 1) (h := 1) (by decide)) (by decide +kernel) (fun r9 hr9 er9 => ?_)
        refine ⟨fun c10 => ?_, fun c10 => ?_⟩
        · skip
          exact (iv_emp (iv_eqa (l := 1) (h := 0) c10 (iv_lit (l := 1) (h := 1) (by decide)) (iv_lit (l := 0) (h := 0) (by decide)) (by decide)) (by decide)).elim
        · skip
          refine ⟨fun c11 => ?_, fun c11 => ?_⟩
          · skip
            refine ⟨fun c12 => ?_, fun c12 => ?_⟩
            · skip
              exact (iv_emp (iv_ne (l := 1) (h := 0) c12 (iv_lit (l := 0) (h := 0) (by decide)) (iv_lit (l := 0) (h := 0) (by decide)) (by decide)) (by decide)).elim
            · skip
              exact hpost _ _ _ _ _ _ _ _ _ _ (iv_lit (l := 0) (h := 0) (by decide)) (iv_lea (l := 0) (h := 1) (r_nlt c4) (iv_leb (l := 0) (h := 2147483647) (r_nlt c1) (iv_lit (l := 0) (h := 0) (by decide)) (iv_top x1) (by decide)) (iv_sub (l := (-1)) (h := 1) (k_a_many _) (iv_lit (l := 1) (h := 1) (by decide)) (by decide)) (by decide)) hr8 hr9 k_a_run k_a_laid
          · skip
            refine ⟨fun c13 => ?_, fun c13 => ?_⟩
            · skip
              refine ⟨fun c14 => ?_, fun c14 => ?_⟩
              · skip
                exact (iv_emp (iv_ne (l := 1) (h := 0) c14 (iv_lit (l := 0) (h := 0) (by decide)) (iv_lit (l := 0) (h := 0) (by decide)) (by decide)) (by decide)).elim
              · skip
                exact hpost _ _ _ _ _ _ _ _ _ _ (iv_lit (l := 0) (h := 0) (by decide)) (iv_lea (l := 0) (h := 1) (r_nlt c4) (iv_leb (l := 0) (h := 2147483647) (r_nlt c1) (iv_lit (l := 0) (h := 0) (by decide)) (iv_top x1) (by decide)) (iv_sub (l := (-1)) (h := 1) (k_a_many _) (iv_lit (l := 1) (h := 1) (by decide)) (by decide)) (by decide)) hr8 hr9 k_a_run k_a_laid
            · skip
              refine ⟨fun c15 => ?_, fun c15 => ?_⟩
              · skip
                exact s_m_slopes_38 (iv_lit (l := 0) (h := 0) (by decide)) k_a_many k_a_lands (iv_lea (l := 0) (h := 1) (r_nlt c4) (iv_leb (l := 0) (h := 2147483647) (r_nlt c1) (iv_lit (l := 0) (h := 0) (by decide)) (iv_top x1) (by decide)) (iv_sub (l := (-1)) (h := 1) (k_a_many _) (iv_lit (l := 1) (h := 1) (by decide)) (by decide)) (by decide)) hr8 hr9 k_a_run k_a_laid (iv_lea (l := 0) (h := 3) (r_nlt c13) (iv_leb (l := 0) (h := 2147483647) (r_nlt c11) (iv_lit (l := 0) (h := 0) (by decide)) (iv_top x2) (by decide)) (iv_lit (l := 3) (h := 3) (by decide)) (by decide)) (iv_w (iv_lit (l := 0) (h := 0) (by decide)) (by decide)) (iv_w (iv_lit (l := 0) (h := 0) (by decide)) (by decide)) (iv_w (iv_lit (l := 0) (h := 0) (by decide)) (by decide)) (iv_w (iv_lit (l := 0) (h := 0) (by decide)) (by decide)) hpost
              · skip
                exact (iv_emp (iv_eqa (l := 1) (h := 0) c15 (iv_lit (l := 1) (h := 1) (by decide)) (iv_lit (l := 0) (h := 0) (by decide)) (by decide)) (by decide)).elim
      · skip
        exact (iv_emp (iv_eqa (l := 1) (h := 0) c7 (iv_lit (l := 1) (h := 1) (by decide)) (iv_lit (l := 0) (h := 0) (by decide)) (by decide)) (by decide)).elim
-- m_flood
set_option maxRecDepth 20000 in
theorem s_m_flood_144 {P58 : Int32 → Int32 → (Nat → Int32) → Prop} {f_code : Int32} {a_many : Nat → Int32} {a_lands : Nat → Int32} {f_land : Int32} {f_huts : Int32} {f_singers : Int32} {a_run : Nat → Int32} {x2 : Int32} {x3 : Int32} {x4 : Int32} {x6 : Int32} {y0 : Int32} {post : Int32 → (Int32) → (Int32) → (Int32) → (Int32) → (Nat → Int32) → Prop} (k_f_code : iv 0 0 f_code) (k_a_many : ∀ j, iv 0 2 (a_many j)) (k_a_lands : mLand a_lands) (k_f_land : iv 0 1 f_land) (k_f_huts : iv 0 9 f_huts) (k_f_singers : iv 0 6 f_singers) (k_a_run : ∀ j, iv 0 1000000 (a_run j)) (hx2 : iv 0 8 x2) (hx3 : iv 0 8 x3) (hx6 : iv 0 511 x6) (hy0 : iv (-1) 2147483647 y0) (m58 : Int) (hm58 : m58 ≤ x6.toInt) (hP58 : ∀ (x5 : Int32) (x6 : Int32) (a_run : Nat → Int32), m58 < x6.toInt → iv (-1) 2147483647 x5 → iv 0 512 x6 → (∀ j, iv 0 1000000 (a_run j)) → P58 x5 x6 a_run) (hpost : ∀ (r : Int32) (f_code : Int32) (f_land : Int32) (f_huts : Int32) (f_singers : Int32) (a_run : Nat → Int32), (iv 0 0 f_code) → (iv 0 1 f_land) → (iv 0 9 f_huts) → (iv 0 6 f_singers) → (∀ j, iv 0 1000000 (a_run j)) → post r f_code f_land f_huts f_singers a_run) : q_m_flood_144 P58 f_code a_many a_lands f_land f_huts f_singers a_run x2 x3 x4 x6 y0 post := by
  intro w1 ew1
  have hw1 := iv_eq ew1 (iv_add (l := 1) (h := 512) hx6 (iv_lit (l := 1) (h := 1) (by decide)) (by decide))
  exact hP58 _ _ _ (ml_up hm58 (inc_lt ew1 hx6 (by decide))) hy0 (iv_w hw1 (by decide)) k_a_run
set_option maxRecDepth 20000 in
theorem s_m_flood_137 {P58 : Int32 → Int32 → (Nat → Int32) → Prop} {f_code : Int32} {a_many : Nat → Int32} {a_lands : Nat → Int32} {f_land : Int32} {f_huts : Int32} {f_singers : Int32} {a_run : Nat → Int32} {x2 : Int32} {x3 : Int32} {x4 : Int32} {x6 : Int32} {post : Int32 → (Int32) → (Int32) → (Int32) → (Int32) → (Nat → Int32) → Prop} (k_f_code : iv 0 0 f_code) (k_a_many : ∀ j, iv 0 2 (a_many j)) (k_a_lands : mLand a_lands) (k_f_land : iv 0 1 f_land) (k_f_huts : iv 0 9 f_huts) (k_f_singers : iv 0 6 f_singers) (k_a_run : ∀ j, iv 0 1000000 (a_run j)) (hx2 : iv 0 8 x2) (hx3 : iv 0 8 x3) (hx6 : iv 0 511 x6) (m58 : Int) (hm58 : m58 ≤ x6.toInt) (hP58 : ∀ (x5 : Int32) (x6 : Int32) (a_run : Nat → Int32), m58 < x6.toInt → iv (-1) 2147483647 x5 → iv 0 512 x6 → (∀ j, iv 0 1000000 (a_run j)) → P58 x5 x6 a_run) (hpost : ∀ (r : Int32) (f_code : Int32) (f_land : Int32) (f_huts : Int32) (f_singers : Int32) (a_run : Nat → Int32), (iv 0 0 f_code) → (iv 0 1 f_land) → (iv 0 9 f_huts) → (iv 0 6 f_singers) → (∀ j, iv 0 1000000 (a_run j)) → post r f_code f_land f_huts f_singers a_run) : q_m_flood_137 P58 f_code a_many a_lands f_land f_huts f_singers a_run x2 x3 x4 x6 post := by
  exact s_m_flood_144 k_f_code k_a_many k_a_lands k_f_land k_f_huts k_f_singers k_a_run hx2 hx3 hx6 (iv_w hx6 (by decide)) m58 hm58 hP58 hpost
set_option maxRecDepth 20000 in
theorem s_m_flood_142 {P58 : Int32 → Int32 → (Nat → Int32) → Prop} {f_code : Int32} {a_many : Nat → Int32} {a_lands : Nat → Int32} {f_land : Int32} {f_huts : Int32} {f_singers : Int32} {a_run : Nat → Int32} {x2 : Int32} {x3 : Int32} {x4 : Int32} {x5 : Int32} {x6 : Int32} {post : Int32 → (Int32) → (Int32) → (Int32) → (Int32) → (Nat → Int32) → Prop} (k_f_code : iv 0 0 f_code) (k_a_many : ∀ j, iv 0 2 (a_many j)) (k_a_lands : mLand a_lands) (k_f_land : iv 0 1 f_land) (k_f_huts : iv 0 9 f_huts) (k_f_singers : iv 0 6 f_singers) (k_a_run : ∀ j, iv 0 1000000 (a_run j)) (hx2 : iv 0 8 x2) (hx3 : iv 0 8 x3) (hx5 : iv (-1) 2147483647 x5) (hx6 : iv 0 511 x6) (m58 : Int) (hm58 : m58 ≤ x6.toInt) (hP58 : ∀ (x5 : Int32) (x6 : Int32) (a_run : Nat → Int32), m58 < x6.toInt → iv (-1) 2147483647 x5 → iv 0 512 x6 → (∀ j, iv 0 1000000 (a_run j)) → P58 x5 x6 a_run) (hpost : ∀ (r : Int32) (f_code : Int32) (f_land : Int32) (f_huts : Int32) (f_singers : Int32) (a_run : Nat → Int32), (iv 0 0 f_code) → (iv 0 1 f_land) → (iv 0 9 f_huts) → (iv 0 6 f_singers) → (∀ j, iv 0 1000000 (a_run j)) → post r f_code f_land f_huts f_singers a_run) : q_m_flood_142 P58 f_code a_many a_lands f_land f_huts f_singers a_run x2 x3 x4 x5 x6 post := by
  exact s_m_flood_144 k_f_code k_a_many k_a_lands k_f_land k_f_huts k_f_singers k_a_run hx2 hx3 hx6 hx5 m58 hm58 hP58 hpost
set_option maxRecDepth 20000 in
theorem s_m_flood_111 {P58 : Int32 → Int32 → (Nat → Int32) → Prop} {f_code : Int32} {a_many : Nat → Int32} {a_lands : Nat → Int32} {f_land : Int32} {f_huts : Int32} {f_singers : Int32} {a_run : Nat → Int32} {x2 : Int32} {x3 : Int32} {x4 : Int32} {x5 : Int32} {x6 : Int32} {y0 : Int32} {post : Int32 → (Int32) → (Int32) → (Int32) → (Int32) → (Nat → Int32) → Prop} (k_f_code : iv 0 0 f_code) (k_a_many : ∀ j, iv 0 2 (a_many j)) (k_a_lands : mLand a_lands) (k_f_land : iv 0 1 f_land) (k_f_huts : iv 0 9 f_huts) (k_f_singers : iv 0 6 f_singers) (k_a_run : ∀ j, iv 0 1000000 (a_run j)) (hx2 : iv 0 8 x2) (hx3 : iv 0 8 x3) (hx5 : iv (-1) 2147483647 x5) (hx6 : iv 0 511 x6) (hy0 : iv 0 1 y0) (m58 : Int) (hm58 : m58 ≤ x6.toInt) (hP58 : ∀ (x5 : Int32) (x6 : Int32) (a_run : Nat → Int32), m58 < x6.toInt → iv (-1) 2147483647 x5 → iv 0 512 x6 → (∀ j, iv 0 1000000 (a_run j)) → P58 x5 x6 a_run) (hpost : ∀ (r : Int32) (f_code : Int32) (f_land : Int32) (f_huts : Int32) (f_singers : Int32) (a_run : Nat → Int32), (iv 0 0 f_code) → (iv 0 1 f_land) → (iv 0 9 f_huts) → (iv 0 6 f_singers) → (∀ j, iv 0 1000000 (a_run j)) → post r f_code f_land f_huts f_singers a_run) : q_m_flood_111 P58 f_code a_many a_lands f_land f_huts f_singers a_run x2 x3 x4 x5 x6 y0 post := by
  refine ⟨fun c1 => ?_, fun c1 => ?_⟩
  · skip
    exact s_m_flood_142 k_f_code k_a_many k_a_lands k_f_land k_f_huts k_f_singers k_a_run hx2 hx3 hx5 hx6 m58 hm58 hP58 hpost
  · skip
    refine ⟨fun c2 => ?_, fun c2 => ?_⟩
    · skip
      exact s_m_flood_137 k_f_code k_a_many k_a_lands k_f_land k_f_huts k_f_singers k_a_run hx2 hx3 hx6 m58 hm58 hP58 hpost
    · skip
      refine s_m_ones_0 (iv_w hx6 (by decide)) (fun r3 => ?_)
      refine s_m_ones_0 (iv_w (iv_ne (l := 0) (h := 2147483647) c2 hx5 (iv_lit (l := (-1)) (h := (-1)) (by decide)) (by decide)) (by decide)) (fun r4 => ?_)
      refine ⟨fun c5 => ?_, fun c5 => ?_⟩
      · skip
        exact s_m_flood_142 k_f_code k_a_many k_a_lands k_f_land k_f_huts k_f_singers k_a_run hx2 hx3 (iv_w (iv_ne (l := 0) (h := 2147483647) c2 hx5 (iv_lit (l := (-1)) (h := (-1)) (by decide)) (by decide)) (by decide)) hx6 m58 hm58 hP58 hpost
      · skip
        exact s_m_flood_137 k_f_code k_a_many k_a_lands k_f_land k_f_huts k_f_singers k_a_run hx2 hx3 hx6 m58 hm58 hP58 hpost
set_option maxRecDepth 20000 in
theorem s_m_flood_110 {P58 : Int32 → Int32 → (Nat → Int32) → Prop} {f_code : Int32} {a_many : Nat → Int32} {a_lands : Nat → Int32} {f_land : Int32} {f_huts : Int32} {f_singers : Int32} {a_run : Nat → Int32} {x2 : Int32} {x3 : Int32} {x4 : Int32} {x5 : Int32} {x6 : Int32} {post : Int32 → (Int32) → (Int32) → (Int32) → (Int32) → (Nat → Int32) → Prop} (k_f_code : iv 0 0 f_code) (k_a_many : ∀ j, iv 0 2 (a_many j)) (k_a_lands : mLand a_lands) (k_f_land : iv 0 1 f_land) (k_f_huts : iv 0 9 f_huts) (k_f_singers : iv 0 6 f_singers) (k_a_run : ∀ j, iv 0 1000000 (a_run j)) (hx2 : iv 0 8 x2) (hx3 : iv 0 8 x3) (hx5 : iv (-1) 2147483647 x5) (hx6 : iv 0 511 x6) (m58 : Int) (hm58 : m58 ≤ x6.toInt) (hP58 : ∀ (x5 : Int32) (x6 : Int32) (a_run : Nat → Int32), m58 < x6.toInt → iv (-1) 2147483647 x5 → iv 0 512 x6 → (∀ j, iv 0 1000000 (a_run j)) → P58 x5 x6 a_run) (hpost : ∀ (r : Int32) (f_code : Int32) (f_land : Int32) (f_huts : Int32) (f_singers : Int32) (a_run : Nat → Int32), (iv 0 0 f_code) → (iv 0 1 f_land) → (iv 0 9 f_huts) → (iv 0 6 f_singers) → (∀ j, iv 0 1000000 (a_run j)) → post r f_code f_land f_huts f_singers a_run) : q_m_flood_110 P58 f_code a_many a_lands f_land f_huts f_singers a_run x2 x3 x4 x5 x6 post := by
  exact s_m_flood_111 k_f_code k_a_many k_a_lands k_f_land k_f_huts k_f_singers k_a_run hx2 hx3 hx5 hx6 (iv_w (iv_lit (l := 0) (h := 0) (by decide)) (by decide)) m58 hm58 hP58 hpost
set_option maxRecDepth 20000 in
theorem s_m_flood_163 {f_code : Int32} {a_many : Nat → Int32} {a_lands : Nat → Int32} {f_land : Int32} {f_huts : Int32} {f_singers : Int32} {a_run : Nat → Int32} {x5 : Int32} {post : Int32 → (Int32) → (Int32) → (Int32) → (Int32) → (Nat → Int32) → Prop} (k_f_code : iv 0 0 f_code) (k_a_many : ∀ j, iv 0 2 (a_many j)) (k_a_lands : mLand a_lands) (k_f_land : iv 0 1 f_land) (k_f_huts : iv 0 9 f_huts) (k_f_singers : iv 0 6 f_singers) (k_a_run : ∀ j, iv 0 1000000 (a_run j)) (hx5 : iv (-1) 2147483647 x5) (hpost : ∀ (r : Int32) (f_code : Int32) (f_land : Int32) (f_huts : Int32) (f_singers : Int32) (a_run : Nat → Int32), (iv 0 0 f_code) → (iv 0 1 f_land) → (iv 0 9 f_huts) → (iv 0 6 f_singers) → (∀ j, iv 0 1000000 (a_run j)) → post r f_code f_land f_huts f_singers a_run) : q_m_flood_163 f_code a_many a_lands f_land f_huts f_singers a_run x5 post := by
  exact hpost _ _ _ _ _ _ k_f_code k_f_land k_f_huts k_f_singers k_a_run
set_option maxRecDepth 20000 in
theorem s_m_flood_58 {f_code : Int32} {a_many : Nat → Int32} {a_lands : Nat → Int32} {f_land : Int32} {f_huts : Int32} {f_singers : Int32} {a_run : Nat → Int32} {x2 : Int32} {x3 : Int32} {x4 : Int32} {x5 : Int32} {x6 : Int32} {post : Int32 → (Int32) → (Int32) → (Int32) → (Int32) → (Nat → Int32) → Prop} (k_f_code : iv 0 0 f_code) (k_a_many : ∀ j, iv 0 2 (a_many j)) (k_a_lands : mLand a_lands) (k_f_land : iv 0 1 f_land) (k_f_huts : iv 0 9 f_huts) (k_f_singers : iv 0 6 f_singers) (k_a_run : ∀ j, iv 0 1000000 (a_run j)) (hx2 : iv 0 8 x2) (hx3 : iv 0 8 x3) (hx5 : iv (-1) 2147483647 x5) (hx6 : iv 0 512 x6) (hpost : ∀ (r : Int32) (f_code : Int32) (f_land : Int32) (f_huts : Int32) (f_singers : Int32) (a_run : Nat → Int32), (iv 0 0 f_code) → (iv 0 1 f_land) → (iv 0 9 f_huts) → (iv 0 6 f_singers) → (∀ j, iv 0 1000000 (a_run j)) → post r f_code f_land f_huts f_singers a_run) : q_m_flood_58 f_code a_many a_lands f_land f_huts f_singers a_run x2 x3 x4 x5 x6 post := by
  intro P hP
  have loop : ∀ (n : Nat) (x5 : Int32) (x6 : Int32) (a_run : Nat → Int32), (512 - x6.toInt < (n : Int)) → (iv (-1) 2147483647 x5) → (iv 0 512 x6) → (∀ j, iv 0 1000000 (a_run j)) → P x5 x6 a_run := by
    intro n
    induction n with
    | zero => intro x5 x6 a_run hm hx5 hx6 k_a_run; exact (ms0_up hm hx6).elim
    | succ n ih =>
      intro x5 x6 a_run hm hx5 hx6 k_a_run
      apply hP
      refine ⟨fun c1 => ?_, fun c1 => ?_⟩
      · skip
        refine ⟨fun c2 => ?_, fun c2 => ?_⟩
        · skip
          exact s_m_flood_163 k_f_code k_a_many k_a_lands k_f_land k_f_huts k_f_singers k_a_run (iv_w (iv_eqa (l := (-1)) (h := (-1)) c2 hx5 (iv_lit (l := (-1)) (h := (-1)) (by decide)) (by decide)) (by decide)) hpost
        · skip
          refine ⟨fun c3 => ?_, fun c3 => ?_⟩
          · skip
            refine s_m_ones_0 (iv_w (iv_ne (l := 0) (h := 2147483647) c2 hx5 (iv_lit (l := (-1)) (h := (-1)) (by decide)) (by decide)) (by decide)) (fun r4 => ?_)
            exact hpost _ _ _ _ _ _ k_f_code k_f_land k_f_huts k_f_singers k_a_run
          · skip
            exact s_m_flood_163 k_f_code k_a_many k_a_lands k_f_land k_f_huts k_f_singers k_a_run (iv_w (iv_ne (l := 0) (h := 2147483647) c2 hx5 (iv_lit (l := (-1)) (h := (-1)) (by decide)) (by decide)) (by decide)) hpost
      · skip
        refine s_m_findRun_0 k_a_lands k_f_land k_f_huts k_a_run hx2 (iv_lta (l := 0) (h := 511) (r_nle c1) hx6 (iv_shl1 (l := 1) (h := 512) (iv_lit (l := 1) (h := 1) (by decide)) k_f_huts (by decide)) (by decide)) (fun o5 k_o5 => ?_)
        refine ⟨fun c6 => ?_, fun c6 => ?_⟩
        · skip
          refine ⟨fun c7 => ?_, fun c7 => ?_⟩
          · skip
            exact (iv_emp (iv_ne (l := 1) (h := 0) c7 (iv_lit (l := 0) (h := 0) (by decide)) (iv_lit (l := 0) (h := 0) (by decide)) (by decide)) (by decide)).elim
          · skip
            refine ⟨fun c8 => ?_, fun c8 => ?_⟩
            · skip
              refine ⟨fun c9 => ?_, fun c9 => ?_⟩
              · skip
                exact (iv_emp (iv_ne (l := 1) (h := 0) c9 (iv_lit (l := 0) (h := 0) (by decide)) (iv_lit (l := 0) (h := 0) (by decide)) (by decide)) (by decide)).elim
              · skip
                refine ⟨iv_in hx3 (by decide), ?_⟩
                refine ⟨fun c10 => ?_, fun c10 => ?_⟩
                · skip
                  exact s_m_flood_110 k_f_code k_a_many k_a_lands k_f_land k_f_huts k_f_singers k_o5 hx2 hx3 hx5 (iv_lta (l := 0) (h := 511) (r_nle c1) hx6 (iv_shl1 (l := 1) (h := 512) (iv_lit (l := 1) (h := 1) (by decide)) k_f_huts (by decide)) (by decide)) x6.toInt (Int.le_refl _) (fun u0 u1 u2 hq g0 g1 g2 => ih u0 u1 u2 (ms_up hm hq) g0 g1 g2) hpost
                · skip
                  exact s_m_flood_111 k_f_code k_a_many k_a_lands k_f_land k_f_huts k_f_singers k_o5 hx2 hx3 hx5 (iv_lta (l := 0) (h := 511) (r_nle c1) hx6 (iv_shl1 (l := 1) (h := 512) (iv_lit (l := 1) (h := 1) (by decide)) k_f_huts (by decide)) (by decide)) (iv_w (iv_lit (l := 1) (h := 1) (by decide)) (by decide)) x6.toInt (Int.le_refl _) (fun u0 u1 u2 hq g0 g1 g2 => ih u0 u1 u2 (ms_up hm hq) g0 g1 g2) hpost
            · skip
              refine ⟨fun c11 => ?_, fun c11 => ?_⟩
              · skip
                exact s_m_flood_110 k_f_code k_a_many k_a_lands k_f_land k_f_huts k_f_singers k_o5 hx2 hx3 hx5 (iv_lta (l := 0) (h := 511) (r_nle c1) hx6 (iv_shl1 (l := 1) (h := 512) (iv_lit (l := 1) (h := 1) (by decide)) k_f_huts (by decide)) (by decide)) x6.toInt (Int.le_refl _) (fun u0 u1 u2 hq g0 g1 g2 => ih u0 u1 u2 (ms_up hm hq) g0 g1 g2) hpost
              · skip
                exact (iv_emp (iv_eqa (l := 1) (h := 0) c11 (iv_lit (l := 1) (h := 1) (by decide)) (iv_lit (l := 0) (h := 0) (by decide)) (by decide)) (by decide)).elim
        · skip
          refine ⟨fun c12 => ?_, fun c12 => ?_⟩
          · skip
            exact s_m_flood_110 k_f_code k_a_many k_a_lands k_f_land k_f_huts k_f_singers k_o5 hx2 hx3 hx5 (iv_lta (l := 0) (h := 511) (r_nle c1) hx6 (iv_shl1 (l := 1) (h := 512) (iv_lit (l := 1) (h := 1) (by decide)) k_f_huts (by decide)) (by decide)) x6.toInt (Int.le_refl _) (fun u0 u1 u2 hq g0 g1 g2 => ih u0 u1 u2 (ms_up hm hq) g0 g1 g2) hpost
          · skip
            exact (iv_emp (iv_eqa (l := 1) (h := 0) c12 (iv_lit (l := 1) (h := 1) (by decide)) (iv_lit (l := 0) (h := 0) (by decide)) (by decide)) (by decide)).elim
  exact loop _ _ _ _ (ms_init_up _ _) hx5 hx6 k_a_run
set_option maxRecDepth 20000 in
theorem s_m_flood_0 {f_code : Int32} {a_many : Nat → Int32} {a_lands : Nat → Int32} {f_land : Int32} {f_huts : Int32} {f_singers : Int32} {a_run : Nat → Int32} {x1 : Int32} {x2 : Int32} {x3 : Int32} {x4 : Int32} {post : Int32 → (Int32) → (Int32) → (Int32) → (Int32) → (Nat → Int32) → Prop} (k_f_code : iv 0 0 f_code) (k_a_many : ∀ j, iv 0 2 (a_many j)) (k_a_lands : mLand a_lands) (k_f_land : iv 0 1 f_land) (k_f_huts : iv 0 9 f_huts) (k_f_singers : iv 0 6 f_singers) (k_a_run : ∀ j, iv 0 1000000 (a_run j)) (hpost : ∀ (r : Int32) (f_code : Int32) (f_land : Int32) (f_huts : Int32) (f_singers : Int32) (a_run : Nat → Int32), (iv 0 0 f_code) → (iv 0 1 f_land) → (iv 0 9 f_huts) → (iv 0 6 f_singers) → (∀ j, iv 0 1000000 (a_run j)) → post r f_code f_land f_huts f_singers a_run) : q_m_flood_0 f_code a_many a_lands f_land f_huts f_singers a_run x1 x2 x3 x4 post := by
  refine ⟨iv_in (iv_lit (l := 0) (h := 0) (by decide)) (by decide), ?_⟩
  refine ⟨fun c1 => ?_, fun c1 => ?_⟩
  · skip
    refine ⟨iv_nb (iv_lit (l := 0) (h := 0) (by decide)) (by decide), ?_⟩
    refine ⟨fun c2 => ?_, fun c2 => ?_⟩
    · skip
      exact (iv_emp (iv_ne (l := 1) (h := 0) c2 (iv_lit (l := 0) (h := 0) (by decide)) (iv_lit (l := 0) (h := 0) (by decide)) (by decide)) (by decide)).elim
    · skip
      refine ⟨fun c3 => ?_, fun c3 => ?_⟩
      · skip
        exact hpost _ _ _ _ _ _ (iv_lit (l := 0) (h := 0) (by decide)) k_f_land k_f_huts k_f_singers k_a_run
      · skip
        exact (iv_emp (iv_ne (l := 1) (h := 0) c3 (iv_lit (l := 0) (h := 0) (by decide)) (iv_lit (l := 0) (h := 0) (by decide)) (by decide)) (by decide)).elim
  · skip
    refine ⟨fun c4 => ?_, fun c4 => ?_⟩
    · skip
      refine ⟨iv_nb (iv_lit (l := 0) (h := 0) (by decide)) (by decide), ?_⟩
      refine ⟨fun c5 => ?_, fun c5 => ?_⟩
      · skip
        exact (iv_emp (iv_ne (l := 1) (h := 0) c5 (iv_lit (l := 0) (h := 0) (by decide)) (iv_lit (l := 0) (h := 0) (by decide)) (by decide)) (by decide)).elim
      · skip
        refine ⟨fun c6 => ?_, fun c6 => ?_⟩
        · skip
          exact hpost _ _ _ _ _ _ (iv_lit (l := 0) (h := 0) (by decide)) k_f_land k_f_huts k_f_singers k_a_run
        · skip
          exact (iv_emp (iv_ne (l := 1) (h := 0) c6 (iv_lit (l := 0) (h := 0) (by decide)) (iv_lit (l := 0) (h := 0) (by decide)) (by decide)) (by decide)).elim
    · skip
      refine ⟨iv_nb (iv_lit (l := 1) (h := 1) (by decide)) (by decide), ?_⟩
      refine ⟨fun c7 => ?_, fun c7 => ?_⟩
      · skip
        refine sp_of (a := 0) (b := 9) k_a_lands (iv_lea (l := 0) (h := 1) (r_nlt c4) (iv_leb (l := 0) (h := 2147483647) (r_nlt c1) (iv_lit (l := 0) (h := 0) (by decide)) (iv_top x1) (by decide)) (iv_sub (l := (-1)) (h := 1) (k_a_many _) (iv_lit (l := 1) (h := 1) (by decide)) (by decide)) (by decide)) (iv_lit (l := 0) (h := 0) (by decide)) (by decide +kernel) (fun r8 hr8 er8 => ?_)
        refine sp_of (a := 0) (b := 6) k_a_lands (iv_lea (l := 0) (h := 1) (r_nlt c4) (iv_leb (l := 0) (h := 2147483647) (r_nlt c1) (iv_lit (l := 0) (h := 0) (by decide)) (iv_top x1) (by decide)) (iv_sub (l := (-1)) (h := 1) (k_a_many _) (iv_lit (l := 1) (h := 1) (by decide)) (by decide)) (by decide)) (iv_lit (l := 1) (h := 1) (by decide)) (by decide +kernel) (fun r9 hr9 er9 => ?_)
        refine ⟨fun c10 => ?_, fun c10 => ?_⟩
        · skip
          exact (iv_emp (iv_eqa (l := 1) (h := 0) c10 (iv_lit (l := 1) (h := 1) (by decide)) (iv_lit (l := 0) (h := 0) (by decide)) (by decide)) (by decide)).elim
        · skip
          refine ⟨fun c11 => ?_, fun c11 => ?_⟩
          · skip
            refine ⟨iv_nb (iv_lit (l := 0) (h := 0) (by decide)) (by decide), ?_⟩
            refine ⟨fun c12 => ?_, fun c12 => ?_⟩
            · skip
              exact hpost _ _ _ _ _ _ (iv_lit (l := 0) (h := 0) (by decide)) (iv_lea (l := 0) (h := 1) (r_nlt c4) (iv_leb (l := 0) (h := 2147483647) (r_nlt c1) (iv_lit (l := 0) (h := 0) (by decide)) (iv_top x1) (by decide)) (iv_sub (l := (-1)) (h := 1) (k_a_many _) (iv_lit (l := 1) (h := 1) (by decide)) (by decide)) (by decide)) hr8 hr9 k_a_run
            · skip
              exact (iv_emp (iv_ne (l := 1) (h := 0) c12 (iv_lit (l := 0) (h := 0) (by decide)) (iv_lit (l := 0) (h := 0) (by decide)) (by decide)) (by decide)).elim
          · skip
            refine ⟨fun c13 => ?_, fun c13 => ?_⟩
            · skip
              refine ⟨iv_nb (iv_lit (l := 0) (h := 0) (by decide)) (by decide), ?_⟩
              refine ⟨fun c14 => ?_, fun c14 => ?_⟩
              · skip
                exact hpost _ _ _ _ _ _ (iv_lit (l := 0) (h := 0) (by decide)) (iv_lea (l := 0) (h := 1) (r_nlt c4) (iv_leb (l := 0) (h := 2147483647) (r_nlt c1) (iv_lit (l := 0) (h := 0) (by decide)) (iv_top x1) (by decide)) (iv_sub (l := (-1)) (h := 1) (k_a_many _) (iv_lit (l := 1) (h := 1) (by decide)) (by decide)) (by decide)) hr8 hr9 k_a_run
              · skip
                exact (iv_emp (iv_ne (l := 1) (h := 0) c14 (iv_lit (l := 0) (h := 0) (by decide)) (iv_lit (l := 0) (h := 0) (by decide)) (by decide)) (by decide)).elim
            · skip
              refine ⟨iv_nb (iv_lit (l := 1) (h := 1) (by decide)) (by decide), ?_⟩
              refine ⟨fun c15 => ?_, fun c15 => ?_⟩
              · skip
                exact (iv_emp (iv_eqa (l := 1) (h := 0) c15 (iv_lit (l := 1) (h := 1) (by decide)) (iv_lit (l := 0) (h := 0) (by decide)) (by decide)) (by decide)).elim
              · skip
                refine ⟨fun c16 => ?_, fun c16 => ?_⟩
                · skip
                  refine ⟨iv_nb (iv_lit (l := 0) (h := 0) (by decide)) (by decide), ?_⟩
                  refine ⟨fun c17 => ?_, fun c17 => ?_⟩
                  · skip
                    exact hpost _ _ _ _ _ _ (iv_lit (l := 0) (h := 0) (by decide)) (iv_lea (l := 0) (h := 1) (r_nlt c4) (iv_leb (l := 0) (h := 2147483647) (r_nlt c1) (iv_lit (l := 0) (h := 0) (by decide)) (iv_top x1) (by decide)) (iv_sub (l := (-1)) (h := 1) (k_a_many _) (iv_lit (l := 1) (h := 1) (by decide)) (by decide)) (by decide)) hr8 hr9 k_a_run
                  · skip
                    exact (iv_emp (iv_ne (l := 1) (h := 0) c17 (iv_lit (l := 0) (h := 0) (by decide)) (iv_lit (l := 0) (h := 0) (by decide)) (by decide)) (by decide)).elim
                · skip
                  refine ⟨fun c18 => ?_, fun c18 => ?_⟩
                  · skip
                    refine ⟨iv_nb (iv_lit (l := 0) (h := 0) (by decide)) (by decide), ?_⟩
                    refine ⟨fun c19 => ?_, fun c19 => ?_⟩
                    · skip
                      exact hpost _ _ _ _ _ _ (iv_lit (l := 0) (h := 0) (by decide)) (iv_lea (l := 0) (h := 1) (r_nlt c4) (iv_leb (l := 0) (h := 2147483647) (r_nlt c1) (iv_lit (l := 0) (h := 0) (by decide)) (iv_top x1) (by decide)) (iv_sub (l := (-1)) (h := 1) (k_a_many _) (iv_lit (l := 1) (h := 1) (by decide)) (by decide)) (by decide)) hr8 hr9 k_a_run
                    · skip
                      exact (iv_emp (iv_ne (l := 1) (h := 0) c19 (iv_lit (l := 0) (h := 0) (by decide)) (iv_lit (l := 0) (h := 0) (by decide)) (by decide)) (by decide)).elim
                  · skip
                    refine ⟨iv_nb (iv_lit (l := 1) (h := 1) (by decide)) (by decide), ?_⟩
                    refine ⟨fun c20 => ?_, fun c20 => ?_⟩
                    · skip
                      exact (iv_emp (iv_eqa (l := 1) (h := 0) c20 (iv_lit (l := 1) (h := 1) (by decide)) (iv_lit (l := 0) (h := 0) (by decide)) (by decide)) (by decide)).elim
                    · skip
                      refine ⟨fun c21 => ?_, fun c21 => ?_⟩
                      · skip
                        exact hpost _ _ _ _ _ _ (iv_lit (l := 0) (h := 0) (by decide)) (iv_lea (l := 0) (h := 1) (r_nlt c4) (iv_leb (l := 0) (h := 2147483647) (r_nlt c1) (iv_lit (l := 0) (h := 0) (by decide)) (iv_top x1) (by decide)) (iv_sub (l := (-1)) (h := 1) (k_a_many _) (iv_lit (l := 1) (h := 1) (by decide)) (by decide)) (by decide)) hr8 hr9 k_a_run
                      · skip
                        refine sp_of (a := 0) (b := 511) k_a_lands (iv_lea (l := 0) (h := 1) (r_nlt c4) (iv_leb (l := 0) (h := 2147483647) (r_nlt c1) (iv_lit (l := 0) (h := 0) (by decide)) (iv_top x1) (by decide)) (iv_sub (l := (-1)) (h := 1) (k_a_many _) (iv_lit (l := 1) (h := 1) (by decide)) (by decide)) (by decide)) (iv_lit (l := 3) (h := 3) (by decide)) (by decide +kernel) (fun r22 hr22 er22 => ?_)
                        refine ⟨fun c23 => ?_, fun c23 => ?_⟩
                        · skip
                          refine ⟨iv_nb (iv_lit (l := 0) (h := 0) (by decide)) (by decide), ?_⟩
                          refine ⟨fun c24 => ?_, fun c24 => ?_⟩
                          · skip
                            exact (iv_emp (iv_ne (l := 1) (h := 0) c24 (iv_lit (l := 0) (h := 0) (by decide)) (iv_lit (l := 0) (h := 0) (by decide)) (by decide)) (by decide)).elim
                          · skip
                            refine sp_of (a := 0) (b := 511) k_a_lands (iv_lea (l := 0) (h := 1) (r_nlt c4) (iv_leb (l := 0) (h := 2147483647) (r_nlt c1) (iv_lit (l := 0) (h := 0) (by decide)) (iv_top x1) (by decide)) (iv_sub (l := (-1)) (h := 1) (k_a_many _) (iv_lit (l := 1) (h := 1) (by decide)) (by decide)) (by decide)) (iv_lit (l := 3) (h := 3) (by decide)) (by decide +kernel) (fun r25 hr25 er25 => ?_)
                            refine ⟨fun c26 => ?_, fun c26 => ?_⟩
                            · skip
                              refine ⟨iv_nb (iv_lit (l := 0) (h := 0) (by decide)) (by decide), ?_⟩
                              refine ⟨fun c27 => ?_, fun c27 => ?_⟩
                              · skip
                                exact s_m_flood_58 (iv_lit (l := 0) (h := 0) (by decide)) k_a_many k_a_lands (iv_lea (l := 0) (h := 1) (r_nlt c4) (iv_leb (l := 0) (h := 2147483647) (r_nlt c1) (iv_lit (l := 0) (h := 0) (by decide)) (iv_top x1) (by decide)) (iv_sub (l := (-1)) (h := 1) (k_a_many _) (iv_lit (l := 1) (h := 1) (by decide)) (by decide)) (by decide)) hr8 hr9 k_a_run (iv_lea (l := 0) (h := 8) (r_nlt c13) (iv_leb (l := 0) (h := 2147483647) (r_nlt c11) (iv_lit (l := 0) (h := 0) (by decide)) (iv_top x2) (by decide)) (iv_sub (l := (-1)) (h := 8) hr8 (iv_lit (l := 1) (h := 1) (by decide)) (by decide)) (by decide)) (iv_lea (l := 0) (h := 8) (r_nlt c18) (iv_leb (l := 0) (h := 2147483647) (r_nlt c16) (iv_lit (l := 0) (h := 0) (by decide)) (iv_top x3) (by decide)) (iv_leb (l := 0) (h := 8) (r_nlt c13) (iv_leb (l := 0) (h := 2147483647) (r_nlt c11) (iv_lit (l := 0) (h := 0) (by decide)) (iv_top x2) (by decide)) (iv_sub (l := (-1)) (h := 8) hr8 (iv_lit (l := 1) (h := 1) (by decide)) (by decide)) (by decide)) (by decide)) (iv_w (iv_lit (l := (-1)) (h := (-1)) (by decide)) (by decide)) (iv_w (iv_lit (l := 0) (h := 0) (by decide)) (by decide)) hpost
                              · skip
                                exact (iv_emp (iv_ne (l := 1) (h := 0) c27 (iv_lit (l := 0) (h := 0) (by decide)) (iv_lit (l := 0) (h := 0) (by decide)) (by decide)) (by decide)).elim
                            · skip
                              refine ⟨iv_nb (iv_lit (l := 1) (h := 1) (by decide)) (by decide), ?_⟩
                              refine ⟨fun c28 => ?_, fun c28 => ?_⟩
                              · skip
                                exact (iv_emp (iv_eqa (l := 1) (h := 0) c28 (iv_lit (l := 1) (h := 1) (by decide)) (iv_lit (l := 0) (h := 0) (by decide)) (by decide)) (by decide)).elim
                              · skip
                                exact hpost _ _ _ _ _ _ (iv_lit (l := 0) (h := 0) (by decide)) (iv_lea (l := 0) (h := 1) (r_nlt c4) (iv_leb (l := 0) (h := 2147483647) (r_nlt c1) (iv_lit (l := 0) (h := 0) (by decide)) (iv_top x1) (by decide)) (iv_sub (l := (-1)) (h := 1) (k_a_many _) (iv_lit (l := 1) (h := 1) (by decide)) (by decide)) (by decide)) hr8 hr9 k_a_run
                        · skip
                          refine ⟨iv_nb (iv_lit (l := 1) (h := 1) (by decide)) (by decide), ?_⟩
                          refine ⟨fun c29 => ?_, fun c29 => ?_⟩
                          · skip
                            exact hpost _ _ _ _ _ _ (iv_lit (l := 0) (h := 0) (by decide)) (iv_lea (l := 0) (h := 1) (r_nlt c4) (iv_leb (l := 0) (h := 2147483647) (r_nlt c1) (iv_lit (l := 0) (h := 0) (by decide)) (iv_top x1) (by decide)) (iv_sub (l := (-1)) (h := 1) (k_a_many _) (iv_lit (l := 1) (h := 1) (by decide)) (by decide)) (by decide)) hr8 hr9 k_a_run
                          · skip
                            exact (iv_emp (iv_eqa (l := 1) (h := 0) c29 (iv_lit (l := 1) (h := 1) (by decide)) (iv_lit (l := 0) (h := 0) (by decide)) (by decide)) (by decide)).elim
      · skip
        exact (iv_emp (iv_eqa (l := 1) (h := 0) c7 (iv_lit (l := 1) (h := 1) (by decide)) (iv_lit (l := 0) (h := 0) (by decide)) (by decide)) (by decide)).elim
-- m_taught
theorem tg_dec : ∀ L, L < 64 → ∀ a, a < 6 → ((nI L >>> (nI a &&& 31)) &&& 1) = 1 → 0 ≤ (nI L &&& (((1 : Int32) <<< (nI a &&& 31)) ^^^ (-1))).toInt ∧ (nI L &&& (((1 : Int32) <<< (nI a &&& 31)) ^^^ (-1))).toInt < (L : Int) := by decide +kernel
theorem tg_sh {j : Nat} (h : j ≤ 5) : iv 0 63 ((1 : Int32) <<< (nI j &&& 31)) := iv_w (iv_shl1 (l := 1) (h := 32) (iv_lit (l := 1) (h := 1) (by decide)) (iv_ofN (l := 0) (h := 5) (by omega) (by omega) (by omega)) (by decide)) (by decide)
theorem s_m_taught_0 {a_lands : Nat → Int32} {f_land : Int32} {f_singers : Int32} {a_at : Nat → Int32} {a_knows : Nat → Int32} {a_climbed : Nat → Int32} {a_level : Nat → Int32} {f_begun : Int32} {x1 : Int32} {x2 : Int32} {post : Int32 → Prop} (k_a_lands : mLand a_lands) (k_f_land : iv 0 1 f_land) (k_f_singers : iv 0 6 f_singers) (k_a_at : ∀ j, iv 0 8 (a_at j)) (k_a_knows : ∀ j, iv 0 31 (a_knows j)) (k_a_climbed : ∀ j, iv 0 1 (a_climbed j)) (k_a_level : ∀ j, iv (-9) 108 (a_level j)) (k_f_begun : iv 0 31 f_begun) (hx1 : iv 0 63 x1) (hx2 : iv 0 4 x2) (hpost : ∀ (r : Int32), iv (-1) 63 r → post r) : q_m_taught_0 a_lands f_land f_singers a_at a_knows a_climbed a_level f_begun x1 x2 post := by
  obtain ⟨S, rfl, -, hS, hS2⟩ := iv_nI k_f_singers (by omega)
  have hS6 : S ≤ 6 := by omega
  have main : ∀ (x3 x4 x5 : Int32), iv 0 63 x3 → iv 0 63 x5 → q_m_taught_73 a_lands f_land (nI S) a_at a_knows a_climbed a_level f_begun x3 x4 x5 post := by
    intro x3 x4 x5 h3 h5 P hP
    have loop : ∀ (n : Nat) (x3 x4 x5 : Int32), x5.toInt < (n : Int) → iv 0 63 x3 → iv 0 63 x5 → P x3 x4 x5 := by
      intro n
      induction n with
      | zero => intro x3 x4 x5 hn h3 h5; have := h5.1; omega
      | succ n ih =>
        intro x3 x4 x5 hn h3 h5
        apply hP
        refine ⟨fun _ => hpost _ (iv_w h3 (by decide)), fun hne => ?_⟩
        intro P2 hP2
        have neg : post (-1) := hpost _ (iv_lit (by decide))
        have loop2 : ∀ (m j : Nat) (x6 : Int32), m + j = S → (x6 = -1 ∨ ∃ a, a < j ∧ x6 = nI a ∧ ((x5 >>> (nI a &&& 31)) &&& 1) = 1) → P2 x6 (nI j) := by
          intro m
          induction m with
          | zero =>
            intro j x6 hj hx
            apply hP2
            refine ⟨fun _ => ?_, fun h => absurd (nI_le (by omega) (by omega)) h⟩
            refine ⟨fun _ => iz neg, fun hb => oi ?_⟩
            rcases hx with rfl | ⟨a, ha, rfl, hbit⟩
            · have := iv_bitk 6 (l := 0) (h := 5) hb h3 (iv_lit (l := -1) (h := -1) (by decide)) (by decide)
              exact absurd this.1 (by decide)
            · have ha6 : iv 0 5 (nI a) := iv_ofN (by omega) (by omega) (by omega)
              refine sp_high k_a_lands k_f_land k_a_at ha6 (fun r2 => ⟨fun _ => neg, fun _ => ⟨iv_in ha6 (by decide), ?_⟩⟩)
              refine sp_isDam k_a_lands k_f_land (iz ?_) (oi neg)
              refine sp_high k_a_lands k_f_land k_a_at ha6 (fun r4 v1 ev => ⟨iv_in ha6 (by decide), ?_⟩)
              obtain ⟨L, rfl, -, hL, hL2⟩ := iv_nI h5 (by omega)
              have hd := tg_dec L (by omega) a (by omega) hbit
              rw [nI_toInt hL2] at hn
              refine s_m_hearing_0 k_a_lands k_f_land (k_a_at _) (fun r5 h5r => ?_)
              intro P3 hP3
              have loop3 : ∀ (q s : Nat) (x3 : Int32), q + s = S → iv 0 63 x3 → P3 x3 (nI s) := by
                intro q
                induction q with
                | zero =>
                  intro s x3 hs h3
                  apply hP3
                  refine ⟨fun _ => ?_, fun h => absurd (nI_le (by omega) (by omega)) h⟩
                  refine ih _ _ _ ?_ h3 ?_
                  · rw [ev]; omega
                  · rw [ev]; exact ⟨by omega, by omega⟩
                | succ q ih3 =>
                  intro s x3 hs h3
                  apply hP3
                  refine ⟨fun h => absurd h (nI_ge (by omega) (by omega)), fun _ => ⟨vp_in_nI (by omega) (by omega), ?_⟩⟩
                  refine ⟨fun _ => iz (fun v1 e1 v2 e2 => ?_), fun _ => oi (fun v1 e1 v2 e2 => ?_)⟩
                  · rw [e2, nI_1]
                    exact ih3 (s + 1) v1 (by omega) (iv_eq e1 (iv_or 6 h3 (iv_lit (l := 0) (h := 0) (by decide)) (by decide)))
                  · rw [e2, nI_1]
                    exact ih3 (s + 1) v1 (by omega) (iv_eq e1 (iv_or 6 h3 (tg_sh (by omega)) (by decide)))
              exact loop3 S 0 x3 (by omega) h3
          | succ m ih2 =>
            intro j x6 hj hx
            apply hP2
            refine ⟨fun h => absurd h (nI_ge (by omega) (by omega)), fun _ => ?_⟩
            have k129 : q_m_taught_129 P P2 a_lands f_land (nI S) a_at a_knows a_climbed a_level f_begun x3 x4 x5 x6 (nI j) post := by
              intro v1 e1
              rw [e1, nI_1]
              refine ih2 (j + 1) x6 (by omega) ?_
              rcases hx with hx | ⟨a, ha, hxa, hb⟩
              · exact Or.inl hx
              · exact Or.inr ⟨a, by omega, hxa, hb⟩
            refine ⟨fun _ => iz k129, fun hb => oi ?_⟩
            have k124 : q_m_taught_124 P P2 a_lands f_land (nI S) a_at a_knows a_climbed a_level f_begun x3 x4 x5 (nI j) post := by
              intro v1 e1
              rw [e1, nI_1]
              exact ih2 (j + 1) (nI j) (by omega) (Or.inr ⟨j, by omega, rfl, hb⟩)
            refine ⟨fun _ => k124, fun hx1 => ?_⟩
            rcases hx with hx | ⟨a, ha, rfl, hba⟩
            · exact absurd hx hx1
            · refine sp_high k_a_lands k_f_land k_a_at (iv_ofN (by omega) (by omega) (by omega)) (fun r7 => sp_high k_a_lands k_f_land k_a_at (iv_ofN (by omega) (by omega) (by omega)) (fun r8 => ?_))
              exact ⟨fun _ => k129, fun _ => k124⟩
        exact loop2 S 0 (-1) (by omega) (Or.inl rfl)
    exact loop 64 x3 x4 x5 (by have := h5.2; omega) h3 h5
  have first : ∀ (y : Int32), q_m_taught_25 a_lands f_land (nI S) a_at a_knows a_climbed a_level f_begun x1 x2 0 y post := by
    intro y P hP
    have loop : ∀ (n j : Nat) (x3 : Int32), n + j = S → iv 0 63 x3 → P x3 (nI j) := by
      intro n
      induction n with
      | zero =>
        intro j x3 hj h3
        apply hP
        exact ⟨fun _ => main x3 y x1 h3 hx1, fun h => absurd (nI_le (by omega) (by omega)) h⟩
      | succ n ih =>
        intro j x3 hj h3
        apply hP
        refine ⟨fun h => absurd h (nI_ge (by omega) (by omega)), fun _ => ⟨vp_in_nI (by omega) (by omega), ?_⟩⟩
        refine ⟨fun _ => iz (fun v1 e1 v2 e2 => ?_), fun _ => oi (fun v1 e1 v2 e2 => ?_)⟩
        · rw [e2, nI_1]
          exact ih (j + 1) v1 (by omega) (iv_eq e1 (iv_or 6 h3 (iv_lit (l := 0) (h := 0) (by decide)) (by decide)))
        · rw [e2, nI_1]
          exact ih (j + 1) v1 (by omega) (iv_eq e1 (iv_or 6 h3 (tg_sh (by omega)) (by decide)))
    exact loop S 0 0 (by omega) (iv_lit (by decide))
  exact ⟨fun _ => iz (first _), fun _ => oi ⟨iv_in hx2 (by decide), first _⟩⟩
-- m_teach
set_option maxRecDepth 20000 in
theorem s_m_teach_121 {P53 : Int32 → Int32 → Prop} {f_code : Int32} {a_many : Nat → Int32} {a_lands : Nat → Int32} {a_evenings : Nat → Int32} {f_land : Int32} {f_huts : Int32} {f_singers : Int32} {f_evening : Int32} {a_at : Nat → Int32} {a_knows : Nat → Int32} {a_climbed : Nat → Int32} {a_snow : Nat → Int32} {a_level : Nat → Int32} {f_begun : Int32} {f_minute : Int32} {f_avalanches : Int32} {x4 : Int32} {x6 : Int32} {y0 : Int32} {post : Int32 → (Int32) → (Int32) → (Int32) → (Int32) → (Int32) → (Nat → Int32) → (Nat → Int32) → (Nat → Int32) → (Nat → Int32) → (Nat → Int32) → (Int32) → (Int32) → (Int32) → Prop} (k_f_code : iv 0 0 f_code) (k_a_many : ∀ j, iv 0 2 (a_many j)) (k_a_lands : mLand a_lands) (k_a_evenings : mEve a_evenings) (k_f_land : iv 0 1 f_land) (k_f_huts : iv 0 9 f_huts) (k_f_singers : iv 0 6 f_singers) (k_f_evening : iv 0 1 f_evening) (k_a_at : ∀ j, iv 0 8 (a_at j)) (k_a_knows : ∀ j, iv 0 31 (a_knows j)) (k_a_climbed : ∀ j, iv 0 1 (a_climbed j)) (k_a_level : ∀ j, iv (-9) 108 (a_level j)) (k_f_begun : iv 0 31 f_begun) (hx4 : iv 0 4 x4) (hx6 : iv 0 63 x6) (m53 : Int) (hm53 : m53 ≤ x6.toInt) (hP53 : ∀ (x5 : Int32) (x6 : Int32), m53 < x6.toInt → iv 0 64 x6 → P53 x5 x6) (hpost : ∀ (r : Int32) (f_code : Int32) (f_land : Int32) (f_huts : Int32) (f_singers : Int32) (f_evening : Int32) (a_at : Nat → Int32) (a_knows : Nat → Int32) (a_climbed : Nat → Int32) (a_snow : Nat → Int32) (a_level : Nat → Int32) (f_begun : Int32) (f_minute : Int32) (f_avalanches : Int32), (iv 0 0 f_code) → (iv 0 1 f_land) → (iv 0 9 f_huts) → (iv 0 6 f_singers) → (∀ j, iv 0 8 (a_at j)) → (∀ j, iv 0 31 (a_knows j)) → (∀ j, iv 0 1 (a_climbed j)) → (∀ j, iv (-9) 108 (a_level j)) → (iv 0 31 f_begun) → post r f_code f_land f_huts f_singers f_evening a_at a_knows a_climbed a_snow a_level f_begun f_minute f_avalanches) : q_m_teach_121 P53 f_code a_many a_lands a_evenings f_land f_huts f_singers f_evening a_at a_knows a_climbed a_snow a_level f_begun f_minute f_avalanches x4 x6 y0 post := by
  intro w1 ew1
  have hw1 := iv_eq ew1 (iv_add (l := 1) (h := 64) hx6 (iv_lit (l := 1) (h := 1) (by decide)) (by decide))
  exact hP53 _ _ (ml_up hm53 (inc_lt ew1 hx6 (by decide))) (iv_w hw1 (by decide))
set_option maxRecDepth 20000 in
theorem s_m_teach_111 {P53 : Int32 → Int32 → Prop} {f_code : Int32} {a_many : Nat → Int32} {a_lands : Nat → Int32} {a_evenings : Nat → Int32} {f_land : Int32} {f_huts : Int32} {f_singers : Int32} {f_evening : Int32} {a_at : Nat → Int32} {a_knows : Nat → Int32} {a_climbed : Nat → Int32} {a_snow : Nat → Int32} {a_level : Nat → Int32} {f_begun : Int32} {f_minute : Int32} {f_avalanches : Int32} {x4 : Int32} {x6 : Int32} {post : Int32 → (Int32) → (Int32) → (Int32) → (Int32) → (Int32) → (Nat → Int32) → (Nat → Int32) → (Nat → Int32) → (Nat → Int32) → (Nat → Int32) → (Int32) → (Int32) → (Int32) → Prop} (k_f_code : iv 0 0 f_code) (k_a_many : ∀ j, iv 0 2 (a_many j)) (k_a_lands : mLand a_lands) (k_a_evenings : mEve a_evenings) (k_f_land : iv 0 1 f_land) (k_f_huts : iv 0 9 f_huts) (k_f_singers : iv 0 6 f_singers) (k_f_evening : iv 0 1 f_evening) (k_a_at : ∀ j, iv 0 8 (a_at j)) (k_a_knows : ∀ j, iv 0 31 (a_knows j)) (k_a_climbed : ∀ j, iv 0 1 (a_climbed j)) (k_a_level : ∀ j, iv (-9) 108 (a_level j)) (k_f_begun : iv 0 31 f_begun) (hx4 : iv 0 4 x4) (hx6 : iv 0 63 x6) (m53 : Int) (hm53 : m53 ≤ x6.toInt) (hP53 : ∀ (x5 : Int32) (x6 : Int32), m53 < x6.toInt → iv 0 64 x6 → P53 x5 x6) (hpost : ∀ (r : Int32) (f_code : Int32) (f_land : Int32) (f_huts : Int32) (f_singers : Int32) (f_evening : Int32) (a_at : Nat → Int32) (a_knows : Nat → Int32) (a_climbed : Nat → Int32) (a_snow : Nat → Int32) (a_level : Nat → Int32) (f_begun : Int32) (f_minute : Int32) (f_avalanches : Int32), (iv 0 0 f_code) → (iv 0 1 f_land) → (iv 0 9 f_huts) → (iv 0 6 f_singers) → (∀ j, iv 0 8 (a_at j)) → (∀ j, iv 0 31 (a_knows j)) → (∀ j, iv 0 1 (a_climbed j)) → (∀ j, iv (-9) 108 (a_level j)) → (iv 0 31 f_begun) → post r f_code f_land f_huts f_singers f_evening a_at a_knows a_climbed a_snow a_level f_begun f_minute f_avalanches) : q_m_teach_111 P53 f_code a_many a_lands a_evenings f_land f_huts f_singers f_evening a_at a_knows a_climbed a_snow a_level f_begun f_minute f_avalanches x4 x6 post := by
  refine s_m_ones_0 (iv_w hx6 (by decide)) (fun r1 => ?_)
  exact s_m_teach_121 k_f_code k_a_many k_a_lands k_a_evenings k_f_land k_f_huts k_f_singers k_f_evening k_a_at k_a_knows k_a_climbed k_a_level k_f_begun hx4 hx6 m53 hm53 hP53 hpost
set_option maxRecDepth 20000 in
theorem s_m_teach_119 {P53 : Int32 → Int32 → Prop} {f_code : Int32} {a_many : Nat → Int32} {a_lands : Nat → Int32} {a_evenings : Nat → Int32} {f_land : Int32} {f_huts : Int32} {f_singers : Int32} {f_evening : Int32} {a_at : Nat → Int32} {a_knows : Nat → Int32} {a_climbed : Nat → Int32} {a_snow : Nat → Int32} {a_level : Nat → Int32} {f_begun : Int32} {f_minute : Int32} {f_avalanches : Int32} {x4 : Int32} {x5 : Int32} {x6 : Int32} {post : Int32 → (Int32) → (Int32) → (Int32) → (Int32) → (Int32) → (Nat → Int32) → (Nat → Int32) → (Nat → Int32) → (Nat → Int32) → (Nat → Int32) → (Int32) → (Int32) → (Int32) → Prop} (k_f_code : iv 0 0 f_code) (k_a_many : ∀ j, iv 0 2 (a_many j)) (k_a_lands : mLand a_lands) (k_a_evenings : mEve a_evenings) (k_f_land : iv 0 1 f_land) (k_f_huts : iv 0 9 f_huts) (k_f_singers : iv 0 6 f_singers) (k_f_evening : iv 0 1 f_evening) (k_a_at : ∀ j, iv 0 8 (a_at j)) (k_a_knows : ∀ j, iv 0 31 (a_knows j)) (k_a_climbed : ∀ j, iv 0 1 (a_climbed j)) (k_a_level : ∀ j, iv (-9) 108 (a_level j)) (k_f_begun : iv 0 31 f_begun) (hx4 : iv 0 4 x4) (hx6 : iv 0 63 x6) (m53 : Int) (hm53 : m53 ≤ x6.toInt) (hP53 : ∀ (x5 : Int32) (x6 : Int32), m53 < x6.toInt → iv 0 64 x6 → P53 x5 x6) (hpost : ∀ (r : Int32) (f_code : Int32) (f_land : Int32) (f_huts : Int32) (f_singers : Int32) (f_evening : Int32) (a_at : Nat → Int32) (a_knows : Nat → Int32) (a_climbed : Nat → Int32) (a_snow : Nat → Int32) (a_level : Nat → Int32) (f_begun : Int32) (f_minute : Int32) (f_avalanches : Int32), (iv 0 0 f_code) → (iv 0 1 f_land) → (iv 0 9 f_huts) → (iv 0 6 f_singers) → (∀ j, iv 0 8 (a_at j)) → (∀ j, iv 0 31 (a_knows j)) → (∀ j, iv 0 1 (a_climbed j)) → (∀ j, iv (-9) 108 (a_level j)) → (iv 0 31 f_begun) → post r f_code f_land f_huts f_singers f_evening a_at a_knows a_climbed a_snow a_level f_begun f_minute f_avalanches) : q_m_teach_119 P53 f_code a_many a_lands a_evenings f_land f_huts f_singers f_evening a_at a_knows a_climbed a_snow a_level f_begun f_minute f_avalanches x4 x5 x6 post := by
  exact s_m_teach_121 k_f_code k_a_many k_a_lands k_a_evenings k_f_land k_f_huts k_f_singers k_f_evening k_a_at k_a_knows k_a_climbed k_a_level k_f_begun hx4 hx6 m53 hm53 hP53 hpost
set_option maxRecDepth 20000 in
theorem s_m_teach_88 {P53 : Int32 → Int32 → Prop} {f_code : Int32} {a_many : Nat → Int32} {a_lands : Nat → Int32} {a_evenings : Nat → Int32} {f_land : Int32} {f_huts : Int32} {f_singers : Int32} {f_evening : Int32} {a_at : Nat → Int32} {a_knows : Nat → Int32} {a_climbed : Nat → Int32} {a_snow : Nat → Int32} {a_level : Nat → Int32} {f_begun : Int32} {f_minute : Int32} {f_avalanches : Int32} {x4 : Int32} {x5 : Int32} {x6 : Int32} {y0 : Int32} {post : Int32 → (Int32) → (Int32) → (Int32) → (Int32) → (Int32) → (Nat → Int32) → (Nat → Int32) → (Nat → Int32) → (Nat → Int32) → (Nat → Int32) → (Int32) → (Int32) → (Int32) → Prop} (k_f_code : iv 0 0 f_code) (k_a_many : ∀ j, iv 0 2 (a_many j)) (k_a_lands : mLand a_lands) (k_a_evenings : mEve a_evenings) (k_f_land : iv 0 1 f_land) (k_f_huts : iv 0 9 f_huts) (k_f_singers : iv 0 6 f_singers) (k_f_evening : iv 0 1 f_evening) (k_a_at : ∀ j, iv 0 8 (a_at j)) (k_a_knows : ∀ j, iv 0 31 (a_knows j)) (k_a_climbed : ∀ j, iv 0 1 (a_climbed j)) (k_a_level : ∀ j, iv (-9) 108 (a_level j)) (k_f_begun : iv 0 31 f_begun) (hx4 : iv 0 4 x4) (hx6 : iv 0 63 x6) (hy0 : iv 0 1 y0) (m53 : Int) (hm53 : m53 ≤ x6.toInt) (hP53 : ∀ (x5 : Int32) (x6 : Int32), m53 < x6.toInt → iv 0 64 x6 → P53 x5 x6) (hpost : ∀ (r : Int32) (f_code : Int32) (f_land : Int32) (f_huts : Int32) (f_singers : Int32) (f_evening : Int32) (a_at : Nat → Int32) (a_knows : Nat → Int32) (a_climbed : Nat → Int32) (a_snow : Nat → Int32) (a_level : Nat → Int32) (f_begun : Int32) (f_minute : Int32) (f_avalanches : Int32), (iv 0 0 f_code) → (iv 0 1 f_land) → (iv 0 9 f_huts) → (iv 0 6 f_singers) → (∀ j, iv 0 8 (a_at j)) → (∀ j, iv 0 31 (a_knows j)) → (∀ j, iv 0 1 (a_climbed j)) → (∀ j, iv (-9) 108 (a_level j)) → (iv 0 31 f_begun) → post r f_code f_land f_huts f_singers f_evening a_at a_knows a_climbed a_snow a_level f_begun f_minute f_avalanches) : q_m_teach_88 P53 f_code a_many a_lands a_evenings f_land f_huts f_singers f_evening a_at a_knows a_climbed a_snow a_level f_begun f_minute f_avalanches x4 x5 x6 y0 post := by
  refine ⟨fun c1 => ?_, fun c1 => ?_⟩
  · skip
    exact s_m_teach_119 k_f_code k_a_many k_a_lands k_a_evenings k_f_land k_f_huts k_f_singers k_f_evening k_a_at k_a_knows k_a_climbed k_a_level k_f_begun hx4 hx6 m53 hm53 hP53 hpost
  · skip
    refine ⟨fun c2 => ?_, fun c2 => ?_⟩
    · skip
      exact s_m_teach_111 k_f_code k_a_many k_a_lands k_a_evenings k_f_land k_f_huts k_f_singers k_f_evening k_a_at k_a_knows k_a_climbed k_a_level k_f_begun hx4 hx6 m53 hm53 hP53 hpost
    · skip
      refine s_m_ones_0 (iv_w hx6 (by decide)) (fun r3 => ?_)
      refine ⟨fun c4 => ?_, fun c4 => ?_⟩
      · skip
        exact s_m_teach_119 k_f_code k_a_many k_a_lands k_a_evenings k_f_land k_f_huts k_f_singers k_f_evening k_a_at k_a_knows k_a_climbed k_a_level k_f_begun hx4 hx6 m53 hm53 hP53 hpost
      · skip
        exact s_m_teach_111 k_f_code k_a_many k_a_lands k_a_evenings k_f_land k_f_huts k_f_singers k_f_evening k_a_at k_a_knows k_a_climbed k_a_level k_f_begun hx4 hx6 m53 hm53 hP53 hpost
set_option maxRecDepth 20000 in
theorem s_m_teach_53 {f_code : Int32} {a_many : Nat → Int32} {a_lands : Nat → Int32} {a_evenings : Nat → Int32} {f_land : Int32} {f_huts : Int32} {f_singers : Int32} {f_evening : Int32} {a_at : Nat → Int32} {a_knows : Nat → Int32} {a_climbed : Nat → Int32} {a_snow : Nat → Int32} {a_level : Nat → Int32} {f_begun : Int32} {f_minute : Int32} {f_avalanches : Int32} {x4 : Int32} {x5 : Int32} {x6 : Int32} {post : Int32 → (Int32) → (Int32) → (Int32) → (Int32) → (Int32) → (Nat → Int32) → (Nat → Int32) → (Nat → Int32) → (Nat → Int32) → (Nat → Int32) → (Int32) → (Int32) → (Int32) → Prop} (k_f_code : iv 0 0 f_code) (k_a_many : ∀ j, iv 0 2 (a_many j)) (k_a_lands : mLand a_lands) (k_a_evenings : mEve a_evenings) (k_f_land : iv 0 1 f_land) (k_f_huts : iv 0 9 f_huts) (k_f_singers : iv 0 6 f_singers) (k_f_evening : iv 0 1 f_evening) (k_a_at : ∀ j, iv 0 8 (a_at j)) (k_a_knows : ∀ j, iv 0 31 (a_knows j)) (k_a_climbed : ∀ j, iv 0 1 (a_climbed j)) (k_a_level : ∀ j, iv (-9) 108 (a_level j)) (k_f_begun : iv 0 31 f_begun) (hx4 : iv 0 4 x4) (hx6 : iv 0 64 x6) (hpost : ∀ (r : Int32) (f_code : Int32) (f_land : Int32) (f_huts : Int32) (f_singers : Int32) (f_evening : Int32) (a_at : Nat → Int32) (a_knows : Nat → Int32) (a_climbed : Nat → Int32) (a_snow : Nat → Int32) (a_level : Nat → Int32) (f_begun : Int32) (f_minute : Int32) (f_avalanches : Int32), (iv 0 0 f_code) → (iv 0 1 f_land) → (iv 0 9 f_huts) → (iv 0 6 f_singers) → (∀ j, iv 0 8 (a_at j)) → (∀ j, iv 0 31 (a_knows j)) → (∀ j, iv 0 1 (a_climbed j)) → (∀ j, iv (-9) 108 (a_level j)) → (iv 0 31 f_begun) → post r f_code f_land f_huts f_singers f_evening a_at a_knows a_climbed a_snow a_level f_begun f_minute f_avalanches) : q_m_teach_53 f_code a_many a_lands a_evenings f_land f_huts f_singers f_evening a_at a_knows a_climbed a_snow a_level f_begun f_minute f_avalanches x4 x5 x6 post := by
  intro P hP
  have loop : ∀ (n : Nat) (x5 : Int32) (x6 : Int32), (64 - x6.toInt < (n : Int)) → (iv 0 64 x6) → P x5 x6 := by
    intro n
    induction n with
    | zero => intro x5 x6 hm hx6; exact (ms0_up hm hx6).elim
    | succ n ih =>
      intro x5 x6 hm hx6
      apply hP
      refine ⟨fun c1 => ?_, fun c1 => ?_⟩
      · skip
        exact hpost _ _ _ _ _ _ _ _ _ _ _ _ _ _ k_f_code k_f_land k_f_huts k_f_singers k_a_at k_a_knows k_a_climbed k_a_level k_f_begun
      · skip
        refine s_m_taught_0 k_a_lands k_f_land k_f_singers k_a_at k_a_knows k_a_climbed k_a_level k_f_begun (iv_lta (l := 0) (h := 63) (r_nle c1) hx6 (iv_shl1 (l := 1) (h := 64) (iv_lit (l := 1) (h := 1) (by decide)) k_f_singers (by decide)) (by decide)) hx4 (fun r2 hr2 => ?_)
        refine ⟨fun c3 => ?_, fun c3 => ?_⟩
        · skip
          exact s_m_teach_88 k_f_code k_a_many k_a_lands k_a_evenings k_f_land k_f_huts k_f_singers k_f_evening k_a_at k_a_knows k_a_climbed k_a_level k_f_begun hx4 (iv_lta (l := 0) (h := 63) (r_nle c1) hx6 (iv_shl1 (l := 1) (h := 64) (iv_lit (l := 1) (h := 1) (by decide)) k_f_singers (by decide)) (by decide)) (iv_w (iv_lit (l := 0) (h := 0) (by decide)) (by decide)) x6.toInt (Int.le_refl _) (fun u0 u1 hq g0 => ih u0 u1 (ms_up hm hq) g0) hpost
        · skip
          exact s_m_teach_88 k_f_code k_a_many k_a_lands k_a_evenings k_f_land k_f_huts k_f_singers k_f_evening k_a_at k_a_knows k_a_climbed k_a_level k_f_begun hx4 (iv_lta (l := 0) (h := 63) (r_nle c1) hx6 (iv_shl1 (l := 1) (h := 64) (iv_lit (l := 1) (h := 1) (by decide)) k_f_singers (by decide)) (by decide)) (iv_w (iv_lit (l := 1) (h := 1) (by decide)) (by decide)) x6.toInt (Int.le_refl _) (fun u0 u1 hq g0 => ih u0 u1 (ms_up hm hq) g0) hpost
  exact loop _ _ _ (ms_init_up _ _) hx6
set_option maxRecDepth 20000 in
theorem s_m_teach_0 {f_code : Int32} {a_many : Nat → Int32} {a_lands : Nat → Int32} {a_evenings : Nat → Int32} {f_land : Int32} {f_huts : Int32} {f_singers : Int32} {f_evening : Int32} {a_at : Nat → Int32} {a_knows : Nat → Int32} {a_climbed : Nat → Int32} {a_snow : Nat → Int32} {a_level : Nat → Int32} {f_begun : Int32} {f_minute : Int32} {f_avalanches : Int32} {x1 : Int32} {x2 : Int32} {x3 : Int32} {x4 : Int32} {post : Int32 → (Int32) → (Int32) → (Int32) → (Int32) → (Int32) → (Nat → Int32) → (Nat → Int32) → (Nat → Int32) → (Nat → Int32) → (Nat → Int32) → (Int32) → (Int32) → (Int32) → Prop} (k_f_code : iv 0 0 f_code) (k_a_many : ∀ j, iv 0 2 (a_many j)) (k_a_lands : mLand a_lands) (k_a_evenings : mEve a_evenings) (k_f_land : iv 0 1 f_land) (k_f_huts : iv 0 9 f_huts) (k_f_singers : iv 0 6 f_singers) (k_a_at : ∀ j, iv 0 8 (a_at j)) (k_a_knows : ∀ j, iv 0 31 (a_knows j)) (k_a_climbed : ∀ j, iv 0 1 (a_climbed j)) (k_a_level : ∀ j, iv (-9) 108 (a_level j)) (k_f_begun : iv 0 31 f_begun) (hpost : ∀ (r : Int32) (f_code : Int32) (f_land : Int32) (f_huts : Int32) (f_singers : Int32) (f_evening : Int32) (a_at : Nat → Int32) (a_knows : Nat → Int32) (a_climbed : Nat → Int32) (a_snow : Nat → Int32) (a_level : Nat → Int32) (f_begun : Int32) (f_minute : Int32) (f_avalanches : Int32), (iv 0 0 f_code) → (iv 0 1 f_land) → (iv 0 9 f_huts) → (iv 0 6 f_singers) → (∀ j, iv 0 8 (a_at j)) → (∀ j, iv 0 31 (a_knows j)) → (∀ j, iv 0 1 (a_climbed j)) → (∀ j, iv (-9) 108 (a_level j)) → (iv 0 31 f_begun) → post r f_code f_land f_huts f_singers f_evening a_at a_knows a_climbed a_snow a_level f_begun f_minute f_avalanches) : q_m_teach_0 f_code a_many a_lands a_evenings f_land f_huts f_singers f_evening a_at a_knows a_climbed a_snow a_level f_begun f_minute f_avalanches x1 x2 x3 x4 post := by
  refine ⟨iv_in (iv_lit (l := 1) (h := 1) (by decide)) (by decide), ?_⟩
  refine ⟨fun c1 => ?_, fun c1 => ?_⟩
  · skip
    refine ⟨iv_nb (iv_lit (l := 0) (h := 0) (by decide)) (by decide), ?_⟩
    refine ⟨iv_nb (iv_lit (l := 0) (h := 0) (by decide)) (by decide), ?_⟩
    refine ⟨fun c2 => ?_, fun c2 => ?_⟩
    · skip
      refine ⟨fun c3 => ?_, fun c3 => ?_⟩
      · skip
        exact hpost _ _ _ _ _ _ _ _ _ _ _ _ _ _ (iv_lit (l := 0) (h := 0) (by decide)) k_f_land k_f_huts k_f_singers k_a_at k_a_knows k_a_climbed k_a_level k_f_begun
      · skip
        exact (iv_emp (iv_ne (l := 1) (h := 0) c3 (iv_lit (l := 0) (h := 0) (by decide)) (iv_lit (l := 0) (h := 0) (by decide)) (by decide)) (by decide)).elim
    · skip
      exact (iv_emp (iv_ne (l := 1) (h := 0) c2 (iv_lit (l := 0) (h := 0) (by decide)) (iv_lit (l := 0) (h := 0) (by decide)) (by decide)) (by decide)).elim
  · skip
    refine ⟨fun c4 => ?_, fun c4 => ?_⟩
    · skip
      refine ⟨iv_nb (iv_lit (l := 0) (h := 0) (by decide)) (by decide), ?_⟩
      refine ⟨iv_nb (iv_lit (l := 0) (h := 0) (by decide)) (by decide), ?_⟩
      refine ⟨fun c5 => ?_, fun c5 => ?_⟩
      · skip
        refine ⟨fun c6 => ?_, fun c6 => ?_⟩
        · skip
          exact hpost _ _ _ _ _ _ _ _ _ _ _ _ _ _ (iv_lit (l := 0) (h := 0) (by decide)) k_f_land k_f_huts k_f_singers k_a_at k_a_knows k_a_climbed k_a_level k_f_begun
        · skip
          exact (iv_emp (iv_ne (l := 1) (h := 0) c6 (iv_lit (l := 0) (h := 0) (by decide)) (iv_lit (l := 0) (h := 0) (by decide)) (by decide)) (by decide)).elim
      · skip
        exact (iv_emp (iv_ne (l := 1) (h := 0) c5 (iv_lit (l := 0) (h := 0) (by decide)) (iv_lit (l := 0) (h := 0) (by decide)) (by decide)) (by decide)).elim
    · skip
      refine ⟨iv_nb (iv_lit (l := 1) (h := 1) (by decide)) (by decide), ?_⟩
      refine ⟨iv_nb (iv_lit (l := 1) (h := 1) (by decide)) (by decide), ?_⟩
      refine ⟨fun c7 => ?_, fun c7 => ?_⟩
      · skip
        exact (iv_emp (iv_eqa (l := 1) (h := 0) c7 (iv_lit (l := 1) (h := 1) (by decide)) (iv_lit (l := 0) (h := 0) (by decide)) (by decide)) (by decide)).elim
      · skip
        refine ⟨iv_in (iv_lit (l := 0) (h := 0) (by decide)) (by decide), ?_⟩
        refine ⟨fun c8 => ?_, fun c8 => ?_⟩
        · skip
          refine ⟨iv_nb (iv_lit (l := 0) (h := 0) (by decide)) (by decide), ?_⟩
          refine ⟨fun c9 => ?_, fun c9 => ?_⟩
          · skip
            exact (iv_emp (iv_ne (l := 1) (h := 0) c9 (iv_lit (l := 0) (h := 0) (by decide)) (iv_lit (l := 0) (h := 0) (by decide)) (by decide)) (by decide)).elim
          · skip
            refine ⟨fun c10 => ?_, fun c10 => ?_⟩
            · skip
              refine ⟨fun c11 => ?_, fun c11 => ?_⟩
              · skip
                exact hpost _ _ _ _ _ _ _ _ _ _ _ _ _ _ (iv_lit (l := 0) (h := 0) (by decide)) k_f_land k_f_huts k_f_singers k_a_at k_a_knows k_a_climbed k_a_level k_f_begun
              · skip
                exact (iv_emp (iv_ne (l := 1) (h := 0) c11 (iv_lit (l := 0) (h := 0) (by decide)) (iv_lit (l := 0) (h := 0) (by decide)) (by decide)) (by decide)).elim
            · skip
              exact (iv_emp (iv_ne (l := 1) (h := 0) c10 (iv_lit (l := 0) (h := 0) (by decide)) (iv_lit (l := 0) (h := 0) (by decide)) (by decide)) (by decide)).elim
        · skip
          refine ⟨fun c12 => ?_, fun c12 => ?_⟩
          · skip
            refine ⟨iv_nb (iv_lit (l := 0) (h := 0) (by decide)) (by decide), ?_⟩
            refine ⟨fun c13 => ?_, fun c13 => ?_⟩
            · skip
              exact (iv_emp (iv_ne (l := 1) (h := 0) c13 (iv_lit (l := 0) (h := 0) (by decide)) (iv_lit (l := 0) (h := 0) (by decide)) (by decide)) (by decide)).elim
            · skip
              refine ⟨fun c14 => ?_, fun c14 => ?_⟩
              · skip
                refine ⟨fun c15 => ?_, fun c15 => ?_⟩
                · skip
                  exact hpost _ _ _ _ _ _ _ _ _ _ _ _ _ _ (iv_lit (l := 0) (h := 0) (by decide)) k_f_land k_f_huts k_f_singers k_a_at k_a_knows k_a_climbed k_a_level k_f_begun
                · skip
                  exact (iv_emp (iv_ne (l := 1) (h := 0) c15 (iv_lit (l := 0) (h := 0) (by decide)) (iv_lit (l := 0) (h := 0) (by decide)) (by decide)) (by decide)).elim
              · skip
                exact (iv_emp (iv_ne (l := 1) (h := 0) c14 (iv_lit (l := 0) (h := 0) (by decide)) (iv_lit (l := 0) (h := 0) (by decide)) (by decide)) (by decide)).elim
          · skip
            refine ⟨iv_nb (iv_lit (l := 1) (h := 1) (by decide)) (by decide), ?_⟩
            refine ⟨fun c16 => ?_, fun c16 => ?_⟩
            · skip
              refine sp_of (a := 0) (b := 9) k_a_lands (iv_lea (l := 0) (h := 1) (r_nlt c12) (iv_leb (l := 0) (h := 2147483647) (r_nlt c8) (iv_lit (l := 0) (h := 0) (by decide)) (iv_top x1) (by decide)) (iv_sub (l := (-1)) (h := 1) (k_a_many _) (iv_lit (l := 1) (h := 1) (by decide)) (by decide)) (by decide)) (iv_lit (l := 0) (h := 0) (by decide)) (by decide +kernel) (fun r17 hr17 er17 => ?_)
              refine sp_of (a := 0) (b := 6) k_a_lands (iv_lea (l := 0) (h := 1) (r_nlt c12) (iv_leb (l := 0) (h := 2147483647) (r_nlt c8) (iv_lit (l := 0) (h := 0) (by decide)) (iv_top x1) (by decide)) (iv_sub (l := (-1)) (h := 1) (k_a_many _) (iv_lit (l := 1) (h := 1) (by decide)) (by decide)) (by decide)) (iv_lit (l := 1) (h := 1) (by decide)) (by decide +kernel) (fun r18 hr18 er18 => ?_)
              refine ⟨fun c19 => ?_, fun c19 => ?_⟩
              · skip
                exact (iv_emp (iv_eqa (l := 1) (h := 0) c19 (iv_lit (l := 1) (h := 1) (by decide)) (iv_lit (l := 0) (h := 0) (by decide)) (by decide)) (by decide)).elim
              · skip
                refine ⟨fun c20 => ?_, fun c20 => ?_⟩
                · skip
                  exact (iv_emp (iv_eqa (l := 1) (h := 0) c20 (iv_lit (l := 1) (h := 1) (by decide)) (iv_lit (l := 0) (h := 0) (by decide)) (by decide)) (by decide)).elim
                · skip
                  refine sp_deeds k_a_evenings (iv_lea (l := 0) (h := 1) (r_nlt c4) (iv_leb (l := 0) (h := 2147483647) (r_nlt c1) (iv_lit (l := 0) (h := 0) (by decide)) (iv_top x2) (by decide)) (iv_sub (l := (-1)) (h := 1) (k_a_many _) (iv_lit (l := 1) (h := 1) (by decide)) (by decide)) (by decide)) (fun r21 hr21 => ?_)
                  refine ⟨fun c22 => ?_, fun c22 => ?_⟩
                  · skip
                    refine ⟨fun c23 => ?_, fun c23 => ?_⟩
                    · skip
                      exact hpost _ _ _ _ _ _ _ _ _ _ _ _ _ _ (iv_lit (l := 0) (h := 0) (by decide)) (iv_lea (l := 0) (h := 1) (r_nlt c12) (iv_leb (l := 0) (h := 2147483647) (r_nlt c8) (iv_lit (l := 0) (h := 0) (by decide)) (iv_top x1) (by decide)) (iv_sub (l := (-1)) (h := 1) (k_a_many _) (iv_lit (l := 1) (h := 1) (by decide)) (by decide)) (by decide)) hr17 hr18 k_a_at k_a_knows k_a_climbed k_a_level k_f_begun
                    · skip
                      exact (iv_emp (iv_ne (l := 1) (h := 0) c23 (iv_lit (l := 0) (h := 0) (by decide)) (iv_lit (l := 0) (h := 0) (by decide)) (by decide)) (by decide)).elim
                  · skip
                    refine ⟨fun c24 => ?_, fun c24 => ?_⟩
                    · skip
                      refine ⟨fun c25 => ?_, fun c25 => ?_⟩
                      · skip
                        exact hpost _ _ _ _ _ _ _ _ _ _ _ _ _ _ (iv_lit (l := 0) (h := 0) (by decide)) (iv_lea (l := 0) (h := 1) (r_nlt c12) (iv_leb (l := 0) (h := 2147483647) (r_nlt c8) (iv_lit (l := 0) (h := 0) (by decide)) (iv_top x1) (by decide)) (iv_sub (l := (-1)) (h := 1) (k_a_many _) (iv_lit (l := 1) (h := 1) (by decide)) (by decide)) (by decide)) hr17 hr18 k_a_at k_a_knows k_a_climbed k_a_level k_f_begun
                      · skip
                        exact (iv_emp (iv_ne (l := 1) (h := 0) c25 (iv_lit (l := 0) (h := 0) (by decide)) (iv_lit (l := 0) (h := 0) (by decide)) (by decide)) (by decide)).elim
                    · skip
                      refine ⟨fun c26 => ?_, fun c26 => ?_⟩
                      · skip
                        exact (iv_emp (iv_eqa (l := 1) (h := 0) c26 (iv_lit (l := 1) (h := 1) (by decide)) (iv_lit (l := 0) (h := 0) (by decide)) (by decide)) (by decide)).elim
                      · skip
                        refine s_m_play_0 k_a_lands k_a_evenings (iv_lea (l := 0) (h := 1) (r_nlt c12) (iv_leb (l := 0) (h := 2147483647) (r_nlt c8) (iv_lit (l := 0) (h := 0) (by decide)) (iv_top x1) (by decide)) (iv_sub (l := (-1)) (h := 1) (k_a_many _) (iv_lit (l := 1) (h := 1) (by decide)) (by decide)) (by decide)) hr17 hr18 (iv_lea (l := 0) (h := 1) (r_nlt c4) (iv_leb (l := 0) (h := 2147483647) (r_nlt c1) (iv_lit (l := 0) (h := 0) (by decide)) (iv_top x2) (by decide)) (iv_sub (l := (-1)) (h := 1) (k_a_many _) (iv_lit (l := 1) (h := 1) (by decide)) (by decide)) (by decide)) k_a_at k_a_knows k_a_climbed k_a_level k_f_begun (iv_lea (l := 0) (h := 40) (r_nlt c24) (iv_leb (l := 0) (h := 2147483647) (r_nlt c22) (iv_lit (l := 0) (h := 0) (by decide)) (iv_top x3) (by decide)) hr21 (by decide)) (fun r27 o28 o29 o30 o31 o32 o33 o34 o35 hr27 k_o28 k_o29 k_o30 k_o32 k_o33 => ?_)
                        refine ⟨fun c36 => ?_, fun c36 => ?_⟩
                        · skip
                          exact hpost _ _ _ _ _ _ _ _ _ _ _ _ _ _ (iv_lit (l := 0) (h := 0) (by decide)) (iv_lea (l := 0) (h := 1) (r_nlt c12) (iv_leb (l := 0) (h := 2147483647) (r_nlt c8) (iv_lit (l := 0) (h := 0) (by decide)) (iv_top x1) (by decide)) (iv_sub (l := (-1)) (h := 1) (k_a_many _) (iv_lit (l := 1) (h := 1) (by decide)) (by decide)) (by decide)) hr17 hr18 k_o28 k_o29 k_o30 k_o32 k_o33
                        · skip
                          refine ⟨fun c37 => ?_, fun c37 => ?_⟩
                          · skip
                            refine ⟨fun c38 => ?_, fun c38 => ?_⟩
                            · skip
                              exact (iv_emp (iv_ne (l := 1) (h := 0) c38 (iv_lit (l := 0) (h := 0) (by decide)) (iv_lit (l := 0) (h := 0) (by decide)) (by decide)) (by decide)).elim
                            · skip
                              exact hpost _ _ _ _ _ _ _ _ _ _ _ _ _ _ (iv_lit (l := 0) (h := 0) (by decide)) (iv_lea (l := 0) (h := 1) (r_nlt c12) (iv_leb (l := 0) (h := 2147483647) (r_nlt c8) (iv_lit (l := 0) (h := 0) (by decide)) (iv_top x1) (by decide)) (iv_sub (l := (-1)) (h := 1) (k_a_many _) (iv_lit (l := 1) (h := 1) (by decide)) (by decide)) (by decide)) hr17 hr18 k_o28 k_o29 k_o30 k_o32 k_o33
                          · skip
                            refine ⟨fun c39 => ?_, fun c39 => ?_⟩
                            · skip
                              refine ⟨fun c40 => ?_, fun c40 => ?_⟩
                              · skip
                                exact (iv_emp (iv_ne (l := 1) (h := 0) c40 (iv_lit (l := 0) (h := 0) (by decide)) (iv_lit (l := 0) (h := 0) (by decide)) (by decide)) (by decide)).elim
                              · skip
                                exact hpost _ _ _ _ _ _ _ _ _ _ _ _ _ _ (iv_lit (l := 0) (h := 0) (by decide)) (iv_lea (l := 0) (h := 1) (r_nlt c12) (iv_leb (l := 0) (h := 2147483647) (r_nlt c8) (iv_lit (l := 0) (h := 0) (by decide)) (iv_top x1) (by decide)) (iv_sub (l := (-1)) (h := 1) (k_a_many _) (iv_lit (l := 1) (h := 1) (by decide)) (by decide)) (by decide)) hr17 hr18 k_o28 k_o29 k_o30 k_o32 k_o33
                            · skip
                              refine ⟨fun c41 => ?_, fun c41 => ?_⟩
                              · skip
                                exact s_m_teach_53 (iv_lit (l := 0) (h := 0) (by decide)) k_a_many k_a_lands k_a_evenings (iv_lea (l := 0) (h := 1) (r_nlt c12) (iv_leb (l := 0) (h := 2147483647) (r_nlt c8) (iv_lit (l := 0) (h := 0) (by decide)) (iv_top x1) (by decide)) (iv_sub (l := (-1)) (h := 1) (k_a_many _) (iv_lit (l := 1) (h := 1) (by decide)) (by decide)) (by decide)) hr17 hr18 (iv_lea (l := 0) (h := 1) (r_nlt c4) (iv_leb (l := 0) (h := 2147483647) (r_nlt c1) (iv_lit (l := 0) (h := 0) (by decide)) (iv_top x2) (by decide)) (iv_sub (l := (-1)) (h := 1) (k_a_many _) (iv_lit (l := 1) (h := 1) (by decide)) (by decide)) (by decide)) k_o28 k_o29 k_o30 k_o32 k_o33 (iv_lea (l := 0) (h := 4) (r_nlt c39) (iv_leb (l := 0) (h := 2147483647) (r_nlt c37) (iv_lit (l := 0) (h := 0) (by decide)) (iv_top x4) (by decide)) (iv_lit (l := 4) (h := 4) (by decide)) (by decide)) (iv_w (iv_lit (l := 0) (h := 0) (by decide)) (by decide)) hpost
                              · skip
                                exact (iv_emp (iv_eqa (l := 1) (h := 0) c41 (iv_lit (l := 1) (h := 1) (by decide)) (iv_lit (l := 0) (h := 0) (by decide)) (by decide)) (by decide)).elim
            · skip
              exact (iv_emp (iv_eqa (l := 1) (h := 0) c16 (iv_lit (l := 1) (h := 1) (by decide)) (iv_lit (l := 0) (h := 0) (by decide)) (by decide)) (by decide)).elim
end
section
-- m_count
set_option maxRecDepth 20000 in
theorem s_m_count_0 {f_code : Int32} {a_many : Nat → Int32} {x1 : Int32} {post : Int32 → (Int32) → Prop} (k_f_code : iv 0 0 f_code) (k_a_many : ∀ j, iv 0 2 (a_many j)) (hpost : ∀ (r : Int32) (f_code : Int32), iv (-2) 2 r → (iv 0 0 f_code) → post r f_code) : q_m_count_0 f_code a_many x1 post := by
  refine ⟨fun c1 => ?_, fun c1 => ?_⟩
  · skip
    refine ⟨fun c2 => ?_, fun c2 => ?_⟩
    · skip
      exact hpost _ _ (iv_w (iv_lit (l := (-2)) (h := (-2)) (by decide)) (by decide)) (iv_lit (l := 0) (h := 0) (by decide))
    · skip
      exact (iv_emp (iv_ne (l := 1) (h := 0) c2 (iv_lit (l := 0) (h := 0) (by decide)) (iv_lit (l := 0) (h := 0) (by decide)) (by decide)) (by decide)).elim
  · skip
    refine ⟨fun c3 => ?_, fun c3 => ?_⟩
    · skip
      refine ⟨fun c4 => ?_, fun c4 => ?_⟩
      · skip
        exact hpost _ _ (iv_w (iv_lit (l := (-2)) (h := (-2)) (by decide)) (by decide)) (iv_lit (l := 0) (h := 0) (by decide))
      · skip
        exact (iv_emp (iv_ne (l := 1) (h := 0) c4 (iv_lit (l := 0) (h := 0) (by decide)) (iv_lit (l := 0) (h := 0) (by decide)) (by decide)) (by decide)).elim
    · skip
      refine ⟨fun c5 => ?_, fun c5 => ?_⟩
      · skip
        exact (iv_emp (iv_eqa (l := 1) (h := 0) c5 (iv_lit (l := 1) (h := 1) (by decide)) (iv_lit (l := 0) (h := 0) (by decide)) (by decide)) (by decide)).elim
      · skip
        refine ⟨iv_in (iv_lea (l := 0) (h := 3) (r_nlt c3) (iv_leb (l := 0) (h := 2147483647) (r_nlt c1) (iv_lit (l := 0) (h := 0) (by decide)) (iv_top x1) (by decide)) (iv_lit (l := 3) (h := 3) (by decide)) (by decide)) (by decide), ?_⟩
        exact hpost _ _ (iv_w (k_a_many _) (by decide)) (iv_lit (l := 0) (h := 0) (by decide))
end
