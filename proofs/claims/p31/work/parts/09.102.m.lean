-- m_comes
set_option maxRecDepth 20000 in
theorem s_m_comes_0 {f_code : Int32} {a_many : Nat → Int32} {a_lands : Nat → Int32} {f_land : Int32} {f_huts : Int32} {f_singers : Int32} {a_run : Nat → Int32} {x1 : Int32} {x2 : Int32} {x3 : Int32} {post : Int32 → (Int32) → (Int32) → (Int32) → (Int32) → (Nat → Int32) → Prop} (k_f_code : iv 0 0 f_code) (k_a_many : ∀ j, iv 0 2 (a_many j)) (k_a_lands : mLand a_lands) (k_f_land : iv 0 1 f_land) (k_f_huts : iv 0 9 f_huts) (k_f_singers : iv 0 6 f_singers) (k_a_run : ∀ j, iv 0 1000000 (a_run j)) (hpost : ∀ (r : Int32) (f_code : Int32) (f_land : Int32) (f_huts : Int32) (f_singers : Int32) (a_run : Nat → Int32), iv (-1) 999999 r → (iv 0 0 f_code) → (iv 0 1 f_land) → (iv 0 9 f_huts) → (iv 0 6 f_singers) → (∀ j, iv 0 1000000 (a_run j)) → post r f_code f_land f_huts f_singers a_run) : q_m_comes_0 f_code a_many a_lands f_land f_huts f_singers a_run x1 x2 x3 post := by
  refine ⟨iv_in (iv_lit (l := 0) (h := 0) (by decide)) (by decide), ?_⟩
  refine ⟨fun c1 => ?_, fun c1 => ?_⟩
  · skip
    refine ⟨iv_nb (iv_lit (l := 0) (h := 0) (by decide)) (by decide), ?_⟩
    refine ⟨fun c2 => ?_, fun c2 => ?_⟩
    · skip
      exact (iv_emp (iv_ne (l := 1) (h := 0) c2 (iv_lit (l := 0) (h := 0) (by decide)) (iv_lit (l := 0) (h := 0) (by decide)) (by decide)) (by decide)).elim
    · skip
      refine ⟨fun c3 => ?_, fun c3 => ?_⟩
      · skip
        exact hpost _ _ _ _ _ _ (iv_w (iv_lit (l := (-1)) (h := (-1)) (by decide)) (by decide)) (iv_lit (l := 0) (h := 0) (by decide)) k_f_land k_f_huts k_f_singers k_a_run
      · skip
        exact (iv_emp (iv_ne (l := 1) (h := 0) c3 (iv_lit (l := 0) (h := 0) (by decide)) (iv_lit (l := 0) (h := 0) (by decide)) (by decide)) (by decide)).elim
  · skip
    refine ⟨fun c4 => ?_, fun c4 => ?_⟩
    · skip
      refine ⟨iv_nb (iv_lit (l := 0) (h := 0) (by decide)) (by decide), ?_⟩
      refine ⟨fun c5 => ?_, fun c5 => ?_⟩
      · skip
        exact (iv_emp (iv_ne (l := 1) (h := 0) c5 (iv_lit (l := 0) (h := 0) (by decide)) (iv_lit (l := 0) (h := 0) (by decide)) (by decide)) (by decide)).elim
      · skip
        refine ⟨fun c6 => ?_, fun c6 => ?_⟩
        · skip
          exact hpost _ _ _ _ _ _ (iv_w (iv_lit (l := (-1)) (h := (-1)) (by decide)) (by decide)) (iv_lit (l := 0) (h := 0) (by decide)) k_f_land k_f_huts k_f_singers k_a_run
        · skip
          exact (iv_emp (iv_ne (l := 1) (h := 0) c6 (iv_lit (l := 0) (h := 0) (by decide)) (iv_lit (l := 0) (h := 0) (by decide)) (by decide)) (by decide)).elim
    · skip
      refine ⟨iv_nb (iv_lit (l := 1) (h := 1) (by decide)) (by decide), ?_⟩
      refine ⟨fun c7 => ?_, fun c7 => ?_⟩
      · skip
        refine sp_of (a := 0) (b := 9) k_a_lands (iv_lea (l := 0) (h := 1) (r_nlt c4) (iv_leb (l := 0) (h := 2147483647) (r_nlt c1) (iv_lit (l := 0) (h := 0) (by decide)) (iv_top x1) (by decide)) (iv_sub (l := (-1)) (h := 1) (k_a_many _) (iv_lit (l := 1) (h := 1) (by decide)) (by decide)) (by decide)) (iv_lit (l := 0) (h := 0) (by decide)) (by decide +kernel) (fun r8 hr8 er8 => ?_)
        refine sp_of (a := 0) (b := 6) k_a_lands (iv_lea (l := 0) (h := 1) (r_nlt c4) (iv_leb (l := 0) (h := 2147483647) (r_nlt c1) (iv_lit (l := 0) (h := 0) (by decide)) (iv_top x1) (by decide)) (iv_sub (l := (-1)) (h := 1) (k_a_many _) (iv_lit (l := 1) (h := 1) (by decide)) (by decide)) (by decide)) (iv_lit (l := 1) (h := 1) (by decide)) (by decide +kernel) (fun r9 hr9 er9 => ?_)
        refine ⟨fun c10 => ?_, fun c10 => ?_⟩
        · skip
          exact (iv_emp (iv_eqa (l := 1) (h := 0) c10 (iv_lit (l := 1) (h := 1) (by decide)) (iv_lit (l := 0) (h := 0) (by decide)) (by decide)) (by decide)).elim
        · skip
          refine ⟨fun c11 => ?_, fun c11 => ?_⟩
          · skip
            refine ⟨iv_nb (iv_lit (l := 0) (h := 0) (by decide)) (by decide), ?_⟩
            refine ⟨fun c12 => ?_, fun c12 => ?_⟩
            · skip
              exact hpost _ _ _ _ _ _ (iv_w (iv_lit (l := (-1)) (h := (-1)) (by decide)) (by decide)) (iv_lit (l := 0) (h := 0) (by decide)) (iv_lea (l := 0) (h := 1) (r_nlt c4) (iv_leb (l := 0) (h := 2147483647) (r_nlt c1) (iv_lit (l := 0) (h := 0) (by decide)) (iv_top x1) (by decide)) (iv_sub (l := (-1)) (h := 1) (k_a_many _) (iv_lit (l := 1) (h := 1) (by decide)) (by decide)) (by decide)) hr8 hr9 k_a_run
            · skip
              exact (iv_emp (iv_ne (l := 1) (h := 0) c12 (iv_lit (l := 0) (h := 0) (by decide)) (iv_lit (l := 0) (h := 0) (by decide)) (by decide)) (by decide)).elim
          · skip
            refine ⟨fun c13 => ?_, fun c13 => ?_⟩
            · skip
              refine ⟨iv_nb (iv_lit (l := 0) (h := 0) (by decide)) (by decide), ?_⟩
              refine ⟨fun c14 => ?_, fun c14 => ?_⟩
              · skip
                exact hpost _ _ _ _ _ _ (iv_w (iv_lit (l := (-1)) (h := (-1)) (by decide)) (by decide)) (iv_lit (l := 0) (h := 0) (by decide)) (iv_lea (l := 0) (h := 1) (r_nlt c4) (iv_leb (l := 0) (h := 2147483647) (r_nlt c1) (iv_lit (l := 0) (h := 0) (by decide)) (iv_top x1) (by decide)) (iv_sub (l := (-1)) (h := 1) (k_a_many _) (iv_lit (l := 1) (h := 1) (by decide)) (by decide)) (by decide)) hr8 hr9 k_a_run
              · skip
                exact (iv_emp (iv_ne (l := 1) (h := 0) c14 (iv_lit (l := 0) (h := 0) (by decide)) (iv_lit (l := 0) (h := 0) (by decide)) (by decide)) (by decide)).elim
            · skip
              refine ⟨iv_nb (iv_lit (l := 1) (h := 1) (by decide)) (by decide), ?_⟩
              refine ⟨fun c15 => ?_, fun c15 => ?_⟩
              · skip
                exact (iv_emp (iv_eqa (l := 1) (h := 0) c15 (iv_lit (l := 1) (h := 1) (by decide)) (iv_lit (l := 0) (h := 0) (by decide)) (by decide)) (by decide)).elim
              · skip
                refine ⟨fun c16 => ?_, fun c16 => ?_⟩
                · skip
                  refine ⟨iv_nb (iv_lit (l := 0) (h := 0) (by decide)) (by decide), ?_⟩
                  refine ⟨fun c17 => ?_, fun c17 => ?_⟩
                  · skip
                    exact (iv_emp (iv_ne (l := 1) (h := 0) c17 (iv_lit (l := 0) (h := 0) (by decide)) (iv_lit (l := 0) (h := 0) (by decide)) (by decide)) (by decide)).elim
                  · skip
                    exact hpost _ _ _ _ _ _ (iv_w (iv_lit (l := (-1)) (h := (-1)) (by decide)) (by decide)) (iv_lit (l := 0) (h := 0) (by decide)) (iv_lea (l := 0) (h := 1) (r_nlt c4) (iv_leb (l := 0) (h := 2147483647) (r_nlt c1) (iv_lit (l := 0) (h := 0) (by decide)) (iv_top x1) (by decide)) (iv_sub (l := (-1)) (h := 1) (k_a_many _) (iv_lit (l := 1) (h := 1) (by decide)) (by decide)) (by decide)) hr8 hr9 k_a_run
                · skip
                  refine ⟨fun c18 => ?_, fun c18 => ?_⟩
                  · skip
                    refine ⟨iv_nb (iv_lit (l := 0) (h := 0) (by decide)) (by decide), ?_⟩
                    refine ⟨fun c19 => ?_, fun c19 => ?_⟩
                    · skip
                      exact (iv_emp (iv_ne (l := 1) (h := 0) c19 (iv_lit (l := 0) (h := 0) (by decide)) (iv_lit (l := 0) (h := 0) (by decide)) (by decide)) (by decide)).elim
                    · skip
                      exact hpost _ _ _ _ _ _ (iv_w (iv_lit (l := (-1)) (h := (-1)) (by decide)) (by decide)) (iv_lit (l := 0) (h := 0) (by decide)) (iv_lea (l := 0) (h := 1) (r_nlt c4) (iv_leb (l := 0) (h := 2147483647) (r_nlt c1) (iv_lit (l := 0) (h := 0) (by decide)) (iv_top x1) (by decide)) (iv_sub (l := (-1)) (h := 1) (k_a_many _) (iv_lit (l := 1) (h := 1) (by decide)) (by decide)) (by decide)) hr8 hr9 k_a_run
                  · skip
                    refine ⟨iv_nb (iv_lit (l := 1) (h := 1) (by decide)) (by decide), ?_⟩
                    refine ⟨fun c20 => ?_, fun c20 => ?_⟩
                    · skip
                      refine s_m_findRun_0 k_a_lands (iv_lea (l := 0) (h := 1) (r_nlt c4) (iv_leb (l := 0) (h := 2147483647) (r_nlt c1) (iv_lit (l := 0) (h := 0) (by decide)) (iv_top x1) (by decide)) (iv_sub (l := (-1)) (h := 1) (k_a_many _) (iv_lit (l := 1) (h := 1) (by decide)) (by decide)) (by decide)) hr8 k_a_run (iv_lea (l := 0) (h := 8) (r_nlt c13) (iv_leb (l := 0) (h := 2147483647) (r_nlt c11) (iv_lit (l := 0) (h := 0) (by decide)) (iv_top x2) (by decide)) (iv_sub (l := (-1)) (h := 8) hr8 (iv_lit (l := 1) (h := 1) (by decide)) (by decide)) (by decide)) (iv_w (iv_lit (l := 0) (h := 0) (by decide)) (by decide)) (fun o21 k_o21 => ?_)
                      refine ⟨iv_in (iv_lea (l := 0) (h := 8) (r_nlt c18) (iv_leb (l := 0) (h := 2147483647) (r_nlt c16) (iv_lit (l := 0) (h := 0) (by decide)) (iv_top x3) (by decide)) (iv_leb (l := 0) (h := 8) (r_nlt c13) (iv_leb (l := 0) (h := 2147483647) (r_nlt c11) (iv_lit (l := 0) (h := 0) (by decide)) (iv_top x2) (by decide)) (iv_sub (l := (-1)) (h := 8) hr8 (iv_lit (l := 1) (h := 1) (by decide)) (by decide)) (by decide)) (by decide)) (by decide), ?_⟩
                      refine ⟨fun c22 => ?_, fun c22 => ?_⟩
                      · skip
                        exact hpost _ _ _ _ _ _ (iv_w (iv_lta (l := 0) (h := 999999) (r_lt c22) (k_o21 _) (iv_lit (l := 1000000) (h := 1000000) (by decide)) (by decide)) (by decide)) (iv_lit (l := 0) (h := 0) (by decide)) (iv_lea (l := 0) (h := 1) (r_nlt c4) (iv_leb (l := 0) (h := 2147483647) (r_nlt c1) (iv_lit (l := 0) (h := 0) (by decide)) (iv_top x1) (by decide)) (iv_sub (l := (-1)) (h := 1) (k_a_many _) (iv_lit (l := 1) (h := 1) (by decide)) (by decide)) (by decide)) hr8 hr9 k_o21
                      · skip
                        exact hpost _ _ _ _ _ _ (iv_w (iv_lit (l := (-1)) (h := (-1)) (by decide)) (by decide)) (iv_lit (l := 0) (h := 0) (by decide)) (iv_lea (l := 0) (h := 1) (r_nlt c4) (iv_leb (l := 0) (h := 2147483647) (r_nlt c1) (iv_lit (l := 0) (h := 0) (by decide)) (iv_top x1) (by decide)) (iv_sub (l := (-1)) (h := 1) (k_a_many _) (iv_lit (l := 1) (h := 1) (by decide)) (by decide)) (by decide)) hr8 hr9 k_o21
                    · skip
                      exact (iv_emp (iv_eqa (l := 1) (h := 0) c20 (iv_lit (l := 1) (h := 1) (by decide)) (iv_lit (l := 0) (h := 0) (by decide)) (by decide)) (by decide)).elim
      · skip
        exact (iv_emp (iv_eqa (l := 1) (h := 0) c7 (iv_lit (l := 1) (h := 1) (by decide)) (iv_lit (l := 0) (h := 0) (by decide)) (by decide)) (by decide)).elim
-- m_lastVillage
set_option maxRecDepth 20000 in
theorem s_m_lastVillage_37 {P4 : Int32 → Int32 → Prop} {a_lands : Nat → Int32} {f_land : Int32} {f_huts : Int32} {a_run : Nat → Int32} {x2 : Int32} {y0 : Int32} {post : Int32 → Prop} (k_a_lands : mLand a_lands) (k_f_land : iv 0 1 f_land) (k_f_huts : iv 1 9 f_huts) (k_a_run : ∀ j, iv 0 1000000 (a_run j)) (hx2 : iv 0 8 x2) (hy0 : iv 0 1000000 y0) (m4 : Int) (hm4 : m4 ≤ x2.toInt) (hP4 : ∀ (x1 : Int32) (x2 : Int32), m4 < x2.toInt → iv 0 1000000 x1 → iv 0 9 x2 → P4 x1 x2) (hpost : ∀ (r : Int32), iv 0 1000000 r → post r) : q_m_lastVillage_37 P4 a_lands f_land f_huts a_run x2 y0 post := by
  intro w1 ew1
  have hw1 := iv_eq ew1 (iv_add (l := 1) (h := 9) hx2 (iv_lit (l := 1) (h := 1) (by decide)) (by decide))
  exact hP4 _ _ (ml_up hm4 (inc_lt ew1 hx2 (by decide))) hy0 (iv_w hw1 (by decide))
set_option maxRecDepth 20000 in
theorem s_m_lastVillage_4 {a_lands : Nat → Int32} {f_land : Int32} {f_huts : Int32} {a_run : Nat → Int32} {x1 : Int32} {x2 : Int32} {post : Int32 → Prop} (k_a_lands : mLand a_lands) (k_f_land : iv 0 1 f_land) (k_f_huts : iv 1 9 f_huts) (k_a_run : ∀ j, iv 0 1000000 (a_run j)) (hx1 : iv 0 1000000 x1) (hx2 : iv 0 9 x2) (hpost : ∀ (r : Int32), iv 0 1000000 r → post r) : q_m_lastVillage_4 a_lands f_land f_huts a_run x1 x2 post := by
  intro P hP
  have loop : ∀ (n : Nat) (x1 : Int32) (x2 : Int32), (9 - x2.toInt < (n : Int)) → (iv 0 1000000 x1) → (iv 0 9 x2) → P x1 x2 := by
    intro n
    induction n with
    | zero => intro x1 x2 hm hx1 hx2; exact (ms0_up hm hx2).elim
    | succ n ih =>
      intro x1 x2 hm hx1 hx2
      apply hP
      refine ⟨fun c1 => ?_, fun c1 => ?_⟩
      · skip
        exact hpost _ hx1
      · skip
        refine sp_of (a := 0) (b := 511) k_a_lands k_f_land (iv_lit (l := 2) (h := 2) (by decide)) (by decide +kernel) (fun r2 hr2 er2 => ?_)
        refine sp_of (a := 0) (b := 511) k_a_lands k_f_land (iv_lit (l := 3) (h := 3) (by decide)) (by decide +kernel) (fun r3 hr3 er3 => ?_)
        refine ⟨fun c4 => ?_, fun c4 => ?_⟩
        · skip
          refine ⟨fun c5 => ?_, fun c5 => ?_⟩
          · skip
            exact s_m_lastVillage_37 k_a_lands k_f_land k_f_huts k_a_run (iv_lta (l := 0) (h := 8) (r_nle c1) hx2 k_f_huts (by decide)) hx1 x2.toInt (Int.le_refl _) (fun u0 u1 hq g0 g1 => ih u0 u1 (ms_up hm hq) g0 g1) hpost
          · skip
            exact (iv_emp (iv_ne (l := 1) (h := 0) c5 (iv_lit (l := 0) (h := 0) (by decide)) (iv_lit (l := 0) (h := 0) (by decide)) (by decide)) (by decide)).elim
        · skip
          refine ⟨fun c6 => ?_, fun c6 => ?_⟩
          · skip
            exact (iv_emp (iv_eqa (l := 1) (h := 0) c6 (iv_lit (l := 1) (h := 1) (by decide)) (iv_lit (l := 0) (h := 0) (by decide)) (by decide)) (by decide)).elim
          · skip
            refine ⟨iv_in (iv_lta (l := 0) (h := 8) (r_nle c1) hx2 k_f_huts (by decide)) (by decide), ?_⟩
            refine ⟨fun c7 => ?_, fun c7 => ?_⟩
            · skip
              exact s_m_lastVillage_37 k_a_lands k_f_land k_f_huts k_a_run (iv_lta (l := 0) (h := 8) (r_nle c1) hx2 k_f_huts (by decide)) (k_a_run _) x2.toInt (Int.le_refl _) (fun u0 u1 hq g0 g1 => ih u0 u1 (ms_up hm hq) g0 g1) hpost
            · skip
              exact s_m_lastVillage_37 k_a_lands k_f_land k_f_huts k_a_run (iv_lta (l := 0) (h := 8) (r_nle c1) hx2 k_f_huts (by decide)) (iv_w (iv_ltb (l := 1) (h := 1000000) (r_nle c7) (k_a_run _) hx1 (by decide)) (by decide)) x2.toInt (Int.le_refl _) (fun u0 u1 hq g0 g1 => ih u0 u1 (ms_up hm hq) g0 g1) hpost
  exact loop _ _ _ (ms_init_up _ _) hx1 hx2
set_option maxRecDepth 20000 in
theorem s_m_lastVillage_0 {a_lands : Nat → Int32} {f_land : Int32} {f_huts : Int32} {a_run : Nat → Int32} {post : Int32 → Prop} (k_a_lands : mLand a_lands) (k_f_land : iv 0 1 f_land) (k_f_huts : iv 1 9 f_huts) (k_a_run : ∀ j, iv 0 1000000 (a_run j)) (hpost : ∀ (r : Int32), iv 0 1000000 r → post r) : q_m_lastVillage_0 a_lands f_land f_huts a_run post := by
  exact s_m_lastVillage_4 k_a_lands k_f_land k_f_huts k_a_run (iv_w (iv_lit (l := 0) (h := 0) (by decide)) (by decide)) (iv_w (iv_lit (l := 0) (h := 0) (by decide)) (by decide)) hpost
-- m_comesBy
set_option maxRecDepth 20000 in
theorem s_m_comesBy_30 {P4 : Int32 → Int32 → Prop} {f_huts : Int32} {a_run : Nat → Int32} {x1 : Int32} {x3 : Int32} {y0 : Int32} {y1 : Int32} {post : Int32 → Prop} (k_f_huts : iv 1 9 f_huts) (k_a_run : ∀ j, iv 0 1000000 (a_run j)) (hx1 : iv 0 999999 x1) (hx3 : iv 0 8 x3) (hy0 : iv 0 511 y0) (hy1 : iv 0 256 y1) (m4 : Int) (hm4 : m4 ≤ x3.toInt) (hP4 : ∀ (x2 : Int32) (x3 : Int32), m4 < x3.toInt → iv 0 511 x2 → iv 0 9 x3 → P4 x2 x3) (hpost : ∀ (r : Int32), iv 0 511 r → post r) : q_m_comesBy_30 P4 f_huts a_run x1 x3 y0 y1 post := by
  intro w1 ew1
  have hw1 := iv_eq ew1 (iv_or 9 (l := 0) (h := 511) hy0 hy1 (by decide))
  intro w2 ew2
  have hw2 := iv_eq ew2 (iv_add (l := 1) (h := 9) hx3 (iv_lit (l := 1) (h := 1) (by decide)) (by decide))
  exact hP4 _ _ (ml_up hm4 (inc_lt ew2 hx3 (by decide))) hw1 (iv_w hw2 (by decide))
set_option maxRecDepth 20000 in
theorem s_m_comesBy_4 {f_huts : Int32} {a_run : Nat → Int32} {x1 : Int32} {x2 : Int32} {x3 : Int32} {post : Int32 → Prop} (k_f_huts : iv 0 9 f_huts) (k_a_run : ∀ j, iv 0 1000000 (a_run j)) (hx1 : iv 0 999999 x1) (hx2 : iv 0 511 x2) (hx3 : iv 0 9 x3) (hpost : ∀ (r : Int32), iv 0 511 r → post r) : q_m_comesBy_4 f_huts a_run x1 x2 x3 post := by
  intro P hP
  have loop : ∀ (n : Nat) (x2 : Int32) (x3 : Int32), (9 - x3.toInt < (n : Int)) → (iv 0 511 x2) → (iv 0 9 x3) → P x2 x3 := by
    intro n
    induction n with
    | zero => intro x2 x3 hm hx2 hx3; exact (ms0_up hm hx3).elim
    | succ n ih =>
      intro x2 x3 hm hx2 hx3
      apply hP
      refine ⟨fun c1 => ?_, fun c1 => ?_⟩
      · skip
        exact hpost _ hx2
      · skip
        refine ⟨iv_in (iv_lta (l := 0) (h := 8) (r_nle c1) hx3 k_f_huts (by decide)) (by decide), ?_⟩
        refine ⟨fun c2 => ?_, fun c2 => ?_⟩
        · skip
          exact s_m_comesBy_30 (iv_ltb (l := 1) (h := 9) (r_nle c1) hx3 k_f_huts (by decide)) k_a_run hx1 (iv_lta (l := 0) (h := 8) (r_nle c1) hx3 k_f_huts (by decide)) hx2 (iv_w (iv_lit (l := 0) (h := 0) (by decide)) (by decide)) x3.toInt (Int.le_refl _) (fun u0 u1 hq g0 g1 => ih u0 u1 (ms_up hm hq) g0 g1) hpost
        · skip
          exact s_m_comesBy_30 (iv_ltb (l := 1) (h := 9) (r_nle c1) hx3 k_f_huts (by decide)) k_a_run hx1 (iv_lta (l := 0) (h := 8) (r_nle c1) hx3 k_f_huts (by decide)) hx2 (iv_w (iv_shl1 (l := 1) (h := 256) (iv_lit (l := 1) (h := 1) (by decide)) (iv_lta (l := 0) (h := 8) (r_nle c1) hx3 k_f_huts (by decide)) (by decide)) (by decide)) x3.toInt (Int.le_refl _) (fun u0 u1 hq g0 g1 => ih u0 u1 (ms_up hm hq) g0 g1) hpost
  exact loop _ _ _ (ms_init_up _ _) hx2 hx3
set_option maxRecDepth 20000 in
theorem s_m_comesBy_0 {f_huts : Int32} {a_run : Nat → Int32} {x1 : Int32} {post : Int32 → Prop} (k_f_huts : iv 0 9 f_huts) (k_a_run : ∀ j, iv 0 1000000 (a_run j)) (hx1 : iv 0 999999 x1) (hpost : ∀ (r : Int32), iv 0 511 r → post r) : q_m_comesBy_0 f_huts a_run x1 post := by
  exact s_m_comesBy_4 k_f_huts k_a_run hx1 (iv_w (iv_lit (l := 0) (h := 0) (by decide)) (by decide)) (iv_w (iv_lit (l := 0) (h := 0) (by decide)) (by decide)) hpost
-- m_allBy
set_option maxRecDepth 20000 in
theorem s_m_allBy_53 {P4 : Int32 → Int32 → (Nat → Int32) → (Nat → Int32) → Prop} {a_lands : Nat → Int32} {f_land : Int32} {f_huts : Int32} {a_run : Nat → Int32} {a_covers : Nat → Int32} {x1 : Int32} {x3 : Int32} {y0 : Int32} {y1 : Int32} {post : Int32 → (Nat → Int32) → (Nat → Int32) → Prop} (k_a_lands : mLand a_lands) (k_f_land : iv 0 1 f_land) (k_f_huts : iv 1 9 f_huts) (k_a_run : ∀ j, iv 0 1000000 (a_run j)) (k_a_covers : ∀ j, iv 0 511 (a_covers j)) (hx1 : iv 0 99 x1) (hx3 : iv 0 8 x3) (hy0 : iv 0 511 y0) (hy1 : iv 0 256 y1) (m4 : Int) (hm4 : m4 ≤ x3.toInt) (hP4 : ∀ (x2 : Int32) (x3 : Int32) (a_run : Nat → Int32) (a_covers : Nat → Int32), m4 < x3.toInt → iv 0 511 x2 → iv 0 9 x3 → (∀ j, iv 0 1000000 (a_run j)) → (∀ j, iv 0 511 (a_covers j)) → P4 x2 x3 a_run a_covers) (hpost : ∀ (r : Int32) (a_run : Nat → Int32) (a_covers : Nat → Int32), iv 0 511 r → (∀ j, iv 0 1000000 (a_run j)) → (∀ j, iv 0 511 (a_covers j)) → post r a_run a_covers) : q_m_allBy_53 P4 a_lands f_land f_huts a_run a_covers x1 x3 y0 y1 post := by
  intro w1 ew1
  have hw1 := iv_eq ew1 (iv_or 9 (l := 0) (h := 511) hy0 hy1 (by decide))
  intro w2 ew2
  have hw2 := iv_eq ew2 (iv_add (l := 1) (h := 9) hx3 (iv_lit (l := 1) (h := 1) (by decide)) (by decide))
  exact hP4 _ _ _ _ (ml_up hm4 (inc_lt ew2 hx3 (by decide))) hw1 (iv_w hw2 (by decide)) k_a_run k_a_covers
set_option maxRecDepth 20000 in
theorem s_m_allBy_52 {P4 : Int32 → Int32 → (Nat → Int32) → (Nat → Int32) → Prop} {a_lands : Nat → Int32} {f_land : Int32} {f_huts : Int32} {a_run : Nat → Int32} {a_covers : Nat → Int32} {x1 : Int32} {x3 : Int32} {y0 : Int32} {post : Int32 → (Nat → Int32) → (Nat → Int32) → Prop} (k_a_lands : mLand a_lands) (k_f_land : iv 0 1 f_land) (k_f_huts : iv 1 9 f_huts) (k_a_run : ∀ j, iv 0 1000000 (a_run j)) (k_a_covers : ∀ j, iv 0 511 (a_covers j)) (hx1 : iv 0 99 x1) (hx3 : iv 0 8 x3) (hy0 : iv 0 511 y0) (m4 : Int) (hm4 : m4 ≤ x3.toInt) (hP4 : ∀ (x2 : Int32) (x3 : Int32) (a_run : Nat → Int32) (a_covers : Nat → Int32), m4 < x3.toInt → iv 0 511 x2 → iv 0 9 x3 → (∀ j, iv 0 1000000 (a_run j)) → (∀ j, iv 0 511 (a_covers j)) → P4 x2 x3 a_run a_covers) (hpost : ∀ (r : Int32) (a_run : Nat → Int32) (a_covers : Nat → Int32), iv 0 511 r → (∀ j, iv 0 1000000 (a_run j)) → (∀ j, iv 0 511 (a_covers j)) → post r a_run a_covers) : q_m_allBy_52 P4 a_lands f_land f_huts a_run a_covers x1 x3 y0 post := by
  exact s_m_allBy_53 k_a_lands k_f_land k_f_huts k_a_run k_a_covers hx1 hx3 hy0 (iv_w (iv_lit (l := 0) (h := 0) (by decide)) (by decide)) m4 hm4 hP4 hpost
set_option maxRecDepth 20000 in
theorem s_m_allBy_4 {a_lands : Nat → Int32} {f_land : Int32} {f_huts : Int32} {a_run : Nat → Int32} {a_covers : Nat → Int32} {x1 : Int32} {x2 : Int32} {x3 : Int32} {post : Int32 → (Nat → Int32) → (Nat → Int32) → Prop} (k_a_lands : mLand a_lands) (k_f_land : iv 0 1 f_land) (k_f_huts : iv 0 9 f_huts) (k_a_run : ∀ j, iv 0 1000000 (a_run j)) (k_a_covers : ∀ j, iv 0 511 (a_covers j)) (hx1 : iv 0 99 x1) (hx2 : iv 0 511 x2) (hx3 : iv 0 9 x3) (hpost : ∀ (r : Int32) (a_run : Nat → Int32) (a_covers : Nat → Int32), iv 0 511 r → (∀ j, iv 0 1000000 (a_run j)) → (∀ j, iv 0 511 (a_covers j)) → post r a_run a_covers) : q_m_allBy_4 a_lands f_land f_huts a_run a_covers x1 x2 x3 post := by
  intro P hP
  have loop : ∀ (n : Nat) (x2 : Int32) (x3 : Int32) (a_run : Nat → Int32) (a_covers : Nat → Int32), (9 - x3.toInt < (n : Int)) → (iv 0 511 x2) → (iv 0 9 x3) → (∀ j, iv 0 1000000 (a_run j)) → (∀ j, iv 0 511 (a_covers j)) → P x2 x3 a_run a_covers := by
    intro n
    induction n with
    | zero => intro x2 x3 a_run a_covers hm hx2 hx3 k_a_run k_a_covers; exact (ms0_up hm hx3).elim
    | succ n ih =>
      intro x2 x3 a_run a_covers hm hx2 hx3 k_a_run k_a_covers
      apply hP
      refine ⟨fun c1 => ?_, fun c1 => ?_⟩
      · skip
        exact hpost _ _ _ hx2 k_a_run k_a_covers
      · skip
        refine s_m_findRun_0 k_a_lands k_f_land (iv_w (iv_ltb (l := 1) (h := 9) (r_nle c1) hx3 k_f_huts (by decide)) (by decide)) k_a_run (iv_lta (l := 0) (h := 8) (r_nle c1) hx3 k_f_huts (by decide)) (iv_w (iv_lit (l := 0) (h := 0) (by decide)) (by decide)) (fun o2 k_o2 => ?_)
        refine s_m_comesBy_0 (iv_w (iv_ltb (l := 1) (h := 9) (r_nle c1) hx3 k_f_huts (by decide)) (by decide)) k_o2 (iv_w hx1 (by decide)) (fun r3 hr3 => ?_)
        refine ⟨iv_in (iv_lta (l := 0) (h := 8) (r_nle c1) hx3 k_f_huts (by decide)) (by decide), ?_⟩
        intro a4 ea4
        have k_a4 := iv_upd ea4 k_a_covers hr3
        refine sp_of (a := 0) (b := 511) k_a_lands k_f_land (iv_lit (l := 3) (h := 3) (by decide)) (by decide +kernel) (fun r5 hr5 er5 => ?_)
        refine ⟨fun c6 => ?_, fun c6 => ?_⟩
        · skip
          refine ⟨iv_nb (iv_lit (l := 0) (h := 0) (by decide)) (by decide), ?_⟩
          refine ⟨fun c7 => ?_, fun c7 => ?_⟩
          · skip
            exact (iv_emp (iv_ne (l := 1) (h := 0) c7 (iv_lit (l := 0) (h := 0) (by decide)) (iv_lit (l := 0) (h := 0) (by decide)) (by decide)) (by decide)).elim
          · skip
            refine s_m_lastVillage_0 k_a_lands k_f_land (iv_ltb (l := 1) (h := 9) (r_nle c1) hx3 k_f_huts (by decide)) k_o2 (fun r8 hr8 => ?_)
            refine ⟨fun c9 => ?_, fun c9 => ?_⟩
            · skip
              exact s_m_allBy_52 k_a_lands k_f_land (iv_ltb (l := 1) (h := 9) (r_nle c1) hx3 k_f_huts (by decide)) k_o2 k_a4 hx1 (iv_lta (l := 0) (h := 8) (r_nle c1) hx3 k_f_huts (by decide)) hx2 x3.toInt (Int.le_refl _) (fun u0 u1 u2 u3 hq g0 g1 g2 g3 => ih u0 u1 u2 u3 (ms_up hm hq) g0 g1 g2 g3) hpost
            · skip
              exact s_m_allBy_53 k_a_lands k_f_land (iv_ltb (l := 1) (h := 9) (r_nle c1) hx3 k_f_huts (by decide)) k_o2 k_a4 hx1 (iv_lta (l := 0) (h := 8) (r_nle c1) hx3 k_f_huts (by decide)) hx2 (iv_w (iv_shl1 (l := 1) (h := 256) (iv_lit (l := 1) (h := 1) (by decide)) (iv_lta (l := 0) (h := 8) (r_nle c1) hx3 k_f_huts (by decide)) (by decide)) (by decide)) x3.toInt (Int.le_refl _) (fun u0 u1 u2 u3 hq g0 g1 g2 g3 => ih u0 u1 u2 u3 (ms_up hm hq) g0 g1 g2 g3) hpost
        · skip
          refine ⟨iv_nb (iv_lit (l := 1) (h := 1) (by decide)) (by decide), ?_⟩
          refine ⟨fun c10 => ?_, fun c10 => ?_⟩
          · skip
            exact s_m_allBy_52 k_a_lands k_f_land (iv_ltb (l := 1) (h := 9) (r_nle c1) hx3 k_f_huts (by decide)) k_o2 k_a4 hx1 (iv_lta (l := 0) (h := 8) (r_nle c1) hx3 k_f_huts (by decide)) hx2 x3.toInt (Int.le_refl _) (fun u0 u1 u2 u3 hq g0 g1 g2 g3 => ih u0 u1 u2 u3 (ms_up hm hq) g0 g1 g2 g3) hpost
          · skip
            exact (iv_emp (iv_eqa (l := 1) (h := 0) c10 (iv_lit (l := 1) (h := 1) (by decide)) (iv_lit (l := 0) (h := 0) (by decide)) (by decide)) (by decide)).elim
  exact loop _ _ _ _ _ (ms_init_up _ _) hx2 hx3 k_a_run k_a_covers
set_option maxRecDepth 20000 in
theorem s_m_allBy_0 {a_lands : Nat → Int32} {f_land : Int32} {f_huts : Int32} {a_run : Nat → Int32} {a_covers : Nat → Int32} {x1 : Int32} {post : Int32 → (Nat → Int32) → (Nat → Int32) → Prop} (k_a_lands : mLand a_lands) (k_f_land : iv 0 1 f_land) (k_f_huts : iv 0 9 f_huts) (k_a_run : ∀ j, iv 0 1000000 (a_run j)) (k_a_covers : ∀ j, iv 0 511 (a_covers j)) (hx1 : iv 0 99 x1) (hpost : ∀ (r : Int32) (a_run : Nat → Int32) (a_covers : Nat → Int32), iv 0 511 r → (∀ j, iv 0 1000000 (a_run j)) → (∀ j, iv 0 511 (a_covers j)) → post r a_run a_covers) : q_m_allBy_0 a_lands f_land f_huts a_run a_covers x1 post := by
  exact s_m_allBy_4 k_a_lands k_f_land k_f_huts k_a_run k_a_covers hx1 (iv_w (iv_lit (l := 0) (h := 0) (by decide)) (by decide)) (iv_w (iv_lit (l := 0) (h := 0) (by decide)) (by decide)) hpost
-- m_fewest
set_option maxRecDepth 20000 in
theorem s_m_fewest_54 {P5 : Int32 → Int32 → Prop} {P22 : Int32 → Int32 → Prop} {f_huts : Int32} {a_covers : Nat → Int32} {x1 : Int32} {x2 : Int32} {x3 : Int32} {x4 : Int32} {x6 : Int32} {y0 : Int32} {y1 : Int32} {post : Int32 → Prop} (k_f_huts : iv 1 9 f_huts) (k_a_covers : ∀ j, iv 0 511 (a_covers j)) (hx1 : iv 0 511 x1) (hx2 : iv 0 511 x2) (hx3 : iv (-1) 2147483647 x3) (hx4 : iv 0 511 x4) (hx6 : iv 0 8 x6) (hy0 : iv 0 511 y0) (hy1 : iv 0 511 y1) (m5 : Int) (hm5 : m5 ≤ x4.toInt) (hP5 : ∀ (x3 : Int32) (x4 : Int32), m5 < x4.toInt → iv (-1) 2147483647 x3 → iv 0 512 x4 → P5 x3 x4) (m22 : Int) (hm22 : m22 ≤ x6.toInt) (hP22 : ∀ (x5 : Int32) (x6 : Int32), m22 < x6.toInt → iv 0 511 x5 → iv 0 9 x6 → P22 x5 x6) (hpost : ∀ (r : Int32), iv (-1) 2147483647 r → post r) : q_m_fewest_54 P5 P22 f_huts a_covers x1 x2 x3 x4 x6 y0 y1 post := by
  intro w1 ew1
  have hw1 := iv_eq ew1 (iv_or 9 (l := 0) (h := 511) hy0 hy1 (by decide))
  intro w2 ew2
  have hw2 := iv_eq ew2 (iv_add (l := 1) (h := 9) hx6 (iv_lit (l := 1) (h := 1) (by decide)) (by decide))
  exact hP22 _ _ (ml_up hm22 (inc_lt ew2 hx6 (by decide))) hw1 (iv_w hw2 (by decide))
set_option maxRecDepth 20000 in
theorem s_m_fewest_116 {P5 : Int32 → Int32 → Prop} {f_huts : Int32} {a_covers : Nat → Int32} {x1 : Int32} {x2 : Int32} {x4 : Int32} {y0 : Int32} {post : Int32 → Prop} (k_f_huts : iv 0 9 f_huts) (k_a_covers : ∀ j, iv 0 511 (a_covers j)) (hx1 : iv 0 511 x1) (hx2 : iv 0 511 x2) (hx4 : iv 0 511 x4) (hy0 : iv (-1) 2147483647 y0) (m5 : Int) (hm5 : m5 ≤ x4.toInt) (hP5 : ∀ (x3 : Int32) (x4 : Int32), m5 < x4.toInt → iv (-1) 2147483647 x3 → iv 0 512 x4 → P5 x3 x4) (hpost : ∀ (r : Int32), iv (-1) 2147483647 r → post r) : q_m_fewest_116 P5 f_huts a_covers x1 x2 x4 y0 post := by
  intro w1 ew1
  have hw1 := iv_eq ew1 (iv_add (l := 1) (h := 512) hx4 (iv_lit (l := 1) (h := 1) (by decide)) (by decide))
  exact hP5 _ _ (ml_up hm5 (inc_lt ew1 hx4 (by decide))) hy0 (iv_w hw1 (by decide))
set_option maxRecDepth 20000 in
theorem s_m_fewest_110 {P5 : Int32 → Int32 → Prop} {f_huts : Int32} {a_covers : Nat → Int32} {x1 : Int32} {x2 : Int32} {x4 : Int32} {post : Int32 → Prop} (k_f_huts : iv 0 9 f_huts) (k_a_covers : ∀ j, iv 0 511 (a_covers j)) (hx1 : iv 0 511 x1) (hx2 : iv 0 511 x2) (hx4 : iv 0 511 x4) (m5 : Int) (hm5 : m5 ≤ x4.toInt) (hP5 : ∀ (x3 : Int32) (x4 : Int32), m5 < x4.toInt → iv (-1) 2147483647 x3 → iv 0 512 x4 → P5 x3 x4) (hpost : ∀ (r : Int32), iv (-1) 2147483647 r → post r) : q_m_fewest_110 P5 f_huts a_covers x1 x2 x4 post := by
  exact s_m_fewest_116 k_f_huts k_a_covers hx1 hx2 hx4 (iv_w hx4 (by decide)) m5 hm5 hP5 hpost
set_option maxRecDepth 20000 in
theorem s_m_fewest_115 {P5 : Int32 → Int32 → Prop} {f_huts : Int32} {a_covers : Nat → Int32} {x1 : Int32} {x2 : Int32} {x3 : Int32} {x4 : Int32} {post : Int32 → Prop} (k_f_huts : iv 0 9 f_huts) (k_a_covers : ∀ j, iv 0 511 (a_covers j)) (hx1 : iv 0 511 x1) (hx2 : iv 0 511 x2) (hx3 : iv (-1) 2147483647 x3) (hx4 : iv 0 511 x4) (m5 : Int) (hm5 : m5 ≤ x4.toInt) (hP5 : ∀ (x3 : Int32) (x4 : Int32), m5 < x4.toInt → iv (-1) 2147483647 x3 → iv 0 512 x4 → P5 x3 x4) (hpost : ∀ (r : Int32), iv (-1) 2147483647 r → post r) : q_m_fewest_115 P5 f_huts a_covers x1 x2 x3 x4 post := by
  exact s_m_fewest_116 k_f_huts k_a_covers hx1 hx2 hx4 hx3 m5 hm5 hP5 hpost
set_option maxRecDepth 20000 in
theorem s_m_fewest_86 {P5 : Int32 → Int32 → Prop} {f_huts : Int32} {a_covers : Nat → Int32} {x1 : Int32} {x2 : Int32} {x3 : Int32} {x4 : Int32} {y0 : Int32} {post : Int32 → Prop} (k_f_huts : iv 0 9 f_huts) (k_a_covers : ∀ j, iv 0 511 (a_covers j)) (hx1 : iv 0 511 x1) (hx2 : iv 0 511 x2) (hx3 : iv (-1) 2147483647 x3) (hx4 : iv 0 511 x4) (hy0 : iv 0 1 y0) (m5 : Int) (hm5 : m5 ≤ x4.toInt) (hP5 : ∀ (x3 : Int32) (x4 : Int32), m5 < x4.toInt → iv (-1) 2147483647 x3 → iv 0 512 x4 → P5 x3 x4) (hpost : ∀ (r : Int32), iv (-1) 2147483647 r → post r) : q_m_fewest_86 P5 f_huts a_covers x1 x2 x3 x4 y0 post := by
  refine ⟨fun c1 => ?_, fun c1 => ?_⟩
  · skip
    exact s_m_fewest_115 k_f_huts k_a_covers hx1 hx2 hx3 hx4 m5 hm5 hP5 hpost
  · skip
    refine ⟨fun c2 => ?_, fun c2 => ?_⟩
    · skip
      exact s_m_fewest_110 k_f_huts k_a_covers hx1 hx2 hx4 m5 hm5 hP5 hpost
    · skip
      refine s_m_ones_0 (iv_w hx4 (by decide)) (fun r3 => ?_)
      refine s_m_ones_0 (iv_w (iv_ne (l := 0) (h := 2147483647) c2 hx3 (iv_lit (l := (-1)) (h := (-1)) (by decide)) (by decide)) (by decide)) (fun r4 => ?_)
      refine ⟨fun c5 => ?_, fun c5 => ?_⟩
      · skip
        exact s_m_fewest_115 k_f_huts k_a_covers hx1 hx2 (iv_w (iv_ne (l := 0) (h := 2147483647) c2 hx3 (iv_lit (l := (-1)) (h := (-1)) (by decide)) (by decide)) (by decide)) hx4 m5 hm5 hP5 hpost
      · skip
        exact s_m_fewest_110 k_f_huts k_a_covers hx1 hx2 hx4 m5 hm5 hP5 hpost
set_option maxRecDepth 20000 in
theorem s_m_fewest_85 {P5 : Int32 → Int32 → Prop} {f_huts : Int32} {a_covers : Nat → Int32} {x1 : Int32} {x2 : Int32} {x3 : Int32} {x4 : Int32} {post : Int32 → Prop} (k_f_huts : iv 0 9 f_huts) (k_a_covers : ∀ j, iv 0 511 (a_covers j)) (hx1 : iv 0 511 x1) (hx2 : iv 0 511 x2) (hx3 : iv (-1) 2147483647 x3) (hx4 : iv 0 511 x4) (m5 : Int) (hm5 : m5 ≤ x4.toInt) (hP5 : ∀ (x3 : Int32) (x4 : Int32), m5 < x4.toInt → iv (-1) 2147483647 x3 → iv 0 512 x4 → P5 x3 x4) (hpost : ∀ (r : Int32), iv (-1) 2147483647 r → post r) : q_m_fewest_85 P5 f_huts a_covers x1 x2 x3 x4 post := by
  exact s_m_fewest_86 k_f_huts k_a_covers hx1 hx2 hx3 hx4 (iv_w (iv_lit (l := 0) (h := 0) (by decide)) (by decide)) m5 hm5 hP5 hpost
set_option maxRecDepth 20000 in
theorem s_m_fewest_22 {P5 : Int32 → Int32 → Prop} {f_huts : Int32} {a_covers : Nat → Int32} {x1 : Int32} {x2 : Int32} {x3 : Int32} {x4 : Int32} {x5 : Int32} {x6 : Int32} {post : Int32 → Prop} (k_f_huts : iv 0 9 f_huts) (k_a_covers : ∀ j, iv 0 511 (a_covers j)) (hx1 : iv 0 511 x1) (hx2 : iv 0 511 x2) (hx3 : iv (-1) 2147483647 x3) (hx4 : iv 0 511 x4) (hx5 : iv 0 511 x5) (hx6 : iv 0 9 x6) (m5 : Int) (hm5 : m5 ≤ x4.toInt) (hP5 : ∀ (x3 : Int32) (x4 : Int32), m5 < x4.toInt → iv (-1) 2147483647 x3 → iv 0 512 x4 → P5 x3 x4) (hpost : ∀ (r : Int32), iv (-1) 2147483647 r → post r) : q_m_fewest_22 P5 f_huts a_covers x1 x2 x3 x4 x5 x6 post := by
  intro P hP
  have loop : ∀ (n : Nat) (x5 : Int32) (x6 : Int32), (9 - x6.toInt < (n : Int)) → (iv 0 511 x5) → (iv 0 9 x6) → P x5 x6 := by
    intro n
    induction n with
    | zero => intro x5 x6 hm hx5 hx6; exact (ms0_up hm hx6).elim
    | succ n ih =>
      intro x5 x6 hm hx5 hx6
      apply hP
      refine ⟨fun c1 => ?_, fun c1 => ?_⟩
      · skip
        refine ⟨fun c2 => ?_, fun c2 => ?_⟩
        · skip
          exact s_m_fewest_85 k_f_huts k_a_covers hx1 hx2 hx3 hx4 m5 hm5 hP5 hpost
        · skip
          refine ⟨fun c3 => ?_, fun c3 => ?_⟩
          · skip
            exact s_m_fewest_85 k_f_huts k_a_covers hx1 hx2 hx3 hx4 m5 hm5 hP5 hpost
          · skip
            exact s_m_fewest_86 k_f_huts k_a_covers hx1 hx2 hx3 hx4 (iv_w (iv_lit (l := 1) (h := 1) (by decide)) (by decide)) m5 hm5 hP5 hpost
      · skip
        refine ⟨fun c4 => ?_, fun c4 => ?_⟩
        · skip
          refine ⟨fun c5 => ?_, fun c5 => ?_⟩
          · skip
            exact s_m_fewest_54 (iv_ltb (l := 1) (h := 9) (r_nle c1) hx6 k_f_huts (by decide)) k_a_covers hx1 hx2 hx3 hx4 (iv_lta (l := 0) (h := 8) (r_nle c1) hx6 k_f_huts (by decide)) hx5 (iv_w (iv_lit (l := 0) (h := 0) (by decide)) (by decide)) m5 hm5 hP5 x6.toInt (Int.le_refl _) (fun u0 u1 hq g0 g1 => ih u0 u1 (ms_up hm hq) g0 g1) hpost
          · skip
            exact (iv_emp (iv_ne (l := 1) (h := 0) c5 (iv_lit (l := 0) (h := 0) (by decide)) (iv_lit (l := 0) (h := 0) (by decide)) (by decide)) (by decide)).elim
        · skip
          refine ⟨fun c6 => ?_, fun c6 => ?_⟩
          · skip
            exact (iv_emp (iv_eqa (l := 1) (h := 0) c6 (iv_lit (l := 1) (h := 1) (by decide)) (iv_lit (l := 0) (h := 0) (by decide)) (by decide)) (by decide)).elim
          · skip
            refine ⟨iv_in (iv_lta (l := 0) (h := 8) (r_nle c1) hx6 k_f_huts (by decide)) (by decide), ?_⟩
            exact s_m_fewest_54 (iv_ltb (l := 1) (h := 9) (r_nle c1) hx6 k_f_huts (by decide)) k_a_covers hx1 hx2 hx3 hx4 (iv_lta (l := 0) (h := 8) (r_nle c1) hx6 k_f_huts (by decide)) hx5 (k_a_covers _) m5 hm5 hP5 x6.toInt (Int.le_refl _) (fun u0 u1 hq g0 g1 => ih u0 u1 (ms_up hm hq) g0 g1) hpost
  exact loop _ _ _ (ms_init_up _ _) hx5 hx6
set_option maxRecDepth 20000 in
theorem s_m_fewest_5 {f_huts : Int32} {a_covers : Nat → Int32} {x1 : Int32} {x2 : Int32} {x3 : Int32} {x4 : Int32} {post : Int32 → Prop} (k_f_huts : iv 0 9 f_huts) (k_a_covers : ∀ j, iv 0 511 (a_covers j)) (hx1 : iv 0 511 x1) (hx2 : iv 0 511 x2) (hx3 : iv (-1) 2147483647 x3) (hx4 : iv 0 512 x4) (hpost : ∀ (r : Int32), iv (-1) 2147483647 r → post r) : q_m_fewest_5 f_huts a_covers x1 x2 x3 x4 post := by
  intro P hP
  have loop : ∀ (n : Nat) (x3 : Int32) (x4 : Int32), (512 - x4.toInt < (n : Int)) → (iv (-1) 2147483647 x3) → (iv 0 512 x4) → P x3 x4 := by
    intro n
    induction n with
    | zero => intro x3 x4 hm hx3 hx4; exact (ms0_up hm hx4).elim
    | succ n ih =>
      intro x3 x4 hm hx3 hx4
      apply hP
      refine ⟨fun c1 => ?_, fun c1 => ?_⟩
      · skip
        exact hpost _ hx3
      · skip
        exact s_m_fewest_22 k_f_huts k_a_covers hx1 hx2 hx3 (iv_lta (l := 0) (h := 511) (r_nle c1) hx4 (iv_shl1 (l := 1) (h := 512) (iv_lit (l := 1) (h := 1) (by decide)) k_f_huts (by decide)) (by decide)) (iv_w (iv_lit (l := 0) (h := 0) (by decide)) (by decide)) (iv_w (iv_lit (l := 0) (h := 0) (by decide)) (by decide)) x4.toInt (Int.le_refl _) (fun u0 u1 hq g0 g1 => ih u0 u1 (ms_up hm hq) g0 g1) hpost
  exact loop _ _ _ (ms_init_up _ _) hx3 hx4
set_option maxRecDepth 20000 in
theorem s_m_fewest_0 {f_huts : Int32} {a_covers : Nat → Int32} {x1 : Int32} {x2 : Int32} {post : Int32 → Prop} (k_f_huts : iv 0 9 f_huts) (k_a_covers : ∀ j, iv 0 511 (a_covers j)) (hx1 : iv 0 511 x1) (hx2 : iv 0 511 x2) (hpost : ∀ (r : Int32), iv (-1) 2147483647 r → post r) : q_m_fewest_0 f_huts a_covers x1 x2 post := by
  exact s_m_fewest_5 k_f_huts k_a_covers hx1 hx2 (iv_w (iv_lit (l := (-1)) (h := (-1)) (by decide)) (by decide)) (iv_w (iv_lit (l := 0) (h := 0) (by decide)) (by decide)) hpost
-- m_villages
set_option maxRecDepth 20000 in
theorem s_m_villages_0 {f_code : Int32} {a_many : Nat → Int32} {a_lands : Nat → Int32} {f_land : Int32} {f_huts : Int32} {f_singers : Int32} {a_run : Nat → Int32} {a_covers : Nat → Int32} {x1 : Int32} {x2 : Int32} {x3 : Int32} {post : Int32 → (Int32) → (Int32) → (Int32) → (Int32) → (Nat → Int32) → (Nat → Int32) → Prop} (k_f_code : iv 0 0 f_code) (k_a_many : ∀ j, iv 0 2 (a_many j)) (k_a_lands : mLand a_lands) (k_f_land : iv 0 1 f_land) (k_f_huts : iv 0 9 f_huts) (k_f_singers : iv 0 6 f_singers) (k_a_run : ∀ j, iv 0 1000000 (a_run j)) (k_a_covers : ∀ j, iv 0 511 (a_covers j)) (hpost : ∀ (r : Int32) (f_code : Int32) (f_land : Int32) (f_huts : Int32) (f_singers : Int32) (a_run : Nat → Int32) (a_covers : Nat → Int32), iv (-2) 2147483647 r → (iv 0 0 f_code) → (iv 0 1 f_land) → (iv 0 9 f_huts) → (iv 0 6 f_singers) → (∀ j, iv 0 1000000 (a_run j)) → (∀ j, iv 0 511 (a_covers j)) → post r f_code f_land f_huts f_singers a_run a_covers) : q_m_villages_0 f_code a_many a_lands f_land f_huts f_singers a_run a_covers x1 x2 x3 post := by
  refine ⟨iv_in (iv_lit (l := 0) (h := 0) (by decide)) (by decide), ?_⟩
  refine ⟨fun c1 => ?_, fun c1 => ?_⟩
  · skip
    refine ⟨iv_nb (iv_lit (l := 0) (h := 0) (by decide)) (by decide), ?_⟩
    refine ⟨fun c2 => ?_, fun c2 => ?_⟩
    · skip
      exact (iv_emp (iv_ne (l := 1) (h := 0) c2 (iv_lit (l := 0) (h := 0) (by decide)) (iv_lit (l := 0) (h := 0) (by decide)) (by decide)) (by decide)).elim
    · skip
      refine ⟨fun c3 => ?_, fun c3 => ?_⟩
      · skip
        exact hpost _ _ _ _ _ _ _ (iv_w (iv_lit (l := (-2)) (h := (-2)) (by decide)) (by decide)) (iv_lit (l := 0) (h := 0) (by decide)) k_f_land k_f_huts k_f_singers k_a_run k_a_covers
      · skip
        exact (iv_emp (iv_ne (l := 1) (h := 0) c3 (iv_lit (l := 0) (h := 0) (by decide)) (iv_lit (l := 0) (h := 0) (by decide)) (by decide)) (by decide)).elim
  · skip
    refine ⟨fun c4 => ?_, fun c4 => ?_⟩
    · skip
      refine ⟨iv_nb (iv_lit (l := 0) (h := 0) (by decide)) (by decide), ?_⟩
      refine ⟨fun c5 => ?_, fun c5 => ?_⟩
      · skip
        exact (iv_emp (iv_ne (l := 1) (h := 0) c5 (iv_lit (l := 0) (h := 0) (by decide)) (iv_lit (l := 0) (h := 0) (by decide)) (by decide)) (by decide)).elim
      · skip
        refine ⟨fun c6 => ?_, fun c6 => ?_⟩
        · skip
          exact hpost _ _ _ _ _ _ _ (iv_w (iv_lit (l := (-2)) (h := (-2)) (by decide)) (by decide)) (iv_lit (l := 0) (h := 0) (by decide)) k_f_land k_f_huts k_f_singers k_a_run k_a_covers
        · skip
          exact (iv_emp (iv_ne (l := 1) (h := 0) c6 (iv_lit (l := 0) (h := 0) (by decide)) (iv_lit (l := 0) (h := 0) (by decide)) (by decide)) (by decide)).elim
    · skip
      refine ⟨iv_nb (iv_lit (l := 1) (h := 1) (by decide)) (by decide), ?_⟩
      refine ⟨fun c7 => ?_, fun c7 => ?_⟩
      · skip
        refine sp_of (a := 0) (b := 9) k_a_lands (iv_lea (l := 0) (h := 1) (r_nlt c4) (iv_leb (l := 0) (h := 2147483647) (r_nlt c1) (iv_lit (l := 0) (h := 0) (by decide)) (iv_top x1) (by decide)) (iv_sub (l := (-1)) (h := 1) (k_a_many _) (iv_lit (l := 1) (h := 1) (by decide)) (by decide)) (by decide)) (iv_lit (l := 0) (h := 0) (by decide)) (by decide +kernel) (fun r8 hr8 er8 => ?_)
        refine sp_of (a := 0) (b := 6) k_a_lands (iv_lea (l := 0) (h := 1) (r_nlt c4) (iv_leb (l := 0) (h := 2147483647) (r_nlt c1) (iv_lit (l := 0) (h := 0) (by decide)) (iv_top x1) (by decide)) (iv_sub (l := (-1)) (h := 1) (k_a_many _) (iv_lit (l := 1) (h := 1) (by decide)) (by decide)) (by decide)) (iv_lit (l := 1) (h := 1) (by decide)) (by decide +kernel) (fun r9 hr9 er9 => ?_)
        refine ⟨fun c10 => ?_, fun c10 => ?_⟩
        · skip
          exact (iv_emp (iv_eqa (l := 1) (h := 0) c10 (iv_lit (l := 1) (h := 1) (by decide)) (iv_lit (l := 0) (h := 0) (by decide)) (by decide)) (by decide)).elim
        · skip
          refine ⟨fun c11 => ?_, fun c11 => ?_⟩
          · skip
            refine ⟨fun c12 => ?_, fun c12 => ?_⟩
            · skip
              exact hpost _ _ _ _ _ _ _ (iv_w (iv_lit (l := (-2)) (h := (-2)) (by decide)) (by decide)) (iv_lit (l := 0) (h := 0) (by decide)) (iv_lea (l := 0) (h := 1) (r_nlt c4) (iv_leb (l := 0) (h := 2147483647) (r_nlt c1) (iv_lit (l := 0) (h := 0) (by decide)) (iv_top x1) (by decide)) (iv_sub (l := (-1)) (h := 1) (k_a_many _) (iv_lit (l := 1) (h := 1) (by decide)) (by decide)) (by decide)) hr8 hr9 k_a_run k_a_covers
            · skip
              exact (iv_emp (iv_ne (l := 1) (h := 0) c12 (iv_lit (l := 0) (h := 0) (by decide)) (iv_lit (l := 0) (h := 0) (by decide)) (by decide)) (by decide)).elim
          · skip
            refine ⟨fun c13 => ?_, fun c13 => ?_⟩
            · skip
              refine ⟨fun c14 => ?_, fun c14 => ?_⟩
              · skip
                exact hpost _ _ _ _ _ _ _ (iv_w (iv_lit (l := (-2)) (h := (-2)) (by decide)) (by decide)) (iv_lit (l := 0) (h := 0) (by decide)) (iv_lea (l := 0) (h := 1) (r_nlt c4) (iv_leb (l := 0) (h := 2147483647) (r_nlt c1) (iv_lit (l := 0) (h := 0) (by decide)) (iv_top x1) (by decide)) (iv_sub (l := (-1)) (h := 1) (k_a_many _) (iv_lit (l := 1) (h := 1) (by decide)) (by decide)) (by decide)) hr8 hr9 k_a_run k_a_covers
              · skip
                exact (iv_emp (iv_ne (l := 1) (h := 0) c14 (iv_lit (l := 0) (h := 0) (by decide)) (iv_lit (l := 0) (h := 0) (by decide)) (by decide)) (by decide)).elim
            · skip
              refine ⟨fun c15 => ?_, fun c15 => ?_⟩
              · skip
                exact (iv_emp (iv_eqa (l := 1) (h := 0) c15 (iv_lit (l := 1) (h := 1) (by decide)) (iv_lit (l := 0) (h := 0) (by decide)) (by decide)) (by decide)).elim
              · skip
                refine ⟨fun c16 => ?_, fun c16 => ?_⟩
                · skip
                  refine ⟨fun c17 => ?_, fun c17 => ?_⟩
                  · skip
                    exact (iv_emp (iv_ne (l := 1) (h := 0) c17 (iv_lit (l := 0) (h := 0) (by decide)) (iv_lit (l := 0) (h := 0) (by decide)) (by decide)) (by decide)).elim
                  · skip
                    exact hpost _ _ _ _ _ _ _ (iv_w (iv_lit (l := (-2)) (h := (-2)) (by decide)) (by decide)) (iv_lit (l := 0) (h := 0) (by decide)) (iv_lea (l := 0) (h := 1) (r_nlt c4) (iv_leb (l := 0) (h := 2147483647) (r_nlt c1) (iv_lit (l := 0) (h := 0) (by decide)) (iv_top x1) (by decide)) (iv_sub (l := (-1)) (h := 1) (k_a_many _) (iv_lit (l := 1) (h := 1) (by decide)) (by decide)) (by decide)) hr8 hr9 k_a_run k_a_covers
                · skip
                  refine ⟨fun c18 => ?_, fun c18 => ?_⟩
                  · skip
                    refine ⟨fun c19 => ?_, fun c19 => ?_⟩
                    · skip
                      exact (iv_emp (iv_ne (l := 1) (h := 0) c19 (iv_lit (l := 0) (h := 0) (by decide)) (iv_lit (l := 0) (h := 0) (by decide)) (by decide)) (by decide)).elim
                    · skip
                      exact hpost _ _ _ _ _ _ _ (iv_w (iv_lit (l := (-2)) (h := (-2)) (by decide)) (by decide)) (iv_lit (l := 0) (h := 0) (by decide)) (iv_lea (l := 0) (h := 1) (r_nlt c4) (iv_leb (l := 0) (h := 2147483647) (r_nlt c1) (iv_lit (l := 0) (h := 0) (by decide)) (iv_top x1) (by decide)) (iv_sub (l := (-1)) (h := 1) (k_a_many _) (iv_lit (l := 1) (h := 1) (by decide)) (by decide)) (by decide)) hr8 hr9 k_a_run k_a_covers
                  · skip
                    refine ⟨fun c20 => ?_, fun c20 => ?_⟩
                    · skip
                      refine s_m_allBy_0 k_a_lands (iv_lea (l := 0) (h := 1) (r_nlt c4) (iv_leb (l := 0) (h := 2147483647) (r_nlt c1) (iv_lit (l := 0) (h := 0) (by decide)) (iv_top x1) (by decide)) (iv_sub (l := (-1)) (h := 1) (k_a_many _) (iv_lit (l := 1) (h := 1) (by decide)) (by decide)) (by decide)) hr8 k_a_run k_a_covers (iv_lea (l := 0) (h := 99) (r_nlt c13) (iv_leb (l := 0) (h := 2147483647) (r_nlt c11) (iv_lit (l := 0) (h := 0) (by decide)) (iv_top x2) (by decide)) (iv_lit (l := 99) (h := 99) (by decide)) (by decide)) (fun r21 o22 o23 hr21 k_o22 k_o23 => ?_)
                      refine ⟨fun c24 => ?_, fun c24 => ?_⟩
                      · skip
                        refine sp_of (a := 0) (b := 511) k_a_lands (iv_lea (l := 0) (h := 1) (r_nlt c4) (iv_leb (l := 0) (h := 2147483647) (r_nlt c1) (iv_lit (l := 0) (h := 0) (by decide)) (iv_top x1) (by decide)) (iv_sub (l := (-1)) (h := 1) (k_a_many _) (iv_lit (l := 1) (h := 1) (by decide)) (by decide)) (by decide)) (iv_lit (l := 3) (h := 3) (by decide)) (by decide +kernel) (fun r25 hr25 er25 => ?_)
                        refine sp_of (a := 0) (b := 511) k_a_lands (iv_lea (l := 0) (h := 1) (r_nlt c4) (iv_leb (l := 0) (h := 2147483647) (r_nlt c1) (iv_lit (l := 0) (h := 0) (by decide)) (iv_top x1) (by decide)) (iv_sub (l := (-1)) (h := 1) (k_a_many _) (iv_lit (l := 1) (h := 1) (by decide)) (by decide)) (by decide)) (iv_lit (l := 2) (h := 2) (by decide)) (by decide +kernel) (fun r26 hr26 er26 => ?_)
                        refine sp_of (a := 0) (b := 511) k_a_lands (iv_lea (l := 0) (h := 1) (r_nlt c4) (iv_leb (l := 0) (h := 2147483647) (r_nlt c1) (iv_lit (l := 0) (h := 0) (by decide)) (iv_top x1) (by decide)) (iv_sub (l := (-1)) (h := 1) (k_a_many _) (iv_lit (l := 1) (h := 1) (by decide)) (by decide)) (by decide)) (iv_lit (l := 3) (h := 3) (by decide)) (by decide +kernel) (fun r27 hr27 er27 => ?_)
                        refine s_m_fewest_0 hr8 k_o23 (iv_andl (l := 0) (h := 511) (iv_sub (l := 0) (h := 511) (iv_shl1 (l := 1) (h := 512) (iv_lit (l := 1) (h := 1) (by decide)) hr8 (by decide)) (iv_lit (l := 1) (h := 1) (by decide)) (by decide)) (by decide)) (iv_andl (l := 0) (h := 511) hr26 (by decide)) (fun r28 hr28 => ?_)
                        exact hpost _ _ _ _ _ _ _ (iv_w hr28 (by decide)) (iv_lit (l := 0) (h := 0) (by decide)) (iv_lea (l := 0) (h := 1) (r_nlt c4) (iv_leb (l := 0) (h := 2147483647) (r_nlt c1) (iv_lit (l := 0) (h := 0) (by decide)) (iv_top x1) (by decide)) (iv_sub (l := (-1)) (h := 1) (k_a_many _) (iv_lit (l := 1) (h := 1) (by decide)) (by decide)) (by decide)) hr8 hr9 k_o22 k_o23
                      · skip
                        exact hpost _ _ _ _ _ _ _ (iv_w hr21 (by decide)) (iv_lit (l := 0) (h := 0) (by decide)) (iv_lea (l := 0) (h := 1) (r_nlt c4) (iv_leb (l := 0) (h := 2147483647) (r_nlt c1) (iv_lit (l := 0) (h := 0) (by decide)) (iv_top x1) (by decide)) (iv_sub (l := (-1)) (h := 1) (k_a_many _) (iv_lit (l := 1) (h := 1) (by decide)) (by decide)) (by decide)) hr8 hr9 k_o22 k_o23
                    · skip
                      exact (iv_emp (iv_eqa (l := 1) (h := 0) c20 (iv_lit (l := 1) (h := 1) (by decide)) (iv_lit (l := 0) (h := 0) (by decide)) (by decide)) (by decide)).elim
      · skip
        exact (iv_emp (iv_eqa (l := 1) (h := 0) c7 (iv_lit (l := 1) (h := 1) (by decide)) (iv_lit (l := 0) (h := 0) (by decide)) (by decide)) (by decide)).elim
-- m_best
set_option maxRecDepth 20000 in
theorem s_m_best_100 {f_code : Int32} {a_many : Nat → Int32} {a_lands : Nat → Int32} {f_land : Int32} {f_huts : Int32} {f_singers : Int32} {a_run : Nat → Int32} {x3 : Int32} {post : Int32 → (Int32) → (Int32) → (Int32) → (Int32) → (Nat → Int32) → Prop} (k_f_code : iv 0 0 f_code) (k_a_many : ∀ j, iv 0 2 (a_many j)) (k_a_lands : mLand a_lands) (k_f_land : iv 0 1 f_land) (k_f_huts : iv 0 9 f_huts) (k_f_singers : iv 0 6 f_singers) (k_a_run : ∀ j, iv 0 1000000 (a_run j)) (hx3 : iv (-1) 8 x3) (hpost : ∀ (r : Int32) (f_code : Int32) (f_land : Int32) (f_huts : Int32) (f_singers : Int32) (a_run : Nat → Int32), iv (-1) 1000000 r → (iv 0 0 f_code) → (iv 0 1 f_land) → (iv 0 9 f_huts) → (iv 0 6 f_singers) → (∀ j, iv 0 1000000 (a_run j)) → post r f_code f_land f_huts f_singers a_run) : q_m_best_100 f_code a_many a_lands f_land f_huts f_singers a_run x3 post := by
  exact hpost _ _ _ _ _ _ (iv_w hx3 (by decide)) k_f_code k_f_land k_f_huts k_f_singers k_a_run
set_option maxRecDepth 20000 in
theorem s_m_best_75 {P25 : Int32 → Int32 → Int32 → (Nat → Int32) → Prop} {f_code : Int32} {a_many : Nat → Int32} {a_lands : Nat → Int32} {f_land : Int32} {f_huts : Int32} {f_singers : Int32} {a_run : Nat → Int32} {x2 : Int32} {x4 : Int32} {x5 : Int32} {x6 : Int32} {y0 : Int32} {post : Int32 → (Int32) → (Int32) → (Int32) → (Int32) → (Nat → Int32) → Prop} (k_f_code : iv 0 0 f_code) (k_a_many : ∀ j, iv 0 2 (a_many j)) (k_a_lands : mLand a_lands) (k_f_land : iv 0 1 f_land) (k_f_huts : iv 1 9 f_huts) (k_f_singers : iv 0 6 f_singers) (k_a_run : ∀ j, iv 0 1000000 (a_run j)) (hx4 : iv 0 1000000 x4) (hx5 : iv 0 8 x5) (hx6 : iv 0 1000000 x6) (hy0 : iv (-1) 8 y0) (m25 : Int) (hm25 : m25 ≤ x5.toInt) (hP25 : ∀ (x3 : Int32) (x4 : Int32) (x5 : Int32) (a_run : Nat → Int32), m25 < x5.toInt → iv (-1) 8 x3 → iv 0 1000000 x4 → iv 0 9 x5 → (∀ j, iv 0 1000000 (a_run j)) → P25 x3 x4 x5 a_run) (hpost : ∀ (r : Int32) (f_code : Int32) (f_land : Int32) (f_huts : Int32) (f_singers : Int32) (a_run : Nat → Int32), iv (-1) 1000000 r → (iv 0 0 f_code) → (iv 0 1 f_land) → (iv 0 9 f_huts) → (iv 0 6 f_singers) → (∀ j, iv 0 1000000 (a_run j)) → post r f_code f_land f_huts f_singers a_run) : q_m_best_75 P25 f_code a_many a_lands f_land f_huts f_singers a_run x2 x4 x5 x6 y0 post := by
  refine ⟨fun c1 => ?_, fun c1 => ?_⟩
  · skip
    intro w2 ew2
    have hw2 := iv_eq ew2 (iv_add (l := 1) (h := 9) hx5 (iv_lit (l := 1) (h := 1) (by decide)) (by decide))
    exact hP25 _ _ _ _ (ml_up hm25 (inc_lt ew2 hx5 (by decide))) hy0 hx6 (iv_w hw2 (by decide)) k_a_run
  · skip
    intro w3 ew3
    have hw3 := iv_eq ew3 (iv_add (l := 1) (h := 9) hx5 (iv_lit (l := 1) (h := 1) (by decide)) (by decide))
    exact hP25 _ _ _ _ (ml_up hm25 (inc_lt ew3 hx5 (by decide))) hy0 (iv_w (iv_lta (l := 0) (h := 999999) (r_nle c1) hx4 hx6 (by decide)) (by decide)) (iv_w hw3 (by decide)) k_a_run
set_option maxRecDepth 20000 in
theorem s_m_best_60 {P25 : Int32 → Int32 → Int32 → (Nat → Int32) → Prop} {f_code : Int32} {a_many : Nat → Int32} {a_lands : Nat → Int32} {f_land : Int32} {f_huts : Int32} {f_singers : Int32} {a_run : Nat → Int32} {x2 : Int32} {x3 : Int32} {x4 : Int32} {x5 : Int32} {y0 : Int32} {post : Int32 → (Int32) → (Int32) → (Int32) → (Int32) → (Nat → Int32) → Prop} (k_f_code : iv 0 0 f_code) (k_a_many : ∀ j, iv 0 2 (a_many j)) (k_a_lands : mLand a_lands) (k_f_land : iv 0 1 f_land) (k_f_huts : iv 1 9 f_huts) (k_f_singers : iv 0 6 f_singers) (k_a_run : ∀ j, iv 0 1000000 (a_run j)) (hx3 : iv (-1) 8 x3) (hx4 : iv 0 1000000 x4) (hx5 : iv 0 8 x5) (hy0 : iv 0 1000000 y0) (m25 : Int) (hm25 : m25 ≤ x5.toInt) (hP25 : ∀ (x3 : Int32) (x4 : Int32) (x5 : Int32) (a_run : Nat → Int32), m25 < x5.toInt → iv (-1) 8 x3 → iv 0 1000000 x4 → iv 0 9 x5 → (∀ j, iv 0 1000000 (a_run j)) → P25 x3 x4 x5 a_run) (hpost : ∀ (r : Int32) (f_code : Int32) (f_land : Int32) (f_huts : Int32) (f_singers : Int32) (a_run : Nat → Int32), iv (-1) 1000000 r → (iv 0 0 f_code) → (iv 0 1 f_land) → (iv 0 9 f_huts) → (iv 0 6 f_singers) → (∀ j, iv 0 1000000 (a_run j)) → post r f_code f_land f_huts f_singers a_run) : q_m_best_60 P25 f_code a_many a_lands f_land f_huts f_singers a_run x2 x3 x4 x5 y0 post := by
  refine ⟨fun c1 => ?_, fun c1 => ?_⟩
  · skip
    exact s_m_best_75 k_f_code k_a_many k_a_lands k_f_land k_f_huts k_f_singers k_a_run hx4 hx5 hy0 hx3 m25 hm25 hP25 hpost
  · skip
    exact s_m_best_75 k_f_code k_a_many k_a_lands k_f_land k_f_huts k_f_singers k_a_run (iv_w (iv_ltb (l := 1) (h := 1000000) (r_nle c1) hy0 hx4 (by decide)) (by decide)) hx5 (iv_w (iv_lta (l := 0) (h := 999999) (r_nle c1) hy0 hx4 (by decide)) (by decide)) (iv_w hx5 (by decide)) m25 hm25 hP25 hpost
set_option maxRecDepth 20000 in
theorem s_m_best_25 {f_code : Int32} {a_many : Nat → Int32} {a_lands : Nat → Int32} {f_land : Int32} {f_huts : Int32} {f_singers : Int32} {a_run : Nat → Int32} {x2 : Int32} {x3 : Int32} {x4 : Int32} {x5 : Int32} {post : Int32 → (Int32) → (Int32) → (Int32) → (Int32) → (Nat → Int32) → Prop} (k_f_code : iv 0 0 f_code) (k_a_many : ∀ j, iv 0 2 (a_many j)) (k_a_lands : mLand a_lands) (k_f_land : iv 0 1 f_land) (k_f_huts : iv 0 9 f_huts) (k_f_singers : iv 0 6 f_singers) (k_a_run : ∀ j, iv 0 1000000 (a_run j)) (hx3 : iv (-1) 8 x3) (hx4 : iv 0 1000000 x4) (hx5 : iv 0 9 x5) (hpost : ∀ (r : Int32) (f_code : Int32) (f_land : Int32) (f_huts : Int32) (f_singers : Int32) (a_run : Nat → Int32), iv (-1) 1000000 r → (iv 0 0 f_code) → (iv 0 1 f_land) → (iv 0 9 f_huts) → (iv 0 6 f_singers) → (∀ j, iv 0 1000000 (a_run j)) → post r f_code f_land f_huts f_singers a_run) : q_m_best_25 f_code a_many a_lands f_land f_huts f_singers a_run x2 x3 x4 x5 post := by
  intro P hP
  have loop : ∀ (n : Nat) (x3 : Int32) (x4 : Int32) (x5 : Int32) (a_run : Nat → Int32), (9 - x5.toInt < (n : Int)) → (iv (-1) 8 x3) → (iv 0 1000000 x4) → (iv 0 9 x5) → (∀ j, iv 0 1000000 (a_run j)) → P x3 x4 x5 a_run := by
    intro n
    induction n with
    | zero => intro x3 x4 x5 a_run hm hx3 hx4 hx5 k_a_run; exact (ms0_up hm hx5).elim
    | succ n ih =>
      intro x3 x4 x5 a_run hm hx3 hx4 hx5 k_a_run
      apply hP
      refine ⟨fun c1 => ?_, fun c1 => ?_⟩
      · skip
        refine ⟨fun c2 => ?_, fun c2 => ?_⟩
        · skip
          exact s_m_best_100 k_f_code k_a_many k_a_lands k_f_land k_f_huts k_f_singers k_a_run (iv_w (iv_eqa (l := (-1)) (h := (-1)) c2 hx3 (iv_lit (l := (-1)) (h := (-1)) (by decide)) (by decide)) (by decide)) hpost
        · skip
          refine ⟨fun c3 => ?_, fun c3 => ?_⟩
          · skip
            exact hpost _ _ _ _ _ _ (iv_w hx4 (by decide)) k_f_code k_f_land k_f_huts k_f_singers k_a_run
          · skip
            exact s_m_best_100 k_f_code k_a_many k_a_lands k_f_land k_f_huts k_f_singers k_a_run (iv_w (iv_ne (l := 0) (h := 8) c2 hx3 (iv_lit (l := (-1)) (h := (-1)) (by decide)) (by decide)) (by decide)) hpost
      · skip
        refine s_m_findRun_0 k_a_lands k_f_land (iv_w (iv_ltb (l := 1) (h := 9) (r_nle c1) hx5 k_f_huts (by decide)) (by decide)) k_a_run (iv_lta (l := 0) (h := 8) (r_nle c1) hx5 k_f_huts (by decide)) (iv_w (iv_lit (l := 0) (h := 0) (by decide)) (by decide)) (fun o4 k_o4 => ?_)
        refine sp_of (a := 0) (b := 511) k_a_lands k_f_land (iv_lit (l := 3) (h := 3) (by decide)) (by decide +kernel) (fun r5 hr5 er5 => ?_)
        refine ⟨fun c6 => ?_, fun c6 => ?_⟩
        · skip
          refine ⟨iv_nb (iv_lit (l := 0) (h := 0) (by decide)) (by decide), ?_⟩
          refine ⟨fun c7 => ?_, fun c7 => ?_⟩
          · skip
            refine s_m_lastVillage_0 k_a_lands k_f_land (iv_ltb (l := 1) (h := 9) (r_nle c1) hx5 k_f_huts (by decide)) k_o4 (fun r8 hr8 => ?_)
            exact s_m_best_60 k_f_code k_a_many k_a_lands k_f_land (iv_ltb (l := 1) (h := 9) (r_nle c1) hx5 k_f_huts (by decide)) k_f_singers k_o4 hx3 hx4 (iv_lta (l := 0) (h := 8) (r_nle c1) hx5 k_f_huts (by decide)) hr8 x5.toInt (Int.le_refl _) (fun u0 u1 u2 u3 hq g0 g1 g2 g3 => ih u0 u1 u2 u3 (ms_up hm hq) g0 g1 g2 g3) hpost
          · skip
            exact (iv_emp (iv_ne (l := 1) (h := 0) c7 (iv_lit (l := 0) (h := 0) (by decide)) (iv_lit (l := 0) (h := 0) (by decide)) (by decide)) (by decide)).elim
        · skip
          refine ⟨iv_nb (iv_lit (l := 1) (h := 1) (by decide)) (by decide), ?_⟩
          refine ⟨fun c9 => ?_, fun c9 => ?_⟩
          · skip
            exact (iv_emp (iv_eqa (l := 1) (h := 0) c9 (iv_lit (l := 1) (h := 1) (by decide)) (iv_lit (l := 0) (h := 0) (by decide)) (by decide)) (by decide)).elim
          · skip
            exact s_m_best_60 k_f_code k_a_many k_a_lands k_f_land (iv_ltb (l := 1) (h := 9) (r_nle c1) hx5 k_f_huts (by decide)) k_f_singers k_o4 hx3 hx4 (iv_lta (l := 0) (h := 8) (r_nle c1) hx5 k_f_huts (by decide)) (iv_w (iv_lit (l := 1000000) (h := 1000000) (by decide)) (by decide)) x5.toInt (Int.le_refl _) (fun u0 u1 u2 u3 hq g0 g1 g2 g3 => ih u0 u1 u2 u3 (ms_up hm hq) g0 g1 g2 g3) hpost
  exact loop _ _ _ _ _ (ms_init_up _ _) hx3 hx4 hx5 k_a_run
set_option maxRecDepth 20000 in
theorem s_m_best_0 {f_code : Int32} {a_many : Nat → Int32} {a_lands : Nat → Int32} {f_land : Int32} {f_huts : Int32} {f_singers : Int32} {a_run : Nat → Int32} {x1 : Int32} {x2 : Int32} {post : Int32 → (Int32) → (Int32) → (Int32) → (Int32) → (Nat → Int32) → Prop} (k_f_code : iv 0 0 f_code) (k_a_many : ∀ j, iv 0 2 (a_many j)) (k_a_lands : mLand a_lands) (k_f_land : iv 0 1 f_land) (k_f_huts : iv 0 9 f_huts) (k_f_singers : iv 0 6 f_singers) (k_a_run : ∀ j, iv 0 1000000 (a_run j)) (hpost : ∀ (r : Int32) (f_code : Int32) (f_land : Int32) (f_huts : Int32) (f_singers : Int32) (a_run : Nat → Int32), iv (-1) 1000000 r → (iv 0 0 f_code) → (iv 0 1 f_land) → (iv 0 9 f_huts) → (iv 0 6 f_singers) → (∀ j, iv 0 1000000 (a_run j)) → post r f_code f_land f_huts f_singers a_run) : q_m_best_0 f_code a_many a_lands f_land f_huts f_singers a_run x1 x2 post := by
  refine ⟨iv_in (iv_lit (l := 0) (h := 0) (by decide)) (by decide), ?_⟩
  refine ⟨fun c1 => ?_, fun c1 => ?_⟩
  · skip
    refine ⟨iv_nb (iv_lit (l := 0) (h := 0) (by decide)) (by decide), ?_⟩
    refine ⟨fun c2 => ?_, fun c2 => ?_⟩
    · skip
      exact (iv_emp (iv_ne (l := 1) (h := 0) c2 (iv_lit (l := 0) (h := 0) (by decide)) (iv_lit (l := 0) (h := 0) (by decide)) (by decide)) (by decide)).elim
    · skip
      refine ⟨fun c3 => ?_, fun c3 => ?_⟩
      · skip
        exact (iv_emp (iv_ne (l := 1) (h := 0) c3 (iv_lit (l := 0) (h := 0) (by decide)) (iv_lit (l := 0) (h := 0) (by decide)) (by decide)) (by decide)).elim
      · skip
        exact hpost _ _ _ _ _ _ (iv_w (iv_lit (l := (-1)) (h := (-1)) (by decide)) (by decide)) (iv_lit (l := 0) (h := 0) (by decide)) k_f_land k_f_huts k_f_singers k_a_run
  · skip
    refine ⟨fun c4 => ?_, fun c4 => ?_⟩
    · skip
      refine ⟨iv_nb (iv_lit (l := 0) (h := 0) (by decide)) (by decide), ?_⟩
      refine ⟨fun c5 => ?_, fun c5 => ?_⟩
      · skip
        exact (iv_emp (iv_ne (l := 1) (h := 0) c5 (iv_lit (l := 0) (h := 0) (by decide)) (iv_lit (l := 0) (h := 0) (by decide)) (by decide)) (by decide)).elim
      · skip
        refine ⟨fun c6 => ?_, fun c6 => ?_⟩
        · skip
          exact (iv_emp (iv_ne (l := 1) (h := 0) c6 (iv_lit (l := 0) (h := 0) (by decide)) (iv_lit (l := 0) (h := 0) (by decide)) (by decide)) (by decide)).elim
        · skip
          exact hpost _ _ _ _ _ _ (iv_w (iv_lit (l := (-1)) (h := (-1)) (by decide)) (by decide)) (iv_lit (l := 0) (h := 0) (by decide)) k_f_land k_f_huts k_f_singers k_a_run
    · skip
      refine ⟨iv_nb (iv_lit (l := 1) (h := 1) (by decide)) (by decide), ?_⟩
      refine ⟨fun c7 => ?_, fun c7 => ?_⟩
      · skip
        refine sp_of (a := 0) (b := 9) k_a_lands (iv_lea (l := 0) (h := 1) (r_nlt c4) (iv_leb (l := 0) (h := 2147483647) (r_nlt c1) (iv_lit (l := 0) (h := 0) (by decide)) (iv_top x1) (by decide)) (iv_sub (l := (-1)) (h := 1) (k_a_many _) (iv_lit (l := 1) (h := 1) (by decide)) (by decide)) (by decide)) (iv_lit (l := 0) (h := 0) (by decide)) (by decide +kernel) (fun r8 hr8 er8 => ?_)
        refine sp_of (a := 0) (b := 6) k_a_lands (iv_lea (l := 0) (h := 1) (r_nlt c4) (iv_leb (l := 0) (h := 2147483647) (r_nlt c1) (iv_lit (l := 0) (h := 0) (by decide)) (iv_top x1) (by decide)) (iv_sub (l := (-1)) (h := 1) (k_a_many _) (iv_lit (l := 1) (h := 1) (by decide)) (by decide)) (by decide)) (iv_lit (l := 1) (h := 1) (by decide)) (by decide +kernel) (fun r9 hr9 er9 => ?_)
        refine ⟨fun c10 => ?_, fun c10 => ?_⟩
        · skip
          exact s_m_best_25 (iv_lit (l := 0) (h := 0) (by decide)) k_a_many k_a_lands (iv_lea (l := 0) (h := 1) (r_nlt c4) (iv_leb (l := 0) (h := 2147483647) (r_nlt c1) (iv_lit (l := 0) (h := 0) (by decide)) (iv_top x1) (by decide)) (iv_sub (l := (-1)) (h := 1) (k_a_many _) (iv_lit (l := 1) (h := 1) (by decide)) (by decide)) (by decide)) hr8 hr9 k_a_run (iv_w (iv_lit (l := (-1)) (h := (-1)) (by decide)) (by decide)) (iv_w (iv_lit (l := 1000000) (h := 1000000) (by decide)) (by decide)) (iv_w (iv_lit (l := 0) (h := 0) (by decide)) (by decide)) hpost
        · skip
          exact (iv_emp (iv_eqa (l := 1) (h := 0) c10 (iv_lit (l := 1) (h := 1) (by decide)) (iv_lit (l := 0) (h := 0) (by decide)) (by decide)) (by decide)).elim
      · skip
        exact (iv_emp (iv_eqa (l := 1) (h := 0) c7 (iv_lit (l := 1) (h := 1) (by decide)) (iv_lit (l := 0) (h := 0) (by decide)) (by decide)) (by decide)).elim
-- m_goesDown
set_option maxRecDepth 20000 in
theorem s_m_goesDown_132 {a_lands : Nat → Int32} {f_land : Int32} {a_routes : Nat → Int32} {a_longest : Nat → Int32} {a_steep : Nat → Int32} {x1 : Int32} {x2 : Int32} {y0 : Int32} {y1 : Int32} {post : (Nat → Int32) → (Nat → Int32) → (Nat → Int32) → Prop} (k_a_lands : mLand a_lands) (k_f_land : iv 0 1 f_land) (hx1 : iv 0 8 x1) (hx2 : iv 0 8 x2) (hy0 : iv 0 8 y0) (hpost : ∀ (a_routes : Nat → Int32) (a_longest : Nat → Int32) (a_steep : Nat → Int32), post a_routes a_longest a_steep) : q_m_goesDown_132 a_lands f_land a_routes a_longest a_steep x1 x2 y0 y1 post := by
  refine ⟨iv_in hy0 (by decide), ?_⟩
  intro a1 ea1
  refine ⟨iv_in hx2 (by decide), ?_⟩
  refine ⟨iv_in hx1 (by decide), ?_⟩
  intro w2 ew2
  refine ⟨iv_in hx2 (by decide), ?_⟩
  intro a3 ea3
  exact hpost _ _ _
set_option maxRecDepth 20000 in
theorem s_m_goesDown_89 {a_lands : Nat → Int32} {f_land : Int32} {a_routes : Nat → Int32} {a_longest : Nat → Int32} {a_steep : Nat → Int32} {x1 : Int32} {x2 : Int32} {y0 : Int32} {y1 : Int32} {post : (Nat → Int32) → (Nat → Int32) → (Nat → Int32) → Prop} (k_a_lands : mLand a_lands) (k_f_land : iv 0 1 f_land) (hx1 : iv 0 8 x1) (hx2 : iv 0 8 x2) (hy0 : iv 0 8 y0) (hpost : ∀ (a_routes : Nat → Int32) (a_longest : Nat → Int32) (a_steep : Nat → Int32), post a_routes a_longest a_steep) : q_m_goesDown_89 a_lands f_land a_routes a_longest a_steep x1 x2 y0 y1 post := by
  refine ⟨iv_in hy0 (by decide), ?_⟩
  intro a1 ea1
  refine ⟨iv_in hx2 (by decide), ?_⟩
  refine ⟨fun c2 => ?_, fun c2 => ?_⟩
  · skip
    refine ⟨iv_in hx2 (by decide), ?_⟩
    refine ⟨iv_in hx1 (by decide), ?_⟩
    refine ⟨fun c3 => ?_, fun c3 => ?_⟩
    · skip
      exact s_m_goesDown_132 k_a_lands k_f_land hx1 hx2 hx2 hpost
    · skip
      exact s_m_goesDown_132 k_a_lands k_f_land hx1 hx2 hx2 hpost
  · skip
    refine ⟨iv_in hx1 (by decide), ?_⟩
    exact s_m_goesDown_132 k_a_lands k_f_land hx1 hx2 hx2 hpost
set_option maxRecDepth 20000 in
theorem s_m_goesDown_0 {a_lands : Nat → Int32} {f_land : Int32} {a_routes : Nat → Int32} {a_longest : Nat → Int32} {a_steep : Nat → Int32} {x1 : Int32} {x2 : Int32} {post : (Nat → Int32) → (Nat → Int32) → (Nat → Int32) → Prop} (k_a_lands : mLand a_lands) (k_f_land : iv 0 1 f_land) (hx1 : iv 0 8 x1) (hx2 : iv 0 8 x2) (hpost : ∀ (a_routes : Nat → Int32) (a_longest : Nat → Int32) (a_steep : Nat → Int32), post a_routes a_longest a_steep) : q_m_goesDown_0 a_lands f_land a_routes a_longest a_steep x1 x2 post := by
  refine sp_of (a := 0) (b := 9) k_a_lands k_f_land (iv_add (l := 51) (h := 131) (iv_add (l := 51) (h := 123) (iv_lit (l := 51) (h := 51) (by decide)) (iv_mul (l := 0) (h := 72) (iv_lit (l := 9) (h := 9) (by decide)) hx1 (by decide)) (by decide)) hx2 (by decide)) (by decide +kernel) (fun r1 hr1 er1 => ?_)
  refine ⟨fun c2 => ?_, fun c2 => ?_⟩
  · skip
    exact hpost _ _ _
  · skip
    refine sp_of (a := 0) (b := 99) k_a_lands k_f_land (iv_add (l := 7) (h := 15) (iv_lit (l := 7) (h := 7) (by decide)) hx2 (by decide)) (by decide +kernel) (fun r3 hr3 er3 => ?_)
    refine sp_of (a := 0) (b := 99) k_a_lands k_f_land (iv_add (l := 7) (h := 15) (iv_lit (l := 7) (h := 7) (by decide)) hx1 (by decide)) (by decide +kernel) (fun r4 hr4 er4 => ?_)
    refine ⟨fun c5 => ?_, fun c5 => ?_⟩
    · skip
      exact hpost _ _ _
    · skip
      refine sp_of (a := 0) (b := 511) k_a_lands k_f_land (iv_lit (l := 3) (h := 3) (by decide)) (by decide +kernel) (fun r6 hr6 er6 => ?_)
      refine ⟨fun c7 => ?_, fun c7 => ?_⟩
      · skip
        refine ⟨iv_nb (iv_lit (l := 0) (h := 0) (by decide)) (by decide), ?_⟩
        refine ⟨fun c8 => ?_, fun c8 => ?_⟩
        · skip
          exact (iv_emp (iv_ne (l := 1) (h := 0) c8 (iv_lit (l := 0) (h := 0) (by decide)) (iv_lit (l := 0) (h := 0) (by decide)) (by decide)) (by decide)).elim
        · skip
          refine ⟨iv_in hx1 (by decide), ?_⟩
          refine ⟨fun c9 => ?_, fun c9 => ?_⟩
          · skip
            refine ⟨iv_in hx1 (by decide), ?_⟩
            refine sp_of (a := 0) (b := 99) k_a_lands k_f_land (iv_add (l := 7) (h := 15) (iv_lit (l := 7) (h := 7) (by decide)) hx1 (by decide)) (by decide +kernel) (fun r10 hr10 er10 => ?_)
            refine sp_of (a := 0) (b := 99) k_a_lands k_f_land (iv_add (l := 7) (h := 15) (iv_lit (l := 7) (h := 7) (by decide)) hx2 (by decide)) (by decide +kernel) (fun r11 hr11 er11 => ?_)
            refine ⟨fun c12 => ?_, fun c12 => ?_⟩
            · skip
              refine ⟨iv_in hx2 (by decide), ?_⟩
              refine ⟨fun c13 => ?_, fun c13 => ?_⟩
              · skip
                refine ⟨iv_in hx2 (by decide), ?_⟩
                refine ⟨fun c14 => ?_, fun c14 => ?_⟩
                · skip
                  exact s_m_goesDown_89 k_a_lands k_f_land hx1 hx2 hx2 hpost
                · skip
                  exact s_m_goesDown_89 k_a_lands k_f_land hx1 hx2 hx2 hpost
              · skip
                exact s_m_goesDown_89 k_a_lands k_f_land hx1 hx2 hx2 hpost
            · skip
              refine ⟨iv_in hx2 (by decide), ?_⟩
              refine ⟨fun c15 => ?_, fun c15 => ?_⟩
              · skip
                refine ⟨iv_in hx2 (by decide), ?_⟩
                refine ⟨fun c16 => ?_, fun c16 => ?_⟩
                · skip
                  exact s_m_goesDown_89 k_a_lands k_f_land hx1 hx2 hx2 hpost
                · skip
                  exact s_m_goesDown_89 k_a_lands k_f_land hx1 hx2 hx2 hpost
              · skip
                exact s_m_goesDown_89 k_a_lands k_f_land hx1 hx2 hx2 hpost
          · skip
            exact hpost _ _ _
      · skip
        refine ⟨iv_nb (iv_lit (l := 1) (h := 1) (by decide)) (by decide), ?_⟩
        refine ⟨fun c17 => ?_, fun c17 => ?_⟩
        · skip
          exact hpost _ _ _
        · skip
          exact (iv_emp (iv_eqa (l := 1) (h := 0) c17 (iv_lit (l := 1) (h := 1) (by decide)) (iv_lit (l := 0) (h := 0) (by decide)) (by decide)) (by decide)).elim
-- m_findRoutes
theorem sp_nextDown {f laid : Nat → Int32} {ld : Int32} {H : Nat} {post : Int32 → Prop} (hL : mLand f) (hl : iv 0 1 ld) (hH : H ≤ 9) (hex : ∃ h, h < H ∧ laid h = 0) (hp : ∀ a, a < H → laid a = 0 → post (nI a)) : q_m_nextDown_0 f ld (nI H) laid post := by
  intro P hP
  have loop : ∀ (n j : Nat) (x : Int32), n + j = H → ((x = -1 ∧ ∀ h, h < j → ¬ laid h = 0) ∨ ∃ a, a < j ∧ x = nI a ∧ laid a = 0) → P x (nI j) := by
    intro n
    induction n with
    | zero =>
      intro j x hj hx
      apply hP
      refine ⟨fun _ => ?_, fun h => absurd (nI_le (by omega) (by omega)) h⟩
      rcases hx with ⟨-, hno⟩ | ⟨a, ha, rfl, h0⟩
      · obtain ⟨h, hh, e⟩ := hex
        exact absurd e (hno h (by omega))
      · exact hp a (by omega) h0
    | succ n ih =>
      intro j x hj hx
      apply hP
      refine ⟨fun h => absurd h (nI_ge (by omega) (by omega)), fun _ => ⟨vp_in_nI (by omega) (by omega), ?_⟩⟩
      rw [nI_clamp (by omega)]
      have k43 : ¬ laid j = 0 ∨ ¬ x = -1 → q_m_nextDown_43 P f ld (nI H) laid x (nI j) post := by
        intro hh v1 e1
        rw [e1, nI_1]
        refine ih (j + 1) x (by omega) ?_
        rcases hx with ⟨hx1, hno⟩ | ⟨a, ha, hxa, h0⟩
        · left
          refine ⟨hx1, fun h hlt => ?_⟩
          by_cases he : h = j
          · subst he
            rcases hh with hh | hh
            · exact hh
            · exact absurd hx1 hh
          · exact hno h (by omega)
        · right
          exact ⟨a, by omega, hxa, h0⟩
      have k39 : laid j = 0 → q_m_nextDown_39 P f ld (nI H) laid (nI j) post := by
        intro h0 v1 e1
        rw [e1, nI_1]
        exact ih (j + 1) (nI j) (by omega) (Or.inr ⟨j, by omega, rfl, h0⟩)
      refine ⟨fun h => k43 (Or.inl h), fun h => ⟨fun _ => k39 h, fun hx1 => ?_⟩⟩
      rcases hx with ⟨hx2, -⟩ | ⟨a, ha, rfl, h0⟩
      · exact absurd hx2 hx1
      · refine sp_height hL hl (iv_ofN (by omega) (by omega) (by omega)) (fun r1 => sp_height hL hl (iv_ofN (by omega) (by omega) (by omega)) (fun r2 => ?_))
        exact ⟨fun _ => k43 (Or.inr hx1), fun _ => k39 h⟩
  exact loop H 0 (-1) (by omega) (Or.inl ⟨rfl, fun h hh => absurd hh (by omega)⟩)
theorem s_m_findRoutes_0 {a_lands : Nat → Int32} {f_land : Int32} {f_huts : Int32} {a_routes : Nat → Int32} {a_longest : Nat → Int32} {a_steep : Nat → Int32} {a_laid : Nat → Int32} {x1 : Int32} {post : (Nat → Int32) → (Nat → Int32) → (Nat → Int32) → (Nat → Int32) → Prop} (k_a_lands : mLand a_lands) (k_f_land : iv 0 1 f_land) (k_f_huts : iv 0 9 f_huts) (k_a_laid : ∀ j, iv 0 1 (a_laid j)) (hpost : ∀ (a_routes : Nat → Int32) (a_longest : Nat → Int32) (a_steep : Nat → Int32) (a_laid : Nat → Int32), (∀ j, iv 0 1 (a_laid j)) → post a_routes a_longest a_steep a_laid) : q_m_findRoutes_0 a_lands f_land f_huts a_routes a_longest a_steep a_laid x1 post := by
  obtain ⟨H, rfl, -, hH, hH2⟩ := iv_nI k_f_huts (by omega)
  have hH9 : H ≤ 9 := by omega
  have e0 : vp_nar .boolean 0 = 0 := rfl
  have e1 : vp_nar .boolean 1 = 1 := rfl
  have second : ∀ (rt lg st laid : Nat → Int32), (∀ j, iv 0 1 (laid j)) → (∀ h, h < H → laid h = 0) → q_m_findRoutes_63 a_lands f_land (nI H) rt lg st laid 0 post := by
    intro rt lg st laid hl01 hl0 P hP
    have loop : ∀ (n j : Nat) (rt lg st laid : Nat → Int32), n + j = H → (∀ j, iv 0 1 (laid j)) → zc laid H = n → P (nI j) rt lg st laid := by
      intro n
      induction n with
      | zero =>
        intro j rt lg st laid hj h01 hz
        apply hP
        exact ⟨fun _ => hpost _ _ _ _ h01, fun h => absurd (nI_le (by omega) (by omega)) h⟩
      | succ n ih =>
        intro j rt lg st laid hj h01 hz
        apply hP
        refine ⟨fun h => absurd h (nI_ge (by omega) (by omega)), fun _ => ?_⟩
        refine sp_nextDown k_a_lands k_f_land hH9 (zc_pos (by omega)) (fun a ha h0 => ?_)
        refine ⟨vp_in_nI (by omega) (by omega), fun laid1 el => ?_⟩
        rw [nI_clamp (by omega), e1] at el
        intro P2 hP2
        have hz1 : zc laid1 H = n := by
          have := zc_upd (v := 1) h0 (by decide) ha
          rw [el]; omega
        have h01' : ∀ j, iv 0 1 (laid1 j) := iv_upd el h01 (iv_lit (by decide))
        have loop2 : ∀ (m b : Nat) (rt lg st : Nat → Int32), m + b = H → P2 (nI b) rt lg st := by
          intro m
          induction m with
          | zero =>
            intro b rt lg st hb
            apply hP2
            refine ⟨fun _ v1 ev => ?_, fun h => absurd (nI_le (by omega) (by omega)) h⟩
            rw [ev, nI_1]
            exact ih (j + 1) rt lg st laid1 (by omega) h01' hz1
          | succ m ih2 =>
            intro b rt lg st hb
            apply hP2
            refine ⟨fun h => absurd h (nI_ge (by omega) (by omega)), fun _ => ?_⟩
            refine s_m_goesDown_0 k_a_lands k_f_land (iv_ofN (by omega) (by omega) (by omega)) (iv_ofN (by omega) (by omega) (by omega)) (fun rt1 lg1 st1 v2 ev => ?_)
            rw [ev, nI_1]
            exact ih2 (b + 1) rt1 lg1 st1 (by omega)
        exact loop2 H 0 rt lg st (by omega)
    exact loop H 0 rt lg st laid (by omega) hl01 (zc_all hl0)
  intro P hP
  have loop : ∀ (n j : Nat) (rt lg st laid : Nat → Int32), n + j = H → (∀ j, iv 0 1 (laid j)) → (∀ h, h < j → laid h = 0) → P (nI j) rt lg st laid := by
    intro n
    induction n with
    | zero =>
      intro j rt lg st laid hj h01 h0
      apply hP
      exact ⟨fun _ => second rt lg st laid h01 (fun h hh => h0 h (by omega)), fun h => absurd (nI_le (by omega) (by omega)) h⟩
    | succ n ih =>
      intro j rt lg st laid hj h01 h0
      apply hP
      have k33 : ∀ y : Int32, q_m_findRoutes_33 P a_lands f_land (nI H) rt lg st laid x1 (nI j) (nI j) y post := by
        intro y
        refine ⟨vp_in_nI (by omega) (by omega), fun rt1 _ => ⟨vp_in_nI (by omega) (by omega), fun lg1 _ => ⟨vp_in_nI (by omega) (by omega), fun st1 _ => ⟨vp_in_nI (by omega) (by omega), fun laid1 el v1 ev => ?_⟩⟩⟩⟩
        rw [ev, nI_1]
        rw [nI_clamp (by omega), e0] at el
        refine ih (j + 1) rt1 lg1 st1 laid1 (by omega) (iv_upd el h01 (iv_lit (by decide))) (fun h hh => ?_)
        rw [el]
        unfold upd
        split
        · rfl
        · exact h0 h (by omega)
      refine ⟨fun h => absurd h (nI_ge (by omega) (by omega)), fun _ => ⟨fun _ => k33 0, fun _ => ?_⟩⟩
      exact sp_isDam k_a_lands k_f_land ⟨fun h => absurd rfl h, fun _ => k33 1⟩ ⟨fun _ => k33 0, fun h => absurd h (by decide)⟩
  exact loop H 0 a_routes a_longest a_steep a_laid (by omega) k_a_laid (fun h hh => absurd hh (by omega))
-- m_routes
set_option maxRecDepth 20000 in
theorem s_m_routes_0 {f_code : Int32} {a_many : Nat → Int32} {a_lands : Nat → Int32} {f_land : Int32} {f_huts : Int32} {f_singers : Int32} {a_routes : Nat → Int32} {a_longest : Nat → Int32} {a_steep : Nat → Int32} {a_laid : Nat → Int32} {x1 : Int32} {x2 : Int32} {x3 : Int32} {x4 : Int32} {post : Int32 → (Int32) → (Int32) → (Int32) → (Int32) → (Nat → Int32) → (Nat → Int32) → (Nat → Int32) → (Nat → Int32) → Prop} (k_f_code : iv 0 0 f_code) (k_a_many : ∀ j, iv 0 2 (a_many j)) (k_a_lands : mLand a_lands) (k_f_land : iv 0 1 f_land) (k_f_huts : iv 0 9 f_huts) (k_f_singers : iv 0 6 f_singers) (k_a_laid : ∀ j, iv 0 1 (a_laid j)) (hpost : ∀ (r : Int32) (f_code : Int32) (f_land : Int32) (f_huts : Int32) (f_singers : Int32) (a_routes : Nat → Int32) (a_longest : Nat → Int32) (a_steep : Nat → Int32) (a_laid : Nat → Int32), (iv 0 0 f_code) → (iv 0 1 f_land) → (iv 0 9 f_huts) → (iv 0 6 f_singers) → (∀ j, iv 0 1 (a_laid j)) → post r f_code f_land f_huts f_singers a_routes a_longest a_steep a_laid) : q_m_routes_0 f_code a_many a_lands f_land f_huts f_singers a_routes a_longest a_steep a_laid x1 x2 x3 x4 post := by
  refine ⟨iv_in (iv_lit (l := 0) (h := 0) (by decide)) (by decide), ?_⟩
  refine ⟨fun c1 => ?_, fun c1 => ?_⟩
  · skip
    refine ⟨iv_nb (iv_lit (l := 0) (h := 0) (by decide)) (by decide), ?_⟩
    refine ⟨fun c2 => ?_, fun c2 => ?_⟩
    · skip
      exact (iv_emp (iv_ne (l := 1) (h := 0) c2 (iv_lit (l := 0) (h := 0) (by decide)) (iv_lit (l := 0) (h := 0) (by decide)) (by decide)) (by decide)).elim
    · skip
      refine ⟨fun c3 => ?_, fun c3 => ?_⟩
      · skip
        exact hpost _ _ _ _ _ _ _ _ _ (iv_lit (l := 0) (h := 0) (by decide)) k_f_land k_f_huts k_f_singers k_a_laid
      · skip
        exact (iv_emp (iv_ne (l := 1) (h := 0) c3 (iv_lit (l := 0) (h := 0) (by decide)) (iv_lit (l := 0) (h := 0) (by decide)) (by decide)) (by decide)).elim
  · skip
    refine ⟨fun c4 => ?_, fun c4 => ?_⟩
    · skip
      refine ⟨iv_nb (iv_lit (l := 0) (h := 0) (by decide)) (by decide), ?_⟩
      refine ⟨fun c5 => ?_, fun c5 => ?_⟩
      · skip
        exact (iv_emp (iv_ne (l := 1) (h := 0) c5 (iv_lit (l := 0) (h := 0) (by decide)) (iv_lit (l := 0) (h := 0) (by decide)) (by decide)) (by decide)).elim
      · skip
        refine ⟨fun c6 => ?_, fun c6 => ?_⟩
        · skip
          exact hpost _ _ _ _ _ _ _ _ _ (iv_lit (l := 0) (h := 0) (by decide)) k_f_land k_f_huts k_f_singers k_a_laid
        · skip
          exact (iv_emp (iv_ne (l := 1) (h := 0) c6 (iv_lit (l := 0) (h := 0) (by decide)) (iv_lit (l := 0) (h := 0) (by decide)) (by decide)) (by decide)).elim
    · skip
      refine ⟨iv_nb (iv_lit (l := 1) (h := 1) (by decide)) (by decide), ?_⟩
      refine ⟨fun c7 => ?_, fun c7 => ?_⟩
      · skip
        refine sp_of (a := 0) (b := 9) k_a_lands (iv_lea (l := 0) (h := 1) (r_nlt c4) (iv_leb (l := 0) (h := 2147483647) (r_nlt c1) (iv_lit (l := 0) (h := 0) (by decide)) (iv_top x1) (by decide)) (iv_sub (l := (-1)) (h := 1) (k_a_many _) (iv_lit (l := 1) (h := 1) (by decide)) (by decide)) (by decide)) (iv_lit (l := 0) (h := 0) (by decide)) (by decide +kernel) (fun r8 hr8 er8 => ?_)
        refine sp_of (a := 0) (b := 6) k_a_lands (iv_lea (l := 0) (h := 1) (r_nlt c4) (iv_leb (l := 0) (h := 2147483647) (r_nlt c1) (iv_lit (l := 0) (h := 0) (by decide)) (iv_top x1) (by decide)) (iv_sub (l := (-1)) (h := 1) (k_a_many _) (iv_lit (l := 1) (h := 1) (by decide)) (by decide)) (by decide)) (iv_lit (l := 1) (h := 1) (by decide)) (by decide +kernel) (fun r9 hr9 er9 => ?_)
        refine ⟨fun c10 => ?_, fun c10 => ?_⟩
        · skip
          exact (iv_emp (iv_eqa (l := 1) (h := 0) c10 (iv_lit (l := 1) (h := 1) (by decide)) (iv_lit (l := 0) (h := 0) (by decide)) (by decide)) (by decide)).elim
        · skip
          refine ⟨fun c11 => ?_, fun c11 => ?_⟩
          · skip
            refine ⟨iv_nb (iv_lit (l := 0) (h := 0) (by decide)) (by decide), ?_⟩
            refine ⟨fun c12 => ?_, fun c12 => ?_⟩
            · skip
              exact hpost _ _ _ _ _ _ _ _ _ (iv_lit (l := 0) (h := 0) (by decide)) (iv_lea (l := 0) (h := 1) (r_nlt c4) (iv_leb (l := 0) (h := 2147483647) (r_nlt c1) (iv_lit (l := 0) (h := 0) (by decide)) (iv_top x1) (by decide)) (iv_sub (l := (-1)) (h := 1) (k_a_many _) (iv_lit (l := 1) (h := 1) (by decide)) (by decide)) (by decide)) hr8 hr9 k_a_laid
            · skip
              exact (iv_emp (iv_ne (l := 1) (h := 0) c12 (iv_lit (l := 0) (h := 0) (by decide)) (iv_lit (l := 0) (h := 0) (by decide)) (by decide)) (by decide)).elim
          · skip
            refine ⟨fun c13 => ?_, fun c13 => ?_⟩
            · skip
              refine ⟨iv_nb (iv_lit (l := 0) (h := 0) (by decide)) (by decide), ?_⟩
              refine ⟨fun c14 => ?_, fun c14 => ?_⟩
              · skip
                exact hpost _ _ _ _ _ _ _ _ _ (iv_lit (l := 0) (h := 0) (by decide)) (iv_lea (l := 0) (h := 1) (r_nlt c4) (iv_leb (l := 0) (h := 2147483647) (r_nlt c1) (iv_lit (l := 0) (h := 0) (by decide)) (iv_top x1) (by decide)) (iv_sub (l := (-1)) (h := 1) (k_a_many _) (iv_lit (l := 1) (h := 1) (by decide)) (by decide)) (by decide)) hr8 hr9 k_a_laid
              · skip
                exact (iv_emp (iv_ne (l := 1) (h := 0) c14 (iv_lit (l := 0) (h := 0) (by decide)) (iv_lit (l := 0) (h := 0) (by decide)) (by decide)) (by decide)).elim
            · skip
              refine ⟨iv_nb (iv_lit (l := 1) (h := 1) (by decide)) (by decide), ?_⟩
              refine ⟨fun c15 => ?_, fun c15 => ?_⟩
              · skip
                exact (iv_emp (iv_eqa (l := 1) (h := 0) c15 (iv_lit (l := 1) (h := 1) (by decide)) (iv_lit (l := 0) (h := 0) (by decide)) (by decide)) (by decide)).elim
              · skip
                refine ⟨fun c16 => ?_, fun c16 => ?_⟩
                · skip
                  refine ⟨iv_nb (iv_lit (l := 0) (h := 0) (by decide)) (by decide), ?_⟩
                  refine ⟨fun c17 => ?_, fun c17 => ?_⟩
                  · skip
                    exact hpost _ _ _ _ _ _ _ _ _ (iv_lit (l := 0) (h := 0) (by decide)) (iv_lea (l := 0) (h := 1) (r_nlt c4) (iv_leb (l := 0) (h := 2147483647) (r_nlt c1) (iv_lit (l := 0) (h := 0) (by decide)) (iv_top x1) (by decide)) (iv_sub (l := (-1)) (h := 1) (k_a_many _) (iv_lit (l := 1) (h := 1) (by decide)) (by decide)) (by decide)) hr8 hr9 k_a_laid
                  · skip
                    exact (iv_emp (iv_ne (l := 1) (h := 0) c17 (iv_lit (l := 0) (h := 0) (by decide)) (iv_lit (l := 0) (h := 0) (by decide)) (by decide)) (by decide)).elim
                · skip
                  refine ⟨fun c18 => ?_, fun c18 => ?_⟩
                  · skip
                    refine ⟨iv_nb (iv_lit (l := 0) (h := 0) (by decide)) (by decide), ?_⟩
                    refine ⟨fun c19 => ?_, fun c19 => ?_⟩
                    · skip
                      exact hpost _ _ _ _ _ _ _ _ _ (iv_lit (l := 0) (h := 0) (by decide)) (iv_lea (l := 0) (h := 1) (r_nlt c4) (iv_leb (l := 0) (h := 2147483647) (r_nlt c1) (iv_lit (l := 0) (h := 0) (by decide)) (iv_top x1) (by decide)) (iv_sub (l := (-1)) (h := 1) (k_a_many _) (iv_lit (l := 1) (h := 1) (by decide)) (by decide)) (by decide)) hr8 hr9 k_a_laid
                    · skip
                      exact (iv_emp (iv_ne (l := 1) (h := 0) c19 (iv_lit (l := 0) (h := 0) (by decide)) (iv_lit (l := 0) (h := 0) (by decide)) (by decide)) (by decide)).elim
                  · skip
                    refine ⟨iv_nb (iv_lit (l := 1) (h := 1) (by decide)) (by decide), ?_⟩
                    refine ⟨fun c20 => ?_, fun c20 => ?_⟩
                    · skip
                      exact (iv_emp (iv_eqa (l := 1) (h := 0) c20 (iv_lit (l := 1) (h := 1) (by decide)) (iv_lit (l := 0) (h := 0) (by decide)) (by decide)) (by decide)).elim
                    · skip
                      refine ⟨fun c21 => ?_, fun c21 => ?_⟩
                      · skip
                        exact hpost _ _ _ _ _ _ _ _ _ (iv_lit (l := 0) (h := 0) (by decide)) (iv_lea (l := 0) (h := 1) (r_nlt c4) (iv_leb (l := 0) (h := 2147483647) (r_nlt c1) (iv_lit (l := 0) (h := 0) (by decide)) (iv_top x1) (by decide)) (iv_sub (l := (-1)) (h := 1) (k_a_many _) (iv_lit (l := 1) (h := 1) (by decide)) (by decide)) (by decide)) hr8 hr9 k_a_laid
                      · skip
                        refine ⟨fun c22 => ?_, fun c22 => ?_⟩
                        · skip
                          refine ⟨fun c23 => ?_, fun c23 => ?_⟩
                          · skip
                            exact (iv_emp (iv_ne (l := 1) (h := 0) c23 (iv_lit (l := 0) (h := 0) (by decide)) (iv_lit (l := 0) (h := 0) (by decide)) (by decide)) (by decide)).elim
                          · skip
                            exact hpost _ _ _ _ _ _ _ _ _ (iv_lit (l := 0) (h := 0) (by decide)) (iv_lea (l := 0) (h := 1) (r_nlt c4) (iv_leb (l := 0) (h := 2147483647) (r_nlt c1) (iv_lit (l := 0) (h := 0) (by decide)) (iv_top x1) (by decide)) (iv_sub (l := (-1)) (h := 1) (k_a_many _) (iv_lit (l := 1) (h := 1) (by decide)) (by decide)) (by decide)) hr8 hr9 k_a_laid
                        · skip
                          refine ⟨fun c24 => ?_, fun c24 => ?_⟩
                          · skip
                            refine ⟨fun c25 => ?_, fun c25 => ?_⟩
                            · skip
                              exact (iv_emp (iv_ne (l := 1) (h := 0) c25 (iv_lit (l := 0) (h := 0) (by decide)) (iv_lit (l := 0) (h := 0) (by decide)) (by decide)) (by decide)).elim
                            · skip
                              exact hpost _ _ _ _ _ _ _ _ _ (iv_lit (l := 0) (h := 0) (by decide)) (iv_lea (l := 0) (h := 1) (r_nlt c4) (iv_leb (l := 0) (h := 2147483647) (r_nlt c1) (iv_lit (l := 0) (h := 0) (by decide)) (iv_top x1) (by decide)) (iv_sub (l := (-1)) (h := 1) (k_a_many _) (iv_lit (l := 1) (h := 1) (by decide)) (by decide)) (by decide)) hr8 hr9 k_a_laid
                          · skip
                            refine ⟨fun c26 => ?_, fun c26 => ?_⟩
                            · skip
                              refine s_m_findRoutes_0 k_a_lands (iv_lea (l := 0) (h := 1) (r_nlt c4) (iv_leb (l := 0) (h := 2147483647) (r_nlt c1) (iv_lit (l := 0) (h := 0) (by decide)) (iv_top x1) (by decide)) (iv_sub (l := (-1)) (h := 1) (k_a_many _) (iv_lit (l := 1) (h := 1) (by decide)) (by decide)) (by decide)) hr8 k_a_laid (fun o27 o28 o29 o30 k_o30 => ?_)
                              refine ⟨fun c31 => ?_, fun c31 => ?_⟩
                              · skip
                                refine ⟨iv_in (iv_lea (l := 0) (h := 8) (r_nlt c18) (iv_leb (l := 0) (h := 2147483647) (r_nlt c16) (iv_lit (l := 0) (h := 0) (by decide)) (iv_top x3) (by decide)) (iv_leb (l := 0) (h := 8) (r_nlt c13) (iv_leb (l := 0) (h := 2147483647) (r_nlt c11) (iv_lit (l := 0) (h := 0) (by decide)) (iv_top x2) (by decide)) (iv_sub (l := (-1)) (h := 8) hr8 (iv_lit (l := 1) (h := 1) (by decide)) (by decide)) (by decide)) (by decide)) (by decide), ?_⟩
                                refine ⟨fun c32 => ?_, fun c32 => ?_⟩
                                · skip
                                  refine ⟨fun c33 => ?_, fun c33 => ?_⟩
                                  · skip
                                    refine ⟨iv_in (iv_lea (l := 0) (h := 8) (r_nlt c18) (iv_leb (l := 0) (h := 2147483647) (r_nlt c16) (iv_lit (l := 0) (h := 0) (by decide)) (iv_top x3) (by decide)) (iv_leb (l := 0) (h := 8) (r_nlt c13) (iv_leb (l := 0) (h := 2147483647) (r_nlt c11) (iv_lit (l := 0) (h := 0) (by decide)) (iv_top x2) (by decide)) (iv_sub (l := (-1)) (h := 8) hr8 (iv_lit (l := 1) (h := 1) (by decide)) (by decide)) (by decide)) (by decide)) (by decide), ?_⟩
                                    exact hpost _ _ _ _ _ _ _ _ _ (iv_lit (l := 0) (h := 0) (by decide)) (iv_lea (l := 0) (h := 1) (r_nlt c4) (iv_leb (l := 0) (h := 2147483647) (r_nlt c1) (iv_lit (l := 0) (h := 0) (by decide)) (iv_top x1) (by decide)) (iv_sub (l := (-1)) (h := 1) (k_a_many _) (iv_lit (l := 1) (h := 1) (by decide)) (by decide)) (by decide)) hr8 hr9 k_o30
                                  · skip
                                    refine ⟨iv_in (iv_lea (l := 0) (h := 8) (r_nlt c18) (iv_leb (l := 0) (h := 2147483647) (r_nlt c16) (iv_lit (l := 0) (h := 0) (by decide)) (iv_top x3) (by decide)) (iv_leb (l := 0) (h := 8) (r_nlt c13) (iv_leb (l := 0) (h := 2147483647) (r_nlt c11) (iv_lit (l := 0) (h := 0) (by decide)) (iv_top x2) (by decide)) (iv_sub (l := (-1)) (h := 8) hr8 (iv_lit (l := 1) (h := 1) (by decide)) (by decide)) (by decide)) (by decide)) (by decide), ?_⟩
                                    exact hpost _ _ _ _ _ _ _ _ _ (iv_lit (l := 0) (h := 0) (by decide)) (iv_lea (l := 0) (h := 1) (r_nlt c4) (iv_leb (l := 0) (h := 2147483647) (r_nlt c1) (iv_lit (l := 0) (h := 0) (by decide)) (iv_top x1) (by decide)) (iv_sub (l := (-1)) (h := 1) (k_a_many _) (iv_lit (l := 1) (h := 1) (by decide)) (by decide)) (by decide)) hr8 hr9 k_o30
                                · skip
                                  exact hpost _ _ _ _ _ _ _ _ _ (iv_lit (l := 0) (h := 0) (by decide)) (iv_lea (l := 0) (h := 1) (r_nlt c4) (iv_leb (l := 0) (h := 2147483647) (r_nlt c1) (iv_lit (l := 0) (h := 0) (by decide)) (iv_top x1) (by decide)) (iv_sub (l := (-1)) (h := 1) (k_a_many _) (iv_lit (l := 1) (h := 1) (by decide)) (by decide)) (by decide)) hr8 hr9 k_o30
                              · skip
                                refine ⟨iv_in (iv_lea (l := 0) (h := 8) (r_nlt c18) (iv_leb (l := 0) (h := 2147483647) (r_nlt c16) (iv_lit (l := 0) (h := 0) (by decide)) (iv_top x3) (by decide)) (iv_leb (l := 0) (h := 8) (r_nlt c13) (iv_leb (l := 0) (h := 2147483647) (r_nlt c11) (iv_lit (l := 0) (h := 0) (by decide)) (iv_top x2) (by decide)) (iv_sub (l := (-1)) (h := 8) hr8 (iv_lit (l := 1) (h := 1) (by decide)) (by decide)) (by decide)) (by decide)) (by decide), ?_⟩
                                exact hpost _ _ _ _ _ _ _ _ _ (iv_lit (l := 0) (h := 0) (by decide)) (iv_lea (l := 0) (h := 1) (r_nlt c4) (iv_leb (l := 0) (h := 2147483647) (r_nlt c1) (iv_lit (l := 0) (h := 0) (by decide)) (iv_top x1) (by decide)) (iv_sub (l := (-1)) (h := 1) (k_a_many _) (iv_lit (l := 1) (h := 1) (by decide)) (by decide)) (by decide)) hr8 hr9 k_o30
                            · skip
                              exact (iv_emp (iv_eqa (l := 1) (h := 0) c26 (iv_lit (l := 1) (h := 1) (by decide)) (iv_lit (l := 0) (h := 0) (by decide)) (by decide)) (by decide)).elim
      · skip
        exact (iv_emp (iv_eqa (l := 1) (h := 0) c7 (iv_lit (l := 1) (h := 1) (by decide)) (iv_lit (l := 0) (h := 0) (by decide)) (by decide)) (by decide)).elim
-- m_mutesOf
set_option maxRecDepth 20000 in
theorem s_m_mutesOf_0 {a_lands : Nat → Int32} {f_land : Int32} {f_huts : Int32} {a_run : Nat → Int32} {x1 : Int32} {x2 : Int32} {post : Int32 → (Nat → Int32) → Prop} (k_a_lands : mLand a_lands) (k_f_land : iv 0 1 f_land) (k_f_huts : iv 0 9 f_huts) (k_a_run : ∀ j, iv 0 1000000 (a_run j)) (hx1 : iv 0 8 x1) (hx2 : iv 0 8 x2) (hpost : ∀ (r : Int32) (a_run : Nat → Int32), (∀ j, iv 0 1000000 (a_run j)) → post r a_run) : q_m_mutesOf_0 a_lands f_land f_huts a_run x1 x2 post := by
  refine s_m_findRun_0 k_a_lands k_f_land k_f_huts k_a_run hx1 (iv_w (iv_lit (l := 0) (h := 0) (by decide)) (by decide)) (fun o1 k_o1 => ?_)
  refine s_m_comesBy_0 k_f_huts k_o1 (iv_w (iv_lit (l := 999999) (h := 999999) (by decide)) (by decide)) (fun r2 hr2 => ?_)
  refine s_m_findRun_0 k_a_lands k_f_land k_f_huts k_o1 hx1 (iv_w (iv_shl1 (l := 1) (h := 256) (iv_lit (l := 1) (h := 1) (by decide)) hx2 (by decide)) (by decide)) (fun o3 k_o3 => ?_)
  refine s_m_comesBy_0 k_f_huts k_o3 (iv_w (iv_lit (l := 999999) (h := 999999) (by decide)) (by decide)) (fun r4 hr4 => ?_)
  refine s_m_ones_0 (iv_w (iv_andl (l := 0) (h := 511) (iv_andl (l := 0) (h := 511) (iv_andl (l := 0) (h := 511) hr2 (by decide)) (by decide)) (by decide)) (by decide)) (fun r5 => ?_)
  exact hpost _ _ k_o3
