section
-- m_carry
set_option maxRecDepth 20000 in
theorem s_m_carry_136 {f_code : Int32} {a_many : Nat → Int32} {a_lands : Nat → Int32} {f_land : Int32} {f_huts : Int32} {f_singers : Int32} {a_run : Nat → Int32} {a_far : Nat → Int32} {x4 : Int32} {post : Int32 → (Int32) → (Int32) → (Int32) → (Int32) → (Nat → Int32) → (Nat → Int32) → Prop} (k_f_code : iv 0 0 f_code) (k_a_many : ∀ j, iv 0 2 (a_many j)) (k_a_lands : mLand a_lands) (k_f_land : iv 0 1 f_land) (k_f_huts : iv 0 9 f_huts) (k_f_singers : iv 0 6 f_singers) (k_a_run : ∀ j, iv 0 1000000 (a_run j)) (k_a_far : ∀ j, iv 0 1000000 (a_far j)) (hx4 : iv (-1) 8 x4) (hpost : ∀ (r : Int32) (f_code : Int32) (f_land : Int32) (f_huts : Int32) (f_singers : Int32) (a_run : Nat → Int32) (a_far : Nat → Int32), iv (-1) 1000000 r → (iv 0 0 f_code) → (iv 0 1 f_land) → (iv 0 9 f_huts) → (iv 0 6 f_singers) → (∀ j, iv 0 1000000 (a_run j)) → (∀ j, iv 0 1000000 (a_far j)) → post r f_code f_land f_huts f_singers a_run a_far) : q_m_carry_136 f_code a_many a_lands f_land f_huts f_singers a_run a_far x4 post := by
  exact hpost _ _ _ _ _ _ _ (iv_w hx4 (by decide)) k_f_code k_f_land k_f_huts k_f_singers k_a_run k_a_far
set_option maxRecDepth 20000 in
theorem s_m_carry_109 {P38 : Int32 → Int32 → Int32 → (Nat → Int32) → Prop} {f_code : Int32} {a_many : Nat → Int32} {a_lands : Nat → Int32} {f_land : Int32} {f_huts : Int32} {f_singers : Int32} {a_run : Nat → Int32} {a_far : Nat → Int32} {x2 : Int32} {x3 : Int32} {x5 : Int32} {x6 : Int32} {x7 : Int32} {y0 : Int32} {post : Int32 → (Int32) → (Int32) → (Int32) → (Int32) → (Nat → Int32) → (Nat → Int32) → Prop} (k_f_code : iv 0 0 f_code) (k_a_many : ∀ j, iv 0 2 (a_many j)) (k_a_lands : mLand a_lands) (k_f_land : iv 0 1 f_land) (k_f_huts : iv 1 9 f_huts) (k_f_singers : iv 0 6 f_singers) (k_a_run : ∀ j, iv 0 1000000 (a_run j)) (k_a_far : ∀ j, iv 0 1000000 (a_far j)) (hx2 : iv 0 5 x2) (hx5 : iv 0 1000000 x5) (hx6 : iv 0 8 x6) (hx7 : iv 0 2000000 x7) (hy0 : iv (-1) 8 y0) (m38 : Int) (hm38 : m38 ≤ x6.toInt) (hP38 : ∀ (x4 : Int32) (x5 : Int32) (x6 : Int32) (a_run : Nat → Int32), m38 < x6.toInt → iv (-1) 8 x4 → iv 0 1000000 x5 → iv 0 9 x6 → (∀ j, iv 0 1000000 (a_run j)) → P38 x4 x5 x6 a_run) (hpost : ∀ (r : Int32) (f_code : Int32) (f_land : Int32) (f_huts : Int32) (f_singers : Int32) (a_run : Nat → Int32) (a_far : Nat → Int32), iv (-1) 1000000 r → (iv 0 0 f_code) → (iv 0 1 f_land) → (iv 0 9 f_huts) → (iv 0 6 f_singers) → (∀ j, iv 0 1000000 (a_run j)) → (∀ j, iv 0 1000000 (a_far j)) → post r f_code f_land f_huts f_singers a_run a_far) : q_m_carry_109 P38 f_code a_many a_lands f_land f_huts f_singers a_run a_far x2 x3 x5 x6 x7 y0 post := by
  refine ⟨fun c1 => ?_, fun c1 => ?_⟩
  · skip
    intro w2 ew2
    have hw2 := iv_eq ew2 (iv_add (l := 1) (h := 9) hx6 (iv_lit (l := 1) (h := 1) (by decide)) (by decide))
    exact hP38 _ _ _ _ (ml_up hm38 (inc_lt ew2 hx6 (by decide))) hy0 (iv_lea (l := 0) (h := 1000000) (r_le c1) hx7 hx5 (by decide)) (iv_w hw2 (by decide)) k_a_run
  · skip
    intro w3 ew3
    have hw3 := iv_eq ew3 (iv_add (l := 1) (h := 9) hx6 (iv_lit (l := 1) (h := 1) (by decide)) (by decide))
    exact hP38 _ _ _ _ (ml_up hm38 (inc_lt ew3 hx6 (by decide))) hy0 hx5 (iv_w hw3 (by decide)) k_a_run
set_option maxRecDepth 20000 in
theorem s_m_carry_93 {P38 : Int32 → Int32 → Int32 → (Nat → Int32) → Prop} {f_code : Int32} {a_many : Nat → Int32} {a_lands : Nat → Int32} {f_land : Int32} {f_huts : Int32} {f_singers : Int32} {a_run : Nat → Int32} {a_far : Nat → Int32} {x2 : Int32} {x3 : Int32} {x4 : Int32} {x5 : Int32} {x6 : Int32} {y0 : Int32} {post : Int32 → (Int32) → (Int32) → (Int32) → (Int32) → (Nat → Int32) → (Nat → Int32) → Prop} (k_f_code : iv 0 0 f_code) (k_a_many : ∀ j, iv 0 2 (a_many j)) (k_a_lands : mLand a_lands) (k_f_land : iv 0 1 f_land) (k_f_huts : iv 1 9 f_huts) (k_f_singers : iv 0 6 f_singers) (k_a_run : ∀ j, iv 0 1000000 (a_run j)) (k_a_far : ∀ j, iv 0 1000000 (a_far j)) (hx2 : iv 0 5 x2) (hx4 : iv (-1) 8 x4) (hx5 : iv 0 1000000 x5) (hx6 : iv 0 8 x6) (hy0 : iv 0 2000000 y0) (m38 : Int) (hm38 : m38 ≤ x6.toInt) (hP38 : ∀ (x4 : Int32) (x5 : Int32) (x6 : Int32) (a_run : Nat → Int32), m38 < x6.toInt → iv (-1) 8 x4 → iv 0 1000000 x5 → iv 0 9 x6 → (∀ j, iv 0 1000000 (a_run j)) → P38 x4 x5 x6 a_run) (hpost : ∀ (r : Int32) (f_code : Int32) (f_land : Int32) (f_huts : Int32) (f_singers : Int32) (a_run : Nat → Int32) (a_far : Nat → Int32), iv (-1) 1000000 r → (iv 0 0 f_code) → (iv 0 1 f_land) → (iv 0 9 f_huts) → (iv 0 6 f_singers) → (∀ j, iv 0 1000000 (a_run j)) → (∀ j, iv 0 1000000 (a_far j)) → post r f_code f_land f_huts f_singers a_run a_far) : q_m_carry_93 P38 f_code a_many a_lands f_land f_huts f_singers a_run a_far x2 x3 x4 x5 x6 y0 post := by
  refine ⟨fun c1 => ?_, fun c1 => ?_⟩
  · skip
    exact s_m_carry_109 k_f_code k_a_many k_a_lands k_f_land k_f_huts k_f_singers k_a_run k_a_far hx2 hx5 hx6 hy0 hx4 m38 hm38 hP38 hpost
  · skip
    exact s_m_carry_109 k_f_code k_a_many k_a_lands k_f_land k_f_huts k_f_singers k_a_run k_a_far hx2 (iv_w (iv_ltb (l := 1) (h := 1000000) (r_nle c1) hy0 hx5 (by decide)) (by decide)) hx6 (iv_w (iv_lta (l := 0) (h := 999999) (r_nle c1) hy0 hx5 (by decide)) (by decide)) (iv_w hx6 (by decide)) m38 hm38 hP38 hpost
set_option maxRecDepth 20000 in
theorem s_m_carry_38 {f_code : Int32} {a_many : Nat → Int32} {a_lands : Nat → Int32} {f_land : Int32} {f_huts : Int32} {f_singers : Int32} {a_run : Nat → Int32} {a_far : Nat → Int32} {x2 : Int32} {x3 : Int32} {x4 : Int32} {x5 : Int32} {x6 : Int32} {post : Int32 → (Int32) → (Int32) → (Int32) → (Int32) → (Nat → Int32) → (Nat → Int32) → Prop} (k_f_code : iv 0 0 f_code) (k_a_many : ∀ j, iv 0 2 (a_many j)) (k_a_lands : mLand a_lands) (k_f_land : iv 0 1 f_land) (k_f_huts : iv 0 9 f_huts) (k_f_singers : iv 0 6 f_singers) (k_a_run : ∀ j, iv 0 1000000 (a_run j)) (k_a_far : ∀ j, iv 0 1000000 (a_far j)) (hx2 : iv 0 5 x2) (hx4 : iv (-1) 8 x4) (hx5 : iv 0 1000000 x5) (hx6 : iv 0 9 x6) (hpost : ∀ (r : Int32) (f_code : Int32) (f_land : Int32) (f_huts : Int32) (f_singers : Int32) (a_run : Nat → Int32) (a_far : Nat → Int32), iv (-1) 1000000 r → (iv 0 0 f_code) → (iv 0 1 f_land) → (iv 0 9 f_huts) → (iv 0 6 f_singers) → (∀ j, iv 0 1000000 (a_run j)) → (∀ j, iv 0 1000000 (a_far j)) → post r f_code f_land f_huts f_singers a_run a_far) : q_m_carry_38 f_code a_many a_lands f_land f_huts f_singers a_run a_far x2 x3 x4 x5 x6 post := by
  intro P hP
  have loop : ∀ (n : Nat) (x4 : Int32) (x5 : Int32) (x6 : Int32) (a_run : Nat → Int32), (9 - x6.toInt < (n : Int)) → (iv (-1) 8 x4) → (iv 0 1000000 x5) → (iv 0 9 x6) → (∀ j, iv 0 1000000 (a_run j)) → P x4 x5 x6 a_run := by
    intro n
    induction n with
    | zero => intro x4 x5 x6 a_run hm hx4 hx5 hx6 k_a_run; exact (ms0_up hm hx6).elim
    | succ n ih =>
      intro x4 x5 x6 a_run hm hx4 hx5 hx6 k_a_run
      apply hP
      refine ⟨fun c1 => ?_, fun c1 => ?_⟩
      · skip
        refine ⟨fun c2 => ?_, fun c2 => ?_⟩
        · skip
          exact s_m_carry_136 k_f_code k_a_many k_a_lands k_f_land k_f_huts k_f_singers k_a_run k_a_far (iv_w (iv_eqa (l := (-1)) (h := (-1)) c2 hx4 (iv_lit (l := (-1)) (h := (-1)) (by decide)) (by decide)) (by decide)) hpost
        · skip
          refine ⟨fun c3 => ?_, fun c3 => ?_⟩
          · skip
            exact hpost _ _ _ _ _ _ _ (iv_w hx5 (by decide)) k_f_code k_f_land k_f_huts k_f_singers k_a_run k_a_far
          · skip
            exact s_m_carry_136 k_f_code k_a_many k_a_lands k_f_land k_f_huts k_f_singers k_a_run k_a_far (iv_w (iv_ne (l := 0) (h := 8) c2 hx4 (iv_lit (l := (-1)) (h := (-1)) (by decide)) (by decide)) (by decide)) hpost
      · skip
        refine s_m_findRun_0 k_a_lands k_f_land (iv_w (iv_ltb (l := 1) (h := 9) (r_nle c1) hx6 k_f_huts (by decide)) (by decide)) k_a_run (iv_lta (l := 0) (h := 8) (r_nle c1) hx6 k_f_huts (by decide)) (iv_w (iv_lit (l := 0) (h := 0) (by decide)) (by decide)) (fun o4 k_o4 => ?_)
        refine sp_of (a := 0) (b := 511) k_a_lands k_f_land (iv_lit (l := 3) (h := 3) (by decide)) (by decide +kernel) (fun r5 hr5 er5 => ?_)
        refine ⟨fun c6 => ?_, fun c6 => ?_⟩
        · skip
          refine ⟨iv_nb (iv_lit (l := 0) (h := 0) (by decide)) (by decide), ?_⟩
          refine ⟨fun c7 => ?_, fun c7 => ?_⟩
          · skip
            refine sp_of (a := 0) (b := 8) k_a_lands k_f_land (iv_add (l := 25) (h := 30) (iv_lit (l := 25) (h := 25) (by decide)) hx2 (by decide)) (by decide +kernel) (fun r8 hr8 er8 => ?_)
            refine ⟨iv_in (iv_add (l := 0) (h := 80) (iv_mul (l := 0) (h := 72) (iv_lit (l := 9) (h := 9) (by decide)) hr8 (by decide)) (iv_lta (l := 0) (h := 8) (r_nle c1) hx6 k_f_huts (by decide)) (by decide)) (by decide), ?_⟩
            refine s_m_lastVillage_0 k_a_lands k_f_land (iv_ltb (l := 1) (h := 9) (r_nle c1) hx6 k_f_huts (by decide)) k_o4 (fun r9 hr9 => ?_)
            exact s_m_carry_93 k_f_code k_a_many k_a_lands k_f_land (iv_ltb (l := 1) (h := 9) (r_nle c1) hx6 k_f_huts (by decide)) k_f_singers k_o4 k_a_far hx2 hx4 hx5 (iv_lta (l := 0) (h := 8) (r_nle c1) hx6 k_f_huts (by decide)) (iv_add (l := 0) (h := 2000000) (k_a_far _) hr9 (by decide)) x6.toInt (Int.le_refl _) (fun u0 u1 u2 u3 hq g0 g1 g2 g3 => ih u0 u1 u2 u3 (ms_up hm hq) g0 g1 g2 g3) hpost
          · skip
            exact (iv_emp (iv_ne (l := 1) (h := 0) c7 (iv_lit (l := 0) (h := 0) (by decide)) (iv_lit (l := 0) (h := 0) (by decide)) (by decide)) (by decide)).elim
        · skip
          refine ⟨iv_nb (iv_lit (l := 1) (h := 1) (by decide)) (by decide), ?_⟩
          refine ⟨fun c10 => ?_, fun c10 => ?_⟩
          · skip
            exact (iv_emp (iv_eqa (l := 1) (h := 0) c10 (iv_lit (l := 1) (h := 1) (by decide)) (iv_lit (l := 0) (h := 0) (by decide)) (by decide)) (by decide)).elim
          · skip
            exact s_m_carry_93 k_f_code k_a_many k_a_lands k_f_land (iv_ltb (l := 1) (h := 9) (r_nle c1) hx6 k_f_huts (by decide)) k_f_singers k_o4 k_a_far hx2 hx4 hx5 (iv_lta (l := 0) (h := 8) (r_nle c1) hx6 k_f_huts (by decide)) (iv_w (iv_lit (l := 1000000) (h := 1000000) (by decide)) (by decide)) x6.toInt (Int.le_refl _) (fun u0 u1 u2 u3 hq g0 g1 g2 g3 => ih u0 u1 u2 u3 (ms_up hm hq) g0 g1 g2 g3) hpost
  exact loop _ _ _ _ _ (ms_init_up _ _) hx4 hx5 hx6 k_a_run
set_option maxRecDepth 20000 in
theorem s_m_carry_0 {f_code : Int32} {a_many : Nat → Int32} {a_lands : Nat → Int32} {f_land : Int32} {f_huts : Int32} {f_singers : Int32} {a_run : Nat → Int32} {a_far : Nat → Int32} {x1 : Int32} {x2 : Int32} {x3 : Int32} {post : Int32 → (Int32) → (Int32) → (Int32) → (Int32) → (Nat → Int32) → (Nat → Int32) → Prop} (k_f_code : iv 0 0 f_code) (k_a_many : ∀ j, iv 0 2 (a_many j)) (k_a_lands : mLand a_lands) (k_f_land : iv 0 1 f_land) (k_f_huts : iv 0 9 f_huts) (k_f_singers : iv 0 6 f_singers) (k_a_run : ∀ j, iv 0 1000000 (a_run j)) (k_a_far : ∀ j, iv 0 1000000 (a_far j)) (hpost : ∀ (r : Int32) (f_code : Int32) (f_land : Int32) (f_huts : Int32) (f_singers : Int32) (a_run : Nat → Int32) (a_far : Nat → Int32), iv (-1) 1000000 r → (iv 0 0 f_code) → (iv 0 1 f_land) → (iv 0 9 f_huts) → (iv 0 6 f_singers) → (∀ j, iv 0 1000000 (a_run j)) → (∀ j, iv 0 1000000 (a_far j)) → post r f_code f_land f_huts f_singers a_run a_far) : q_m_carry_0 f_code a_many a_lands f_land f_huts f_singers a_run a_far x1 x2 x3 post := by
  refine ⟨iv_in (iv_lit (l := 0) (h := 0) (by decide)) (by decide), ?_⟩
  refine ⟨fun c1 => ?_, fun c1 => ?_⟩
  · skip
    refine ⟨iv_nb (iv_lit (l := 0) (h := 0) (by decide)) (by decide), ?_⟩
    refine ⟨fun c2 => ?_, fun c2 => ?_⟩
    · skip
      exact (iv_emp (iv_ne (l := 1) (h := 0) c2 (iv_lit (l := 0) (h := 0) (by decide)) (iv_lit (l := 0) (h := 0) (by decide)) (by decide)) (by decide)).elim
    · skip
      refine ⟨fun c3 => ?_, fun c3 => ?_⟩
      · skip
        exact hpost _ _ _ _ _ _ _ (iv_w (iv_lit (l := (-1)) (h := (-1)) (by decide)) (by decide)) (iv_lit (l := 0) (h := 0) (by decide)) k_f_land k_f_huts k_f_singers k_a_run k_a_far
      · skip
        exact (iv_emp (iv_ne (l := 1) (h := 0) c3 (iv_lit (l := 0) (h := 0) (by decide)) (iv_lit (l := 0) (h := 0) (by decide)) (by decide)) (by decide)).elim
  · skip
    refine ⟨fun c4 => ?_, fun c4 => ?_⟩
    · skip
      refine ⟨iv_nb (iv_lit (l := 0) (h := 0) (by decide)) (by decide), ?_⟩
      refine ⟨fun c5 => ?_, fun c5 => ?_⟩
      · skip
        exact (iv_emp (iv_ne (l := 1) (h := 0) c5 (iv_lit (l := 0) (h := 0) (by decide)) (iv_lit (l := 0) (h := 0) (by decide)) (by decide)) (by decide)).elim
      · skip
        refine ⟨fun c6 => ?_, fun c6 => ?_⟩
        · skip
          exact hpost _ _ _ _ _ _ _ (iv_w (iv_lit (l := (-1)) (h := (-1)) (by decide)) (by decide)) (iv_lit (l := 0) (h := 0) (by decide)) k_f_land k_f_huts k_f_singers k_a_run k_a_far
        · skip
          exact (iv_emp (iv_ne (l := 1) (h := 0) c6 (iv_lit (l := 0) (h := 0) (by decide)) (iv_lit (l := 0) (h := 0) (by decide)) (by decide)) (by decide)).elim
    · skip
      refine ⟨iv_nb (iv_lit (l := 1) (h := 1) (by decide)) (by decide), ?_⟩
      refine ⟨fun c7 => ?_, fun c7 => ?_⟩
      · skip
        refine sp_of (a := 0) (b := 9) k_a_lands (iv_lea (l := 0) (h := 1) (r_nlt c4) (iv_leb (l := 0) (h := 2147483647) (r_nlt c1) (iv_lit (l := 0) (h := 0) (by decide)) (iv_top x1) (by decide)) (iv_sub (l := (-1)) (h := 1) (k_a_many _) (iv_lit (l := 1) (h := 1) (by decide)) (by decide)) (by decide)) (iv_lit (l := 0) (h := 0) (by decide)) (by decide +kernel) (fun r8 hr8 er8 => ?_)
        refine sp_of (a := 0) (b := 6) k_a_lands (iv_lea (l := 0) (h := 1) (r_nlt c4) (iv_leb (l := 0) (h := 2147483647) (r_nlt c1) (iv_lit (l := 0) (h := 0) (by decide)) (iv_top x1) (by decide)) (iv_sub (l := (-1)) (h := 1) (k_a_many _) (iv_lit (l := 1) (h := 1) (by decide)) (by decide)) (by decide)) (iv_lit (l := 1) (h := 1) (by decide)) (by decide +kernel) (fun r9 hr9 er9 => ?_)
        refine ⟨fun c10 => ?_, fun c10 => ?_⟩
        · skip
          exact (iv_emp (iv_eqa (l := 1) (h := 0) c10 (iv_lit (l := 1) (h := 1) (by decide)) (iv_lit (l := 0) (h := 0) (by decide)) (by decide)) (by decide)).elim
        · skip
          refine ⟨fun c11 => ?_, fun c11 => ?_⟩
          · skip
            refine ⟨iv_nb (iv_lit (l := 0) (h := 0) (by decide)) (by decide), ?_⟩
            refine ⟨fun c12 => ?_, fun c12 => ?_⟩
            · skip
              exact (iv_emp (iv_ne (l := 1) (h := 0) c12 (iv_lit (l := 0) (h := 0) (by decide)) (iv_lit (l := 0) (h := 0) (by decide)) (by decide)) (by decide)).elim
            · skip
              exact hpost _ _ _ _ _ _ _ (iv_w (iv_lit (l := (-1)) (h := (-1)) (by decide)) (by decide)) (iv_lit (l := 0) (h := 0) (by decide)) (iv_lea (l := 0) (h := 1) (r_nlt c4) (iv_leb (l := 0) (h := 2147483647) (r_nlt c1) (iv_lit (l := 0) (h := 0) (by decide)) (iv_top x1) (by decide)) (iv_sub (l := (-1)) (h := 1) (k_a_many _) (iv_lit (l := 1) (h := 1) (by decide)) (by decide)) (by decide)) hr8 hr9 k_a_run k_a_far
          · skip
            refine ⟨fun c13 => ?_, fun c13 => ?_⟩
            · skip
              refine ⟨iv_nb (iv_lit (l := 0) (h := 0) (by decide)) (by decide), ?_⟩
              refine ⟨fun c14 => ?_, fun c14 => ?_⟩
              · skip
                exact (iv_emp (iv_ne (l := 1) (h := 0) c14 (iv_lit (l := 0) (h := 0) (by decide)) (iv_lit (l := 0) (h := 0) (by decide)) (by decide)) (by decide)).elim
              · skip
                exact hpost _ _ _ _ _ _ _ (iv_w (iv_lit (l := (-1)) (h := (-1)) (by decide)) (by decide)) (iv_lit (l := 0) (h := 0) (by decide)) (iv_lea (l := 0) (h := 1) (r_nlt c4) (iv_leb (l := 0) (h := 2147483647) (r_nlt c1) (iv_lit (l := 0) (h := 0) (by decide)) (iv_top x1) (by decide)) (iv_sub (l := (-1)) (h := 1) (k_a_many _) (iv_lit (l := 1) (h := 1) (by decide)) (by decide)) (by decide)) hr8 hr9 k_a_run k_a_far
            · skip
              refine ⟨iv_nb (iv_lit (l := 1) (h := 1) (by decide)) (by decide), ?_⟩
              refine ⟨fun c15 => ?_, fun c15 => ?_⟩
              · skip
                refine s_m_findFar_0 k_a_lands (iv_lea (l := 0) (h := 1) (r_nlt c4) (iv_leb (l := 0) (h := 2147483647) (r_nlt c1) (iv_lit (l := 0) (h := 0) (by decide)) (iv_top x1) (by decide)) (iv_sub (l := (-1)) (h := 1) (k_a_many _) (iv_lit (l := 1) (h := 1) (by decide)) (by decide)) (by decide)) hr8 k_a_far (fun o16 k_o16 => ?_)
                exact s_m_carry_38 (iv_lit (l := 0) (h := 0) (by decide)) k_a_many k_a_lands (iv_lea (l := 0) (h := 1) (r_nlt c4) (iv_leb (l := 0) (h := 2147483647) (r_nlt c1) (iv_lit (l := 0) (h := 0) (by decide)) (iv_top x1) (by decide)) (iv_sub (l := (-1)) (h := 1) (k_a_many _) (iv_lit (l := 1) (h := 1) (by decide)) (by decide)) (by decide)) hr8 hr9 k_a_run k_o16 (iv_lea (l := 0) (h := 5) (r_nlt c13) (iv_leb (l := 0) (h := 2147483647) (r_nlt c11) (iv_lit (l := 0) (h := 0) (by decide)) (iv_top x2) (by decide)) (iv_sub (l := (-1)) (h := 5) hr9 (iv_lit (l := 1) (h := 1) (by decide)) (by decide)) (by decide)) (iv_w (iv_lit (l := (-1)) (h := (-1)) (by decide)) (by decide)) (iv_w (iv_lit (l := 1000000) (h := 1000000) (by decide)) (by decide)) (iv_w (iv_lit (l := 0) (h := 0) (by decide)) (by decide)) hpost
              · skip
                exact (iv_emp (iv_eqa (l := 1) (h := 0) c15 (iv_lit (l := 1) (h := 1) (by decide)) (iv_lit (l := 0) (h := 0) (by decide)) (by decide)) (by decide)).elim
      · skip
        exact (iv_emp (iv_eqa (l := 1) (h := 0) c7 (iv_lit (l := 1) (h := 1) (by decide)) (iv_lit (l := 0) (h := 0) (by decide)) (by decide)) (by decide)).elim
-- m_join
set_option maxRecDepth 20000 in
theorem s_m_join_128 {P86 : Int32 → Int32 → Int32 → Prop} {f_code : Int32} {a_many : Nat → Int32} {a_lands : Nat → Int32} {f_land : Int32} {f_huts : Int32} {f_singers : Int32} {a_run : Nat → Int32} {a_other : Nat → Int32} {x4 : Int32} {x6 : Int32} {x7 : Int32} {x8 : Int32} {y0 : Int32} {post : Int32 → (Int32) → (Int32) → (Int32) → (Int32) → (Nat → Int32) → (Nat → Int32) → Prop} (k_f_code : iv 0 0 f_code) (k_a_many : ∀ j, iv 0 2 (a_many j)) (k_a_lands : mLand a_lands) (k_f_land : iv 0 1 f_land) (k_f_huts : iv 1 9 f_huts) (k_f_singers : iv 0 6 f_singers) (k_a_run : ∀ j, iv 0 1000000 (a_run j)) (k_a_other : ∀ j, iv 0 1000000 (a_other j)) (hx6 : iv 0 1000000 x6) (hx7 : iv 0 8 x7) (hx8 : iv 0 1000000 x8) (hy0 : iv (-1) 8 y0) (m86 : Int) (hm86 : m86 ≤ x7.toInt) (hP86 : ∀ (x5 : Int32) (x6 : Int32) (x7 : Int32), m86 < x7.toInt → iv (-1) 8 x5 → iv 0 1000000 x6 → iv 0 9 x7 → P86 x5 x6 x7) (hpost : ∀ (r : Int32) (f_code : Int32) (f_land : Int32) (f_huts : Int32) (f_singers : Int32) (a_run : Nat → Int32) (a_other : Nat → Int32), iv (-1) 1000000 r → (iv 0 0 f_code) → (iv 0 1 f_land) → (iv 0 9 f_huts) → (iv 0 6 f_singers) → (∀ j, iv 0 1000000 (a_run j)) → (∀ j, iv 0 1000000 (a_other j)) → post r f_code f_land f_huts f_singers a_run a_other) : q_m_join_128 P86 f_code a_many a_lands f_land f_huts f_singers a_run a_other x4 x6 x7 x8 y0 post := by
  refine ⟨fun c1 => ?_, fun c1 => ?_⟩
  · skip
    intro w2 ew2
    have hw2 := iv_eq ew2 (iv_add (l := 1) (h := 9) hx7 (iv_lit (l := 1) (h := 1) (by decide)) (by decide))
    exact hP86 _ _ _ (ml_up hm86 (inc_lt ew2 hx7 (by decide))) hy0 hx8 (iv_w hw2 (by decide))
  · skip
    intro w3 ew3
    have hw3 := iv_eq ew3 (iv_add (l := 1) (h := 9) hx7 (iv_lit (l := 1) (h := 1) (by decide)) (by decide))
    exact hP86 _ _ _ (ml_up hm86 (inc_lt ew3 hx7 (by decide))) hy0 (iv_w (iv_lta (l := 0) (h := 999999) (r_nle c1) hx6 hx8 (by decide)) (by decide)) (iv_w hw3 (by decide))
set_option maxRecDepth 20000 in
theorem s_m_join_156 {f_code : Int32} {a_many : Nat → Int32} {a_lands : Nat → Int32} {f_land : Int32} {f_huts : Int32} {f_singers : Int32} {a_run : Nat → Int32} {a_other : Nat → Int32} {x5 : Int32} {post : Int32 → (Int32) → (Int32) → (Int32) → (Int32) → (Nat → Int32) → (Nat → Int32) → Prop} (k_f_code : iv 0 0 f_code) (k_a_many : ∀ j, iv 0 2 (a_many j)) (k_a_lands : mLand a_lands) (k_f_land : iv 0 1 f_land) (k_f_huts : iv 0 9 f_huts) (k_f_singers : iv 0 6 f_singers) (k_a_run : ∀ j, iv 0 1000000 (a_run j)) (k_a_other : ∀ j, iv 0 1000000 (a_other j)) (hx5 : iv (-1) 8 x5) (hpost : ∀ (r : Int32) (f_code : Int32) (f_land : Int32) (f_huts : Int32) (f_singers : Int32) (a_run : Nat → Int32) (a_other : Nat → Int32), iv (-1) 1000000 r → (iv 0 0 f_code) → (iv 0 1 f_land) → (iv 0 9 f_huts) → (iv 0 6 f_singers) → (∀ j, iv 0 1000000 (a_run j)) → (∀ j, iv 0 1000000 (a_other j)) → post r f_code f_land f_huts f_singers a_run a_other) : q_m_join_156 f_code a_many a_lands f_land f_huts f_singers a_run a_other x5 post := by
  exact hpost _ _ _ _ _ _ _ (iv_w hx5 (by decide)) k_f_code k_f_land k_f_huts k_f_singers k_a_run k_a_other
set_option maxRecDepth 20000 in
theorem s_m_join_86 {f_code : Int32} {a_many : Nat → Int32} {a_lands : Nat → Int32} {f_land : Int32} {f_huts : Int32} {f_singers : Int32} {a_run : Nat → Int32} {a_other : Nat → Int32} {x4 : Int32} {x5 : Int32} {x6 : Int32} {x7 : Int32} {post : Int32 → (Int32) → (Int32) → (Int32) → (Int32) → (Nat → Int32) → (Nat → Int32) → Prop} (k_f_code : iv 0 0 f_code) (k_a_many : ∀ j, iv 0 2 (a_many j)) (k_a_lands : mLand a_lands) (k_f_land : iv 0 1 f_land) (k_f_huts : iv 0 9 f_huts) (k_f_singers : iv 0 6 f_singers) (k_a_run : ∀ j, iv 0 1000000 (a_run j)) (k_a_other : ∀ j, iv 0 1000000 (a_other j)) (hx5 : iv (-1) 8 x5) (hx6 : iv 0 1000000 x6) (hx7 : iv 0 9 x7) (hpost : ∀ (r : Int32) (f_code : Int32) (f_land : Int32) (f_huts : Int32) (f_singers : Int32) (a_run : Nat → Int32) (a_other : Nat → Int32), iv (-1) 1000000 r → (iv 0 0 f_code) → (iv 0 1 f_land) → (iv 0 9 f_huts) → (iv 0 6 f_singers) → (∀ j, iv 0 1000000 (a_run j)) → (∀ j, iv 0 1000000 (a_other j)) → post r f_code f_land f_huts f_singers a_run a_other) : q_m_join_86 f_code a_many a_lands f_land f_huts f_singers a_run a_other x4 x5 x6 x7 post := by
  intro P hP
  have loop : ∀ (n : Nat) (x5 : Int32) (x6 : Int32) (x7 : Int32), (9 - x7.toInt < (n : Int)) → (iv (-1) 8 x5) → (iv 0 1000000 x6) → (iv 0 9 x7) → P x5 x6 x7 := by
    intro n
    induction n with
    | zero => intro x5 x6 x7 hm hx5 hx6 hx7; exact (ms0_up hm hx7).elim
    | succ n ih =>
      intro x5 x6 x7 hm hx5 hx6 hx7
      apply hP
      refine ⟨fun c1 => ?_, fun c1 => ?_⟩
      · skip
        refine ⟨fun c2 => ?_, fun c2 => ?_⟩
        · skip
          exact s_m_join_156 k_f_code k_a_many k_a_lands k_f_land k_f_huts k_f_singers k_a_run k_a_other (iv_w (iv_eqa (l := (-1)) (h := (-1)) c2 hx5 (iv_lit (l := (-1)) (h := (-1)) (by decide)) (by decide)) (by decide)) hpost
        · skip
          refine ⟨fun c3 => ?_, fun c3 => ?_⟩
          · skip
            exact hpost _ _ _ _ _ _ _ (iv_w hx6 (by decide)) k_f_code k_f_land k_f_huts k_f_singers k_a_run k_a_other
          · skip
            exact s_m_join_156 k_f_code k_a_many k_a_lands k_f_land k_f_huts k_f_singers k_a_run k_a_other (iv_w (iv_ne (l := 0) (h := 8) c2 hx5 (iv_lit (l := (-1)) (h := (-1)) (by decide)) (by decide)) (by decide)) hpost
      · skip
        refine ⟨iv_in (iv_lta (l := 0) (h := 8) (r_nle c1) hx7 k_f_huts (by decide)) (by decide), ?_⟩
        refine ⟨iv_in (iv_lta (l := 0) (h := 8) (r_nle c1) hx7 k_f_huts (by decide)) (by decide), ?_⟩
        refine ⟨fun c4 => ?_, fun c4 => ?_⟩
        · skip
          refine ⟨fun c5 => ?_, fun c5 => ?_⟩
          · skip
            exact s_m_join_128 k_f_code k_a_many k_a_lands k_f_land (iv_ltb (l := 1) (h := 9) (r_nle c1) hx7 k_f_huts (by decide)) k_f_singers k_a_run k_a_other hx6 (iv_lta (l := 0) (h := 8) (r_nle c1) hx7 k_f_huts (by decide)) (k_a_other _) hx5 x7.toInt (Int.le_refl _) (fun u0 u1 u2 hq g0 g1 g2 => ih u0 u1 u2 (ms_up hm hq) g0 g1 g2) hpost
          · skip
            exact s_m_join_128 k_f_code k_a_many k_a_lands k_f_land (iv_ltb (l := 1) (h := 9) (r_nle c1) hx7 k_f_huts (by decide)) k_f_singers k_a_run k_a_other (iv_w (iv_ltb (l := 1) (h := 1000000) (r_nle c5) (k_a_other _) hx6 (by decide)) (by decide)) (iv_lta (l := 0) (h := 8) (r_nle c1) hx7 k_f_huts (by decide)) (iv_w (iv_lta (l := 0) (h := 999999) (r_nle c5) (k_a_other _) hx6 (by decide)) (by decide)) (iv_w (iv_lta (l := 0) (h := 8) (r_nle c1) hx7 k_f_huts (by decide)) (by decide)) x7.toInt (Int.le_refl _) (fun u0 u1 u2 hq g0 g1 g2 => ih u0 u1 u2 (ms_up hm hq) g0 g1 g2) hpost
        · skip
          refine ⟨fun c6 => ?_, fun c6 => ?_⟩
          · skip
            exact s_m_join_128 k_f_code k_a_many k_a_lands k_f_land (iv_ltb (l := 1) (h := 9) (r_nle c1) hx7 k_f_huts (by decide)) k_f_singers k_a_run k_a_other hx6 (iv_lta (l := 0) (h := 8) (r_nle c1) hx7 k_f_huts (by decide)) (iv_w (iv_ltb (l := 1) (h := 1000000) (r_nle c4) (k_a_other _) (k_a_run _) (by decide)) (by decide)) hx5 x7.toInt (Int.le_refl _) (fun u0 u1 u2 hq g0 g1 g2 => ih u0 u1 u2 (ms_up hm hq) g0 g1 g2) hpost
          · skip
            exact s_m_join_128 k_f_code k_a_many k_a_lands k_f_land (iv_ltb (l := 1) (h := 9) (r_nle c1) hx7 k_f_huts (by decide)) k_f_singers k_a_run k_a_other (iv_w (iv_ltb (l := 2) (h := 1000000) (r_nle c6) (iv_ltb (l := 1) (h := 1000000) (r_nle c4) (k_a_other _) (k_a_run _) (by decide)) hx6 (by decide)) (by decide)) (iv_lta (l := 0) (h := 8) (r_nle c1) hx7 k_f_huts (by decide)) (iv_w (iv_lta (l := 1) (h := 999999) (r_nle c6) (iv_ltb (l := 1) (h := 1000000) (r_nle c4) (k_a_other _) (k_a_run _) (by decide)) hx6 (by decide)) (by decide)) (iv_w (iv_lta (l := 0) (h := 8) (r_nle c1) hx7 k_f_huts (by decide)) (by decide)) x7.toInt (Int.le_refl _) (fun u0 u1 u2 hq g0 g1 g2 => ih u0 u1 u2 (ms_up hm hq) g0 g1 g2) hpost
  exact loop _ _ _ _ (ms_init_up _ _) hx5 hx6 hx7
set_option maxRecDepth 20000 in
theorem s_m_join_40 {f_code : Int32} {a_many : Nat → Int32} {a_lands : Nat → Int32} {f_land : Int32} {f_huts : Int32} {f_singers : Int32} {a_run : Nat → Int32} {a_other : Nat → Int32} {x3 : Int32} {x4 : Int32} {x5 : Int32} {post : Int32 → (Int32) → (Int32) → (Int32) → (Int32) → (Nat → Int32) → (Nat → Int32) → Prop} (k_f_code : iv 0 0 f_code) (k_a_many : ∀ j, iv 0 2 (a_many j)) (k_a_lands : mLand a_lands) (k_f_land : iv 0 1 f_land) (k_f_huts : iv 0 9 f_huts) (k_f_singers : iv 0 6 f_singers) (k_a_run : ∀ j, iv 0 1000000 (a_run j)) (k_a_other : ∀ j, iv 0 1000000 (a_other j)) (hx3 : iv 0 8 x3) (hx5 : iv 0 9 x5) (hpost : ∀ (r : Int32) (f_code : Int32) (f_land : Int32) (f_huts : Int32) (f_singers : Int32) (a_run : Nat → Int32) (a_other : Nat → Int32), iv (-1) 1000000 r → (iv 0 0 f_code) → (iv 0 1 f_land) → (iv 0 9 f_huts) → (iv 0 6 f_singers) → (∀ j, iv 0 1000000 (a_run j)) → (∀ j, iv 0 1000000 (a_other j)) → post r f_code f_land f_huts f_singers a_run a_other) : q_m_join_40 f_code a_many a_lands f_land f_huts f_singers a_run a_other x3 x4 x5 post := by
  intro P hP
  have loop : ∀ (n : Nat) (x5 : Int32) (a_other : Nat → Int32), (9 - x5.toInt < (n : Int)) → (iv 0 9 x5) → (∀ j, iv 0 1000000 (a_other j)) → P x5 a_other := by
    intro n
    induction n with
    | zero => intro x5 a_other hm hx5 k_a_other; exact (ms0_up hm hx5).elim
    | succ n ih =>
      intro x5 a_other hm hx5 k_a_other
      apply hP
      refine ⟨fun c1 => ?_, fun c1 => ?_⟩
      · skip
        refine s_m_findRun_0 k_a_lands k_f_land k_f_huts k_a_run hx3 (iv_w (iv_lit (l := 0) (h := 0) (by decide)) (by decide)) (fun o2 k_o2 => ?_)
        exact s_m_join_86 k_f_code k_a_many k_a_lands k_f_land k_f_huts k_f_singers k_o2 k_a_other (iv_w (iv_lit (l := (-1)) (h := (-1)) (by decide)) (by decide)) (iv_w (iv_lit (l := 1000000) (h := 1000000) (by decide)) (by decide)) (iv_w (iv_lit (l := 0) (h := 0) (by decide)) (by decide)) hpost
      · skip
        refine ⟨iv_in (iv_lta (l := 0) (h := 8) (r_nle c1) hx5 k_f_huts (by decide)) (by decide), ?_⟩
        intro w3 ew3
        have hw3 := iv_eq ew3 (k_a_run _)
        refine ⟨iv_in (iv_lta (l := 0) (h := 8) (r_nle c1) hx5 k_f_huts (by decide)) (by decide), ?_⟩
        intro a4 ea4
        have k_a4 := iv_upd ea4 k_a_other hw3
        intro w5 ew5
        have hw5 := iv_eq ew5 (iv_add (l := 1) (h := 9) (iv_lta (l := 0) (h := 8) (r_nle c1) hx5 k_f_huts (by decide)) (iv_lit (l := 1) (h := 1) (by decide)) (by decide))
        exact ih _ _ (ms_up hm (inc_lt ew5 (iv_lta (l := 0) (h := 8) (r_nle c1) hx5 k_f_huts (by decide)) (by decide))) (iv_w hw5 (by decide)) k_a4
  exact loop _ _ _ (ms_init_up _ _) hx5 k_a_other
set_option maxRecDepth 20000 in
theorem s_m_join_0 {f_code : Int32} {a_many : Nat → Int32} {a_lands : Nat → Int32} {f_land : Int32} {f_huts : Int32} {f_singers : Int32} {a_run : Nat → Int32} {a_other : Nat → Int32} {x1 : Int32} {x2 : Int32} {x3 : Int32} {x4 : Int32} {post : Int32 → (Int32) → (Int32) → (Int32) → (Int32) → (Nat → Int32) → (Nat → Int32) → Prop} (k_f_code : iv 0 0 f_code) (k_a_many : ∀ j, iv 0 2 (a_many j)) (k_a_lands : mLand a_lands) (k_f_land : iv 0 1 f_land) (k_f_huts : iv 0 9 f_huts) (k_f_singers : iv 0 6 f_singers) (k_a_run : ∀ j, iv 0 1000000 (a_run j)) (k_a_other : ∀ j, iv 0 1000000 (a_other j)) (hpost : ∀ (r : Int32) (f_code : Int32) (f_land : Int32) (f_huts : Int32) (f_singers : Int32) (a_run : Nat → Int32) (a_other : Nat → Int32), iv (-1) 1000000 r → (iv 0 0 f_code) → (iv 0 1 f_land) → (iv 0 9 f_huts) → (iv 0 6 f_singers) → (∀ j, iv 0 1000000 (a_run j)) → (∀ j, iv 0 1000000 (a_other j)) → post r f_code f_land f_huts f_singers a_run a_other) : q_m_join_0 f_code a_many a_lands f_land f_huts f_singers a_run a_other x1 x2 x3 x4 post := by
  refine ⟨iv_in (iv_lit (l := 0) (h := 0) (by decide)) (by decide), ?_⟩
  refine ⟨fun c1 => ?_, fun c1 => ?_⟩
  · skip
    refine ⟨iv_nb (iv_lit (l := 0) (h := 0) (by decide)) (by decide), ?_⟩
    refine ⟨fun c2 => ?_, fun c2 => ?_⟩
    · skip
      exact (iv_emp (iv_ne (l := 1) (h := 0) c2 (iv_lit (l := 0) (h := 0) (by decide)) (iv_lit (l := 0) (h := 0) (by decide)) (by decide)) (by decide)).elim
    · skip
      refine ⟨fun c3 => ?_, fun c3 => ?_⟩
      · skip
        exact hpost _ _ _ _ _ _ _ (iv_w (iv_lit (l := (-1)) (h := (-1)) (by decide)) (by decide)) (iv_lit (l := 0) (h := 0) (by decide)) k_f_land k_f_huts k_f_singers k_a_run k_a_other
      · skip
        exact (iv_emp (iv_ne (l := 1) (h := 0) c3 (iv_lit (l := 0) (h := 0) (by decide)) (iv_lit (l := 0) (h := 0) (by decide)) (by decide)) (by decide)).elim
  · skip
    refine ⟨fun c4 => ?_, fun c4 => ?_⟩
    · skip
      refine ⟨iv_nb (iv_lit (l := 0) (h := 0) (by decide)) (by decide), ?_⟩
      refine ⟨fun c5 => ?_, fun c5 => ?_⟩
      · skip
        exact (iv_emp (iv_ne (l := 1) (h := 0) c5 (iv_lit (l := 0) (h := 0) (by decide)) (iv_lit (l := 0) (h := 0) (by decide)) (by decide)) (by decide)).elim
      · skip
        refine ⟨fun c6 => ?_, fun c6 => ?_⟩
        · skip
          exact hpost _ _ _ _ _ _ _ (iv_w (iv_lit (l := (-1)) (h := (-1)) (by decide)) (by decide)) (iv_lit (l := 0) (h := 0) (by decide)) k_f_land k_f_huts k_f_singers k_a_run k_a_other
        · skip
          exact (iv_emp (iv_ne (l := 1) (h := 0) c6 (iv_lit (l := 0) (h := 0) (by decide)) (iv_lit (l := 0) (h := 0) (by decide)) (by decide)) (by decide)).elim
    · skip
      refine ⟨iv_nb (iv_lit (l := 1) (h := 1) (by decide)) (by decide), ?_⟩
      refine ⟨fun c7 => ?_, fun c7 => ?_⟩
      · skip
        refine sp_of (a := 0) (b := 9) k_a_lands (iv_lea (l := 0) (h := 1) (r_nlt c4) (iv_leb (l := 0) (h := 2147483647) (r_nlt c1) (iv_lit (l := 0) (h := 0) (by decide)) (iv_top x1) (by decide)) (iv_sub (l := (-1)) (h := 1) (k_a_many _) (iv_lit (l := 1) (h := 1) (by decide)) (by decide)) (by decide)) (iv_lit (l := 0) (h := 0) (by decide)) (by decide +kernel) (fun r8 hr8 er8 => ?_)
        refine sp_of (a := 0) (b := 6) k_a_lands (iv_lea (l := 0) (h := 1) (r_nlt c4) (iv_leb (l := 0) (h := 2147483647) (r_nlt c1) (iv_lit (l := 0) (h := 0) (by decide)) (iv_top x1) (by decide)) (iv_sub (l := (-1)) (h := 1) (k_a_many _) (iv_lit (l := 1) (h := 1) (by decide)) (by decide)) (by decide)) (iv_lit (l := 1) (h := 1) (by decide)) (by decide +kernel) (fun r9 hr9 er9 => ?_)
        refine ⟨fun c10 => ?_, fun c10 => ?_⟩
        · skip
          exact (iv_emp (iv_eqa (l := 1) (h := 0) c10 (iv_lit (l := 1) (h := 1) (by decide)) (iv_lit (l := 0) (h := 0) (by decide)) (by decide)) (by decide)).elim
        · skip
          refine ⟨fun c11 => ?_, fun c11 => ?_⟩
          · skip
            refine ⟨iv_nb (iv_lit (l := 0) (h := 0) (by decide)) (by decide), ?_⟩
            refine ⟨fun c12 => ?_, fun c12 => ?_⟩
            · skip
              exact hpost _ _ _ _ _ _ _ (iv_w (iv_lit (l := (-1)) (h := (-1)) (by decide)) (by decide)) (iv_lit (l := 0) (h := 0) (by decide)) (iv_lea (l := 0) (h := 1) (r_nlt c4) (iv_leb (l := 0) (h := 2147483647) (r_nlt c1) (iv_lit (l := 0) (h := 0) (by decide)) (iv_top x1) (by decide)) (iv_sub (l := (-1)) (h := 1) (k_a_many _) (iv_lit (l := 1) (h := 1) (by decide)) (by decide)) (by decide)) hr8 hr9 k_a_run k_a_other
            · skip
              exact (iv_emp (iv_ne (l := 1) (h := 0) c12 (iv_lit (l := 0) (h := 0) (by decide)) (iv_lit (l := 0) (h := 0) (by decide)) (by decide)) (by decide)).elim
          · skip
            refine ⟨fun c13 => ?_, fun c13 => ?_⟩
            · skip
              refine ⟨iv_nb (iv_lit (l := 0) (h := 0) (by decide)) (by decide), ?_⟩
              refine ⟨fun c14 => ?_, fun c14 => ?_⟩
              · skip
                exact hpost _ _ _ _ _ _ _ (iv_w (iv_lit (l := (-1)) (h := (-1)) (by decide)) (by decide)) (iv_lit (l := 0) (h := 0) (by decide)) (iv_lea (l := 0) (h := 1) (r_nlt c4) (iv_leb (l := 0) (h := 2147483647) (r_nlt c1) (iv_lit (l := 0) (h := 0) (by decide)) (iv_top x1) (by decide)) (iv_sub (l := (-1)) (h := 1) (k_a_many _) (iv_lit (l := 1) (h := 1) (by decide)) (by decide)) (by decide)) hr8 hr9 k_a_run k_a_other
              · skip
                exact (iv_emp (iv_ne (l := 1) (h := 0) c14 (iv_lit (l := 0) (h := 0) (by decide)) (iv_lit (l := 0) (h := 0) (by decide)) (by decide)) (by decide)).elim
            · skip
              refine ⟨iv_nb (iv_lit (l := 1) (h := 1) (by decide)) (by decide), ?_⟩
              refine ⟨fun c15 => ?_, fun c15 => ?_⟩
              · skip
                exact (iv_emp (iv_eqa (l := 1) (h := 0) c15 (iv_lit (l := 1) (h := 1) (by decide)) (iv_lit (l := 0) (h := 0) (by decide)) (by decide)) (by decide)).elim
              · skip
                refine ⟨fun c16 => ?_, fun c16 => ?_⟩
                · skip
                  refine ⟨iv_nb (iv_lit (l := 0) (h := 0) (by decide)) (by decide), ?_⟩
                  refine ⟨fun c17 => ?_, fun c17 => ?_⟩
                  · skip
                    exact (iv_emp (iv_ne (l := 1) (h := 0) c17 (iv_lit (l := 0) (h := 0) (by decide)) (iv_lit (l := 0) (h := 0) (by decide)) (by decide)) (by decide)).elim
                  · skip
                    exact hpost _ _ _ _ _ _ _ (iv_w (iv_lit (l := (-1)) (h := (-1)) (by decide)) (by decide)) (iv_lit (l := 0) (h := 0) (by decide)) (iv_lea (l := 0) (h := 1) (r_nlt c4) (iv_leb (l := 0) (h := 2147483647) (r_nlt c1) (iv_lit (l := 0) (h := 0) (by decide)) (iv_top x1) (by decide)) (iv_sub (l := (-1)) (h := 1) (k_a_many _) (iv_lit (l := 1) (h := 1) (by decide)) (by decide)) (by decide)) hr8 hr9 k_a_run k_a_other
                · skip
                  refine ⟨fun c18 => ?_, fun c18 => ?_⟩
                  · skip
                    refine ⟨iv_nb (iv_lit (l := 0) (h := 0) (by decide)) (by decide), ?_⟩
                    refine ⟨fun c19 => ?_, fun c19 => ?_⟩
                    · skip
                      exact (iv_emp (iv_ne (l := 1) (h := 0) c19 (iv_lit (l := 0) (h := 0) (by decide)) (iv_lit (l := 0) (h := 0) (by decide)) (by decide)) (by decide)).elim
                    · skip
                      exact hpost _ _ _ _ _ _ _ (iv_w (iv_lit (l := (-1)) (h := (-1)) (by decide)) (by decide)) (iv_lit (l := 0) (h := 0) (by decide)) (iv_lea (l := 0) (h := 1) (r_nlt c4) (iv_leb (l := 0) (h := 2147483647) (r_nlt c1) (iv_lit (l := 0) (h := 0) (by decide)) (iv_top x1) (by decide)) (iv_sub (l := (-1)) (h := 1) (k_a_many _) (iv_lit (l := 1) (h := 1) (by decide)) (by decide)) (by decide)) hr8 hr9 k_a_run k_a_other
                  · skip
                    refine ⟨iv_nb (iv_lit (l := 1) (h := 1) (by decide)) (by decide), ?_⟩
                    refine ⟨fun c20 => ?_, fun c20 => ?_⟩
                    · skip
                      refine s_m_findRun_0 k_a_lands (iv_lea (l := 0) (h := 1) (r_nlt c4) (iv_leb (l := 0) (h := 2147483647) (r_nlt c1) (iv_lit (l := 0) (h := 0) (by decide)) (iv_top x1) (by decide)) (iv_sub (l := (-1)) (h := 1) (k_a_many _) (iv_lit (l := 1) (h := 1) (by decide)) (by decide)) (by decide)) hr8 k_a_run (iv_lea (l := 0) (h := 8) (r_nlt c13) (iv_leb (l := 0) (h := 2147483647) (r_nlt c11) (iv_lit (l := 0) (h := 0) (by decide)) (iv_top x2) (by decide)) (iv_sub (l := (-1)) (h := 8) hr8 (iv_lit (l := 1) (h := 1) (by decide)) (by decide)) (by decide)) (iv_w (iv_lit (l := 0) (h := 0) (by decide)) (by decide)) (fun o21 k_o21 => ?_)
                      exact s_m_join_40 (iv_lit (l := 0) (h := 0) (by decide)) k_a_many k_a_lands (iv_lea (l := 0) (h := 1) (r_nlt c4) (iv_leb (l := 0) (h := 2147483647) (r_nlt c1) (iv_lit (l := 0) (h := 0) (by decide)) (iv_top x1) (by decide)) (iv_sub (l := (-1)) (h := 1) (k_a_many _) (iv_lit (l := 1) (h := 1) (by decide)) (by decide)) (by decide)) hr8 hr9 k_o21 k_a_other (iv_lea (l := 0) (h := 8) (r_nlt c18) (iv_leb (l := 0) (h := 2147483647) (r_nlt c16) (iv_lit (l := 0) (h := 0) (by decide)) (iv_top x3) (by decide)) (iv_leb (l := 0) (h := 8) (r_nlt c13) (iv_leb (l := 0) (h := 2147483647) (r_nlt c11) (iv_lit (l := 0) (h := 0) (by decide)) (iv_top x2) (by decide)) (iv_sub (l := (-1)) (h := 8) hr8 (iv_lit (l := 1) (h := 1) (by decide)) (by decide)) (by decide)) (by decide)) (iv_w (iv_lit (l := 0) (h := 0) (by decide)) (by decide)) hpost
                    · skip
                      exact (iv_emp (iv_eqa (l := 1) (h := 0) c20 (iv_lit (l := 1) (h := 1) (by decide)) (iv_lit (l := 0) (h := 0) (by decide)) (by decide)) (by decide)).elim
      · skip
        exact (iv_emp (iv_eqa (l := 1) (h := 0) c7 (iv_lit (l := 1) (h := 1) (by decide)) (iv_lit (l := 0) (h := 0) (by decide)) (by decide)) (by decide)).elim
-- m_slopes
set_option maxRecDepth 20000 in
theorem s_m_slopes_121 {P38 : Int32 → Int32 → Int32 → Int32 → Int32 → (Nat → Int32) → (Nat → Int32) → (Nat → Int32) → (Nat → Int32) → (Nat → Int32) → Prop} {f_code : Int32} {a_many : Nat → Int32} {a_lands : Nat → Int32} {f_land : Int32} {f_huts : Int32} {f_singers : Int32} {a_run : Nat → Int32} {a_routes : Nat → Int32} {a_longest : Nat → Int32} {a_steep : Nat → Int32} {a_laid : Nat → Int32} {x2 : Int32} {x3 : Int32} {x4 : Int32} {x5 : Int32} {x6 : Int32} {x7 : Int32} {x9 : Int32} {post : Int32 → (Int32) → (Int32) → (Int32) → (Int32) → (Nat → Int32) → (Nat → Int32) → (Nat → Int32) → (Nat → Int32) → (Nat → Int32) → Prop} (k_f_code : iv 0 0 f_code) (k_a_many : ∀ j, iv 0 2 (a_many j)) (k_a_lands : mLand a_lands) (k_f_land : iv 0 1 f_land) (k_f_huts : iv 1 9 f_huts) (k_f_singers : iv 0 6 f_singers) (k_a_run : ∀ j, iv 0 1000000 (a_run j)) (k_a_laid : ∀ j, iv 0 1 (a_laid j)) (hx2 : iv 0 3 x2) (hx3 : iv 0 511 x3) (hx4 : iv 0 511 x4) (hx6 : iv 0 2147483647 x6) (hx7 : iv 0 8 x7) (hx9 : iv 0 9 x9) (m38 : Int) (hm38 : m38 ≤ x7.toInt) (hP38 : ∀ (x3 : Int32) (x4 : Int32) (x5 : Int32) (x6 : Int32) (x7 : Int32) (a_run : Nat → Int32) (a_routes : Nat → Int32) (a_longest : Nat → Int32) (a_steep : Nat → Int32) (a_laid : Nat → Int32), m38 < x7.toInt → iv 0 511 x3 → iv 0 511 x4 → iv 0 2147483647 x6 → iv 0 9 x7 → (∀ j, iv 0 1000000 (a_run j)) → (∀ j, iv 0 1 (a_laid j)) → P38 x3 x4 x5 x6 x7 a_run a_routes a_longest a_steep a_laid) (hpost : ∀ (r : Int32) (f_code : Int32) (f_land : Int32) (f_huts : Int32) (f_singers : Int32) (a_run : Nat → Int32) (a_routes : Nat → Int32) (a_longest : Nat → Int32) (a_steep : Nat → Int32) (a_laid : Nat → Int32), (iv 0 0 f_code) → (iv 0 1 f_land) → (iv 0 9 f_huts) → (iv 0 6 f_singers) → (∀ j, iv 0 1000000 (a_run j)) → (∀ j, iv 0 1 (a_laid j)) → post r f_code f_land f_huts f_singers a_run a_routes a_longest a_steep a_laid) : q_m_slopes_121 P38 f_code a_many a_lands f_land f_huts f_singers a_run a_routes a_longest a_steep a_laid x2 x3 x4 x5 x6 x7 x9 post := by
  intro P hP
  have loop : ∀ (n : Nat) (x6 : Int32) (x9 : Int32), (9 - x9.toInt < (n : Int)) → (iv 0 2147483647 x6) → (iv 0 9 x9) → P x6 x9 := by
    intro n
    induction n with
    | zero => intro x6 x9 hm hx6 hx9; exact (ms0_up hm hx9).elim
    | succ n ih =>
      intro x6 x9 hm hx6 hx9
      apply hP
      refine ⟨fun c1 => ?_, fun c1 => ?_⟩
      · skip
        intro w2 ew2
        have hw2 := iv_eq ew2 (iv_add (l := 1) (h := 9) hx7 (iv_lit (l := 1) (h := 1) (by decide)) (by decide))
        exact hP38 _ _ _ _ _ _ _ _ _ _ (ml_up hm38 (inc_lt ew2 hx7 (by decide))) hx3 hx4 hx6 (iv_w hw2 (by decide)) k_a_run k_a_laid
      · skip
        refine ⟨iv_in (iv_lta (l := 0) (h := 8) (r_nle c1) hx9 k_f_huts (by decide)) (by decide), ?_⟩
        refine ⟨fun c3 => ?_, fun c3 => ?_⟩
        · skip
          intro w4 ew4
          have hw4 := iv_eq ew4 (iv_add (l := 1) (h := 9) (iv_lta (l := 0) (h := 8) (r_nle c1) hx9 k_f_huts (by decide)) (iv_lit (l := 1) (h := 1) (by decide)) (by decide))
          exact ih _ _ (ms_up hm (inc_lt ew4 (iv_lta (l := 0) (h := 8) (r_nle c1) hx9 k_f_huts (by decide)) (by decide))) (iv_leb (l := 0) (h := 2147483647) (r_le c3) hx6 (iv_top _) (by decide)) (iv_w hw4 (by decide))
        · skip
          intro w5 ew5
          have hw5 := iv_eq ew5 (iv_add (l := 1) (h := 9) (iv_lta (l := 0) (h := 8) (r_nle c1) hx9 k_f_huts (by decide)) (iv_lit (l := 1) (h := 1) (by decide)) (by decide))
          exact ih _ _ (ms_up hm (inc_lt ew5 (iv_lta (l := 0) (h := 8) (r_nle c1) hx9 k_f_huts (by decide)) (by decide))) hx6 (iv_w hw5 (by decide))
  exact loop _ _ _ (ms_init_up _ _) hx6 hx9
set_option maxRecDepth 20000 in
theorem s_m_slopes_99 {P38 : Int32 → Int32 → Int32 → Int32 → Int32 → (Nat → Int32) → (Nat → Int32) → (Nat → Int32) → (Nat → Int32) → (Nat → Int32) → Prop} {f_code : Int32} {a_many : Nat → Int32} {a_lands : Nat → Int32} {f_land : Int32} {f_huts : Int32} {f_singers : Int32} {a_run : Nat → Int32} {a_routes : Nat → Int32} {a_longest : Nat → Int32} {a_steep : Nat → Int32} {a_laid : Nat → Int32} {x2 : Int32} {x3 : Int32} {x5 : Int32} {x6 : Int32} {x7 : Int32} {x8 : Int32} {y0 : Int32} {y1 : Int32} {post : Int32 → (Int32) → (Int32) → (Int32) → (Int32) → (Nat → Int32) → (Nat → Int32) → (Nat → Int32) → (Nat → Int32) → (Nat → Int32) → Prop} (k_f_code : iv 0 0 f_code) (k_a_many : ∀ j, iv 0 2 (a_many j)) (k_a_lands : mLand a_lands) (k_f_land : iv 0 1 f_land) (k_f_huts : iv 1 9 f_huts) (k_f_singers : iv 0 6 f_singers) (k_a_run : ∀ j, iv 0 1000000 (a_run j)) (k_a_laid : ∀ j, iv 0 1 (a_laid j)) (hx2 : iv 0 3 x2) (hx3 : iv 0 511 x3) (hx6 : iv 0 2147483647 x6) (hx7 : iv 0 8 x7) (hx8 : iv 0 511 x8) (hy0 : iv 0 511 y0) (hy1 : iv 0 256 y1) (m38 : Int) (hm38 : m38 ≤ x7.toInt) (hP38 : ∀ (x3 : Int32) (x4 : Int32) (x5 : Int32) (x6 : Int32) (x7 : Int32) (a_run : Nat → Int32) (a_routes : Nat → Int32) (a_longest : Nat → Int32) (a_steep : Nat → Int32) (a_laid : Nat → Int32), m38 < x7.toInt → iv 0 511 x3 → iv 0 511 x4 → iv 0 2147483647 x6 → iv 0 9 x7 → (∀ j, iv 0 1000000 (a_run j)) → (∀ j, iv 0 1 (a_laid j)) → P38 x3 x4 x5 x6 x7 a_run a_routes a_longest a_steep a_laid) (hpost : ∀ (r : Int32) (f_code : Int32) (f_land : Int32) (f_huts : Int32) (f_singers : Int32) (a_run : Nat → Int32) (a_routes : Nat → Int32) (a_longest : Nat → Int32) (a_steep : Nat → Int32) (a_laid : Nat → Int32), (iv 0 0 f_code) → (iv 0 1 f_land) → (iv 0 9 f_huts) → (iv 0 6 f_singers) → (∀ j, iv 0 1000000 (a_run j)) → (∀ j, iv 0 1 (a_laid j)) → post r f_code f_land f_huts f_singers a_run a_routes a_longest a_steep a_laid) : q_m_slopes_99 P38 f_code a_many a_lands f_land f_huts f_singers a_run a_routes a_longest a_steep a_laid x2 x3 x5 x6 x7 x8 y0 y1 post := by
  intro w1 ew1
  have hw1 := iv_eq ew1 (iv_or 9 (l := 0) (h := 511) hy0 hy1 (by decide))
  refine s_m_ones_0 (iv_w hx8 (by decide)) (fun r2 => ?_)
  intro w3 ew3
  refine s_m_findRoutes_0 k_a_lands k_f_land (iv_w k_f_huts (by decide)) k_a_laid (fun o4 o5 o6 o7 k_o7 => ?_)
  exact s_m_slopes_121 k_f_code k_a_many k_a_lands k_f_land k_f_huts k_f_singers k_a_run k_o7 hx2 hx3 hw1 hx6 hx7 (iv_w (iv_lit (l := 0) (h := 0) (by decide)) (by decide)) m38 hm38 hP38 hpost
set_option maxRecDepth 20000 in
theorem s_m_slopes_98 {P38 : Int32 → Int32 → Int32 → Int32 → Int32 → (Nat → Int32) → (Nat → Int32) → (Nat → Int32) → (Nat → Int32) → (Nat → Int32) → Prop} {f_code : Int32} {a_many : Nat → Int32} {a_lands : Nat → Int32} {f_land : Int32} {f_huts : Int32} {f_singers : Int32} {a_run : Nat → Int32} {a_routes : Nat → Int32} {a_longest : Nat → Int32} {a_steep : Nat → Int32} {a_laid : Nat → Int32} {x2 : Int32} {x3 : Int32} {x5 : Int32} {x6 : Int32} {x7 : Int32} {x8 : Int32} {y0 : Int32} {post : Int32 → (Int32) → (Int32) → (Int32) → (Int32) → (Nat → Int32) → (Nat → Int32) → (Nat → Int32) → (Nat → Int32) → (Nat → Int32) → Prop} (k_f_code : iv 0 0 f_code) (k_a_many : ∀ j, iv 0 2 (a_many j)) (k_a_lands : mLand a_lands) (k_f_land : iv 0 1 f_land) (k_f_huts : iv 1 9 f_huts) (k_f_singers : iv 0 6 f_singers) (k_a_run : ∀ j, iv 0 1000000 (a_run j)) (k_a_laid : ∀ j, iv 0 1 (a_laid j)) (hx2 : iv 0 3 x2) (hx3 : iv 0 511 x3) (hx6 : iv 0 2147483647 x6) (hx7 : iv 0 8 x7) (hx8 : iv 0 511 x8) (hy0 : iv 0 511 y0) (m38 : Int) (hm38 : m38 ≤ x7.toInt) (hP38 : ∀ (x3 : Int32) (x4 : Int32) (x5 : Int32) (x6 : Int32) (x7 : Int32) (a_run : Nat → Int32) (a_routes : Nat → Int32) (a_longest : Nat → Int32) (a_steep : Nat → Int32) (a_laid : Nat → Int32), m38 < x7.toInt → iv 0 511 x3 → iv 0 511 x4 → iv 0 2147483647 x6 → iv 0 9 x7 → (∀ j, iv 0 1000000 (a_run j)) → (∀ j, iv 0 1 (a_laid j)) → P38 x3 x4 x5 x6 x7 a_run a_routes a_longest a_steep a_laid) (hpost : ∀ (r : Int32) (f_code : Int32) (f_land : Int32) (f_huts : Int32) (f_singers : Int32) (a_run : Nat → Int32) (a_routes : Nat → Int32) (a_longest : Nat → Int32) (a_steep : Nat → Int32) (a_laid : Nat → Int32), (iv 0 0 f_code) → (iv 0 1 f_land) → (iv 0 9 f_huts) → (iv 0 6 f_singers) → (∀ j, iv 0 1000000 (a_run j)) → (∀ j, iv 0 1 (a_laid j)) → post r f_code f_land f_huts f_singers a_run a_routes a_longest a_steep a_laid) : q_m_slopes_98 P38 f_code a_many a_lands f_land f_huts f_singers a_run a_routes a_longest a_steep a_laid x2 x3 x5 x6 x7 x8 y0 post := by
  exact s_m_slopes_99 k_f_code k_a_many k_a_lands k_f_land k_f_huts k_f_singers k_a_run k_a_laid hx2 hx3 hx6 hx7 hx8 hy0 (iv_w (iv_lit (l := 0) (h := 0) (by decide)) (by decide)) m38 hm38 hP38 hpost
set_option maxRecDepth 20000 in
theorem s_m_slopes_38 {f_code : Int32} {a_many : Nat → Int32} {a_lands : Nat → Int32} {f_land : Int32} {f_huts : Int32} {f_singers : Int32} {a_run : Nat → Int32} {a_routes : Nat → Int32} {a_longest : Nat → Int32} {a_steep : Nat → Int32} {a_laid : Nat → Int32} {x2 : Int32} {x3 : Int32} {x4 : Int32} {x5 : Int32} {x6 : Int32} {x7 : Int32} {post : Int32 → (Int32) → (Int32) → (Int32) → (Int32) → (Nat → Int32) → (Nat → Int32) → (Nat → Int32) → (Nat → Int32) → (Nat → Int32) → Prop} (k_f_code : iv 0 0 f_code) (k_a_many : ∀ j, iv 0 2 (a_many j)) (k_a_lands : mLand a_lands) (k_f_land : iv 0 1 f_land) (k_f_huts : iv 0 9 f_huts) (k_f_singers : iv 0 6 f_singers) (k_a_run : ∀ j, iv 0 1000000 (a_run j)) (k_a_laid : ∀ j, iv 0 1 (a_laid j)) (hx2 : iv 0 3 x2) (hx3 : iv 0 511 x3) (hx4 : iv 0 511 x4) (hx6 : iv 0 2147483647 x6) (hx7 : iv 0 9 x7) (hpost : ∀ (r : Int32) (f_code : Int32) (f_land : Int32) (f_huts : Int32) (f_singers : Int32) (a_run : Nat → Int32) (a_routes : Nat → Int32) (a_longest : Nat → Int32) (a_steep : Nat → Int32) (a_laid : Nat → Int32), (iv 0 0 f_code) → (iv 0 1 f_land) → (iv 0 9 f_huts) → (iv 0 6 f_singers) → (∀ j, iv 0 1000000 (a_run j)) → (∀ j, iv 0 1 (a_laid j)) → post r f_code f_land f_huts f_singers a_run a_routes a_longest a_steep a_laid) : q_m_slopes_38 f_code a_many a_lands f_land f_huts f_singers a_run a_routes a_longest a_steep a_laid x2 x3 x4 x5 x6 x7 post := by
  intro P hP
  have loop : ∀ (n : Nat) (x3 : Int32) (x4 : Int32) (x5 : Int32) (x6 : Int32) (x7 : Int32) (a_run : Nat → Int32) (a_routes : Nat → Int32) (a_longest : Nat → Int32) (a_steep : Nat → Int32) (a_laid : Nat → Int32), (9 - x7.toInt < (n : Int)) → (iv 0 511 x3) → (iv 0 511 x4) → (iv 0 2147483647 x6) → (iv 0 9 x7) → (∀ j, iv 0 1000000 (a_run j)) → (∀ j, iv 0 1 (a_laid j)) → P x3 x4 x5 x6 x7 a_run a_routes a_longest a_steep a_laid := by
    intro n
    induction n with
    | zero => intro x3 x4 x5 x6 x7 a_run a_routes a_longest a_steep a_laid hm hx3 hx4 hx6 hx7 k_a_run k_a_laid; exact (ms0_up hm hx7).elim
    | succ n ih =>
      intro x3 x4 x5 x6 x7 a_run a_routes a_longest a_steep a_laid hm hx3 hx4 hx6 hx7 k_a_run k_a_laid
      apply hP
      refine ⟨fun c1 => ?_, fun c1 => ?_⟩
      · skip
        refine ⟨fun c2 => ?_, fun c2 => ?_⟩
        · skip
          refine ⟨fun c3 => ?_, fun c3 => ?_⟩
          · skip
            refine ⟨fun c4 => ?_, fun c4 => ?_⟩
            · skip
              exact hpost _ _ _ _ _ _ _ _ _ _ k_f_code k_f_land k_f_huts k_f_singers k_a_run k_a_laid
            · skip
              exact hpost _ _ _ _ _ _ _ _ _ _ k_f_code k_f_land k_f_huts k_f_singers k_a_run k_a_laid
          · skip
            exact hpost _ _ _ _ _ _ _ _ _ _ k_f_code k_f_land k_f_huts k_f_singers k_a_run k_a_laid
        · skip
          refine sp_of (a := 0) (b := 511) k_a_lands k_f_land (iv_lit (l := 3) (h := 3) (by decide)) (by decide +kernel) (fun r5 hr5 er5 => ?_)
          exact hpost _ _ _ _ _ _ _ _ _ _ k_f_code k_f_land k_f_huts k_f_singers k_a_run k_a_laid
      · skip
        refine s_m_findRun_0 k_a_lands k_f_land (iv_w (iv_ltb (l := 1) (h := 9) (r_nle c1) hx7 k_f_huts (by decide)) (by decide)) k_a_run (iv_lta (l := 0) (h := 8) (r_nle c1) hx7 k_f_huts (by decide)) (iv_w (iv_lit (l := 0) (h := 0) (by decide)) (by decide)) (fun o6 k_o6 => ?_)
        refine s_m_comesBy_0 (iv_w (iv_ltb (l := 1) (h := 9) (r_nle c1) hx7 k_f_huts (by decide)) (by decide)) k_o6 (iv_w (iv_lit (l := 999999) (h := 999999) (by decide)) (by decide)) (fun r7 hr7 => ?_)
        intro w8 ew8
        have hw8 := iv_eq ew8 (iv_andl (l := 0) (h := 511) hr7 (by decide))
        intro w9 ew9
        have hw9 := iv_eq ew9 (iv_or 9 (l := 0) (h := 511) hx3 hw8 (by decide))
        refine ⟨fun c10 => ?_, fun c10 => ?_⟩
        · skip
          exact s_m_slopes_98 k_f_code k_a_many k_a_lands k_f_land (iv_ltb (l := 1) (h := 9) (r_nle c1) hx7 k_f_huts (by decide)) k_f_singers k_o6 k_a_laid hx2 hw9 hx6 (iv_lta (l := 0) (h := 8) (r_nle c1) hx7 k_f_huts (by decide)) (iv_w (iv_ne (l := 1) (h := 511) c10 hw8 (iv_lit (l := 0) (h := 0) (by decide)) (by decide)) (by decide)) hx4 x7.toInt (Int.le_refl _) (fun u0 u1 u2 u3 u4 u5 u6 u7 u8 u9 hq g0 g1 g2 g3 g4 g5 => ih u0 u1 u2 u3 u4 u5 u6 u7 u8 u9 (ms_up hm hq) g0 g1 g2 g3 g4 g5) hpost
        · skip
          refine sp_of (a := 0) (b := 511) k_a_lands k_f_land (iv_lit (l := 3) (h := 3) (by decide)) (by decide +kernel) (fun r11 hr11 er11 => ?_)
          refine ⟨fun c12 => ?_, fun c12 => ?_⟩
          · skip
            refine ⟨iv_nb (iv_lit (l := 0) (h := 0) (by decide)) (by decide), ?_⟩
            refine ⟨fun c13 => ?_, fun c13 => ?_⟩
            · skip
              exact (iv_emp (iv_ne (l := 1) (h := 0) c13 (iv_lit (l := 0) (h := 0) (by decide)) (iv_lit (l := 0) (h := 0) (by decide)) (by decide)) (by decide)).elim
            · skip
              exact s_m_slopes_99 k_f_code k_a_many k_a_lands k_f_land (iv_ltb (l := 1) (h := 9) (r_nle c1) hx7 k_f_huts (by decide)) k_f_singers k_o6 k_a_laid hx2 hw9 hx6 (iv_lta (l := 0) (h := 8) (r_nle c1) hx7 k_f_huts (by decide)) (iv_w (iv_eqa (l := 0) (h := 0) c10 hw8 (iv_lit (l := 0) (h := 0) (by decide)) (by decide)) (by decide)) hx4 (iv_w (iv_shl1 (l := 1) (h := 256) (iv_lit (l := 1) (h := 1) (by decide)) (iv_lta (l := 0) (h := 8) (r_nle c1) hx7 k_f_huts (by decide)) (by decide)) (by decide)) x7.toInt (Int.le_refl _) (fun u0 u1 u2 u3 u4 u5 u6 u7 u8 u9 hq g0 g1 g2 g3 g4 g5 => ih u0 u1 u2 u3 u4 u5 u6 u7 u8 u9 (ms_up hm hq) g0 g1 g2 g3 g4 g5) hpost
          · skip
            refine ⟨iv_nb (iv_lit (l := 1) (h := 1) (by decide)) (by decide), ?_⟩
            refine ⟨fun c14 => ?_, fun c14 => ?_⟩
            · skip
              exact s_m_slopes_98 k_f_code k_a_many k_a_lands k_f_land (iv_ltb (l := 1) (h := 9) (r_nle c1) hx7 k_f_huts (by decide)) k_f_singers k_o6 k_a_laid hx2 hw9 hx6 (iv_lta (l := 0) (h := 8) (r_nle c1) hx7 k_f_huts (by decide)) (iv_w (iv_eqa (l := 0) (h := 0) c10 hw8 (iv_lit (l := 0) (h := 0) (by decide)) (by decide)) (by decide)) hx4 x7.toInt (Int.le_refl _) (fun u0 u1 u2 u3 u4 u5 u6 u7 u8 u9 hq g0 g1 g2 g3 g4 g5 => ih u0 u1 u2 u3 u4 u5 u6 u7 u8 u9 (ms_up hm hq) g0 g1 g2 g3 g4 g5) hpost
            · skip
              exact (iv_emp (iv_eqa (l := 1) (h := 0) c14 (iv_lit (l := 1) (h := 1) (by decide)) (iv_lit (l := 0) (h := 0) (by decide)) (by decide)) (by decide)).elim
  exact loop _ _ _ _ _ _ _ _ _ _ _ (ms_init_up _ _) hx3 hx4 hx6 hx7 k_a_run k_a_laid
set_option maxRecDepth 20000 in
theorem s_m_slopes_0 {f_code : Int32} {a_many : Nat → Int32} {a_lands : Nat → Int32} {f_land : Int32} {f_huts : Int32} {f_singers : Int32} {a_run : Nat → Int32} {a_routes : Nat → Int32} {a_longest : Nat → Int32} {a_steep : Nat → Int32} {a_laid : Nat → Int32} {x1 : Int32} {x2 : Int32} {post : Int32 → (Int32) → (Int32) → (Int32) → (Int32) → (Nat → Int32) → (Nat → Int32) → (Nat → Int32) → (Nat → Int32) → (Nat → Int32) → Prop} (k_f_code : iv 0 0 f_code) (k_a_many : ∀ j, iv 0 2 (a_many j)) (k_a_lands : mLand a_lands) (k_f_land : iv 0 1 f_land) (k_f_huts : iv 0 9 f_huts) (k_f_singers : iv 0 6 f_singers) (k_a_run : ∀ j, iv 0 1000000 (a_run j)) (k_a_laid : ∀ j, iv 0 1 (a_laid j)) (hpost : ∀ (r : Int32) (f_code : Int32) (f_land : Int32) (f_huts : Int32) (f_singers : Int32) (a_run : Nat → Int32) (a_routes : Nat → Int32) (a_longest : Nat → Int32) (a_steep : Nat → Int32) (a_laid : Nat → Int32), (iv 0 0 f_code) → (iv 0 1 f_land) → (iv 0 9 f_huts) → (iv 0 6 f_singers) → (∀ j, iv 0 1000000 (a_run j)) → (∀ j, iv 0 1 (a_laid j)) → post r f_code f_land f_huts f_singers a_run a_routes a_longest a_steep a_laid) : q_m_slopes_0 f_code a_many a_lands f_land f_huts f_singers a_run a_routes a_longest a_steep a_laid x1 x2 post := by
  refine ⟨iv_in (iv_lit (l := 0) (h := 0) (by decide)) (by decide), ?_⟩
  refine ⟨fun c1 => ?_, fun c1 => ?_⟩
  · skip
    refine ⟨iv_nb (iv_lit (l := 0) (h := 0) (by decide)) (by decide), ?_⟩
    refine ⟨fun c2 => ?_, fun c2 => ?_⟩
    · skip
      exact (iv_emp (iv_ne (l := 1) (h := 0) c2 (iv_lit (l := 0) (h := 0) (by decide)) (iv_lit (l := 0) (h := 0) (by decide)) (by decide)) (by decide)).elim
    · skip
      refine ⟨fun c3 => ?_, fun c3 => ?_⟩
      · skip
        exact hpost _ _ _ _ _ _ _ _ _ _ (iv_lit (l := 0) (h := 0) (by decide)) k_f_land k_f_huts k_f_singers k_a_run k_a_laid
      · skip
        exact (iv_emp (iv_ne (l := 1) (h := 0) c3 (iv_lit (l := 0) (h := 0) (by decide)) (iv_lit (l := 0) (h := 0) (by decide)) (by decide)) (by decide)).elim
  · skip
    refine ⟨fun c4 => ?_, fun c4 => ?_⟩
    · skip
      refine ⟨iv_nb (iv_lit (l := 0) (h := 0) (by decide)) (by decide), ?_⟩
      refine ⟨fun c5 => ?_, fun c5 => ?_⟩
      · skip
        exact (iv_emp (iv_ne (l := 1) (h := 0) c5 (iv_lit (l := 0) (h := 0) (by decide)) (iv_lit (l := 0) (h := 0) (by decide)) (by decide)) (by decide)).elim
      · skip
        refine ⟨fun c6 => ?_, fun c6 => ?_⟩
        · skip
          exact hpost _ _ _ _ _ _ _ _ _ _ (iv_lit (l := 0) (h := 0) (by decide)) k_f_land k_f_huts k_f_singers k_a_run k_a_laid
        · skip
          exact (iv_emp (iv_ne (l := 1) (h := 0) c6 (iv_lit (l := 0) (h := 0) (by decide)) (iv_lit (l := 0) (h := 0) (by decide)) (by decide)) (by decide)).elim
    · skip
      refine ⟨iv_nb (iv_lit (l := 1) (h := 1) (by decide)) (by decide), ?_⟩
      refine ⟨fun c7 => ?_, fun c7 => ?_⟩
      · skip
        refine sp_of (a := 0) (b := 9) k_a_lands (iv_lea (l := 0) (h := 1) (r_nlt c4) (iv_leb (l := 0) (h := 2147483647) (r_nlt c1) (iv_lit (l := 0) (h := 0) (by decide)) (iv_top x1) (by decide)) (iv_sub (l := (-1)) (h := 1) (k_a_many _) (iv_lit (l := 1) (h := 1) (by decide)) (by decide)) (by decide)) (iv_lit (l := 0) (h := 0) (by decide)) (by decide +kernel) (fun r8 hr8 er8 => ?_)
        refine sp_of (a := 0) (b := 6) k_a_lands (iv_lea (l := 0) (h := 1) (r_nlt c4) (iv_leb (l := 0) (h := 2147483647) (r_nlt c1) (iv_lit (l := 0) (h := 0) (by decide)) (iv_top x1) (by decide)) (iv_sub (l := (-1)) (h := 1) (k_a_many _) (iv_lit (l := 1) (h := 1) (by decide)) (by decide)) (by decide)) (iv_lit (l := 1) (h := 1) (by decide)) (by decide +kernel) (fun r9 hr9 er9 => ?_)
        refine ⟨fun c10 => ?_, fun c10 => ?_⟩
        · skip
          exact (iv_emp (iv_eqa (l := 1) (h := 0) c10 (iv_lit (l := 1) (h := 1) (by decide)) (iv_lit (l := 0) (h := 0) (by decide)) (by decide)) (by decide)).elim
        · skip
          refine ⟨fun c11 => ?_, fun c11 => ?_⟩
          · skip
            refine ⟨fun c12 => ?_, fun c12 => ?_⟩
            · skip
              exact (iv_emp (iv_ne (l := 1) (h := 0) c12 (iv_lit (l := 0) (h := 0) (by decide)) (iv_lit (l := 0) (h := 0) (by decide)) (by decide)) (by decide)).elim
            · skip
              exact hpost _ _ _ _ _ _ _ _ _ _ (iv_lit (l := 0) (h := 0) (by decide)) (iv_lea (l := 0) (h := 1) (r_nlt c4) (iv_leb (l := 0) (h := 2147483647) (r_nlt c1) (iv_lit (l := 0) (h := 0) (by decide)) (iv_top x1) (by decide)) (iv_sub (l := (-1)) (h := 1) (k_a_many _) (iv_lit (l := 1) (h := 1) (by decide)) (by decide)) (by decide)) hr8 hr9 k_a_run k_a_laid
          · skip
            refine ⟨fun c13 => ?_, fun c13 => ?_⟩
            · skip
              refine ⟨fun c14 => ?_, fun c14 => ?_⟩
              · skip
                exact (iv_emp (iv_ne (l := 1) (h := 0) c14 (iv_lit (l := 0) (h := 0) (by decide)) (iv_lit (l := 0) (h := 0) (by decide)) (by decide)) (by decide)).elim
              · skip
                exact hpost _ _ _ _ _ _ _ _ _ _ (iv_lit (l := 0) (h := 0) (by decide)) (iv_lea (l := 0) (h := 1) (r_nlt c4) (iv_leb (l := 0) (h := 2147483647) (r_nlt c1) (iv_lit (l := 0) (h := 0) (by decide)) (iv_top x1) (by decide)) (iv_sub (l := (-1)) (h := 1) (k_a_many _) (iv_lit (l := 1) (h := 1) (by decide)) (by decide)) (by decide)) hr8 hr9 k_a_run k_a_laid
            · skip
              refine ⟨fun c15 => ?_, fun c15 => ?_⟩
              · skip
                exact s_m_slopes_38 (iv_lit (l := 0) (h := 0) (by decide)) k_a_many k_a_lands (iv_lea (l := 0) (h := 1) (r_nlt c4) (iv_leb (l := 0) (h := 2147483647) (r_nlt c1) (iv_lit (l := 0) (h := 0) (by decide)) (iv_top x1) (by decide)) (iv_sub (l := (-1)) (h := 1) (k_a_many _) (iv_lit (l := 1) (h := 1) (by decide)) (by decide)) (by decide)) hr8 hr9 k_a_run k_a_laid (iv_lea (l := 0) (h := 3) (r_nlt c13) (iv_leb (l := 0) (h := 2147483647) (r_nlt c11) (iv_lit (l := 0) (h := 0) (by decide)) (iv_top x2) (by decide)) (iv_lit (l := 3) (h := 3) (by decide)) (by decide)) (iv_w (iv_lit (l := 0) (h := 0) (by decide)) (by decide)) (iv_w (iv_lit (l := 0) (h := 0) (by decide)) (by decide)) (iv_w (iv_lit (l := 0) (h := 0) (by decide)) (by decide)) (iv_w (iv_lit (l := 0) (h := 0) (by decide)) (by decide)) hpost
              · skip
                exact (iv_emp (iv_eqa (l := 1) (h := 0) c15 (iv_lit (l := 1) (h := 1) (by decide)) (iv_lit (l := 0) (h := 0) (by decide)) (by decide)) (by decide)).elim
      · skip
        exact (iv_emp (iv_eqa (l := 1) (h := 0) c7 (iv_lit (l := 1) (h := 1) (by decide)) (iv_lit (l := 0) (h := 0) (by decide)) (by decide)) (by decide)).elim
-- m_flood
set_option maxRecDepth 20000 in
theorem s_m_flood_144 {P58 : Int32 → Int32 → (Nat → Int32) → Prop} {f_code : Int32} {a_many : Nat → Int32} {a_lands : Nat → Int32} {f_land : Int32} {f_huts : Int32} {f_singers : Int32} {a_run : Nat → Int32} {x2 : Int32} {x3 : Int32} {x4 : Int32} {x6 : Int32} {y0 : Int32} {post : Int32 → (Int32) → (Int32) → (Int32) → (Int32) → (Nat → Int32) → Prop} (k_f_code : iv 0 0 f_code) (k_a_many : ∀ j, iv 0 2 (a_many j)) (k_a_lands : mLand a_lands) (k_f_land : iv 0 1 f_land) (k_f_huts : iv 0 9 f_huts) (k_f_singers : iv 0 6 f_singers) (k_a_run : ∀ j, iv 0 1000000 (a_run j)) (hx2 : iv 0 8 x2) (hx3 : iv 0 8 x3) (hx6 : iv 0 511 x6) (hy0 : iv (-1) 2147483647 y0) (m58 : Int) (hm58 : m58 ≤ x6.toInt) (hP58 : ∀ (x5 : Int32) (x6 : Int32) (a_run : Nat → Int32), m58 < x6.toInt → iv (-1) 2147483647 x5 → iv 0 512 x6 → (∀ j, iv 0 1000000 (a_run j)) → P58 x5 x6 a_run) (hpost : ∀ (r : Int32) (f_code : Int32) (f_land : Int32) (f_huts : Int32) (f_singers : Int32) (a_run : Nat → Int32), (iv 0 0 f_code) → (iv 0 1 f_land) → (iv 0 9 f_huts) → (iv 0 6 f_singers) → (∀ j, iv 0 1000000 (a_run j)) → post r f_code f_land f_huts f_singers a_run) : q_m_flood_144 P58 f_code a_many a_lands f_land f_huts f_singers a_run x2 x3 x4 x6 y0 post := by
  intro w1 ew1
  have hw1 := iv_eq ew1 (iv_add (l := 1) (h := 512) hx6 (iv_lit (l := 1) (h := 1) (by decide)) (by decide))
  exact hP58 _ _ _ (ml_up hm58 (inc_lt ew1 hx6 (by decide))) hy0 (iv_w hw1 (by decide)) k_a_run
set_option maxRecDepth 20000 in
theorem s_m_flood_137 {P58 : Int32 → Int32 → (Nat → Int32) → Prop} {f_code : Int32} {a_many : Nat → Int32} {a_lands : Nat → Int32} {f_land : Int32} {f_huts : Int32} {f_singers : Int32} {a_run : Nat → Int32} {x2 : Int32} {x3 : Int32} {x4 : Int32} {x6 : Int32} {post : Int32 → (Int32) → (Int32) → (Int32) → (Int32) → (Nat → Int32) → Prop} (k_f_code : iv 0 0 f_code) (k_a_many : ∀ j, iv 0 2 (a_many j)) (k_a_lands : mLand a_lands) (k_f_land : iv 0 1 f_land) (k_f_huts : iv 0 9 f_huts) (k_f_singers : iv 0 6 f_singers) (k_a_run : ∀ j, iv 0 1000000 (a_run j)) (hx2 : iv 0 8 x2) (hx3 : iv 0 8 x3) (hx6 : iv 0 511 x6) (m58 : Int) (hm58 : m58 ≤ x6.toInt) (hP58 : ∀ (x5 : Int32) (x6 : Int32) (a_run : Nat → Int32), m58 < x6.toInt → iv (-1) 2147483647 x5 → iv 0 512 x6 → (∀ j, iv 0 1000000 (a_run j)) → P58 x5 x6 a_run) (hpost : ∀ (r : Int32) (f_code : Int32) (f_land : Int32) (f_huts : Int32) (f_singers : Int32) (a_run : Nat → Int32), (iv 0 0 f_code) → (iv 0 1 f_land) → (iv 0 9 f_huts) → (iv 0 6 f_singers) → (∀ j, iv 0 1000000 (a_run j)) → post r f_code f_land f_huts f_singers a_run) : q_m_flood_137 P58 f_code a_many a_lands f_land f_huts f_singers a_run x2 x3 x4 x6 post := by
  exact s_m_flood_144 k_f_code k_a_many k_a_lands k_f_land k_f_huts k_f_singers k_a_run hx2 hx3 hx6 (iv_w hx6 (by decide)) m58 hm58 hP58 hpost
set_option maxRecDepth 20000 in
theorem s_m_flood_142 {P58 : Int32 → Int32 → (Nat → Int32) → Prop} {f_code : Int32} {a_many : Nat → Int32} {a_lands : Nat → Int32} {f_land : Int32} {f_huts : Int32} {f_singers : Int32} {a_run : Nat → Int32} {x2 : Int32} {x3 : Int32} {x4 : Int32} {x5 : Int32} {x6 : Int32} {post : Int32 → (Int32) → (Int32) → (Int32) → (Int32) → (Nat → Int32) → Prop} (k_f_code : iv 0 0 f_code) (k_a_many : ∀ j, iv 0 2 (a_many j)) (k_a_lands : mLand a_lands) (k_f_land : iv 0 1 f_land) (k_f_huts : iv 0 9 f_huts) (k_f_singers : iv 0 6 f_singers) (k_a_run : ∀ j, iv 0 1000000 (a_run j)) (hx2 : iv 0 8 x2) (hx3 : iv 0 8 x3) (hx5 : iv (-1) 2147483647 x5) (hx6 : iv 0 511 x6) (m58 : Int) (hm58 : m58 ≤ x6.toInt) (hP58 : ∀ (x5 : Int32) (x6 : Int32) (a_run : Nat → Int32), m58 < x6.toInt → iv (-1) 2147483647 x5 → iv 0 512 x6 → (∀ j, iv 0 1000000 (a_run j)) → P58 x5 x6 a_run) (hpost : ∀ (r : Int32) (f_code : Int32) (f_land : Int32) (f_huts : Int32) (f_singers : Int32) (a_run : Nat → Int32), (iv 0 0 f_code) → (iv 0 1 f_land) → (iv 0 9 f_huts) → (iv 0 6 f_singers) → (∀ j, iv 0 1000000 (a_run j)) → post r f_code f_land f_huts f_singers a_run) : q_m_flood_142 P58 f_code a_many a_lands f_land f_huts f_singers a_run x2 x3 x4 x5 x6 post := by
  exact s_m_flood_144 k_f_code k_a_many k_a_lands k_f_land k_f_huts k_f_singers k_a_run hx2 hx3 hx6 hx5 m58 hm58 hP58 hpost
set_option maxRecDepth 20000 in
theorem s_m_flood_111 {P58 : Int32 → Int32 → (Nat → Int32) → Prop} {f_code : Int32} {a_many : Nat → Int32} {a_lands : Nat → Int32} {f_land : Int32} {f_huts : Int32} {f_singers : Int32} {a_run : Nat → Int32} {x2 : Int32} {x3 : Int32} {x4 : Int32} {x5 : Int32} {x6 : Int32} {y0 : Int32} {post : Int32 → (Int32) → (Int32) → (Int32) → (Int32) → (Nat → Int32) → Prop} (k_f_code : iv 0 0 f_code) (k_a_many : ∀ j, iv 0 2 (a_many j)) (k_a_lands : mLand a_lands) (k_f_land : iv 0 1 f_land) (k_f_huts : iv 0 9 f_huts) (k_f_singers : iv 0 6 f_singers) (k_a_run : ∀ j, iv 0 1000000 (a_run j)) (hx2 : iv 0 8 x2) (hx3 : iv 0 8 x3) (hx5 : iv (-1) 2147483647 x5) (hx6 : iv 0 511 x6) (hy0 : iv 0 1 y0) (m58 : Int) (hm58 : m58 ≤ x6.toInt) (hP58 : ∀ (x5 : Int32) (x6 : Int32) (a_run : Nat → Int32), m58 < x6.toInt → iv (-1) 2147483647 x5 → iv 0 512 x6 → (∀ j, iv 0 1000000 (a_run j)) → P58 x5 x6 a_run) (hpost : ∀ (r : Int32) (f_code : Int32) (f_land : Int32) (f_huts : Int32) (f_singers : Int32) (a_run : Nat → Int32), (iv 0 0 f_code) → (iv 0 1 f_land) → (iv 0 9 f_huts) → (iv 0 6 f_singers) → (∀ j, iv 0 1000000 (a_run j)) → post r f_code f_land f_huts f_singers a_run) : q_m_flood_111 P58 f_code a_many a_lands f_land f_huts f_singers a_run x2 x3 x4 x5 x6 y0 post := by
  refine ⟨fun c1 => ?_, fun c1 => ?_⟩
  · skip
    exact s_m_flood_142 k_f_code k_a_many k_a_lands k_f_land k_f_huts k_f_singers k_a_run hx2 hx3 hx5 hx6 m58 hm58 hP58 hpost
  · skip
    refine ⟨fun c2 => ?_, fun c2 => ?_⟩
    · skip
      exact s_m_flood_137 k_f_code k_a_many k_a_lands k_f_land k_f_huts k_f_singers k_a_run hx2 hx3 hx6 m58 hm58 hP58 hpost
    · skip
      refine s_m_ones_0 (iv_w hx6 (by decide)) (fun r3 => ?_)
      refine s_m_ones_0 (iv_w (iv_ne (l := 0) (h := 2147483647) c2 hx5 (iv_lit (l := (-1)) (h := (-1)) (by decide)) (by decide)) (by decide)) (fun r4 => ?_)
      refine ⟨fun c5 => ?_, fun c5 => ?_⟩
      · skip
        exact s_m_flood_142 k_f_code k_a_many k_a_lands k_f_land k_f_huts k_f_singers k_a_run hx2 hx3 (iv_w (iv_ne (l := 0) (h := 2147483647) c2 hx5 (iv_lit (l := (-1)) (h := (-1)) (by decide)) (by decide)) (by decide)) hx6 m58 hm58 hP58 hpost
      · skip
        exact s_m_flood_137 k_f_code k_a_many k_a_lands k_f_land k_f_huts k_f_singers k_a_run hx2 hx3 hx6 m58 hm58 hP58 hpost
set_option maxRecDepth 20000 in
theorem s_m_flood_110 {P58 : Int32 → Int32 → (Nat → Int32) → Prop} {f_code : Int32} {a_many : Nat → Int32} {a_lands : Nat → Int32} {f_land : Int32} {f_huts : Int32} {f_singers : Int32} {a_run : Nat → Int32} {x2 : Int32} {x3 : Int32} {x4 : Int32} {x5 : Int32} {x6 : Int32} {post : Int32 → (Int32) → (Int32) → (Int32) → (Int32) → (Nat → Int32) → Prop} (k_f_code : iv 0 0 f_code) (k_a_many : ∀ j, iv 0 2 (a_many j)) (k_a_lands : mLand a_lands) (k_f_land : iv 0 1 f_land) (k_f_huts : iv 0 9 f_huts) (k_f_singers : iv 0 6 f_singers) (k_a_run : ∀ j, iv 0 1000000 (a_run j)) (hx2 : iv 0 8 x2) (hx3 : iv 0 8 x3) (hx5 : iv (-1) 2147483647 x5) (hx6 : iv 0 511 x6) (m58 : Int) (hm58 : m58 ≤ x6.toInt) (hP58 : ∀ (x5 : Int32) (x6 : Int32) (a_run : Nat → Int32), m58 < x6.toInt → iv (-1) 2147483647 x5 → iv 0 512 x6 → (∀ j, iv 0 1000000 (a_run j)) → P58 x5 x6 a_run) (hpost : ∀ (r : Int32) (f_code : Int32) (f_land : Int32) (f_huts : Int32) (f_singers : Int32) (a_run : Nat → Int32), (iv 0 0 f_code) → (iv 0 1 f_land) → (iv 0 9 f_huts) → (iv 0 6 f_singers) → (∀ j, iv 0 1000000 (a_run j)) → post r f_code f_land f_huts f_singers a_run) : q_m_flood_110 P58 f_code a_many a_lands f_land f_huts f_singers a_run x2 x3 x4 x5 x6 post := by
  exact s_m_flood_111 k_f_code k_a_many k_a_lands k_f_land k_f_huts k_f_singers k_a_run hx2 hx3 hx5 hx6 (iv_w (iv_lit (l := 0) (h := 0) (by decide)) (by decide)) m58 hm58 hP58 hpost
set_option maxRecDepth 20000 in
theorem s_m_flood_163 {f_code : Int32} {a_many : Nat → Int32} {a_lands : Nat → Int32} {f_land : Int32} {f_huts : Int32} {f_singers : Int32} {a_run : Nat → Int32} {x5 : Int32} {post : Int32 → (Int32) → (Int32) → (Int32) → (Int32) → (Nat → Int32) → Prop} (k_f_code : iv 0 0 f_code) (k_a_many : ∀ j, iv 0 2 (a_many j)) (k_a_lands : mLand a_lands) (k_f_land : iv 0 1 f_land) (k_f_huts : iv 0 9 f_huts) (k_f_singers : iv 0 6 f_singers) (k_a_run : ∀ j, iv 0 1000000 (a_run j)) (hx5 : iv (-1) 2147483647 x5) (hpost : ∀ (r : Int32) (f_code : Int32) (f_land : Int32) (f_huts : Int32) (f_singers : Int32) (a_run : Nat → Int32), (iv 0 0 f_code) → (iv 0 1 f_land) → (iv 0 9 f_huts) → (iv 0 6 f_singers) → (∀ j, iv 0 1000000 (a_run j)) → post r f_code f_land f_huts f_singers a_run) : q_m_flood_163 f_code a_many a_lands f_land f_huts f_singers a_run x5 post := by
  exact hpost _ _ _ _ _ _ k_f_code k_f_land k_f_huts k_f_singers k_a_run
set_option maxRecDepth 20000 in
theorem s_m_flood_58 {f_code : Int32} {a_many : Nat → Int32} {a_lands : Nat → Int32} {f_land : Int32} {f_huts : Int32} {f_singers : Int32} {a_run : Nat → Int32} {x2 : Int32} {x3 : Int32} {x4 : Int32} {x5 : Int32} {x6 : Int32} {post : Int32 → (Int32) → (Int32) → (Int32) → (Int32) → (Nat → Int32) → Prop} (k_f_code : iv 0 0 f_code) (k_a_many : ∀ j, iv 0 2 (a_many j)) (k_a_lands : mLand a_lands) (k_f_land : iv 0 1 f_land) (k_f_huts : iv 0 9 f_huts) (k_f_singers : iv 0 6 f_singers) (k_a_run : ∀ j, iv 0 1000000 (a_run j)) (hx2 : iv 0 8 x2) (hx3 : iv 0 8 x3) (hx5 : iv (-1) 2147483647 x5) (hx6 : iv 0 512 x6) (hpost : ∀ (r : Int32) (f_code : Int32) (f_land : Int32) (f_huts : Int32) (f_singers : Int32) (a_run : Nat → Int32), (iv 0 0 f_code) → (iv 0 1 f_land) → (iv 0 9 f_huts) → (iv 0 6 f_singers) → (∀ j, iv 0 1000000 (a_run j)) → post r f_code f_land f_huts f_singers a_run) : q_m_flood_58 f_code a_many a_lands f_land f_huts f_singers a_run x2 x3 x4 x5 x6 post := by
  intro P hP
  have loop : ∀ (n : Nat) (x5 : Int32) (x6 : Int32) (a_run : Nat → Int32), (512 - x6.toInt < (n : Int)) → (iv (-1) 2147483647 x5) → (iv 0 512 x6) → (∀ j, iv 0 1000000 (a_run j)) → P x5 x6 a_run := by
    intro n
    induction n with
    | zero => intro x5 x6 a_run hm hx5 hx6 k_a_run; exact (ms0_up hm hx6).elim
    | succ n ih =>
      intro x5 x6 a_run hm hx5 hx6 k_a_run
      apply hP
      refine ⟨fun c1 => ?_, fun c1 => ?_⟩
      · skip
        refine ⟨fun c2 => ?_, fun c2 => ?_⟩
        · skip
          exact s_m_flood_163 k_f_code k_a_many k_a_lands k_f_land k_f_huts k_f_singers k_a_run (iv_w (iv_eqa (l := (-1)) (h := (-1)) c2 hx5 (iv_lit (l := (-1)) (h := (-1)) (by decide)) (by decide)) (by decide)) hpost
        · skip
          refine ⟨fun c3 => ?_, fun c3 => ?_⟩
          · skip
            refine s_m_ones_0 (iv_w (iv_ne (l := 0) (h := 2147483647) c2 hx5 (iv_lit (l := (-1)) (h := (-1)) (by decide)) (by decide)) (by decide)) (fun r4 => ?_)
            exact hpost _ _ _ _ _ _ k_f_code k_f_land k_f_huts k_f_singers k_a_run
          · skip
            exact s_m_flood_163 k_f_code k_a_many k_a_lands k_f_land k_f_huts k_f_singers k_a_run (iv_w (iv_ne (l := 0) (h := 2147483647) c2 hx5 (iv_lit (l := (-1)) (h := (-1)) (by decide)) (by decide)) (by decide)) hpost
      · skip
        refine s_m_findRun_0 k_a_lands k_f_land k_f_huts k_a_run hx2 (iv_lta (l := 0) (h := 511) (r_nle c1) hx6 (iv_shl1 (l := 1) (h := 512) (iv_lit (l := 1) (h := 1) (by decide)) k_f_huts (by decide)) (by decide)) (fun o5 k_o5 => ?_)
        refine ⟨fun c6 => ?_, fun c6 => ?_⟩
        · skip
          refine ⟨fun c7 => ?_, fun c7 => ?_⟩
          · skip
            exact (iv_emp (iv_ne (l := 1) (h := 0) c7 (iv_lit (l := 0) (h := 0) (by decide)) (iv_lit (l := 0) (h := 0) (by decide)) (by decide)) (by decide)).elim
          · skip
            refine ⟨fun c8 => ?_, fun c8 => ?_⟩
            · skip
              refine ⟨fun c9 => ?_, fun c9 => ?_⟩
              · skip
                exact (iv_emp (iv_ne (l := 1) (h := 0) c9 (iv_lit (l := 0) (h := 0) (by decide)) (iv_lit (l := 0) (h := 0) (by decide)) (by decide)) (by decide)).elim
              · skip
                refine ⟨iv_in hx3 (by decide), ?_⟩
                refine ⟨fun c10 => ?_, fun c10 => ?_⟩
                · skip
                  exact s_m_flood_110 k_f_code k_a_many k_a_lands k_f_land k_f_huts k_f_singers k_o5 hx2 hx3 hx5 (iv_lta (l := 0) (h := 511) (r_nle c1) hx6 (iv_shl1 (l := 1) (h := 512) (iv_lit (l := 1) (h := 1) (by decide)) k_f_huts (by decide)) (by decide)) x6.toInt (Int.le_refl _) (fun u0 u1 u2 hq g0 g1 g2 => ih u0 u1 u2 (ms_up hm hq) g0 g1 g2) hpost
                · skip
                  exact s_m_flood_111 k_f_code k_a_many k_a_lands k_f_land k_f_huts k_f_singers k_o5 hx2 hx3 hx5 (iv_lta (l := 0) (h := 511) (r_nle c1) hx6 (iv_shl1 (l := 1) (h := 512) (iv_lit (l := 1) (h := 1) (by decide)) k_f_huts (by decide)) (by decide)) (iv_w (iv_lit (l := 1) (h := 1) (by decide)) (by decide)) x6.toInt (Int.le_refl _) (fun u0 u1 u2 hq g0 g1 g2 => ih u0 u1 u2 (ms_up hm hq) g0 g1 g2) hpost
            · skip
              refine ⟨fun c11 => ?_, fun c11 => ?_⟩
              · skip
                exact s_m_flood_110 k_f_code k_a_many k_a_lands k_f_land k_f_huts k_f_singers k_o5 hx2 hx3 hx5 (iv_lta (l := 0) (h := 511) (r_nle c1) hx6 (iv_shl1 (l := 1) (h := 512) (iv_lit (l := 1) (h := 1) (by decide)) k_f_huts (by decide)) (by decide)) x6.toInt (Int.le_refl _) (fun u0 u1 u2 hq g0 g1 g2 => ih u0 u1 u2 (ms_up hm hq) g0 g1 g2) hpost
              · skip
                exact (iv_emp (iv_eqa (l := 1) (h := 0) c11 (iv_lit (l := 1) (h := 1) (by decide)) (iv_lit (l := 0) (h := 0) (by decide)) (by decide)) (by decide)).elim
        · skip
          refine ⟨fun c12 => ?_, fun c12 => ?_⟩
          · skip
            exact s_m_flood_110 k_f_code k_a_many k_a_lands k_f_land k_f_huts k_f_singers k_o5 hx2 hx3 hx5 (iv_lta (l := 0) (h := 511) (r_nle c1) hx6 (iv_shl1 (l := 1) (h := 512) (iv_lit (l := 1) (h := 1) (by decide)) k_f_huts (by decide)) (by decide)) x6.toInt (Int.le_refl _) (fun u0 u1 u2 hq g0 g1 g2 => ih u0 u1 u2 (ms_up hm hq) g0 g1 g2) hpost
          · skip
            exact (iv_emp (iv_eqa (l := 1) (h := 0) c12 (iv_lit (l := 1) (h := 1) (by decide)) (iv_lit (l := 0) (h := 0) (by decide)) (by decide)) (by decide)).elim
  exact loop _ _ _ _ (ms_init_up _ _) hx5 hx6 k_a_run
set_option maxRecDepth 20000 in
theorem s_m_flood_0 {f_code : Int32} {a_many : Nat → Int32} {a_lands : Nat → Int32} {f_land : Int32} {f_huts : Int32} {f_singers : Int32} {a_run : Nat → Int32} {x1 : Int32} {x2 : Int32} {x3 : Int32} {x4 : Int32} {post : Int32 → (Int32) → (Int32) → (Int32) → (Int32) → (Nat → Int32) → Prop} (k_f_code : iv 0 0 f_code) (k_a_many : ∀ j, iv 0 2 (a_many j)) (k_a_lands : mLand a_lands) (k_f_land : iv 0 1 f_land) (k_f_huts : iv 0 9 f_huts) (k_f_singers : iv 0 6 f_singers) (k_a_run : ∀ j, iv 0 1000000 (a_run j)) (hpost : ∀ (r : Int32) (f_code : Int32) (f_land : Int32) (f_huts : Int32) (f_singers : Int32) (a_run : Nat → Int32), (iv 0 0 f_code) → (iv 0 1 f_land) → (iv 0 9 f_huts) → (iv 0 6 f_singers) → (∀ j, iv 0 1000000 (a_run j)) → post r f_code f_land f_huts f_singers a_run) : q_m_flood_0 f_code a_many a_lands f_land f_huts f_singers a_run x1 x2 x3 x4 post := by
  refine ⟨iv_in (iv_lit (l := 0) (h := 0) (by decide)) (by decide), ?_⟩
  refine ⟨fun c1 => ?_, fun c1 => ?_⟩
  · skip
    refine ⟨iv_nb (iv_lit (l := 0) (h := 0) (by decide)) (by decide), ?_⟩
    refine ⟨fun c2 => ?_, fun c2 => ?_⟩
    · skip
      exact (iv_emp (iv_ne (l := 1) (h := 0) c2 (iv_lit (l := 0) (h := 0) (by decide)) (iv_lit (l := 0) (h := 0) (by decide)) (by decide)) (by decide)).elim
    · skip
      refine ⟨fun c3 => ?_, fun c3 => ?_⟩
      · skip
        exact hpost _ _ _ _ _ _ (iv_lit (l := 0) (h := 0) (by decide)) k_f_land k_f_huts k_f_singers k_a_run
      · skip
        exact (iv_emp (iv_ne (l := 1) (h := 0) c3 (iv_lit (l := 0) (h := 0) (by decide)) (iv_lit (l := 0) (h := 0) (by decide)) (by decide)) (by decide)).elim
  · skip
    refine ⟨fun c4 => ?_, fun c4 => ?_⟩
    · skip
      refine ⟨iv_nb (iv_lit (l := 0) (h := 0) (by decide)) (by decide), ?_⟩
      refine ⟨fun c5 => ?_, fun c5 => ?_⟩
      · skip
        exact (iv_emp (iv_ne (l := 1) (h := 0) c5 (iv_lit (l := 0) (h := 0) (by decide)) (iv_lit (l := 0) (h := 0) (by decide)) (by decide)) (by decide)).elim
      · skip
        refine ⟨fun c6 => ?_, fun c6 => ?_⟩
        · skip
          exact hpost _ _ _ _ _ _ (iv_lit (l := 0) (h := 0) (by decide)) k_f_land k_f_huts k_f_singers k_a_run
        · skip
          exact (iv_emp (iv_ne (l := 1) (h := 0) c6 (iv_lit (l := 0) (h := 0) (by decide)) (iv_lit (l := 0) (h := 0) (by decide)) (by decide)) (by decide)).elim
    · skip
      refine ⟨iv_nb (iv_lit (l := 1) (h := 1) (by decide)) (by decide), ?_⟩
      refine ⟨fun c7 => ?_, fun c7 => ?_⟩
      · skip
        refine sp_of (a := 0) (b := 9) k_a_lands (iv_lea (l := 0) (h := 1) (r_nlt c4) (iv_leb (l := 0) (h := 2147483647) (r_nlt c1) (iv_lit (l := 0) (h := 0) (by decide)) (iv_top x1) (by decide)) (iv_sub (l := (-1)) (h := 1) (k_a_many _) (iv_lit (l := 1) (h := 1) (by decide)) (by decide)) (by decide)) (iv_lit (l := 0) (h := 0) (by decide)) (by decide +kernel) (fun r8 hr8 er8 => ?_)
        refine sp_of (a := 0) (b := 6) k_a_lands (iv_lea (l := 0) (h := 1) (r_nlt c4) (iv_leb (l := 0) (h := 2147483647) (r_nlt c1) (iv_lit (l := 0) (h := 0) (by decide)) (iv_top x1) (by decide)) (iv_sub (l := (-1)) (h := 1) (k_a_many _) (iv_lit (l := 1) (h := 1) (by decide)) (by decide)) (by decide)) (iv_lit (l := 1) (h := 1) (by decide)) (by decide +kernel) (fun r9 hr9 er9 => ?_)
        refine ⟨fun c10 => ?_, fun c10 => ?_⟩
        · skip
          exact (iv_emp (iv_eqa (l := 1) (h := 0) c10 (iv_lit (l := 1) (h := 1) (by decide)) (iv_lit (l := 0) (h := 0) (by decide)) (by decide)) (by decide)).elim
        · skip
          refine ⟨fun c11 => ?_, fun c11 => ?_⟩
          · skip
            refine ⟨iv_nb (iv_lit (l := 0) (h := 0) (by decide)) (by decide), ?_⟩
            refine ⟨fun c12 => ?_, fun c12 => ?_⟩
            · skip
              exact hpost _ _ _ _ _ _ (iv_lit (l := 0) (h := 0) (by decide)) (iv_lea (l := 0) (h := 1) (r_nlt c4) (iv_leb (l := 0) (h := 2147483647) (r_nlt c1) (iv_lit (l := 0) (h := 0) (by decide)) (iv_top x1) (by decide)) (iv_sub (l := (-1)) (h := 1) (k_a_many _) (iv_lit (l := 1) (h := 1) (by decide)) (by decide)) (by decide)) hr8 hr9 k_a_run
            · skip
              exact (iv_emp (iv_ne (l := 1) (h := 0) c12 (iv_lit (l := 0) (h := 0) (by decide)) (iv_lit (l := 0) (h := 0) (by decide)) (by decide)) (by decide)).elim
          · skip
            refine ⟨fun c13 => ?_, fun c13 => ?_⟩
            · skip
              refine ⟨iv_nb (iv_lit (l := 0) (h := 0) (by decide)) (by decide), ?_⟩
              refine ⟨fun c14 => ?_, fun c14 => ?_⟩
              · skip
                exact hpost _ _ _ _ _ _ (iv_lit (l := 0) (h := 0) (by decide)) (iv_lea (l := 0) (h := 1) (r_nlt c4) (iv_leb (l := 0) (h := 2147483647) (r_nlt c1) (iv_lit (l := 0) (h := 0) (by decide)) (iv_top x1) (by decide)) (iv_sub (l := (-1)) (h := 1) (k_a_many _) (iv_lit (l := 1) (h := 1) (by decide)) (by decide)) (by decide)) hr8 hr9 k_a_run
              · skip
                exact (iv_emp (iv_ne (l := 1) (h := 0) c14 (iv_lit (l := 0) (h := 0) (by decide)) (iv_lit (l := 0) (h := 0) (by decide)) (by decide)) (by decide)).elim
            · skip
              refine ⟨iv_nb (iv_lit (l := 1) (h := 1) (by decide)) (by decide), ?_⟩
              refine ⟨fun c15 => ?_, fun c15 => ?_⟩
              · skip
                exact (iv_emp (iv_eqa (l := 1) (h := 0) c15 (iv_lit (l := 1) (h := 1) (by decide)) (iv_lit (l := 0) (h := 0) (by decide)) (by decide)) (by decide)).elim
              · skip
                refine ⟨fun c16 => ?_, fun c16 => ?_⟩
                · skip
                  refine ⟨iv_nb (iv_lit (l := 0) (h := 0) (by decide)) (by decide), ?_⟩
                  refine ⟨fun c17 => ?_, fun c17 => ?_⟩
                  · skip
                    exact hpost _ _ _ _ _ _ (iv_lit (l := 0) (h := 0) (by decide)) (iv_lea (l := 0) (h := 1) (r_nlt c4) (iv_leb (l := 0) (h := 2147483647) (r_nlt c1) (iv_lit (l := 0) (h := 0) (by decide)) (iv_top x1) (by decide)) (iv_sub (l := (-1)) (h := 1) (k_a_many _) (iv_lit (l := 1) (h := 1) (by decide)) (by decide)) (by decide)) hr8 hr9 k_a_run
                  · skip
                    exact (iv_emp (iv_ne (l := 1) (h := 0) c17 (iv_lit (l := 0) (h := 0) (by decide)) (iv_lit (l := 0) (h := 0) (by decide)) (by decide)) (by decide)).elim
                · skip
                  refine ⟨fun c18 => ?_, fun c18 => ?_⟩
                  · skip
                    refine ⟨iv_nb (iv_lit (l := 0) (h := 0) (by decide)) (by decide), ?_⟩
                    refine ⟨fun c19 => ?_, fun c19 => ?_⟩
                    · skip
                      exact hpost _ _ _ _ _ _ (iv_lit (l := 0) (h := 0) (by decide)) (iv_lea (l := 0) (h := 1) (r_nlt c4) (iv_leb (l := 0) (h := 2147483647) (r_nlt c1) (iv_lit (l := 0) (h := 0) (by decide)) (iv_top x1) (by decide)) (iv_sub (l := (-1)) (h := 1) (k_a_many _) (iv_lit (l := 1) (h := 1) (by decide)) (by decide)) (by decide)) hr8 hr9 k_a_run
                    · skip
                      exact (iv_emp (iv_ne (l := 1) (h := 0) c19 (iv_lit (l := 0) (h := 0) (by decide)) (iv_lit (l := 0) (h := 0) (by decide)) (by decide)) (by decide)).elim
                  · skip
                    refine ⟨iv_nb (iv_lit (l := 1) (h := 1) (by decide)) (by decide), ?_⟩
                    refine ⟨fun c20 => ?_, fun c20 => ?_⟩
                    · skip
                      exact (iv_emp (iv_eqa (l := 1) (h := 0) c20 (iv_lit (l := 1) (h := 1) (by decide)) (iv_lit (l := 0) (h := 0) (by decide)) (by decide)) (by decide)).elim
                    · skip
                      refine ⟨fun c21 => ?_, fun c21 => ?_⟩
                      · skip
                        exact hpost _ _ _ _ _ _ (iv_lit (l := 0) (h := 0) (by decide)) (iv_lea (l := 0) (h := 1) (r_nlt c4) (iv_leb (l := 0) (h := 2147483647) (r_nlt c1) (iv_lit (l := 0) (h := 0) (by decide)) (iv_top x1) (by decide)) (iv_sub (l := (-1)) (h := 1) (k_a_many _) (iv_lit (l := 1) (h := 1) (by decide)) (by decide)) (by decide)) hr8 hr9 k_a_run
                      · skip
                        refine sp_of (a := 0) (b := 511) k_a_lands (iv_lea (l := 0) (h := 1) (r_nlt c4) (iv_leb (l := 0) (h := 2147483647) (r_nlt c1) (iv_lit (l := 0) (h := 0) (by decide)) (iv_top x1) (by decide)) (iv_sub (l := (-1)) (h := 1) (k_a_many _) (iv_lit (l := 1) (h := 1) (by decide)) (by decide)) (by decide)) (iv_lit (l := 3) (h := 3) (by decide)) (by decide +kernel) (fun r22 hr22 er22 => ?_)
                        refine ⟨fun c23 => ?_, fun c23 => ?_⟩
                        · skip
                          refine ⟨iv_nb (iv_lit (l := 0) (h := 0) (by decide)) (by decide), ?_⟩
                          refine ⟨fun c24 => ?_, fun c24 => ?_⟩
                          · skip
                            exact (iv_emp (iv_ne (l := 1) (h := 0) c24 (iv_lit (l := 0) (h := 0) (by decide)) (iv_lit (l := 0) (h := 0) (by decide)) (by decide)) (by decide)).elim
                          · skip
                            refine sp_of (a := 0) (b := 511) k_a_lands (iv_lea (l := 0) (h := 1) (r_nlt c4) (iv_leb (l := 0) (h := 2147483647) (r_nlt c1) (iv_lit (l := 0) (h := 0) (by decide)) (iv_top x1) (by decide)) (iv_sub (l := (-1)) (h := 1) (k_a_many _) (iv_lit (l := 1) (h := 1) (by decide)) (by decide)) (by decide)) (iv_lit (l := 3) (h := 3) (by decide)) (by decide +kernel) (fun r25 hr25 er25 => ?_)
                            refine ⟨fun c26 => ?_, fun c26 => ?_⟩
                            · skip
                              refine ⟨iv_nb (iv_lit (l := 0) (h := 0) (by decide)) (by decide), ?_⟩
                              refine ⟨fun c27 => ?_, fun c27 => ?_⟩
                              · skip
                                exact s_m_flood_58 (iv_lit (l := 0) (h := 0) (by decide)) k_a_many k_a_lands (iv_lea (l := 0) (h := 1) (r_nlt c4) (iv_leb (l := 0) (h := 2147483647) (r_nlt c1) (iv_lit (l := 0) (h := 0) (by decide)) (iv_top x1) (by decide)) (iv_sub (l := (-1)) (h := 1) (k_a_many _) (iv_lit (l := 1) (h := 1) (by decide)) (by decide)) (by decide)) hr8 hr9 k_a_run (iv_lea (l := 0) (h := 8) (r_nlt c13) (iv_leb (l := 0) (h := 2147483647) (r_nlt c11) (iv_lit (l := 0) (h := 0) (by decide)) (iv_top x2) (by decide)) (iv_sub (l := (-1)) (h := 8) hr8 (iv_lit (l := 1) (h := 1) (by decide)) (by decide)) (by decide)) (iv_lea (l := 0) (h := 8) (r_nlt c18) (iv_leb (l := 0) (h := 2147483647) (r_nlt c16) (iv_lit (l := 0) (h := 0) (by decide)) (iv_top x3) (by decide)) (iv_leb (l := 0) (h := 8) (r_nlt c13) (iv_leb (l := 0) (h := 2147483647) (r_nlt c11) (iv_lit (l := 0) (h := 0) (by decide)) (iv_top x2) (by decide)) (iv_sub (l := (-1)) (h := 8) hr8 (iv_lit (l := 1) (h := 1) (by decide)) (by decide)) (by decide)) (by decide)) (iv_w (iv_lit (l := (-1)) (h := (-1)) (by decide)) (by decide)) (iv_w (iv_lit (l := 0) (h := 0) (by decide)) (by decide)) hpost
                              · skip
                                exact (iv_emp (iv_ne (l := 1) (h := 0) c27 (iv_lit (l := 0) (h := 0) (by decide)) (iv_lit (l := 0) (h := 0) (by decide)) (by decide)) (by decide)).elim
                            · skip
                              refine ⟨iv_nb (iv_lit (l := 1) (h := 1) (by decide)) (by decide), ?_⟩
                              refine ⟨fun c28 => ?_, fun c28 => ?_⟩
                              · skip
                                exact (iv_emp (iv_eqa (l := 1) (h := 0) c28 (iv_lit (l := 1) (h := 1) (by decide)) (iv_lit (l := 0) (h := 0) (by decide)) (by decide)) (by decide)).elim
                              · skip
                                exact hpost _ _ _ _ _ _ (iv_lit (l := 0) (h := 0) (by decide)) (iv_lea (l := 0) (h := 1) (r_nlt c4) (iv_leb (l := 0) (h := 2147483647) (r_nlt c1) (iv_lit (l := 0) (h := 0) (by decide)) (iv_top x1) (by decide)) (iv_sub (l := (-1)) (h := 1) (k_a_many _) (iv_lit (l := 1) (h := 1) (by decide)) (by decide)) (by decide)) hr8 hr9 k_a_run
                        · skip
                          refine ⟨iv_nb (iv_lit (l := 1) (h := 1) (by decide)) (by decide), ?_⟩
                          refine ⟨fun c29 => ?_, fun c29 => ?_⟩
                          · skip
                            exact hpost _ _ _ _ _ _ (iv_lit (l := 0) (h := 0) (by decide)) (iv_lea (l := 0) (h := 1) (r_nlt c4) (iv_leb (l := 0) (h := 2147483647) (r_nlt c1) (iv_lit (l := 0) (h := 0) (by decide)) (iv_top x1) (by decide)) (iv_sub (l := (-1)) (h := 1) (k_a_many _) (iv_lit (l := 1) (h := 1) (by decide)) (by decide)) (by decide)) hr8 hr9 k_a_run
                          · skip
                            exact (iv_emp (iv_eqa (l := 1) (h := 0) c29 (iv_lit (l := 1) (h := 1) (by decide)) (iv_lit (l := 0) (h := 0) (by decide)) (by decide)) (by decide)).elim
      · skip
        exact (iv_emp (iv_eqa (l := 1) (h := 0) c7 (iv_lit (l := 1) (h := 1) (by decide)) (iv_lit (l := 0) (h := 0) (by decide)) (by decide)) (by decide)).elim
-- m_taught
theorem tg_dec : ∀ L, L < 64 → ∀ a, a < 6 → ((nI L >>> (nI a &&& 31)) &&& 1) = 1 → 0 ≤ (nI L &&& (((1 : Int32) <<< (nI a &&& 31)) ^^^ (-1))).toInt ∧ (nI L &&& (((1 : Int32) <<< (nI a &&& 31)) ^^^ (-1))).toInt < (L : Int) := by decide +kernel
theorem tg_sh {j : Nat} (h : j ≤ 5) : iv 0 63 ((1 : Int32) <<< (nI j &&& 31)) := iv_w (iv_shl1 (l := 1) (h := 32) (iv_lit (l := 1) (h := 1) (by decide)) (iv_ofN (l := 0) (h := 5) (by omega) (by omega) (by omega)) (by decide)) (by decide)
theorem s_m_taught_0 {a_lands : Nat → Int32} {f_land : Int32} {f_singers : Int32} {a_at : Nat → Int32} {a_knows : Nat → Int32} {a_climbed : Nat → Int32} {a_level : Nat → Int32} {f_begun : Int32} {x1 : Int32} {x2 : Int32} {post : Int32 → Prop} (k_a_lands : mLand a_lands) (k_f_land : iv 0 1 f_land) (k_f_singers : iv 0 6 f_singers) (k_a_at : ∀ j, iv 0 8 (a_at j)) (k_a_knows : ∀ j, iv 0 31 (a_knows j)) (k_a_climbed : ∀ j, iv 0 1 (a_climbed j)) (k_a_level : ∀ j, iv (-9) 108 (a_level j)) (k_f_begun : iv 0 31 f_begun) (hx1 : iv 0 63 x1) (hx2 : iv 0 4 x2) (hpost : ∀ (r : Int32), iv (-1) 63 r → post r) : q_m_taught_0 a_lands f_land f_singers a_at a_knows a_climbed a_level f_begun x1 x2 post := by
  obtain ⟨S, rfl, -, hS, hS2⟩ := iv_nI k_f_singers (by omega)
  have hS6 : S ≤ 6 := by omega
  have main : ∀ (x3 x4 x5 : Int32), iv 0 63 x3 → iv 0 63 x5 → q_m_taught_73 a_lands f_land (nI S) a_at a_knows a_climbed a_level f_begun x3 x4 x5 post := by
    intro x3 x4 x5 h3 h5 P hP
    have loop : ∀ (n : Nat) (x3 x4 x5 : Int32), x5.toInt < (n : Int) → iv 0 63 x3 → iv 0 63 x5 → P x3 x4 x5 := by
      intro n
      induction n with
      | zero => intro x3 x4 x5 hn h3 h5; have := h5.1; omega
      | succ n ih =>
        intro x3 x4 x5 hn h3 h5
        apply hP
        refine ⟨fun _ => hpost _ (iv_w h3 (by decide)), fun hne => ?_⟩
        intro P2 hP2
        have neg : post (-1) := hpost _ (iv_lit (by decide))
        have loop2 : ∀ (m j : Nat) (x6 : Int32), m + j = S → (x6 = -1 ∨ ∃ a, a < j ∧ x6 = nI a ∧ ((x5 >>> (nI a &&& 31)) &&& 1) = 1) → P2 x6 (nI j) := by
          intro m
          induction m with
          | zero =>
            intro j x6 hj hx
            apply hP2
            refine ⟨fun _ => ?_, fun h => absurd (nI_le (by omega) (by omega)) h⟩
            refine ⟨fun _ => iz neg, fun hb => oi ?_⟩
            rcases hx with rfl | ⟨a, ha, rfl, hbit⟩
            · have := iv_bitk 6 (l := 0) (h := 5) hb h3 (iv_lit (l := -1) (h := -1) (by decide)) (by decide)
              exact absurd this.1 (by decide)
            · have ha6 : iv 0 5 (nI a) := iv_ofN (by omega) (by omega) (by omega)
              refine sp_high k_a_lands k_f_land k_a_at ha6 (fun r2 => ⟨fun _ => neg, fun _ => ⟨iv_in ha6 (by decide), ?_⟩⟩)
              refine sp_isDam k_a_lands k_f_land (iz ?_) (oi neg)
              refine sp_high k_a_lands k_f_land k_a_at ha6 (fun r4 v1 ev => ⟨iv_in ha6 (by decide), ?_⟩)
              obtain ⟨L, rfl, -, hL, hL2⟩ := iv_nI h5 (by omega)
              have hd := tg_dec L (by omega) a (by omega) hbit
              rw [nI_toInt hL2] at hn
              refine s_m_hearing_0 k_a_lands k_f_land (k_a_at _) (fun r5 h5r => ?_)
              intro P3 hP3
              have loop3 : ∀ (q s : Nat) (x3 : Int32), q + s = S → iv 0 63 x3 → P3 x3 (nI s) := by
                intro q
                induction q with
                | zero =>
                  intro s x3 hs h3
                  apply hP3
                  refine ⟨fun _ => ?_, fun h => absurd (nI_le (by omega) (by omega)) h⟩
                  refine ih _ _ _ ?_ h3 ?_
                  · rw [ev]; omega
                  · rw [ev]; exact ⟨by omega, by omega⟩
                | succ q ih3 =>
                  intro s x3 hs h3
                  apply hP3
                  refine ⟨fun h => absurd h (nI_ge (by omega) (by omega)), fun _ => ⟨vp_in_nI (by omega) (by omega), ?_⟩⟩
                  refine ⟨fun _ => iz (fun v1 e1 v2 e2 => ?_), fun _ => oi (fun v1 e1 v2 e2 => ?_)⟩
                  · rw [e2, nI_1]
                    exact ih3 (s + 1) v1 (by omega) (iv_eq e1 (iv_or 6 h3 (iv_lit (l := 0) (h := 0) (by decide)) (by decide)))
                  · rw [e2, nI_1]
                    exact ih3 (s + 1) v1 (by omega) (iv_eq e1 (iv_or 6 h3 (tg_sh (by omega)) (by decide)))
              exact loop3 S 0 x3 (by omega) h3
          | succ m ih2 =>
            intro j x6 hj hx
            apply hP2
            refine ⟨fun h => absurd h (nI_ge (by omega) (by omega)), fun _ => ?_⟩
            have k129 : q_m_taught_129 P P2 a_lands f_land (nI S) a_at a_knows a_climbed a_level f_begun x3 x4 x5 x6 (nI j) post := by
              intro v1 e1
              rw [e1, nI_1]
              refine ih2 (j + 1) x6 (by omega) ?_
              rcases hx with hx | ⟨a, ha, hxa, hb⟩
              · exact Or.inl hx
              · exact Or.inr ⟨a, by omega, hxa, hb⟩
            refine ⟨fun _ => iz k129, fun hb => oi ?_⟩
            have k124 : q_m_taught_124 P P2 a_lands f_land (nI S) a_at a_knows a_climbed a_level f_begun x3 x4 x5 (nI j) post := by
              intro v1 e1
              rw [e1, nI_1]
              exact ih2 (j + 1) (nI j) (by omega) (Or.inr ⟨j, by omega, rfl, hb⟩)
            refine ⟨fun _ => k124, fun hx1 => ?_⟩
            rcases hx with hx | ⟨a, ha, rfl, hba⟩
            · exact absurd hx hx1
            · refine sp_high k_a_lands k_f_land k_a_at (iv_ofN (by omega) (by omega) (by omega)) (fun r7 => sp_high k_a_lands k_f_land k_a_at (iv_ofN (by omega) (by omega) (by omega)) (fun r8 => ?_))
              exact ⟨fun _ => k129, fun _ => k124⟩
        exact loop2 S 0 (-1) (by omega) (Or.inl rfl)
    exact loop 64 x3 x4 x5 (by have := h5.2; omega) h3 h5
  have first : ∀ (y : Int32), q_m_taught_25 a_lands f_land (nI S) a_at a_knows a_climbed a_level f_begun x1 x2 0 y post := by
    intro y P hP
    have loop : ∀ (n j : Nat) (x3 : Int32), n + j = S → iv 0 63 x3 → P x3 (nI j) := by
      intro n
      induction n with
      | zero =>
        intro j x3 hj h3
        apply hP
        exact ⟨fun _ => main x3 y x1 h3 hx1, fun h => absurd (nI_le (by omega) (by omega)) h⟩
      | succ n ih =>
        intro j x3 hj h3
        apply hP
        refine ⟨fun h => absurd h (nI_ge (by omega) (by omega)), fun _ => ⟨vp_in_nI (by omega) (by omega), ?_⟩⟩
        refine ⟨fun _ => iz (fun v1 e1 v2 e2 => ?_), fun _ => oi (fun v1 e1 v2 e2 => ?_)⟩
        · rw [e2, nI_1]
          exact ih (j + 1) v1 (by omega) (iv_eq e1 (iv_or 6 h3 (iv_lit (l := 0) (h := 0) (by decide)) (by decide)))
        · rw [e2, nI_1]
          exact ih (j + 1) v1 (by omega) (iv_eq e1 (iv_or 6 h3 (tg_sh (by omega)) (by decide)))
    exact loop S 0 0 (by omega) (iv_lit (by decide))
  exact ⟨fun _ => iz (first _), fun _ => oi ⟨iv_in hx2 (by decide), first _⟩⟩
-- m_teach
set_option maxRecDepth 20000 in
theorem s_m_teach_121 {P53 : Int32 → Int32 → Prop} {f_code : Int32} {a_many : Nat → Int32} {a_lands : Nat → Int32} {a_evenings : Nat → Int32} {f_land : Int32} {f_huts : Int32} {f_singers : Int32} {f_evening : Int32} {a_at : Nat → Int32} {a_knows : Nat → Int32} {a_climbed : Nat → Int32} {a_snow : Nat → Int32} {a_level : Nat → Int32} {f_begun : Int32} {f_minute : Int32} {f_avalanches : Int32} {x4 : Int32} {x6 : Int32} {y0 : Int32} {post : Int32 → (Int32) → (Int32) → (Int32) → (Int32) → (Int32) → (Nat → Int32) → (Nat → Int32) → (Nat → Int32) → (Nat → Int32) → (Nat → Int32) → (Int32) → (Int32) → (Int32) → Prop} (k_f_code : iv 0 0 f_code) (k_a_many : ∀ j, iv 0 2 (a_many j)) (k_a_lands : mLand a_lands) (k_a_evenings : mEve a_evenings) (k_f_land : iv 0 1 f_land) (k_f_huts : iv 0 9 f_huts) (k_f_singers : iv 0 6 f_singers) (k_f_evening : iv 0 1 f_evening) (k_a_at : ∀ j, iv 0 8 (a_at j)) (k_a_knows : ∀ j, iv 0 31 (a_knows j)) (k_a_climbed : ∀ j, iv 0 1 (a_climbed j)) (k_a_level : ∀ j, iv (-9) 108 (a_level j)) (k_f_begun : iv 0 31 f_begun) (hx4 : iv 0 4 x4) (hx6 : iv 0 63 x6) (m53 : Int) (hm53 : m53 ≤ x6.toInt) (hP53 : ∀ (x5 : Int32) (x6 : Int32), m53 < x6.toInt → iv 0 64 x6 → P53 x5 x6) (hpost : ∀ (r : Int32) (f_code : Int32) (f_land : Int32) (f_huts : Int32) (f_singers : Int32) (f_evening : Int32) (a_at : Nat → Int32) (a_knows : Nat → Int32) (a_climbed : Nat → Int32) (a_snow : Nat → Int32) (a_level : Nat → Int32) (f_begun : Int32) (f_minute : Int32) (f_avalanches : Int32), (iv 0 0 f_code) → (iv 0 1 f_land) → (iv 0 9 f_huts) → (iv 0 6 f_singers) → (∀ j, iv 0 8 (a_at j)) → (∀ j, iv 0 31 (a_knows j)) → (∀ j, iv 0 1 (a_climbed j)) → (∀ j, iv (-9) 108 (a_level j)) → (iv 0 31 f_begun) → post r f_code f_land f_huts f_singers f_evening a_at a_knows a_climbed a_snow a_level f_begun f_minute f_avalanches) : q_m_teach_121 P53 f_code a_many a_lands a_evenings f_land f_huts f_singers f_evening a_at a_knows a_climbed a_snow a_level f_begun f_minute f_avalanches x4 x6 y0 post := by
  intro w1 ew1
  have hw1 := iv_eq ew1 (iv_add (l := 1) (h := 64) hx6 (iv_lit (l := 1) (h := 1) (by decide)) (by decide))
  exact hP53 _ _ (ml_up hm53 (inc_lt ew1 hx6 (by decide))) (iv_w hw1 (by decide))
set_option maxRecDepth 20000 in
theorem s_m_teach_111 {P53 : Int32 → Int32 → Prop} {f_code : Int32} {a_many : Nat → Int32} {a_lands : Nat → Int32} {a_evenings : Nat → Int32} {f_land : Int32} {f_huts : Int32} {f_singers : Int32} {f_evening : Int32} {a_at : Nat → Int32} {a_knows : Nat → Int32} {a_climbed : Nat → Int32} {a_snow : Nat → Int32} {a_level : Nat → Int32} {f_begun : Int32} {f_minute : Int32} {f_avalanches : Int32} {x4 : Int32} {x6 : Int32} {post : Int32 → (Int32) → (Int32) → (Int32) → (Int32) → (Int32) → (Nat → Int32) → (Nat → Int32) → (Nat → Int32) → (Nat → Int32) → (Nat → Int32) → (Int32) → (Int32) → (Int32) → Prop} (k_f_code : iv 0 0 f_code) (k_a_many : ∀ j, iv 0 2 (a_many j)) (k_a_lands : mLand a_lands) (k_a_evenings : mEve a_evenings) (k_f_land : iv 0 1 f_land) (k_f_huts : iv 0 9 f_huts) (k_f_singers : iv 0 6 f_singers) (k_f_evening : iv 0 1 f_evening) (k_a_at : ∀ j, iv 0 8 (a_at j)) (k_a_knows : ∀ j, iv 0 31 (a_knows j)) (k_a_climbed : ∀ j, iv 0 1 (a_climbed j)) (k_a_level : ∀ j, iv (-9) 108 (a_level j)) (k_f_begun : iv 0 31 f_begun) (hx4 : iv 0 4 x4) (hx6 : iv 0 63 x6) (m53 : Int) (hm53 : m53 ≤ x6.toInt) (hP53 : ∀ (x5 : Int32) (x6 : Int32), m53 < x6.toInt → iv 0 64 x6 → P53 x5 x6) (hpost : ∀ (r : Int32) (f_code : Int32) (f_land : Int32) (f_huts : Int32) (f_singers : Int32) (f_evening : Int32) (a_at : Nat → Int32) (a_knows : Nat → Int32) (a_climbed : Nat → Int32) (a_snow : Nat → Int32) (a_level : Nat → Int32) (f_begun : Int32) (f_minute : Int32) (f_avalanches : Int32), (iv 0 0 f_code) → (iv 0 1 f_land) → (iv 0 9 f_huts) → (iv 0 6 f_singers) → (∀ j, iv 0 8 (a_at j)) → (∀ j, iv 0 31 (a_knows j)) → (∀ j, iv 0 1 (a_climbed j)) → (∀ j, iv (-9) 108 (a_level j)) → (iv 0 31 f_begun) → post r f_code f_land f_huts f_singers f_evening a_at a_knows a_climbed a_snow a_level f_begun f_minute f_avalanches) : q_m_teach_111 P53 f_code a_many a_lands a_evenings f_land f_huts f_singers f_evening a_at a_knows a_climbed a_snow a_level f_begun f_minute f_avalanches x4 x6 post := by
  refine s_m_ones_0 (iv_w hx6 (by decide)) (fun r1 => ?_)
  exact s_m_teach_121 k_f_code k_a_many k_a_lands k_a_evenings k_f_land k_f_huts k_f_singers k_f_evening k_a_at k_a_knows k_a_climbed k_a_level k_f_begun hx4 hx6 m53 hm53 hP53 hpost
set_option maxRecDepth 20000 in
theorem s_m_teach_119 {P53 : Int32 → Int32 → Prop} {f_code : Int32} {a_many : Nat → Int32} {a_lands : Nat → Int32} {a_evenings : Nat → Int32} {f_land : Int32} {f_huts : Int32} {f_singers : Int32} {f_evening : Int32} {a_at : Nat → Int32} {a_knows : Nat → Int32} {a_climbed : Nat → Int32} {a_snow : Nat → Int32} {a_level : Nat → Int32} {f_begun : Int32} {f_minute : Int32} {f_avalanches : Int32} {x4 : Int32} {x5 : Int32} {x6 : Int32} {post : Int32 → (Int32) → (Int32) → (Int32) → (Int32) → (Int32) → (Nat → Int32) → (Nat → Int32) → (Nat → Int32) → (Nat → Int32) → (Nat → Int32) → (Int32) → (Int32) → (Int32) → Prop} (k_f_code : iv 0 0 f_code) (k_a_many : ∀ j, iv 0 2 (a_many j)) (k_a_lands : mLand a_lands) (k_a_evenings : mEve a_evenings) (k_f_land : iv 0 1 f_land) (k_f_huts : iv 0 9 f_huts) (k_f_singers : iv 0 6 f_singers) (k_f_evening : iv 0 1 f_evening) (k_a_at : ∀ j, iv 0 8 (a_at j)) (k_a_knows : ∀ j, iv 0 31 (a_knows j)) (k_a_climbed : ∀ j, iv 0 1 (a_climbed j)) (k_a_level : ∀ j, iv (-9) 108 (a_level j)) (k_f_begun : iv 0 31 f_begun) (hx4 : iv 0 4 x4) (hx6 : iv 0 63 x6) (m53 : Int) (hm53 : m53 ≤ x6.toInt) (hP53 : ∀ (x5 : Int32) (x6 : Int32), m53 < x6.toInt → iv 0 64 x6 → P53 x5 x6) (hpost : ∀ (r : Int32) (f_code : Int32) (f_land : Int32) (f_huts : Int32) (f_singers : Int32) (f_evening : Int32) (a_at : Nat → Int32) (a_knows : Nat → Int32) (a_climbed : Nat → Int32) (a_snow : Nat → Int32) (a_level : Nat → Int32) (f_begun : Int32) (f_minute : Int32) (f_avalanches : Int32), (iv 0 0 f_code) → (iv 0 1 f_land) → (iv 0 9 f_huts) → (iv 0 6 f_singers) → (∀ j, iv 0 8 (a_at j)) → (∀ j, iv 0 31 (a_knows j)) → (∀ j, iv 0 1 (a_climbed j)) → (∀ j, iv (-9) 108 (a_level j)) → (iv 0 31 f_begun) → post r f_code f_land f_huts f_singers f_evening a_at a_knows a_climbed a_snow a_level f_begun f_minute f_avalanches) : q_m_teach_119 P53 f_code a_many a_lands a_evenings f_land f_huts f_singers f_evening a_at a_knows a_climbed a_snow a_level f_begun f_minute f_avalanches x4 x5 x6 post := by
  exact s_m_teach_121 k_f_code k_a_many k_a_lands k_a_evenings k_f_land k_f_huts k_f_singers k_f_evening k_a_at k_a_knows k_a_climbed k_a_level k_f_begun hx4 hx6 m53 hm53 hP53 hpost
set_option maxRecDepth 20000 in
theorem s_m_teach_88 {P53 : Int32 → Int32 → Prop} {f_code : Int32} {a_many : Nat → Int32} {a_lands : Nat → Int32} {a_evenings : Nat → Int32} {f_land : Int32} {f_huts : Int32} {f_singers : Int32} {f_evening : Int32} {a_at : Nat → Int32} {a_knows : Nat → Int32} {a_climbed : Nat → Int32} {a_snow : Nat → Int32} {a_level : Nat → Int32} {f_begun : Int32} {f_minute : Int32} {f_avalanches : Int32} {x4 : Int32} {x5 : Int32} {x6 : Int32} {y0 : Int32} {post : Int32 → (Int32) → (Int32) → (Int32) → (Int32) → (Int32) → (Nat → Int32) → (Nat → Int32) → (Nat → Int32) → (Nat → Int32) → (Nat → Int32) → (Int32) → (Int32) → (Int32) → Prop} (k_f_code : iv 0 0 f_code) (k_a_many : ∀ j, iv 0 2 (a_many j)) (k_a_lands : mLand a_lands) (k_a_evenings : mEve a_evenings) (k_f_land : iv 0 1 f_land) (k_f_huts : iv 0 9 f_huts) (k_f_singers : iv 0 6 f_singers) (k_f_evening : iv 0 1 f_evening) (k_a_at : ∀ j, iv 0 8 (a_at j)) (k_a_knows : ∀ j, iv 0 31 (a_knows j)) (k_a_climbed : ∀ j, iv 0 1 (a_climbed j)) (k_a_level : ∀ j, iv (-9) 108 (a_level j)) (k_f_begun : iv 0 31 f_begun) (hx4 : iv 0 4 x4) (hx6 : iv 0 63 x6) (hy0 : iv 0 1 y0) (m53 : Int) (hm53 : m53 ≤ x6.toInt) (hP53 : ∀ (x5 : Int32) (x6 : Int32), m53 < x6.toInt → iv 0 64 x6 → P53 x5 x6) (hpost : ∀ (r : Int32) (f_code : Int32) (f_land : Int32) (f_huts : Int32) (f_singers : Int32) (f_evening : Int32) (a_at : Nat → Int32) (a_knows : Nat → Int32) (a_climbed : Nat → Int32) (a_snow : Nat → Int32) (a_level : Nat → Int32) (f_begun : Int32) (f_minute : Int32) (f_avalanches : Int32), (iv 0 0 f_code) → (iv 0 1 f_land) → (iv 0 9 f_huts) → (iv 0 6 f_singers) → (∀ j, iv 0 8 (a_at j)) → (∀ j, iv 0 31 (a_knows j)) → (∀ j, iv 0 1 (a_climbed j)) → (∀ j, iv (-9) 108 (a_level j)) → (iv 0 31 f_begun) → post r f_code f_land f_huts f_singers f_evening a_at a_knows a_climbed a_snow a_level f_begun f_minute f_avalanches) : q_m_teach_88 P53 f_code a_many a_lands a_evenings f_land f_huts f_singers f_evening a_at a_knows a_climbed a_snow a_level f_begun f_minute f_avalanches x4 x5 x6 y0 post := by
  refine ⟨fun c1 => ?_, fun c1 => ?_⟩
  · skip
    exact s_m_teach_119 k_f_code k_a_many k_a_lands k_a_evenings k_f_land k_f_huts k_f_singers k_f_evening k_a_at k_a_knows k_a_climbed k_a_level k_f_begun hx4 hx6 m53 hm53 hP53 hpost
  · skip
    refine ⟨fun c2 => ?_, fun c2 => ?_⟩
    · skip
      exact s_m_teach_111 k_f_code k_a_many k_a_lands k_a_evenings k_f_land k_f_huts k_f_singers k_f_evening k_a_at k_a_knows k_a_climbed k_a_level k_f_begun hx4 hx6 m53 hm53 hP53 hpost
    · skip
      refine s_m_ones_0 (iv_w hx6 (by decide)) (fun r3 => ?_)
      refine ⟨fun c4 => ?_, fun c4 => ?_⟩
      · skip
        exact s_m_teach_119 k_f_code k_a_many k_a_lands k_a_evenings k_f_land k_f_huts k_f_singers k_f_evening k_a_at k_a_knows k_a_climbed k_a_level k_f_begun hx4 hx6 m53 hm53 hP53 hpost
      · skip
        exact s_m_teach_111 k_f_code k_a_many k_a_lands k_a_evenings k_f_land k_f_huts k_f_singers k_f_evening k_a_at k_a_knows k_a_climbed k_a_level k_f_begun hx4 hx6 m53 hm53 hP53 hpost
set_option maxRecDepth 20000 in
theorem s_m_teach_53 {f_code : Int32} {a_many : Nat → Int32} {a_lands : Nat → Int32} {a_evenings : Nat → Int32} {f_land : Int32} {f_huts : Int32} {f_singers : Int32} {f_evening : Int32} {a_at : Nat → Int32} {a_knows : Nat → Int32} {a_climbed : Nat → Int32} {a_snow : Nat → Int32} {a_level : Nat → Int32} {f_begun : Int32} {f_minute : Int32} {f_avalanches : Int32} {x4 : Int32} {x5 : Int32} {x6 : Int32} {post : Int32 → (Int32) → (Int32) → (Int32) → (Int32) → (Int32) → (Nat → Int32) → (Nat → Int32) → (Nat → Int32) → (Nat → Int32) → (Nat → Int32) → (Int32) → (Int32) → (Int32) → Prop} (k_f_code : iv 0 0 f_code) (k_a_many : ∀ j, iv 0 2 (a_many j)) (k_a_lands : mLand a_lands) (k_a_evenings : mEve a_evenings) (k_f_land : iv 0 1 f_land) (k_f_huts : iv 0 9 f_huts) (k_f_singers : iv 0 6 f_singers) (k_f_evening : iv 0 1 f_evening) (k_a_at : ∀ j, iv 0 8 (a_at j)) (k_a_knows : ∀ j, iv 0 31 (a_knows j)) (k_a_climbed : ∀ j, iv 0 1 (a_climbed j)) (k_a_level : ∀ j, iv (-9) 108 (a_level j)) (k_f_begun : iv 0 31 f_begun) (hx4 : iv 0 4 x4) (hx6 : iv 0 64 x6) (hpost : ∀ (r : Int32) (f_code : Int32) (f_land : Int32) (f_huts : Int32) (f_singers : Int32) (f_evening : Int32) (a_at : Nat → Int32) (a_knows : Nat → Int32) (a_climbed : Nat → Int32) (a_snow : Nat → Int32) (a_level : Nat → Int32) (f_begun : Int32) (f_minute : Int32) (f_avalanches : Int32), (iv 0 0 f_code) → (iv 0 1 f_land) → (iv 0 9 f_huts) → (iv 0 6 f_singers) → (∀ j, iv 0 8 (a_at j)) → (∀ j, iv 0 31 (a_knows j)) → (∀ j, iv 0 1 (a_climbed j)) → (∀ j, iv (-9) 108 (a_level j)) → (iv 0 31 f_begun) → post r f_code f_land f_huts f_singers f_evening a_at a_knows a_climbed a_snow a_level f_begun f_minute f_avalanches) : q_m_teach_53 f_code a_many a_lands a_evenings f_land f_huts f_singers f_evening a_at a_knows a_climbed a_snow a_level f_begun f_minute f_avalanches x4 x5 x6 post := by
  intro P hP
  have loop : ∀ (n : Nat) (x5 : Int32) (x6 : Int32), (64 - x6.toInt < (n : Int)) → (iv 0 64 x6) → P x5 x6 := by
    intro n
    induction n with
    | zero => intro x5 x6 hm hx6; exact (ms0_up hm hx6).elim
    | succ n ih =>
      intro x5 x6 hm hx6
      apply hP
      refine ⟨fun c1 => ?_, fun c1 => ?_⟩
      · skip
        exact hpost _ _ _ _ _ _ _ _ _ _ _ _ _ _ k_f_code k_f_land k_f_huts k_f_singers k_a_at k_a_knows k_a_climbed k_a_level k_f_begun
      · skip
        refine s_m_taught_0 k_a_lands k_f_land k_f_singers k_a_at k_a_knows k_a_climbed k_a_level k_f_begun (iv_lta (l := 0) (h := 63) (r_nle c1) hx6 (iv_shl1 (l := 1) (h := 64) (iv_lit (l := 1) (h := 1) (by decide)) k_f_singers (by decide)) (by decide)) hx4 (fun r2 hr2 => ?_)
        refine ⟨fun c3 => ?_, fun c3 => ?_⟩
        · skip
          exact s_m_teach_88 k_f_code k_a_many k_a_lands k_a_evenings k_f_land k_f_huts k_f_singers k_f_evening k_a_at k_a_knows k_a_climbed k_a_level k_f_begun hx4 (iv_lta (l := 0) (h := 63) (r_nle c1) hx6 (iv_shl1 (l := 1) (h := 64) (iv_lit (l := 1) (h := 1) (by decide)) k_f_singers (by decide)) (by decide)) (iv_w (iv_lit (l := 0) (h := 0) (by decide)) (by decide)) x6.toInt (Int.le_refl _) (fun u0 u1 hq g0 => ih u0 u1 (ms_up hm hq) g0) hpost
        · skip
          exact s_m_teach_88 k_f_code k_a_many k_a_lands k_a_evenings k_f_land k_f_huts k_f_singers k_f_evening k_a_at k_a_knows k_a_climbed k_a_level k_f_begun hx4 (iv_lta (l := 0) (h := 63) (r_nle c1) hx6 (iv_shl1 (l := 1) (h := 64) (iv_lit (l := 1) (h := 1) (by decide)) k_f_singers (by decide)) (by decide)) (iv_w (iv_lit (l := 1) (h := 1) (by decide)) (by decide)) x6.toInt (Int.le_refl _) (fun u0 u1 hq g0 => ih u0 u1 (ms_up hm hq) g0) hpost
  exact loop _ _ _ (ms_init_up _ _) hx6
set_option maxRecDepth 20000 in
theorem s_m_teach_0 {f_code : Int32} {a_many : Nat → Int32} {a_lands : Nat → Int32} {a_evenings : Nat → Int32} {f_land : Int32} {f_huts : Int32} {f_singers : Int32} {f_evening : Int32} {a_at : Nat → Int32} {a_knows : Nat → Int32} {a_climbed : Nat → Int32} {a_snow : Nat → Int32} {a_level : Nat → Int32} {f_begun : Int32} {f_minute : Int32} {f_avalanches : Int32} {x1 : Int32} {x2 : Int32} {x3 : Int32} {x4 : Int32} {post : Int32 → (Int32) → (Int32) → (Int32) → (Int32) → (Int32) → (Nat → Int32) → (Nat → Int32) → (Nat → Int32) → (Nat → Int32) → (Nat → Int32) → (Int32) → (Int32) → (Int32) → Prop} (k_f_code : iv 0 0 f_code) (k_a_many : ∀ j, iv 0 2 (a_many j)) (k_a_lands : mLand a_lands) (k_a_evenings : mEve a_evenings) (k_f_land : iv 0 1 f_land) (k_f_huts : iv 0 9 f_huts) (k_f_singers : iv 0 6 f_singers) (k_a_at : ∀ j, iv 0 8 (a_at j)) (k_a_knows : ∀ j, iv 0 31 (a_knows j)) (k_a_climbed : ∀ j, iv 0 1 (a_climbed j)) (k_a_level : ∀ j, iv (-9) 108 (a_level j)) (k_f_begun : iv 0 31 f_begun) (hpost : ∀ (r : Int32) (f_code : Int32) (f_land : Int32) (f_huts : Int32) (f_singers : Int32) (f_evening : Int32) (a_at : Nat → Int32) (a_knows : Nat → Int32) (a_climbed : Nat → Int32) (a_snow : Nat → Int32) (a_level : Nat → Int32) (f_begun : Int32) (f_minute : Int32) (f_avalanches : Int32), (iv 0 0 f_code) → (iv 0 1 f_land) → (iv 0 9 f_huts) → (iv 0 6 f_singers) → (∀ j, iv 0 8 (a_at j)) → (∀ j, iv 0 31 (a_knows j)) → (∀ j, iv 0 1 (a_climbed j)) → (∀ j, iv (-9) 108 (a_level j)) → (iv 0 31 f_begun) → post r f_code f_land f_huts f_singers f_evening a_at a_knows a_climbed a_snow a_level f_begun f_minute f_avalanches) : q_m_teach_0 f_code a_many a_lands a_evenings f_land f_huts f_singers f_evening a_at a_knows a_climbed a_snow a_level f_begun f_minute f_avalanches x1 x2 x3 x4 post := by
  refine ⟨iv_in (iv_lit (l := 1) (h := 1) (by decide)) (by decide), ?_⟩
  refine ⟨fun c1 => ?_, fun c1 => ?_⟩
  · skip
    refine ⟨iv_nb (iv_lit (l := 0) (h := 0) (by decide)) (by decide), ?_⟩
    refine ⟨iv_nb (iv_lit (l := 0) (h := 0) (by decide)) (by decide), ?_⟩
    refine ⟨fun c2 => ?_, fun c2 => ?_⟩
    · skip
      refine ⟨fun c3 => ?_, fun c3 => ?_⟩
      · skip
        exact hpost _ _ _ _ _ _ _ _ _ _ _ _ _ _ (iv_lit (l := 0) (h := 0) (by decide)) k_f_land k_f_huts k_f_singers k_a_at k_a_knows k_a_climbed k_a_level k_f_begun
      · skip
        exact (iv_emp (iv_ne (l := 1) (h := 0) c3 (iv_lit (l := 0) (h := 0) (by decide)) (iv_lit (l := 0) (h := 0) (by decide)) (by decide)) (by decide)).elim
    · skip
      exact (iv_emp (iv_ne (l := 1) (h := 0) c2 (iv_lit (l := 0) (h := 0) (by decide)) (iv_lit (l := 0) (h := 0) (by decide)) (by decide)) (by decide)).elim
  · skip
    refine ⟨fun c4 => ?_, fun c4 => ?_⟩
    · skip
      refine ⟨iv_nb (iv_lit (l := 0) (h := 0) (by decide)) (by decide), ?_⟩
      refine ⟨iv_nb (iv_lit (l := 0) (h := 0) (by decide)) (by decide), ?_⟩
      refine ⟨fun c5 => ?_, fun c5 => ?_⟩
      · skip
        refine ⟨fun c6 => ?_, fun c6 => ?_⟩
        · skip
          exact hpost _ _ _ _ _ _ _ _ _ _ _ _ _ _ (iv_lit (l := 0) (h := 0) (by decide)) k_f_land k_f_huts k_f_singers k_a_at k_a_knows k_a_climbed k_a_level k_f_begun
        · skip
          exact (iv_emp (iv_ne (l := 1) (h := 0) c6 (iv_lit (l := 0) (h := 0) (by decide)) (iv_lit (l := 0) (h := 0) (by decide)) (by decide)) (by decide)).elim
      · skip
        exact (iv_emp (iv_ne (l := 1) (h := 0) c5 (iv_lit (l := 0) (h := 0) (by decide)) (iv_lit (l := 0) (h := 0) (by decide)) (by decide)) (by decide)).elim
    · skip
      refine ⟨iv_nb (iv_lit (l := 1) (h := 1) (by decide)) (by decide), ?_⟩
      refine ⟨iv_nb (iv_lit (l := 1) (h := 1) (by decide)) (by decide), ?_⟩
      refine ⟨fun c7 => ?_, fun c7 => ?_⟩
      · skip
        exact (iv_emp (iv_eqa (l := 1) (h := 0) c7 (iv_lit (l := 1) (h := 1) (by decide)) (iv_lit (l := 0) (h := 0) (by decide)) (by decide)) (by decide)).elim
      · skip
        refine ⟨iv_in (iv_lit (l := 0) (h := 0) (by decide)) (by decide), ?_⟩
        refine ⟨fun c8 => ?_, fun c8 => ?_⟩
        · skip
          refine ⟨iv_nb (iv_lit (l := 0) (h := 0) (by decide)) (by decide), ?_⟩
          refine ⟨fun c9 => ?_, fun c9 => ?_⟩
          · skip
            exact (iv_emp (iv_ne (l := 1) (h := 0) c9 (iv_lit (l := 0) (h := 0) (by decide)) (iv_lit (l := 0) (h := 0) (by decide)) (by decide)) (by decide)).elim
          · skip
            refine ⟨fun c10 => ?_, fun c10 => ?_⟩
            · skip
              refine ⟨fun c11 => ?_, fun c11 => ?_⟩
              · skip
                exact hpost _ _ _ _ _ _ _ _ _ _ _ _ _ _ (iv_lit (l := 0) (h := 0) (by decide)) k_f_land k_f_huts k_f_singers k_a_at k_a_knows k_a_climbed k_a_level k_f_begun
              · skip
                exact (iv_emp (iv_ne (l := 1) (h := 0) c11 (iv_lit (l := 0) (h := 0) (by decide)) (iv_lit (l := 0) (h := 0) (by decide)) (by decide)) (by decide)).elim
            · skip
              exact (iv_emp (iv_ne (l := 1) (h := 0) c10 (iv_lit (l := 0) (h := 0) (by decide)) (iv_lit (l := 0) (h := 0) (by decide)) (by decide)) (by decide)).elim
        · skip
          refine ⟨fun c12 => ?_, fun c12 => ?_⟩
          · skip
            refine ⟨iv_nb (iv_lit (l := 0) (h := 0) (by decide)) (by decide), ?_⟩
            refine ⟨fun c13 => ?_, fun c13 => ?_⟩
            · skip
              exact (iv_emp (iv_ne (l := 1) (h := 0) c13 (iv_lit (l := 0) (h := 0) (by decide)) (iv_lit (l := 0) (h := 0) (by decide)) (by decide)) (by decide)).elim
            · skip
              refine ⟨fun c14 => ?_, fun c14 => ?_⟩
              · skip
                refine ⟨fun c15 => ?_, fun c15 => ?_⟩
                · skip
                  exact hpost _ _ _ _ _ _ _ _ _ _ _ _ _ _ (iv_lit (l := 0) (h := 0) (by decide)) k_f_land k_f_huts k_f_singers k_a_at k_a_knows k_a_climbed k_a_level k_f_begun
                · skip
                  exact (iv_emp (iv_ne (l := 1) (h := 0) c15 (iv_lit (l := 0) (h := 0) (by decide)) (iv_lit (l := 0) (h := 0) (by decide)) (by decide)) (by decide)).elim
              · skip
                exact (iv_emp (iv_ne (l := 1) (h := 0) c14 (iv_lit (l := 0) (h := 0) (by decide)) (iv_lit (l := 0) (h := 0) (by decide)) (by decide)) (by decide)).elim
          · skip
            refine ⟨iv_nb (iv_lit (l := 1) (h := 1) (by decide)) (by decide), ?_⟩
            refine ⟨fun c16 => ?_, fun c16 => ?_⟩
            · skip
              refine sp_of (a := 0) (b := 9) k_a_lands (iv_lea (l := 0) (h := 1) (r_nlt c12) (iv_leb (l := 0) (h := 2147483647) (r_nlt c8) (iv_lit (l := 0) (h := 0) (by decide)) (iv_top x1) (by decide)) (iv_sub (l := (-1)) (h := 1) (k_a_many _) (iv_lit (l := 1) (h := 1) (by decide)) (by decide)) (by decide)) (iv_lit (l := 0) (h := 0) (by decide)) (by decide +kernel) (fun r17 hr17 er17 => ?_)
              refine sp_of (a := 0) (b := 6) k_a_lands (iv_lea (l := 0) (h := 1) (r_nlt c12) (iv_leb (l := 0) (h := 2147483647) (r_nlt c8) (iv_lit (l := 0) (h := 0) (by decide)) (iv_top x1) (by decide)) (iv_sub (l := (-1)) (h := 1) (k_a_many _) (iv_lit (l := 1) (h := 1) (by decide)) (by decide)) (by decide)) (iv_lit (l := 1) (h := 1) (by decide)) (by decide +kernel) (fun r18 hr18 er18 => ?_)
              refine ⟨fun c19 => ?_, fun c19 => ?_⟩
              · skip
                exact (iv_emp (iv_eqa (l := 1) (h := 0) c19 (iv_lit (l := 1) (h := 1) (by decide)) (iv_lit (l := 0) (h := 0) (by decide)) (by decide)) (by decide)).elim
              · skip
                refine ⟨fun c20 => ?_, fun c20 => ?_⟩
                · skip
                  exact (iv_emp (iv_eqa (l := 1) (h := 0) c20 (iv_lit (l := 1) (h := 1) (by decide)) (iv_lit (l := 0) (h := 0) (by decide)) (by decide)) (by decide)).elim
                · skip
                  refine sp_deeds k_a_evenings (iv_lea (l := 0) (h := 1) (r_nlt c4) (iv_leb (l := 0) (h := 2147483647) (r_nlt c1) (iv_lit (l := 0) (h := 0) (by decide)) (iv_top x2) (by decide)) (iv_sub (l := (-1)) (h := 1) (k_a_many _) (iv_lit (l := 1) (h := 1) (by decide)) (by decide)) (by decide)) (fun r21 hr21 => ?_)
                  refine ⟨fun c22 => ?_, fun c22 => ?_⟩
                  · skip
                    refine ⟨fun c23 => ?_, fun c23 => ?_⟩
                    · skip
                      exact hpost _ _ _ _ _ _ _ _ _ _ _ _ _ _ (iv_lit (l := 0) (h := 0) (by decide)) (iv_lea (l := 0) (h := 1) (r_nlt c12) (iv_leb (l := 0) (h := 2147483647) (r_nlt c8) (iv_lit (l := 0) (h := 0) (by decide)) (iv_top x1) (by decide)) (iv_sub (l := (-1)) (h := 1) (k_a_many _) (iv_lit (l := 1) (h := 1) (by decide)) (by decide)) (by decide)) hr17 hr18 k_a_at k_a_knows k_a_climbed k_a_level k_f_begun
                    · skip
                      exact (iv_emp (iv_ne (l := 1) (h := 0) c23 (iv_lit (l := 0) (h := 0) (by decide)) (iv_lit (l := 0) (h := 0) (by decide)) (by decide)) (by decide)).elim
                  · skip
                    refine ⟨fun c24 => ?_, fun c24 => ?_⟩
                    · skip
                      refine ⟨fun c25 => ?_, fun c25 => ?_⟩
                      · skip
                        exact hpost _ _ _ _ _ _ _ _ _ _ _ _ _ _ (iv_lit (l := 0) (h := 0) (by decide)) (iv_lea (l := 0) (h := 1) (r_nlt c12) (iv_leb (l := 0) (h := 2147483647) (r_nlt c8) (iv_lit (l := 0) (h := 0) (by decide)) (iv_top x1) (by decide)) (iv_sub (l := (-1)) (h := 1) (k_a_many _) (iv_lit (l := 1) (h := 1) (by decide)) (by decide)) (by decide)) hr17 hr18 k_a_at k_a_knows k_a_climbed k_a_level k_f_begun
                      · skip
                        exact (iv_emp (iv_ne (l := 1) (h := 0) c25 (iv_lit (l := 0) (h := 0) (by decide)) (iv_lit (l := 0) (h := 0) (by decide)) (by decide)) (by decide)).elim
                    · skip
                      refine ⟨fun c26 => ?_, fun c26 => ?_⟩
                      · skip
                        exact (iv_emp (iv_eqa (l := 1) (h := 0) c26 (iv_lit (l := 1) (h := 1) (by decide)) (iv_lit (l := 0) (h := 0) (by decide)) (by decide)) (by decide)).elim
                      · skip
                        refine s_m_play_0 k_a_lands k_a_evenings (iv_lea (l := 0) (h := 1) (r_nlt c12) (iv_leb (l := 0) (h := 2147483647) (r_nlt c8) (iv_lit (l := 0) (h := 0) (by decide)) (iv_top x1) (by decide)) (iv_sub (l := (-1)) (h := 1) (k_a_many _) (iv_lit (l := 1) (h := 1) (by decide)) (by decide)) (by decide)) hr17 hr18 (iv_lea (l := 0) (h := 1) (r_nlt c4) (iv_leb (l := 0) (h := 2147483647) (r_nlt c1) (iv_lit (l := 0) (h := 0) (by decide)) (iv_top x2) (by decide)) (iv_sub (l := (-1)) (h := 1) (k_a_many _) (iv_lit (l := 1) (h := 1) (by decide)) (by decide)) (by decide)) k_a_at k_a_knows k_a_climbed k_a_level k_f_begun (iv_lea (l := 0) (h := 40) (r_nlt c24) (iv_leb (l := 0) (h := 2147483647) (r_nlt c22) (iv_lit (l := 0) (h := 0) (by decide)) (iv_top x3) (by decide)) hr21 (by decide)) (fun r27 o28 o29 o30 o31 o32 o33 o34 o35 hr27 k_o28 k_o29 k_o30 k_o32 k_o33 => ?_)
                        refine ⟨fun c36 => ?_, fun c36 => ?_⟩
                        · skip
                          exact hpost _ _ _ _ _ _ _ _ _ _ _ _ _ _ (iv_lit (l := 0) (h := 0) (by decide)) (iv_lea (l := 0) (h := 1) (r_nlt c12) (iv_leb (l := 0) (h := 2147483647) (r_nlt c8) (iv_lit (l := 0) (h := 0) (by decide)) (iv_top x1) (by decide)) (iv_sub (l := (-1)) (h := 1) (k_a_many _) (iv_lit (l := 1) (h := 1) (by decide)) (by decide)) (by decide)) hr17 hr18 k_o28 k_o29 k_o30 k_o32 k_o33
                        · skip
                          refine ⟨fun c37 => ?_, fun c37 => ?_⟩
                          · skip
                            refine ⟨fun c38 => ?_, fun c38 => ?_⟩
                            · skip
                              exact (iv_emp (iv_ne (l := 1) (h := 0) c38 (iv_lit (l := 0) (h := 0) (by decide)) (iv_lit (l := 0) (h := 0) (by decide)) (by decide)) (by decide)).elim
                            · skip
                              exact hpost _ _ _ _ _ _ _ _ _ _ _ _ _ _ (iv_lit (l := 0) (h := 0) (by decide)) (iv_lea (l := 0) (h := 1) (r_nlt c12) (iv_leb (l := 0) (h := 2147483647) (r_nlt c8) (iv_lit (l := 0) (h := 0) (by decide)) (iv_top x1) (by decide)) (iv_sub (l := (-1)) (h := 1) (k_a_many _) (iv_lit (l := 1) (h := 1) (by decide)) (by decide)) (by decide)) hr17 hr18 k_o28 k_o29 k_o30 k_o32 k_o33
                          · skip
                            refine ⟨fun c39 => ?_, fun c39 => ?_⟩
                            · skip
                              refine ⟨fun c40 => ?_, fun c40 => ?_⟩
                              · skip
                                exact (iv_emp (iv_ne (l := 1) (h := 0) c40 (iv_lit (l := 0) (h := 0) (by decide)) (iv_lit (l := 0) (h := 0) (by decide)) (by decide)) (by decide)).elim
                              · skip
                                exact hpost _ _ _ _ _ _ _ _ _ _ _ _ _ _ (iv_lit (l := 0) (h := 0) (by decide)) (iv_lea (l := 0) (h := 1) (r_nlt c12) (iv_leb (l := 0) (h := 2147483647) (r_nlt c8) (iv_lit (l := 0) (h := 0) (by decide)) (iv_top x1) (by decide)) (iv_sub (l := (-1)) (h := 1) (k_a_many _) (iv_lit (l := 1) (h := 1) (by decide)) (by decide)) (by decide)) hr17 hr18 k_o28 k_o29 k_o30 k_o32 k_o33
                            · skip
                              refine ⟨fun c41 => ?_, fun c41 => ?_⟩
                              · skip
                                exact s_m_teach_53 (iv_lit (l := 0) (h := 0) (by decide)) k_a_many k_a_lands k_a_evenings (iv_lea (l := 0) (h := 1) (r_nlt c12) (iv_leb (l := 0) (h := 2147483647) (r_nlt c8) (iv_lit (l := 0) (h := 0) (by decide)) (iv_top x1) (by decide)) (iv_sub (l := (-1)) (h := 1) (k_a_many _) (iv_lit (l := 1) (h := 1) (by decide)) (by decide)) (by decide)) hr17 hr18 (iv_lea (l := 0) (h := 1) (r_nlt c4) (iv_leb (l := 0) (h := 2147483647) (r_nlt c1) (iv_lit (l := 0) (h := 0) (by decide)) (iv_top x2) (by decide)) (iv_sub (l := (-1)) (h := 1) (k_a_many _) (iv_lit (l := 1) (h := 1) (by decide)) (by decide)) (by decide)) k_o28 k_o29 k_o30 k_o32 k_o33 (iv_lea (l := 0) (h := 4) (r_nlt c39) (iv_leb (l := 0) (h := 2147483647) (r_nlt c37) (iv_lit (l := 0) (h := 0) (by decide)) (iv_top x4) (by decide)) (iv_lit (l := 4) (h := 4) (by decide)) (by decide)) (iv_w (iv_lit (l := 0) (h := 0) (by decide)) (by decide)) hpost
                              · skip
                                exact (iv_emp (iv_eqa (l := 1) (h := 0) c41 (iv_lit (l := 1) (h := 1) (by decide)) (iv_lit (l := 0) (h := 0) (by decide)) (by decide)) (by decide)).elim
            · skip
              exact (iv_emp (iv_eqa (l := 1) (h := 0) c16 (iv_lit (l := 1) (h := 1) (by decide)) (iv_lit (l := 0) (h := 0) (by decide)) (by decide)) (by decide)).elim
end
section
-- m_count
set_option maxRecDepth 20000 in
theorem s_m_count_0 {f_code : Int32} {a_many : Nat → Int32} {x1 : Int32} {post : Int32 → (Int32) → Prop} (k_f_code : iv 0 0 f_code) (k_a_many : ∀ j, iv 0 2 (a_many j)) (hpost : ∀ (r : Int32) (f_code : Int32), iv (-2) 2 r → (iv 0 0 f_code) → post r f_code) : q_m_count_0 f_code a_many x1 post := by
  refine ⟨fun c1 => ?_, fun c1 => ?_⟩
  · skip
    refine ⟨fun c2 => ?_, fun c2 => ?_⟩
    · skip
      exact hpost _ _ (iv_w (iv_lit (l := (-2)) (h := (-2)) (by decide)) (by decide)) (iv_lit (l := 0) (h := 0) (by decide))
    · skip
      exact (iv_emp (iv_ne (l := 1) (h := 0) c2 (iv_lit (l := 0) (h := 0) (by decide)) (iv_lit (l := 0) (h := 0) (by decide)) (by decide)) (by decide)).elim
  · skip
    refine ⟨fun c3 => ?_, fun c3 => ?_⟩
    · skip
      refine ⟨fun c4 => ?_, fun c4 => ?_⟩
      · skip
        exact hpost _ _ (iv_w (iv_lit (l := (-2)) (h := (-2)) (by decide)) (by decide)) (iv_lit (l := 0) (h := 0) (by decide))
      · skip
        exact (iv_emp (iv_ne (l := 1) (h := 0) c4 (iv_lit (l := 0) (h := 0) (by decide)) (iv_lit (l := 0) (h := 0) (by decide)) (by decide)) (by decide)).elim
    · skip
      refine ⟨fun c5 => ?_, fun c5 => ?_⟩
      · skip
        exact (iv_emp (iv_eqa (l := 1) (h := 0) c5 (iv_lit (l := 1) (h := 1) (by decide)) (iv_lit (l := 0) (h := 0) (by decide)) (by decide)) (by decide)).elim
      · skip
        refine ⟨iv_in (iv_lea (l := 0) (h := 3) (r_nlt c3) (iv_leb (l := 0) (h := 2147483647) (r_nlt c1) (iv_lit (l := 0) (h := 0) (by decide)) (iv_top x1) (by decide)) (iv_lit (l := 3) (h := 3) (by decide)) (by decide)) (by decide), ?_⟩
        exact hpost _ _ (iv_w (k_a_many _) (by decide)) (iv_lit (l := 0) (h := 0) (by decide))
end
