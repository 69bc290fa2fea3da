-- m_mutes
set_option maxRecDepth 20000 in
theorem s_m_mutes_130 {P79 : Int32 → Int32 → Int32 → (Nat → Int32) → Prop} {f_code : Int32} {a_many : Nat → Int32} {a_lands : Nat → Int32} {f_land : Int32} {f_huts : Int32} {f_singers : Int32} {a_run : Nat → Int32} {x2 : Int32} {x5 : Int32} {x6 : Int32} {x7 : Int32} {y0 : Int32} {post : Int32 → (Int32) → (Int32) → (Int32) → (Int32) → (Nat → Int32) → Prop} (k_f_code : iv 0 0 f_code) (k_a_many : ∀ j, iv 0 2 (a_many j)) (k_a_lands : mLand a_lands) (k_f_land : iv 0 1 f_land) (k_f_huts : iv 1 9 f_huts) (k_f_singers : iv 0 6 f_singers) (k_a_run : ∀ j, iv 0 1000000 (a_run j)) (hx2 : iv 0 8 x2) (hx5 : iv (-1) 2147483647 x5) (hx6 : iv 0 8 x6) (hy0 : iv (-1) 8 y0) (m79 : Int) (hm79 : m79 ≤ x6.toInt) (hP79 : ∀ (x4 : Int32) (x5 : Int32) (x6 : Int32) (a_run : Nat → Int32), m79 < x6.toInt → iv (-1) 8 x4 → iv (-1) 2147483647 x5 → iv 0 9 x6 → (∀ j, iv 0 1000000 (a_run j)) → P79 x4 x5 x6 a_run) (hpost : ∀ (r : Int32) (f_code : Int32) (f_land : Int32) (f_huts : Int32) (f_singers : Int32) (a_run : Nat → Int32), (iv 0 0 f_code) → (iv 0 1 f_land) → (iv 0 9 f_huts) → (iv 0 6 f_singers) → (∀ j, iv 0 1000000 (a_run j)) → post r f_code f_land f_huts f_singers a_run) : q_m_mutes_130 P79 f_code a_many a_lands f_land f_huts f_singers a_run x2 x5 x6 x7 y0 post := by
  refine ⟨fun c1 => ?_, fun c1 => ?_⟩
  · skip
    intro w2 ew2
    have hw2 := iv_eq ew2 (iv_add (l := 1) (h := 9) hx6 (iv_lit (l := 1) (h := 1) (by decide)) (by decide))
    exact hP79 _ _ _ _ (ml_up hm79 (inc_lt ew2 hx6 (by decide))) hy0 (iv_leb (l := (-1)) (h := 2147483647) (r_le c1) hx5 (iv_top x7) (by decide)) (iv_w hw2 (by decide)) k_a_run
  · skip
    intro w3 ew3
    have hw3 := iv_eq ew3 (iv_add (l := 1) (h := 9) hx6 (iv_lit (l := 1) (h := 1) (by decide)) (by decide))
    exact hP79 _ _ _ _ (ml_up hm79 (inc_lt ew3 hx6 (by decide))) hy0 hx5 (iv_w hw3 (by decide)) k_a_run
set_option maxRecDepth 20000 in
theorem s_m_mutes_114 {P79 : Int32 → Int32 → Int32 → (Nat → Int32) → Prop} {f_code : Int32} {a_many : Nat → Int32} {a_lands : Nat → Int32} {f_land : Int32} {f_huts : Int32} {f_singers : Int32} {a_run : Nat → Int32} {x2 : Int32} {x4 : Int32} {x5 : Int32} {x6 : Int32} {y0 : Int32} {post : Int32 → (Int32) → (Int32) → (Int32) → (Int32) → (Nat → Int32) → Prop} (k_f_code : iv 0 0 f_code) (k_a_many : ∀ j, iv 0 2 (a_many j)) (k_a_lands : mLand a_lands) (k_f_land : iv 0 1 f_land) (k_f_huts : iv 1 9 f_huts) (k_f_singers : iv 0 6 f_singers) (k_a_run : ∀ j, iv 0 1000000 (a_run j)) (hx2 : iv 0 8 x2) (hx4 : iv (-1) 8 x4) (hx5 : iv (-1) 2147483647 x5) (hx6 : iv 0 8 x6) (m79 : Int) (hm79 : m79 ≤ x6.toInt) (hP79 : ∀ (x4 : Int32) (x5 : Int32) (x6 : Int32) (a_run : Nat → Int32), m79 < x6.toInt → iv (-1) 8 x4 → iv (-1) 2147483647 x5 → iv 0 9 x6 → (∀ j, iv 0 1000000 (a_run j)) → P79 x4 x5 x6 a_run) (hpost : ∀ (r : Int32) (f_code : Int32) (f_land : Int32) (f_huts : Int32) (f_singers : Int32) (a_run : Nat → Int32), (iv 0 0 f_code) → (iv 0 1 f_land) → (iv 0 9 f_huts) → (iv 0 6 f_singers) → (∀ j, iv 0 1000000 (a_run j)) → post r f_code f_land f_huts f_singers a_run) : q_m_mutes_114 P79 f_code a_many a_lands f_land f_huts f_singers a_run x2 x4 x5 x6 y0 post := by
  refine ⟨fun c1 => ?_, fun c1 => ?_⟩
  · skip
    exact s_m_mutes_130 k_f_code k_a_many k_a_lands k_f_land k_f_huts k_f_singers k_a_run hx2 hx5 hx6 hx4 m79 hm79 hP79 hpost
  · skip
    exact s_m_mutes_130 k_f_code k_a_many k_a_lands k_f_land k_f_huts k_f_singers k_a_run hx2 (iv_w (iv_lta (l := (-1)) (h := 2147483646) (r_nle c1) hx5 (iv_top y0) (by decide)) (by decide)) hx6 (iv_w hx6 (by decide)) m79 hm79 hP79 hpost
set_option maxRecDepth 20000 in
theorem s_m_mutes_103 {P79 : Int32 → Int32 → Int32 → (Nat → Int32) → Prop} {f_code : Int32} {a_many : Nat → Int32} {a_lands : Nat → Int32} {f_land : Int32} {f_huts : Int32} {f_singers : Int32} {a_run : Nat → Int32} {x2 : Int32} {x4 : Int32} {x5 : Int32} {x6 : Int32} {post : Int32 → (Int32) → (Int32) → (Int32) → (Int32) → (Nat → Int32) → Prop} (k_f_code : iv 0 0 f_code) (k_a_many : ∀ j, iv 0 2 (a_many j)) (k_a_lands : mLand a_lands) (k_f_land : iv 0 1 f_land) (k_f_huts : iv 1 9 f_huts) (k_f_singers : iv 0 6 f_singers) (k_a_run : ∀ j, iv 0 1000000 (a_run j)) (hx2 : iv 0 8 x2) (hx4 : iv (-1) 8 x4) (hx5 : iv (-1) 2147483647 x5) (hx6 : iv 0 8 x6) (m79 : Int) (hm79 : m79 ≤ x6.toInt) (hP79 : ∀ (x4 : Int32) (x5 : Int32) (x6 : Int32) (a_run : Nat → Int32), m79 < x6.toInt → iv (-1) 8 x4 → iv (-1) 2147483647 x5 → iv 0 9 x6 → (∀ j, iv 0 1000000 (a_run j)) → P79 x4 x5 x6 a_run) (hpost : ∀ (r : Int32) (f_code : Int32) (f_land : Int32) (f_huts : Int32) (f_singers : Int32) (a_run : Nat → Int32), (iv 0 0 f_code) → (iv 0 1 f_land) → (iv 0 9 f_huts) → (iv 0 6 f_singers) → (∀ j, iv 0 1000000 (a_run j)) → post r f_code f_land f_huts f_singers a_run) : q_m_mutes_103 P79 f_code a_many a_lands f_land f_huts f_singers a_run x2 x4 x5 x6 post := by
  exact s_m_mutes_114 k_f_code k_a_many k_a_lands k_f_land k_f_huts k_f_singers k_a_run hx2 hx4 hx5 hx6 m79 hm79 hP79 hpost
set_option maxRecDepth 20000 in
theorem s_m_mutes_79 {f_code : Int32} {a_many : Nat → Int32} {a_lands : Nat → Int32} {f_land : Int32} {f_huts : Int32} {f_singers : Int32} {a_run : Nat → Int32} {x2 : Int32} {x4 : Int32} {x5 : Int32} {x6 : Int32} {post : Int32 → (Int32) → (Int32) → (Int32) → (Int32) → (Nat → Int32) → Prop} (k_f_code : iv 0 0 f_code) (k_a_many : ∀ j, iv 0 2 (a_many j)) (k_a_lands : mLand a_lands) (k_f_land : iv 0 1 f_land) (k_f_huts : iv 0 9 f_huts) (k_f_singers : iv 0 6 f_singers) (k_a_run : ∀ j, iv 0 1000000 (a_run j)) (hx2 : iv 0 8 x2) (hx4 : iv (-1) 8 x4) (hx5 : iv (-1) 2147483647 x5) (hx6 : iv 0 9 x6) (hpost : ∀ (r : Int32) (f_code : Int32) (f_land : Int32) (f_huts : Int32) (f_singers : Int32) (a_run : Nat → Int32), (iv 0 0 f_code) → (iv 0 1 f_land) → (iv 0 9 f_huts) → (iv 0 6 f_singers) → (∀ j, iv 0 1000000 (a_run j)) → post r f_code f_land f_huts f_singers a_run) : q_m_mutes_79 f_code a_many a_lands f_land f_huts f_singers a_run x2 x4 x5 x6 post := by
  intro P hP
  have loop : ∀ (n : Nat) (x4 : Int32) (x5 : Int32) (x6 : Int32) (a_run : Nat → Int32), (9 - x6.toInt < (n : Int)) → (iv (-1) 8 x4) → (iv (-1) 2147483647 x5) → (iv 0 9 x6) → (∀ j, iv 0 1000000 (a_run j)) → P x4 x5 x6 a_run := by
    intro n
    induction n with
    | zero => intro x4 x5 x6 a_run hm hx4 hx5 hx6 k_a_run; exact (ms0_up hm hx6).elim
    | succ n ih =>
      intro x4 x5 x6 a_run hm hx4 hx5 hx6 k_a_run
      apply hP
      refine ⟨fun c1 => ?_, fun c1 => ?_⟩
      · skip
        exact hpost _ _ _ _ _ _ k_f_code k_f_land k_f_huts k_f_singers k_a_run
      · skip
        refine ⟨fun c2 => ?_, fun c2 => ?_⟩
        · skip
          exact s_m_mutes_103 k_f_code k_a_many k_a_lands k_f_land (iv_ltb (l := 1) (h := 9) (r_nle c1) hx6 k_f_huts (by decide)) k_f_singers k_a_run hx2 hx4 hx5 (iv_lta (l := 0) (h := 8) (r_nle c1) hx6 k_f_huts (by decide)) x6.toInt (Int.le_refl _) (fun u0 u1 u2 u3 hq g0 g1 g2 g3 => ih u0 u1 u2 u3 (ms_up hm hq) g0 g1 g2 g3) hpost
        · skip
          refine sp_of (a := 0) (b := 511) k_a_lands k_f_land (iv_lit (l := 3) (h := 3) (by decide)) (by decide +kernel) (fun r3 hr3 er3 => ?_)
          refine ⟨fun c4 => ?_, fun c4 => ?_⟩
          · skip
            refine ⟨iv_nb (iv_lit (l := 0) (h := 0) (by decide)) (by decide), ?_⟩
            refine ⟨fun c5 => ?_, fun c5 => ?_⟩
            · skip
              refine s_m_mutesOf_0 k_a_lands k_f_land (iv_w (iv_ltb (l := 1) (h := 9) (r_nle c1) hx6 k_f_huts (by decide)) (by decide)) k_a_run hx2 (iv_lta (l := 0) (h := 8) (r_nle c1) hx6 k_f_huts (by decide)) (fun r6 o7 k_o7 => ?_)
              exact s_m_mutes_114 k_f_code k_a_many k_a_lands k_f_land (iv_ltb (l := 1) (h := 9) (r_nle c1) hx6 k_f_huts (by decide)) k_f_singers k_o7 hx2 hx4 hx5 (iv_lta (l := 0) (h := 8) (r_nle c1) hx6 k_f_huts (by decide)) x6.toInt (Int.le_refl _) (fun u0 u1 u2 u3 hq g0 g1 g2 g3 => ih u0 u1 u2 u3 (ms_up hm hq) g0 g1 g2 g3) hpost
            · skip
              exact (iv_emp (iv_ne (l := 1) (h := 0) c5 (iv_lit (l := 0) (h := 0) (by decide)) (iv_lit (l := 0) (h := 0) (by decide)) (by decide)) (by decide)).elim
          · skip
            refine ⟨iv_nb (iv_lit (l := 1) (h := 1) (by decide)) (by decide), ?_⟩
            refine ⟨fun c8 => ?_, fun c8 => ?_⟩
            · skip
              exact (iv_emp (iv_eqa (l := 1) (h := 0) c8 (iv_lit (l := 1) (h := 1) (by decide)) (iv_lit (l := 0) (h := 0) (by decide)) (by decide)) (by decide)).elim
            · skip
              exact s_m_mutes_103 k_f_code k_a_many k_a_lands k_f_land (iv_ltb (l := 1) (h := 9) (r_nle c1) hx6 k_f_huts (by decide)) k_f_singers k_a_run hx2 hx4 hx5 (iv_lta (l := 0) (h := 8) (r_nle c1) hx6 k_f_huts (by decide)) x6.toInt (Int.le_refl _) (fun u0 u1 u2 u3 hq g0 g1 g2 g3 => ih u0 u1 u2 u3 (ms_up hm hq) g0 g1 g2 g3) hpost
  exact loop _ _ _ _ _ (ms_init_up _ _) hx4 hx5 hx6 k_a_run
set_option maxRecDepth 20000 in
theorem s_m_mutes_58 {f_code : Int32} {a_many : Nat → Int32} {a_lands : Nat → Int32} {f_land : Int32} {f_huts : Int32} {f_singers : Int32} {a_run : Nat → Int32} {x2 : Int32} {x3 : Int32} {post : Int32 → (Int32) → (Int32) → (Int32) → (Int32) → (Nat → Int32) → Prop} (k_f_code : iv 0 0 f_code) (k_a_many : ∀ j, iv 0 2 (a_many j)) (k_a_lands : mLand a_lands) (k_f_land : iv 0 1 f_land) (k_f_huts : iv 0 9 f_huts) (k_f_singers : iv 0 6 f_singers) (k_a_run : ∀ j, iv 0 1000000 (a_run j)) (hx2 : iv 0 8 x2) (hx3 : iv (-1) 8 x3) (hpost : ∀ (r : Int32) (f_code : Int32) (f_land : Int32) (f_huts : Int32) (f_singers : Int32) (a_run : Nat → Int32), (iv 0 0 f_code) → (iv 0 1 f_land) → (iv 0 9 f_huts) → (iv 0 6 f_singers) → (∀ j, iv 0 1000000 (a_run j)) → post r f_code f_land f_huts f_singers a_run) : q_m_mutes_58 f_code a_many a_lands f_land f_huts f_singers a_run x2 x3 post := by
  refine ⟨fun c1 => ?_, fun c1 => ?_⟩
  · skip
    exact s_m_mutes_79 k_f_code k_a_many k_a_lands k_f_land k_f_huts k_f_singers k_a_run hx2 (iv_w (iv_lit (l := (-1)) (h := (-1)) (by decide)) (by decide)) (iv_w (iv_lit (l := (-1)) (h := (-1)) (by decide)) (by decide)) (iv_w (iv_lit (l := 0) (h := 0) (by decide)) (by decide)) hpost
  · skip
    refine s_m_mutesOf_0 k_a_lands k_f_land k_f_huts k_a_run hx2 (iv_ne (l := 0) (h := 8) c1 hx3 (iv_lit (l := (-1)) (h := (-1)) (by decide)) (by decide)) (fun r2 o3 k_o3 => ?_)
    exact hpost _ _ _ _ _ _ k_f_code k_f_land k_f_huts k_f_singers k_o3
set_option maxRecDepth 20000 in
theorem s_m_mutes_0 {f_code : Int32} {a_many : Nat → Int32} {a_lands : Nat → Int32} {f_land : Int32} {f_huts : Int32} {f_singers : Int32} {a_run : Nat → Int32} {x1 : Int32} {x2 : Int32} {x3 : Int32} {post : Int32 → (Int32) → (Int32) → (Int32) → (Int32) → (Nat → Int32) → Prop} (k_f_code : iv 0 0 f_code) (k_a_many : ∀ j, iv 0 2 (a_many j)) (k_a_lands : mLand a_lands) (k_f_land : iv 0 1 f_land) (k_f_huts : iv 0 9 f_huts) (k_f_singers : iv 0 6 f_singers) (k_a_run : ∀ j, iv 0 1000000 (a_run j)) (hpost : ∀ (r : Int32) (f_code : Int32) (f_land : Int32) (f_huts : Int32) (f_singers : Int32) (a_run : Nat → Int32), (iv 0 0 f_code) → (iv 0 1 f_land) → (iv 0 9 f_huts) → (iv 0 6 f_singers) → (∀ j, iv 0 1000000 (a_run j)) → post r f_code f_land f_huts f_singers a_run) : q_m_mutes_0 f_code a_many a_lands f_land f_huts f_singers a_run x1 x2 x3 post := by
  refine ⟨iv_in (iv_lit (l := 0) (h := 0) (by decide)) (by decide), ?_⟩
  refine ⟨fun c1 => ?_, fun c1 => ?_⟩
  · skip
    refine ⟨iv_nb (iv_lit (l := 0) (h := 0) (by decide)) (by decide), ?_⟩
    refine ⟨fun c2 => ?_, fun c2 => ?_⟩
    · skip
      exact (iv_emp (iv_ne (l := 1) (h := 0) c2 (iv_lit (l := 0) (h := 0) (by decide)) (iv_lit (l := 0) (h := 0) (by decide)) (by decide)) (by decide)).elim
    · skip
      refine ⟨fun c3 => ?_, fun c3 => ?_⟩
      · skip
        exact hpost _ _ _ _ _ _ (iv_lit (l := 0) (h := 0) (by decide)) k_f_land k_f_huts k_f_singers k_a_run
      · skip
        exact (iv_emp (iv_ne (l := 1) (h := 0) c3 (iv_lit (l := 0) (h := 0) (by decide)) (iv_lit (l := 0) (h := 0) (by decide)) (by decide)) (by decide)).elim
  · skip
    refine ⟨fun c4 => ?_, fun c4 => ?_⟩
    · skip
      refine ⟨iv_nb (iv_lit (l := 0) (h := 0) (by decide)) (by decide), ?_⟩
      refine ⟨fun c5 => ?_, fun c5 => ?_⟩
      · skip
        exact (iv_emp (iv_ne (l := 1) (h := 0) c5 (iv_lit (l := 0) (h := 0) (by decide)) (iv_lit (l := 0) (h := 0) (by decide)) (by decide)) (by decide)).elim
      · skip
        refine ⟨fun c6 => ?_, fun c6 => ?_⟩
        · skip
          exact hpost _ _ _ _ _ _ (iv_lit (l := 0) (h := 0) (by decide)) k_f_land k_f_huts k_f_singers k_a_run
        · skip
          exact (iv_emp (iv_ne (l := 1) (h := 0) c6 (iv_lit (l := 0) (h := 0) (by decide)) (iv_lit (l := 0) (h := 0) (by decide)) (by decide)) (by decide)).elim
    · skip
      refine ⟨iv_nb (iv_lit (l := 1) (h := 1) (by decide)) (by decide), ?_⟩
      refine ⟨fun c7 => ?_, fun c7 => ?_⟩
      · skip
        refine sp_of (a := 0) (b := 9) k_a_lands (iv_lea (l := 0) (h := 1) (r_nlt c4) (iv_leb (l := 0) (h := 2147483647) (r_nlt c1) (iv_lit (l := 0) (h := 0) (by decide)) (iv_top x1) (by decide)) (iv_sub (l := (-1)) (h := 1) (k_a_many _) (iv_lit (l := 1) (h := 1) (by decide)) (by decide)) (by decide)) (iv_lit (l := 0) (h := 0) (by decide)) (by decide +kernel) (fun r8 hr8 er8 => ?_)
        refine sp_of (a := 0) (b := 6) k_a_lands (iv_lea (l := 0) (h := 1) (r_nlt c4) (iv_leb (l := 0) (h := 2147483647) (r_nlt c1) (iv_lit (l := 0) (h := 0) (by decide)) (iv_top x1) (by decide)) (iv_sub (l := (-1)) (h := 1) (k_a_many _) (iv_lit (l := 1) (h := 1) (by decide)) (by decide)) (by decide)) (iv_lit (l := 1) (h := 1) (by decide)) (by decide +kernel) (fun r9 hr9 er9 => ?_)
        refine ⟨fun c10 => ?_, fun c10 => ?_⟩
        · skip
          exact (iv_emp (iv_eqa (l := 1) (h := 0) c10 (iv_lit (l := 1) (h := 1) (by decide)) (iv_lit (l := 0) (h := 0) (by decide)) (by decide)) (by decide)).elim
        · skip
          refine ⟨fun c11 => ?_, fun c11 => ?_⟩
          · skip
            refine ⟨iv_nb (iv_lit (l := 0) (h := 0) (by decide)) (by decide), ?_⟩
            refine ⟨fun c12 => ?_, fun c12 => ?_⟩
            · skip
              exact hpost _ _ _ _ _ _ (iv_lit (l := 0) (h := 0) (by decide)) (iv_lea (l := 0) (h := 1) (r_nlt c4) (iv_leb (l := 0) (h := 2147483647) (r_nlt c1) (iv_lit (l := 0) (h := 0) (by decide)) (iv_top x1) (by decide)) (iv_sub (l := (-1)) (h := 1) (k_a_many _) (iv_lit (l := 1) (h := 1) (by decide)) (by decide)) (by decide)) hr8 hr9 k_a_run
            · skip
              exact (iv_emp (iv_ne (l := 1) (h := 0) c12 (iv_lit (l := 0) (h := 0) (by decide)) (iv_lit (l := 0) (h := 0) (by decide)) (by decide)) (by decide)).elim
          · skip
            refine ⟨fun c13 => ?_, fun c13 => ?_⟩
            · skip
              refine ⟨iv_nb (iv_lit (l := 0) (h := 0) (by decide)) (by decide), ?_⟩
              refine ⟨fun c14 => ?_, fun c14 => ?_⟩
              · skip
                exact hpost _ _ _ _ _ _ (iv_lit (l := 0) (h := 0) (by decide)) (iv_lea (l := 0) (h := 1) (r_nlt c4) (iv_leb (l := 0) (h := 2147483647) (r_nlt c1) (iv_lit (l := 0) (h := 0) (by decide)) (iv_top x1) (by decide)) (iv_sub (l := (-1)) (h := 1) (k_a_many _) (iv_lit (l := 1) (h := 1) (by decide)) (by decide)) (by decide)) hr8 hr9 k_a_run
              · skip
                exact (iv_emp (iv_ne (l := 1) (h := 0) c14 (iv_lit (l := 0) (h := 0) (by decide)) (iv_lit (l := 0) (h := 0) (by decide)) (by decide)) (by decide)).elim
            · skip
              refine ⟨iv_nb (iv_lit (l := 1) (h := 1) (by decide)) (by decide), ?_⟩
              refine ⟨fun c15 => ?_, fun c15 => ?_⟩
              · skip
                exact (iv_emp (iv_eqa (l := 1) (h := 0) c15 (iv_lit (l := 1) (h := 1) (by decide)) (iv_lit (l := 0) (h := 0) (by decide)) (by decide)) (by decide)).elim
              · skip
                refine sp_of (a := 0) (b := 511) k_a_lands (iv_lea (l := 0) (h := 1) (r_nlt c4) (iv_leb (l := 0) (h := 2147483647) (r_nlt c1) (iv_lit (l := 0) (h := 0) (by decide)) (iv_top x1) (by decide)) (iv_sub (l := (-1)) (h := 1) (k_a_many _) (iv_lit (l := 1) (h := 1) (by decide)) (by decide)) (by decide)) (iv_lit (l := 3) (h := 3) (by decide)) (by decide +kernel) (fun r16 hr16 er16 => ?_)
                refine ⟨fun c17 => ?_, fun c17 => ?_⟩
                · skip
                  refine ⟨iv_nb (iv_lit (l := 0) (h := 0) (by decide)) (by decide), ?_⟩
                  refine ⟨fun c18 => ?_, fun c18 => ?_⟩
                  · skip
                    exact (iv_emp (iv_ne (l := 1) (h := 0) c18 (iv_lit (l := 0) (h := 0) (by decide)) (iv_lit (l := 0) (h := 0) (by decide)) (by decide)) (by decide)).elim
                  · skip
                    refine ⟨fun c19 => ?_, fun c19 => ?_⟩
                    · skip
                      exact s_m_mutes_58 (iv_lit (l := 0) (h := 0) (by decide)) k_a_many k_a_lands (iv_lea (l := 0) (h := 1) (r_nlt c4) (iv_leb (l := 0) (h := 2147483647) (r_nlt c1) (iv_lit (l := 0) (h := 0) (by decide)) (iv_top x1) (by decide)) (iv_sub (l := (-1)) (h := 1) (k_a_many _) (iv_lit (l := 1) (h := 1) (by decide)) (by decide)) (by decide)) hr8 hr9 k_a_run (iv_lea (l := 0) (h := 8) (r_nlt c13) (iv_leb (l := 0) (h := 2147483647) (r_nlt c11) (iv_lit (l := 0) (h := 0) (by decide)) (iv_top x2) (by decide)) (iv_sub (l := (-1)) (h := 8) hr8 (iv_lit (l := 1) (h := 1) (by decide)) (by decide)) (by decide)) (iv_w (iv_eqa (l := (-1)) (h := (-1)) c19 (iv_top x3) (iv_lit (l := (-1)) (h := (-1)) (by decide)) (by decide)) (by decide)) hpost
                    · skip
                      refine ⟨fun c20 => ?_, fun c20 => ?_⟩
                      · skip
                        refine ⟨iv_nb (iv_lit (l := 0) (h := 0) (by decide)) (by decide), ?_⟩
                        refine ⟨fun c21 => ?_, fun c21 => ?_⟩
                        · skip
                          exact hpost _ _ _ _ _ _ (iv_lit (l := 0) (h := 0) (by decide)) (iv_lea (l := 0) (h := 1) (r_nlt c4) (iv_leb (l := 0) (h := 2147483647) (r_nlt c1) (iv_lit (l := 0) (h := 0) (by decide)) (iv_top x1) (by decide)) (iv_sub (l := (-1)) (h := 1) (k_a_many _) (iv_lit (l := 1) (h := 1) (by decide)) (by decide)) (by decide)) hr8 hr9 k_a_run
                        · skip
                          exact (iv_emp (iv_ne (l := 1) (h := 0) c21 (iv_lit (l := 0) (h := 0) (by decide)) (iv_lit (l := 0) (h := 0) (by decide)) (by decide)) (by decide)).elim
                      · skip
                        refine ⟨fun c22 => ?_, fun c22 => ?_⟩
                        · skip
                          refine ⟨iv_nb (iv_lit (l := 0) (h := 0) (by decide)) (by decide), ?_⟩
                          refine ⟨fun c23 => ?_, fun c23 => ?_⟩
                          · skip
                            exact hpost _ _ _ _ _ _ (iv_lit (l := 0) (h := 0) (by decide)) (iv_lea (l := 0) (h := 1) (r_nlt c4) (iv_leb (l := 0) (h := 2147483647) (r_nlt c1) (iv_lit (l := 0) (h := 0) (by decide)) (iv_top x1) (by decide)) (iv_sub (l := (-1)) (h := 1) (k_a_many _) (iv_lit (l := 1) (h := 1) (by decide)) (by decide)) (by decide)) hr8 hr9 k_a_run
                          · skip
                            exact (iv_emp (iv_ne (l := 1) (h := 0) c23 (iv_lit (l := 0) (h := 0) (by decide)) (iv_lit (l := 0) (h := 0) (by decide)) (by decide)) (by decide)).elim
                        · skip
                          refine ⟨iv_nb (iv_lit (l := 1) (h := 1) (by decide)) (by decide), ?_⟩
                          refine ⟨fun c24 => ?_, fun c24 => ?_⟩
                          · skip
                            exact (iv_emp (iv_eqa (l := 1) (h := 0) c24 (iv_lit (l := 1) (h := 1) (by decide)) (iv_lit (l := 0) (h := 0) (by decide)) (by decide)) (by decide)).elim
                          · skip
                            refine sp_of (a := 0) (b := 511) k_a_lands (iv_lea (l := 0) (h := 1) (r_nlt c4) (iv_leb (l := 0) (h := 2147483647) (r_nlt c1) (iv_lit (l := 0) (h := 0) (by decide)) (iv_top x1) (by decide)) (iv_sub (l := (-1)) (h := 1) (k_a_many _) (iv_lit (l := 1) (h := 1) (by decide)) (by decide)) (by decide)) (iv_lit (l := 3) (h := 3) (by decide)) (by decide +kernel) (fun r25 hr25 er25 => ?_)
                            refine ⟨fun c26 => ?_, fun c26 => ?_⟩
                            · skip
                              refine ⟨iv_nb (iv_lit (l := 0) (h := 0) (by decide)) (by decide), ?_⟩
                              refine ⟨fun c27 => ?_, fun c27 => ?_⟩
                              · skip
                                exact (iv_emp (iv_ne (l := 1) (h := 0) c27 (iv_lit (l := 0) (h := 0) (by decide)) (iv_lit (l := 0) (h := 0) (by decide)) (by decide)) (by decide)).elim
                              · skip
                                refine ⟨fun c28 => ?_, fun c28 => ?_⟩
                                · skip
                                  exact s_m_mutes_58 (iv_lit (l := 0) (h := 0) (by decide)) k_a_many k_a_lands (iv_lea (l := 0) (h := 1) (r_nlt c4) (iv_leb (l := 0) (h := 2147483647) (r_nlt c1) (iv_lit (l := 0) (h := 0) (by decide)) (iv_top x1) (by decide)) (iv_sub (l := (-1)) (h := 1) (k_a_many _) (iv_lit (l := 1) (h := 1) (by decide)) (by decide)) (by decide)) hr8 hr9 k_a_run (iv_lea (l := 0) (h := 8) (r_nlt c13) (iv_leb (l := 0) (h := 2147483647) (r_nlt c11) (iv_lit (l := 0) (h := 0) (by decide)) (iv_top x2) (by decide)) (iv_sub (l := (-1)) (h := 8) hr8 (iv_lit (l := 1) (h := 1) (by decide)) (by decide)) (by decide)) (iv_w (iv_lea (l := 0) (h := 8) (r_nlt c22) (iv_leb (l := 0) (h := 2147483647) (r_nlt c20) (iv_lit (l := 0) (h := 0) (by decide)) (iv_top x3) (by decide)) (iv_leb (l := 0) (h := 8) (r_nlt c13) (iv_leb (l := 0) (h := 2147483647) (r_nlt c11) (iv_lit (l := 0) (h := 0) (by decide)) (iv_top x2) (by decide)) (iv_sub (l := (-1)) (h := 8) hr8 (iv_lit (l := 1) (h := 1) (by decide)) (by decide)) (by decide)) (by decide)) (by decide)) hpost
                                · skip
                                  exact hpost _ _ _ _ _ _ (iv_lit (l := 0) (h := 0) (by decide)) (iv_lea (l := 0) (h := 1) (r_nlt c4) (iv_leb (l := 0) (h := 2147483647) (r_nlt c1) (iv_lit (l := 0) (h := 0) (by decide)) (iv_top x1) (by decide)) (iv_sub (l := (-1)) (h := 1) (k_a_many _) (iv_lit (l := 1) (h := 1) (by decide)) (by decide)) (by decide)) hr8 hr9 k_a_run
                            · skip
                              refine ⟨iv_nb (iv_lit (l := 1) (h := 1) (by decide)) (by decide), ?_⟩
                              refine ⟨fun c29 => ?_, fun c29 => ?_⟩
                              · skip
                                exact hpost _ _ _ _ _ _ (iv_lit (l := 0) (h := 0) (by decide)) (iv_lea (l := 0) (h := 1) (r_nlt c4) (iv_leb (l := 0) (h := 2147483647) (r_nlt c1) (iv_lit (l := 0) (h := 0) (by decide)) (iv_top x1) (by decide)) (iv_sub (l := (-1)) (h := 1) (k_a_many _) (iv_lit (l := 1) (h := 1) (by decide)) (by decide)) (by decide)) hr8 hr9 k_a_run
                              · skip
                                exact (iv_emp (iv_eqa (l := 1) (h := 0) c29 (iv_lit (l := 1) (h := 1) (by decide)) (iv_lit (l := 0) (h := 0) (by decide)) (by decide)) (by decide)).elim
                · skip
                  refine ⟨iv_nb (iv_lit (l := 1) (h := 1) (by decide)) (by decide), ?_⟩
                  refine ⟨fun c30 => ?_, fun c30 => ?_⟩
                  · skip
                    exact hpost _ _ _ _ _ _ (iv_lit (l := 0) (h := 0) (by decide)) (iv_lea (l := 0) (h := 1) (r_nlt c4) (iv_leb (l := 0) (h := 2147483647) (r_nlt c1) (iv_lit (l := 0) (h := 0) (by decide)) (iv_top x1) (by decide)) (iv_sub (l := (-1)) (h := 1) (k_a_many _) (iv_lit (l := 1) (h := 1) (by decide)) (by decide)) (by decide)) hr8 hr9 k_a_run
                  · skip
                    exact (iv_emp (iv_eqa (l := 1) (h := 0) c30 (iv_lit (l := 1) (h := 1) (by decide)) (iv_lit (l := 0) (h := 0) (by decide)) (by decide)) (by decide)).elim
      · skip
        exact (iv_emp (iv_eqa (l := 1) (h := 0) c7 (iv_lit (l := 1) (h := 1) (by decide)) (iv_lit (l := 0) (h := 0) (by decide)) (by decide)) (by decide)).elim
-- m_findFar
set_option maxRecDepth 20000 in
theorem s_m_findFar_60 {P2 : Int32 → (Nat → Int32) → Prop} {P12 : Int32 → (Nat → Int32) → Prop} {a_lands : Nat → Int32} {f_land : Int32} {f_huts : Int32} {a_far : Nat → Int32} {x1 : Int32} {x2 : Int32} {y0 : Int32} {y1 : Int32} {post : (Nat → Int32) → Prop} (k_a_lands : mLand a_lands) (k_f_land : iv 0 1 f_land) (k_f_huts : iv 1 9 f_huts) (k_a_far : ∀ j, iv 0 1000000 (a_far j)) (hx1 : iv 0 8 x1) (hx2 : iv 0 8 x2) (hy0 : iv 0 80 y0) (hy1 : iv 0 1000000 y1) (m2 : Int) (hm2 : m2 ≤ x1.toInt) (hP2 : ∀ (x1 : Int32) (a_far : Nat → Int32), m2 < x1.toInt → iv 0 9 x1 → (∀ j, iv 0 1000000 (a_far j)) → P2 x1 a_far) (m12 : Int) (hm12 : m12 ≤ x2.toInt) (hP12 : ∀ (x2 : Int32) (a_far : Nat → Int32), m12 < x2.toInt → iv 0 9 x2 → (∀ j, iv 0 1000000 (a_far j)) → P12 x2 a_far) (hpost : ∀ (a_far : Nat → Int32), (∀ j, iv 0 1000000 (a_far j)) → post a_far) : q_m_findFar_60 P2 P12 a_lands f_land f_huts a_far x1 x2 y0 y1 post := by
  refine ⟨iv_in hy0 (by decide), ?_⟩
  intro a1 ea1
  have k_a1 := iv_upd ea1 k_a_far hy1
  intro w2 ew2
  have hw2 := iv_eq ew2 (iv_add (l := 1) (h := 9) hx2 (iv_lit (l := 1) (h := 1) (by decide)) (by decide))
  exact hP12 _ _ (ml_up hm12 (inc_lt ew2 hx2 (by decide))) (iv_w hw2 (by decide)) k_a1
set_option maxRecDepth 20000 in
theorem s_m_findFar_12 {P2 : Int32 → (Nat → Int32) → Prop} {a_lands : Nat → Int32} {f_land : Int32} {f_huts : Int32} {a_far : Nat → Int32} {x1 : Int32} {x2 : Int32} {post : (Nat → Int32) → Prop} (k_a_lands : mLand a_lands) (k_f_land : iv 0 1 f_land) (k_f_huts : iv 1 9 f_huts) (k_a_far : ∀ j, iv 0 1000000 (a_far j)) (hx1 : iv 0 8 x1) (hx2 : iv 0 9 x2) (m2 : Int) (hm2 : m2 ≤ x1.toInt) (hP2 : ∀ (x1 : Int32) (a_far : Nat → Int32), m2 < x1.toInt → iv 0 9 x1 → (∀ j, iv 0 1000000 (a_far j)) → P2 x1 a_far) (hpost : ∀ (a_far : Nat → Int32), (∀ j, iv 0 1000000 (a_far j)) → post a_far) : q_m_findFar_12 P2 a_lands f_land f_huts a_far x1 x2 post := by
  intro P hP
  have loop : ∀ (n : Nat) (x2 : Int32) (a_far : Nat → Int32), (9 - x2.toInt < (n : Int)) → (iv 0 9 x2) → (∀ j, iv 0 1000000 (a_far j)) → P x2 a_far := by
    intro n
    induction n with
    | zero => intro x2 a_far hm hx2 k_a_far; exact (ms0_up hm hx2).elim
    | succ n ih =>
      intro x2 a_far hm hx2 k_a_far
      apply hP
      refine ⟨fun c1 => ?_, fun c1 => ?_⟩
      · skip
        intro w2 ew2
        have hw2 := iv_eq ew2 (iv_add (l := 1) (h := 9) hx1 (iv_lit (l := 1) (h := 1) (by decide)) (by decide))
        exact hP2 _ _ (ml_up hm2 (inc_lt ew2 hx1 (by decide))) (iv_w hw2 (by decide)) k_a_far
      · skip
        refine ⟨fun c3 => ?_, fun c3 => ?_⟩
        · skip
          refine sp_of (a := 0) (b := 9) k_a_lands k_f_land (iv_add (l := 51) (h := 131) (iv_add (l := 51) (h := 123) (iv_lit (l := 51) (h := 51) (by decide)) (iv_mul (l := 0) (h := 72) (iv_lit (l := 9) (h := 9) (by decide)) hx1 (by decide)) (by decide)) (iv_lta (l := 0) (h := 8) (r_nle c1) hx2 k_f_huts (by decide)) (by decide)) (by decide +kernel) (fun r4 hr4 er4 => ?_)
          refine ⟨fun c5 => ?_, fun c5 => ?_⟩
          · skip
            exact s_m_findFar_60 k_a_lands k_f_land k_f_huts k_a_far hx1 (iv_lta (l := 0) (h := 8) (r_nle c1) hx2 k_f_huts (by decide)) (iv_add (l := 0) (h := 80) (iv_mul (l := 0) (h := 72) (iv_lit (l := 9) (h := 9) (by decide)) hx1 (by decide)) (iv_lta (l := 0) (h := 8) (r_nle c1) hx2 k_f_huts (by decide)) (by decide)) (iv_w (iv_lit (l := 1000000) (h := 1000000) (by decide)) (by decide)) m2 hm2 hP2 x2.toInt (Int.le_refl _) (fun u0 u1 hq g0 g1 => ih u0 u1 (ms_up hm hq) g0 g1) hpost
          · skip
            refine sp_of (a := 0) (b := 9) k_a_lands k_f_land (iv_add (l := 51) (h := 131) (iv_add (l := 51) (h := 123) (iv_lit (l := 51) (h := 51) (by decide)) (iv_mul (l := 0) (h := 72) (iv_lit (l := 9) (h := 9) (by decide)) hx1 (by decide)) (by decide)) (iv_lta (l := 0) (h := 8) (r_nle c1) hx2 k_f_huts (by decide)) (by decide)) (by decide +kernel) (fun r6 hr6 er6 => ?_)
            exact s_m_findFar_60 k_a_lands k_f_land k_f_huts k_a_far hx1 (iv_lta (l := 0) (h := 8) (r_nle c1) hx2 k_f_huts (by decide)) (iv_add (l := 0) (h := 80) (iv_mul (l := 0) (h := 72) (iv_lit (l := 9) (h := 9) (by decide)) hx1 (by decide)) (iv_lta (l := 0) (h := 8) (r_nle c1) hx2 k_f_huts (by decide)) (by decide)) (iv_w hr6 (by decide)) m2 hm2 hP2 x2.toInt (Int.le_refl _) (fun u0 u1 hq g0 g1 => ih u0 u1 (ms_up hm hq) g0 g1) hpost
        · skip
          exact s_m_findFar_60 k_a_lands k_f_land k_f_huts k_a_far hx1 (iv_lta (l := 0) (h := 8) (r_nle c1) hx2 k_f_huts (by decide)) (iv_add (l := 0) (h := 80) (iv_mul (l := 0) (h := 72) (iv_lit (l := 9) (h := 9) (by decide)) hx1 (by decide)) (iv_lta (l := 0) (h := 8) (r_nle c1) hx2 k_f_huts (by decide)) (by decide)) (iv_w (iv_lit (l := 0) (h := 0) (by decide)) (by decide)) m2 hm2 hP2 x2.toInt (Int.le_refl _) (fun u0 u1 hq g0 g1 => ih u0 u1 (ms_up hm hq) g0 g1) hpost
  exact loop _ _ _ (ms_init_up _ _) hx2 k_a_far
set_option maxRecDepth 20000 in
theorem s_m_findFar_95 {P75 : Int32 → (Nat → Int32) → Prop} {P85 : Int32 → (Nat → Int32) → Prop} {a_lands : Nat → Int32} {f_land : Int32} {f_huts : Int32} {a_far : Nat → Int32} {x1 : Int32} {x2 : Int32} {x3 : Int32} {post : (Nat → Int32) → Prop} (k_a_lands : mLand a_lands) (k_f_land : iv 0 1 f_land) (k_f_huts : iv 1 9 f_huts) (k_a_far : ∀ j, iv 0 1000000 (a_far j)) (hx1 : iv 0 8 x1) (hx2 : iv 0 8 x2) (hx3 : iv 0 9 x3) (m75 : Int) (hm75 : m75 ≤ x1.toInt) (hP75 : ∀ (x1 : Int32) (a_far : Nat → Int32), m75 < x1.toInt → iv 0 9 x1 → (∀ j, iv 0 1000000 (a_far j)) → P75 x1 a_far) (m85 : Int) (hm85 : m85 ≤ x2.toInt) (hP85 : ∀ (x2 : Int32) (a_far : Nat → Int32), m85 < x2.toInt → iv 0 9 x2 → (∀ j, iv 0 1000000 (a_far j)) → P85 x2 a_far) (hpost : ∀ (a_far : Nat → Int32), (∀ j, iv 0 1000000 (a_far j)) → post a_far) : q_m_findFar_95 P75 P85 a_lands f_land f_huts a_far x1 x2 x3 post := by
  intro P hP
  have loop : ∀ (n : Nat) (x3 : Int32) (a_far : Nat → Int32), (9 - x3.toInt < (n : Int)) → (iv 0 9 x3) → (∀ j, iv 0 1000000 (a_far j)) → P x3 a_far := by
    intro n
    induction n with
    | zero => intro x3 a_far hm hx3 k_a_far; exact (ms0_up hm hx3).elim
    | succ n ih =>
      intro x3 a_far hm hx3 k_a_far
      apply hP
      refine ⟨fun c1 => ?_, fun c1 => ?_⟩
      · skip
        intro w2 ew2
        have hw2 := iv_eq ew2 (iv_add (l := 1) (h := 9) hx2 (iv_lit (l := 1) (h := 1) (by decide)) (by decide))
        exact hP85 _ _ (ml_up hm85 (inc_lt ew2 hx2 (by decide))) (iv_w hw2 (by decide)) k_a_far
      · skip
        refine ⟨iv_in (iv_add (l := 0) (h := 80) (iv_mul (l := 0) (h := 72) (iv_lit (l := 9) (h := 9) (by decide)) hx2 (by decide)) (iv_lta (l := 0) (h := 8) (r_nle c1) hx3 k_f_huts (by decide)) (by decide)) (by decide), ?_⟩
        refine ⟨iv_in (iv_add (l := 0) (h := 80) (iv_mul (l := 0) (h := 72) (iv_lit (l := 9) (h := 9) (by decide)) hx2 (by decide)) hx1 (by decide)) (by decide), ?_⟩
        refine ⟨iv_in (iv_add (l := 0) (h := 80) (iv_mul (l := 0) (h := 72) (iv_lit (l := 9) (h := 9) (by decide)) hx1 (by decide)) (iv_lta (l := 0) (h := 8) (r_nle c1) hx3 k_f_huts (by decide)) (by decide)) (by decide), ?_⟩
        refine ⟨fun c3 => ?_, fun c3 => ?_⟩
        · skip
          refine ⟨iv_in (iv_add (l := 0) (h := 80) (iv_mul (l := 0) (h := 72) (iv_lit (l := 9) (h := 9) (by decide)) hx2 (by decide)) (iv_lta (l := 0) (h := 8) (r_nle c1) hx3 k_f_huts (by decide)) (by decide)) (by decide), ?_⟩
          intro a4 ea4
          have k_a4 := iv_upd ea4 k_a_far (iv_lea (l := 0) (h := 1000000) (r_le c3) (iv_add (l := 0) (h := 2000000) (k_a_far _) (k_a_far _) (by decide)) (k_a_far _) (by decide))
          intro w5 ew5
          have hw5 := iv_eq ew5 (iv_add (l := 1) (h := 9) (iv_lta (l := 0) (h := 8) (r_nle c1) hx3 k_f_huts (by decide)) (iv_lit (l := 1) (h := 1) (by decide)) (by decide))
          exact ih _ _ (ms_up hm (inc_lt ew5 (iv_lta (l := 0) (h := 8) (r_nle c1) hx3 k_f_huts (by decide)) (by decide))) (iv_w hw5 (by decide)) k_a4
        · skip
          refine ⟨iv_in (iv_add (l := 0) (h := 80) (iv_mul (l := 0) (h := 72) (iv_lit (l := 9) (h := 9) (by decide)) hx2 (by decide)) (iv_lta (l := 0) (h := 8) (r_nle c1) hx3 k_f_huts (by decide)) (by decide)) (by decide), ?_⟩
          intro a6 ea6
          have k_a6 := iv_upd ea6 k_a_far (k_a_far _)
          intro w7 ew7
          have hw7 := iv_eq ew7 (iv_add (l := 1) (h := 9) (iv_lta (l := 0) (h := 8) (r_nle c1) hx3 k_f_huts (by decide)) (iv_lit (l := 1) (h := 1) (by decide)) (by decide))
          exact ih _ _ (ms_up hm (inc_lt ew7 (iv_lta (l := 0) (h := 8) (r_nle c1) hx3 k_f_huts (by decide)) (by decide))) (iv_w hw7 (by decide)) k_a6
  exact loop _ _ _ (ms_init_up _ _) hx3 k_a_far
set_option maxRecDepth 20000 in
theorem s_m_findFar_85 {P75 : Int32 → (Nat → Int32) → Prop} {a_lands : Nat → Int32} {f_land : Int32} {f_huts : Int32} {a_far : Nat → Int32} {x1 : Int32} {x2 : Int32} {post : (Nat → Int32) → Prop} (k_a_lands : mLand a_lands) (k_f_land : iv 0 1 f_land) (k_f_huts : iv 1 9 f_huts) (k_a_far : ∀ j, iv 0 1000000 (a_far j)) (hx1 : iv 0 8 x1) (hx2 : iv 0 9 x2) (m75 : Int) (hm75 : m75 ≤ x1.toInt) (hP75 : ∀ (x1 : Int32) (a_far : Nat → Int32), m75 < x1.toInt → iv 0 9 x1 → (∀ j, iv 0 1000000 (a_far j)) → P75 x1 a_far) (hpost : ∀ (a_far : Nat → Int32), (∀ j, iv 0 1000000 (a_far j)) → post a_far) : q_m_findFar_85 P75 a_lands f_land f_huts a_far x1 x2 post := by
  intro P hP
  have loop : ∀ (n : Nat) (x2 : Int32) (a_far : Nat → Int32), (9 - x2.toInt < (n : Int)) → (iv 0 9 x2) → (∀ j, iv 0 1000000 (a_far j)) → P x2 a_far := by
    intro n
    induction n with
    | zero => intro x2 a_far hm hx2 k_a_far; exact (ms0_up hm hx2).elim
    | succ n ih =>
      intro x2 a_far hm hx2 k_a_far
      apply hP
      refine ⟨fun c1 => ?_, fun c1 => ?_⟩
      · skip
        intro w2 ew2
        have hw2 := iv_eq ew2 (iv_add (l := 1) (h := 9) hx1 (iv_lit (l := 1) (h := 1) (by decide)) (by decide))
        exact hP75 _ _ (ml_up hm75 (inc_lt ew2 hx1 (by decide))) (iv_w hw2 (by decide)) k_a_far
      · skip
        exact s_m_findFar_95 k_a_lands k_f_land k_f_huts k_a_far hx1 (iv_lta (l := 0) (h := 8) (r_nle c1) hx2 k_f_huts (by decide)) (iv_w (iv_lit (l := 0) (h := 0) (by decide)) (by decide)) m75 hm75 hP75 x2.toInt (Int.le_refl _) (fun u0 u1 hq g0 g1 => ih u0 u1 (ms_up hm hq) g0 g1) hpost
  exact loop _ _ _ (ms_init_up _ _) hx2 k_a_far
set_option maxRecDepth 20000 in
theorem s_m_findFar_75 {a_lands : Nat → Int32} {f_land : Int32} {f_huts : Int32} {a_far : Nat → Int32} {x1 : Int32} {post : (Nat → Int32) → Prop} (k_a_lands : mLand a_lands) (k_f_land : iv 0 1 f_land) (k_f_huts : iv 0 9 f_huts) (k_a_far : ∀ j, iv 0 1000000 (a_far j)) (hx1 : iv 0 9 x1) (hpost : ∀ (a_far : Nat → Int32), (∀ j, iv 0 1000000 (a_far j)) → post a_far) : q_m_findFar_75 a_lands f_land f_huts a_far x1 post := by
  intro P hP
  have loop : ∀ (n : Nat) (x1 : Int32) (a_far : Nat → Int32), (9 - x1.toInt < (n : Int)) → (iv 0 9 x1) → (∀ j, iv 0 1000000 (a_far j)) → P x1 a_far := by
    intro n
    induction n with
    | zero => intro x1 a_far hm hx1 k_a_far; exact (ms0_up hm hx1).elim
    | succ n ih =>
      intro x1 a_far hm hx1 k_a_far
      apply hP
      refine ⟨fun c1 => ?_, fun c1 => ?_⟩
      · skip
        exact hpost _ k_a_far
      · skip
        exact s_m_findFar_85 k_a_lands k_f_land (iv_ltb (l := 1) (h := 9) (r_nle c1) hx1 k_f_huts (by decide)) k_a_far (iv_lta (l := 0) (h := 8) (r_nle c1) hx1 k_f_huts (by decide)) (iv_w (iv_lit (l := 0) (h := 0) (by decide)) (by decide)) x1.toInt (Int.le_refl _) (fun u0 u1 hq g0 g1 => ih u0 u1 (ms_up hm hq) g0 g1) hpost
  exact loop _ _ _ (ms_init_up _ _) hx1 k_a_far
set_option maxRecDepth 20000 in
theorem s_m_findFar_2 {a_lands : Nat → Int32} {f_land : Int32} {f_huts : Int32} {a_far : Nat → Int32} {x1 : Int32} {post : (Nat → Int32) → Prop} (k_a_lands : mLand a_lands) (k_f_land : iv 0 1 f_land) (k_f_huts : iv 0 9 f_huts) (k_a_far : ∀ j, iv 0 1000000 (a_far j)) (hx1 : iv 0 9 x1) (hpost : ∀ (a_far : Nat → Int32), (∀ j, iv 0 1000000 (a_far j)) → post a_far) : q_m_findFar_2 a_lands f_land f_huts a_far x1 post := by
  intro P hP
  have loop : ∀ (n : Nat) (x1 : Int32) (a_far : Nat → Int32), (9 - x1.toInt < (n : Int)) → (iv 0 9 x1) → (∀ j, iv 0 1000000 (a_far j)) → P x1 a_far := by
    intro n
    induction n with
    | zero => intro x1 a_far hm hx1 k_a_far; exact (ms0_up hm hx1).elim
    | succ n ih =>
      intro x1 a_far hm hx1 k_a_far
      apply hP
      refine ⟨fun c1 => ?_, fun c1 => ?_⟩
      · skip
        exact s_m_findFar_75 k_a_lands k_f_land k_f_huts k_a_far (iv_w (iv_lit (l := 0) (h := 0) (by decide)) (by decide)) hpost
      · skip
        exact s_m_findFar_12 k_a_lands k_f_land (iv_ltb (l := 1) (h := 9) (r_nle c1) hx1 k_f_huts (by decide)) k_a_far (iv_lta (l := 0) (h := 8) (r_nle c1) hx1 k_f_huts (by decide)) (iv_w (iv_lit (l := 0) (h := 0) (by decide)) (by decide)) x1.toInt (Int.le_refl _) (fun u0 u1 hq g0 g1 => ih u0 u1 (ms_up hm hq) g0 g1) hpost
  exact loop _ _ _ (ms_init_up _ _) hx1 k_a_far
set_option maxRecDepth 20000 in
theorem s_m_findFar_0 {a_lands : Nat → Int32} {f_land : Int32} {f_huts : Int32} {a_far : Nat → Int32} {post : (Nat → Int32) → Prop} (k_a_lands : mLand a_lands) (k_f_land : iv 0 1 f_land) (k_f_huts : iv 0 9 f_huts) (k_a_far : ∀ j, iv 0 1000000 (a_far j)) (hpost : ∀ (a_far : Nat → Int32), (∀ j, iv 0 1000000 (a_far j)) → post a_far) : q_m_findFar_0 a_lands f_land f_huts a_far post := by
  exact s_m_findFar_2 k_a_lands k_f_land k_f_huts k_a_far (iv_w (iv_lit (l := 0) (h := 0) (by decide)) (by decide)) hpost
-- m_masses
set_option maxRecDepth 20000 in
theorem s_m_masses_94 {P32 : Int32 → (Nat → Int32) → Prop} {P52 : Int32 → (Nat → Int32) → Prop} {f_code : Int32} {a_many : Nat → Int32} {a_lands : Nat → Int32} {f_land : Int32} {f_huts : Int32} {f_singers : Int32} {a_covers : Nat → Int32} {a_far : Nat → Int32} {x2 : Int32} {x3 : Int32} {x4 : Int32} {x5 : Int32} {y0 : Int32} {y1 : Int32} {y2 : Int32} {post : Int32 → (Int32) → (Int32) → (Int32) → (Int32) → (Nat → Int32) → (Nat → Int32) → Prop} (k_f_code : iv 0 0 f_code) (k_a_many : ∀ j, iv 0 2 (a_many j)) (k_a_lands : mLand a_lands) (k_f_land : iv 0 1 f_land) (k_f_huts : iv 1 9 f_huts) (k_f_singers : iv 0 6 f_singers) (k_a_covers : ∀ j, iv 0 511 (a_covers j)) (k_a_far : ∀ j, iv 0 1000000 (a_far j)) (hx2 : iv 0 99 x2) (hx4 : iv 0 8 x4) (hx5 : iv 0 8 x5) (hy0 : iv 0 8 y0) (hy1 : iv 0 511 y1) (hy2 : iv 0 256 y2) (m32 : Int) (hm32 : m32 ≤ x4.toInt) (hP32 : ∀ (x4 : Int32) (a_covers : Nat → Int32), m32 < x4.toInt → iv 0 9 x4 → (∀ j, iv 0 511 (a_covers j)) → P32 x4 a_covers) (m52 : Int) (hm52 : m52 ≤ x5.toInt) (hP52 : ∀ (x5 : Int32) (a_covers : Nat → Int32), m52 < x5.toInt → iv 0 9 x5 → (∀ j, iv 0 511 (a_covers j)) → P52 x5 a_covers) (hpost : ∀ (r : Int32) (f_code : Int32) (f_land : Int32) (f_huts : Int32) (f_singers : Int32) (a_covers : Nat → Int32) (a_far : Nat → Int32), (iv 0 0 f_code) → (iv 0 1 f_land) → (iv 0 9 f_huts) → (iv 0 6 f_singers) → (∀ j, iv 0 511 (a_covers j)) → (∀ j, iv 0 1000000 (a_far j)) → post r f_code f_land f_huts f_singers a_covers a_far) : q_m_masses_94 P32 P52 f_code a_many a_lands f_land f_huts f_singers a_covers a_far x2 x3 x4 x5 y0 y1 y2 post := by
  intro w1 ew1
  have hw1 := iv_eq ew1 (iv_or 9 (l := 0) (h := 511) hy1 hy2 (by decide))
  refine ⟨iv_in hy0 (by decide), ?_⟩
  intro a2 ea2
  have k_a2 := iv_upd ea2 k_a_covers hw1
  intro w3 ew3
  have hw3 := iv_eq ew3 (iv_add (l := 1) (h := 9) hx5 (iv_lit (l := 1) (h := 1) (by decide)) (by decide))
  exact hP52 _ _ (ml_up hm52 (inc_lt ew3 hx5 (by decide))) (iv_w hw3 (by decide)) k_a2
set_option maxRecDepth 20000 in
theorem s_m_masses_52 {P32 : Int32 → (Nat → Int32) → Prop} {f_code : Int32} {a_many : Nat → Int32} {a_lands : Nat → Int32} {f_land : Int32} {f_huts : Int32} {f_singers : Int32} {a_covers : Nat → Int32} {a_far : Nat → Int32} {x2 : Int32} {x3 : Int32} {x4 : Int32} {x5 : Int32} {post : Int32 → (Int32) → (Int32) → (Int32) → (Int32) → (Nat → Int32) → (Nat → Int32) → Prop} (k_f_code : iv 0 0 f_code) (k_a_many : ∀ j, iv 0 2 (a_many j)) (k_a_lands : mLand a_lands) (k_f_land : iv 0 1 f_land) (k_f_huts : iv 1 9 f_huts) (k_f_singers : iv 0 6 f_singers) (k_a_covers : ∀ j, iv 0 511 (a_covers j)) (k_a_far : ∀ j, iv 0 1000000 (a_far j)) (hx2 : iv 0 99 x2) (hx4 : iv 0 8 x4) (hx5 : iv 0 9 x5) (m32 : Int) (hm32 : m32 ≤ x4.toInt) (hP32 : ∀ (x4 : Int32) (a_covers : Nat → Int32), m32 < x4.toInt → iv 0 9 x4 → (∀ j, iv 0 511 (a_covers j)) → P32 x4 a_covers) (hpost : ∀ (r : Int32) (f_code : Int32) (f_land : Int32) (f_huts : Int32) (f_singers : Int32) (a_covers : Nat → Int32) (a_far : Nat → Int32), (iv 0 0 f_code) → (iv 0 1 f_land) → (iv 0 9 f_huts) → (iv 0 6 f_singers) → (∀ j, iv 0 511 (a_covers j)) → (∀ j, iv 0 1000000 (a_far j)) → post r f_code f_land f_huts f_singers a_covers a_far) : q_m_masses_52 P32 f_code a_many a_lands f_land f_huts f_singers a_covers a_far x2 x3 x4 x5 post := by
  intro P hP
  have loop : ∀ (n : Nat) (x5 : Int32) (a_covers : Nat → Int32), (9 - x5.toInt < (n : Int)) → (iv 0 9 x5) → (∀ j, iv 0 511 (a_covers j)) → P x5 a_covers := by
    intro n
    induction n with
    | zero => intro x5 a_covers hm hx5 k_a_covers; exact (ms0_up hm hx5).elim
    | succ n ih =>
      intro x5 a_covers hm hx5 k_a_covers
      apply hP
      refine ⟨fun c1 => ?_, fun c1 => ?_⟩
      · skip
        intro w2 ew2
        have hw2 := iv_eq ew2 (iv_add (l := 1) (h := 9) hx4 (iv_lit (l := 1) (h := 1) (by decide)) (by decide))
        exact hP32 _ _ (ml_up hm32 (inc_lt ew2 hx4 (by decide))) (iv_w hw2 (by decide)) k_a_covers
      · skip
        refine ⟨iv_in hx4 (by decide), ?_⟩
        refine ⟨iv_in (iv_add (l := 0) (h := 80) (iv_mul (l := 0) (h := 72) (iv_lit (l := 9) (h := 9) (by decide)) hx4 (by decide)) (iv_lta (l := 0) (h := 8) (r_nle c1) hx5 k_f_huts (by decide)) (by decide)) (by decide), ?_⟩
        refine ⟨fun c3 => ?_, fun c3 => ?_⟩
        · skip
          exact s_m_masses_94 k_f_code k_a_many k_a_lands k_f_land k_f_huts k_f_singers k_a_covers k_a_far hx2 hx4 (iv_lta (l := 0) (h := 8) (r_nle c1) hx5 k_f_huts (by decide)) hx4 (k_a_covers _) (iv_w (iv_lit (l := 0) (h := 0) (by decide)) (by decide)) m32 hm32 hP32 x5.toInt (Int.le_refl _) (fun u0 u1 hq g0 g1 => ih u0 u1 (ms_up hm hq) g0 g1) hpost
        · skip
          exact s_m_masses_94 k_f_code k_a_many k_a_lands k_f_land k_f_huts k_f_singers k_a_covers k_a_far hx2 hx4 (iv_lta (l := 0) (h := 8) (r_nle c1) hx5 k_f_huts (by decide)) hx4 (k_a_covers _) (iv_w (iv_shl1 (l := 1) (h := 256) (iv_lit (l := 1) (h := 1) (by decide)) (iv_lta (l := 0) (h := 8) (r_nle c1) hx5 k_f_huts (by decide)) (by decide)) (by decide)) m32 hm32 hP32 x5.toInt (Int.le_refl _) (fun u0 u1 hq g0 g1 => ih u0 u1 (ms_up hm hq) g0 g1) hpost
  exact loop _ _ _ (ms_init_up _ _) hx5 k_a_covers
set_option maxRecDepth 20000 in
theorem s_m_masses_32 {f_code : Int32} {a_many : Nat → Int32} {a_lands : Nat → Int32} {f_land : Int32} {f_huts : Int32} {f_singers : Int32} {a_covers : Nat → Int32} {a_far : Nat → Int32} {x2 : Int32} {x3 : Int32} {x4 : Int32} {post : Int32 → (Int32) → (Int32) → (Int32) → (Int32) → (Nat → Int32) → (Nat → Int32) → Prop} (k_f_code : iv 0 0 f_code) (k_a_many : ∀ j, iv 0 2 (a_many j)) (k_a_lands : mLand a_lands) (k_f_land : iv 0 1 f_land) (k_f_huts : iv 0 9 f_huts) (k_f_singers : iv 0 6 f_singers) (k_a_covers : ∀ j, iv 0 511 (a_covers j)) (k_a_far : ∀ j, iv 0 1000000 (a_far j)) (hx2 : iv 0 99 x2) (hx4 : iv 0 9 x4) (hpost : ∀ (r : Int32) (f_code : Int32) (f_land : Int32) (f_huts : Int32) (f_singers : Int32) (a_covers : Nat → Int32) (a_far : Nat → Int32), (iv 0 0 f_code) → (iv 0 1 f_land) → (iv 0 9 f_huts) → (iv 0 6 f_singers) → (∀ j, iv 0 511 (a_covers j)) → (∀ j, iv 0 1000000 (a_far j)) → post r f_code f_land f_huts f_singers a_covers a_far) : q_m_masses_32 f_code a_many a_lands f_land f_huts f_singers a_covers a_far x2 x3 x4 post := by
  intro P hP
  have loop : ∀ (n : Nat) (x4 : Int32) (a_covers : Nat → Int32), (9 - x4.toInt < (n : Int)) → (iv 0 9 x4) → (∀ j, iv 0 511 (a_covers j)) → P x4 a_covers := by
    intro n
    induction n with
    | zero => intro x4 a_covers hm hx4 k_a_covers; exact (ms0_up hm hx4).elim
    | succ n ih =>
      intro x4 a_covers hm hx4 k_a_covers
      apply hP
      refine ⟨fun c1 => ?_, fun c1 => ?_⟩
      · skip
        refine sp_of (a := 0) (b := 511) k_a_lands k_f_land (iv_lit (l := 2) (h := 2) (by decide)) (by decide +kernel) (fun r2 hr2 er2 => ?_)
        refine s_m_fewest_0 k_f_huts k_a_covers (iv_sub (l := 0) (h := 511) (iv_shl1 (l := 1) (h := 512) (iv_lit (l := 1) (h := 1) (by decide)) k_f_huts (by decide)) (iv_lit (l := 1) (h := 1) (by decide)) (by decide)) hr2 (fun r3 hr3 => ?_)
        refine ⟨fun c4 => ?_, fun c4 => ?_⟩
        · skip
          refine s_m_ones_0 hr3 (fun r5 => ?_)
          exact hpost _ _ _ _ _ _ _ k_f_code k_f_land k_f_huts k_f_singers k_a_covers k_a_far
        · skip
          exact hpost _ _ _ _ _ _ _ k_f_code k_f_land k_f_huts k_f_singers k_a_covers k_a_far
      · skip
        refine ⟨iv_in (iv_lta (l := 0) (h := 8) (r_nle c1) hx4 k_f_huts (by decide)) (by decide), ?_⟩
        intro a6 ea6
        have k_a6 := iv_upd ea6 k_a_covers (iv_w (iv_lit (l := 0) (h := 0) (by decide)) (by decide))
        exact s_m_masses_52 k_f_code k_a_many k_a_lands k_f_land (iv_ltb (l := 1) (h := 9) (r_nle c1) hx4 k_f_huts (by decide)) k_f_singers k_a6 k_a_far hx2 (iv_lta (l := 0) (h := 8) (r_nle c1) hx4 k_f_huts (by decide)) (iv_w (iv_lit (l := 0) (h := 0) (by decide)) (by decide)) x4.toInt (Int.le_refl _) (fun u0 u1 hq g0 g1 => ih u0 u1 (ms_up hm hq) g0 g1) hpost
  exact loop _ _ _ (ms_init_up _ _) hx4 k_a_covers
set_option maxRecDepth 20000 in
theorem s_m_masses_0 {f_code : Int32} {a_many : Nat → Int32} {a_lands : Nat → Int32} {f_land : Int32} {f_huts : Int32} {f_singers : Int32} {a_covers : Nat → Int32} {a_far : Nat → Int32} {x1 : Int32} {x2 : Int32} {x3 : Int32} {post : Int32 → (Int32) → (Int32) → (Int32) → (Int32) → (Nat → Int32) → (Nat → Int32) → Prop} (k_f_code : iv 0 0 f_code) (k_a_many : ∀ j, iv 0 2 (a_many j)) (k_a_lands : mLand a_lands) (k_f_land : iv 0 1 f_land) (k_f_huts : iv 0 9 f_huts) (k_f_singers : iv 0 6 f_singers) (k_a_covers : ∀ j, iv 0 511 (a_covers j)) (k_a_far : ∀ j, iv 0 1000000 (a_far j)) (hpost : ∀ (r : Int32) (f_code : Int32) (f_land : Int32) (f_huts : Int32) (f_singers : Int32) (a_covers : Nat → Int32) (a_far : Nat → Int32), (iv 0 0 f_code) → (iv 0 1 f_land) → (iv 0 9 f_huts) → (iv 0 6 f_singers) → (∀ j, iv 0 511 (a_covers j)) → (∀ j, iv 0 1000000 (a_far j)) → post r f_code f_land f_huts f_singers a_covers a_far) : q_m_masses_0 f_code a_many a_lands f_land f_huts f_singers a_covers a_far x1 x2 x3 post := by
  refine ⟨iv_in (iv_lit (l := 0) (h := 0) (by decide)) (by decide), ?_⟩
  refine ⟨fun c1 => ?_, fun c1 => ?_⟩
  · skip
    refine ⟨iv_nb (iv_lit (l := 0) (h := 0) (by decide)) (by decide), ?_⟩
    refine ⟨fun c2 => ?_, fun c2 => ?_⟩
    · skip
      exact (iv_emp (iv_ne (l := 1) (h := 0) c2 (iv_lit (l := 0) (h := 0) (by decide)) (iv_lit (l := 0) (h := 0) (by decide)) (by decide)) (by decide)).elim
    · skip
      refine ⟨fun c3 => ?_, fun c3 => ?_⟩
      · skip
        exact hpost _ _ _ _ _ _ _ (iv_lit (l := 0) (h := 0) (by decide)) k_f_land k_f_huts k_f_singers k_a_covers k_a_far
      · skip
        exact (iv_emp (iv_ne (l := 1) (h := 0) c3 (iv_lit (l := 0) (h := 0) (by decide)) (iv_lit (l := 0) (h := 0) (by decide)) (by decide)) (by decide)).elim
  · skip
    refine ⟨fun c4 => ?_, fun c4 => ?_⟩
    · skip
      refine ⟨iv_nb (iv_lit (l := 0) (h := 0) (by decide)) (by decide), ?_⟩
      refine ⟨fun c5 => ?_, fun c5 => ?_⟩
      · skip
        exact (iv_emp (iv_ne (l := 1) (h := 0) c5 (iv_lit (l := 0) (h := 0) (by decide)) (iv_lit (l := 0) (h := 0) (by decide)) (by decide)) (by decide)).elim
      · skip
        refine ⟨fun c6 => ?_, fun c6 => ?_⟩
        · skip
          exact hpost _ _ _ _ _ _ _ (iv_lit (l := 0) (h := 0) (by decide)) k_f_land k_f_huts k_f_singers k_a_covers k_a_far
        · skip
          exact (iv_emp (iv_ne (l := 1) (h := 0) c6 (iv_lit (l := 0) (h := 0) (by decide)) (iv_lit (l := 0) (h := 0) (by decide)) (by decide)) (by decide)).elim
    · skip
      refine ⟨iv_nb (iv_lit (l := 1) (h := 1) (by decide)) (by decide), ?_⟩
      refine ⟨fun c7 => ?_, fun c7 => ?_⟩
      · skip
        refine sp_of (a := 0) (b := 9) k_a_lands (iv_lea (l := 0) (h := 1) (r_nlt c4) (iv_leb (l := 0) (h := 2147483647) (r_nlt c1) (iv_lit (l := 0) (h := 0) (by decide)) (iv_top x1) (by decide)) (iv_sub (l := (-1)) (h := 1) (k_a_many _) (iv_lit (l := 1) (h := 1) (by decide)) (by decide)) (by decide)) (iv_lit (l := 0) (h := 0) (by decide)) (by decide +kernel) (fun r8 hr8 er8 => ?_)
        refine sp_of (a := 0) (b := 6) k_a_lands (iv_lea (l := 0) (h := 1) (r_nlt c4) (iv_leb (l := 0) (h := 2147483647) (r_nlt c1) (iv_lit (l := 0) (h := 0) (by decide)) (iv_top x1) (by decide)) (iv_sub (l := (-1)) (h := 1) (k_a_many _) (iv_lit (l := 1) (h := 1) (by decide)) (by decide)) (by decide)) (iv_lit (l := 1) (h := 1) (by decide)) (by decide +kernel) (fun r9 hr9 er9 => ?_)
        refine ⟨fun c10 => ?_, fun c10 => ?_⟩
        · skip
          exact (iv_emp (iv_eqa (l := 1) (h := 0) c10 (iv_lit (l := 1) (h := 1) (by decide)) (iv_lit (l := 0) (h := 0) (by decide)) (by decide)) (by decide)).elim
        · skip
          refine ⟨fun c11 => ?_, fun c11 => ?_⟩
          · skip
            refine ⟨fun c12 => ?_, fun c12 => ?_⟩
            · skip
              exact (iv_emp (iv_ne (l := 1) (h := 0) c12 (iv_lit (l := 0) (h := 0) (by decide)) (iv_lit (l := 0) (h := 0) (by decide)) (by decide)) (by decide)).elim
            · skip
              exact hpost _ _ _ _ _ _ _ (iv_lit (l := 0) (h := 0) (by decide)) (iv_lea (l := 0) (h := 1) (r_nlt c4) (iv_leb (l := 0) (h := 2147483647) (r_nlt c1) (iv_lit (l := 0) (h := 0) (by decide)) (iv_top x1) (by decide)) (iv_sub (l := (-1)) (h := 1) (k_a_many _) (iv_lit (l := 1) (h := 1) (by decide)) (by decide)) (by decide)) hr8 hr9 k_a_covers k_a_far
          · skip
            refine ⟨fun c13 => ?_, fun c13 => ?_⟩
            · skip
              refine ⟨fun c14 => ?_, fun c14 => ?_⟩
              · skip
                exact (iv_emp (iv_ne (l := 1) (h := 0) c14 (iv_lit (l := 0) (h := 0) (by decide)) (iv_lit (l := 0) (h := 0) (by decide)) (by decide)) (by decide)).elim
              · skip
                exact hpost _ _ _ _ _ _ _ (iv_lit (l := 0) (h := 0) (by decide)) (iv_lea (l := 0) (h := 1) (r_nlt c4) (iv_leb (l := 0) (h := 2147483647) (r_nlt c1) (iv_lit (l := 0) (h := 0) (by decide)) (iv_top x1) (by decide)) (iv_sub (l := (-1)) (h := 1) (k_a_many _) (iv_lit (l := 1) (h := 1) (by decide)) (by decide)) (by decide)) hr8 hr9 k_a_covers k_a_far
            · skip
              refine ⟨fun c15 => ?_, fun c15 => ?_⟩
              · skip
                refine s_m_findFar_0 k_a_lands (iv_lea (l := 0) (h := 1) (r_nlt c4) (iv_leb (l := 0) (h := 2147483647) (r_nlt c1) (iv_lit (l := 0) (h := 0) (by decide)) (iv_top x1) (by decide)) (iv_sub (l := (-1)) (h := 1) (k_a_many _) (iv_lit (l := 1) (h := 1) (by decide)) (by decide)) (by decide)) hr8 k_a_far (fun o16 k_o16 => ?_)
                exact s_m_masses_32 (iv_lit (l := 0) (h := 0) (by decide)) k_a_many k_a_lands (iv_lea (l := 0) (h := 1) (r_nlt c4) (iv_leb (l := 0) (h := 2147483647) (r_nlt c1) (iv_lit (l := 0) (h := 0) (by decide)) (iv_top x1) (by decide)) (iv_sub (l := (-1)) (h := 1) (k_a_many _) (iv_lit (l := 1) (h := 1) (by decide)) (by decide)) (by decide)) hr8 hr9 k_a_covers k_o16 (iv_lea (l := 0) (h := 99) (r_nlt c13) (iv_leb (l := 0) (h := 2147483647) (r_nlt c11) (iv_lit (l := 0) (h := 0) (by decide)) (iv_top x2) (by decide)) (iv_lit (l := 99) (h := 99) (by decide)) (by decide)) (iv_w (iv_lit (l := 0) (h := 0) (by decide)) (by decide)) hpost
              · skip
                exact (iv_emp (iv_eqa (l := 1) (h := 0) c15 (iv_lit (l := 1) (h := 1) (by decide)) (iv_lit (l := 0) (h := 0) (by decide)) (by decide)) (by decide)).elim
      · skip
        exact (iv_emp (iv_eqa (l := 1) (h := 0) c7 (iv_lit (l := 1) (h := 1) (by decide)) (iv_lit (l := 0) (h := 0) (by decide)) (by decide)) (by decide)).elim
-- m_fact
set_option maxRecDepth 20000 in
theorem s_m_fact_0 {f_code : Int32} {a_many : Nat → Int32} {a_sights : Nat → Int32} {f_sight : Int32} {x1 : Int32} {x2 : Int32} {x3 : Int32} {post : Int32 → (Int32) → (Int32) → Prop} (k_f_code : iv 0 0 f_code) (k_a_many : ∀ j, iv 0 2 (a_many j)) (k_a_sights : mSig a_sights) (hpost : ∀ (r : Int32) (f_code : Int32) (f_sight : Int32), iv (-2) 60 r → (iv 0 0 f_code) → post r f_code f_sight) : q_m_fact_0 f_code a_many a_sights f_sight x1 x2 x3 post := by
  refine ⟨iv_in (iv_lit (l := 2) (h := 2) (by decide)) (by decide), ?_⟩
  refine ⟨fun c1 => ?_, fun c1 => ?_⟩
  · skip
    refine ⟨iv_nb (iv_lit (l := 0) (h := 0) (by decide)) (by decide), ?_⟩
    refine ⟨iv_nb (iv_lit (l := 0) (h := 0) (by decide)) (by decide), ?_⟩
    refine ⟨fun c2 => ?_, fun c2 => ?_⟩
    · skip
      exact (iv_emp (iv_ne (l := 1) (h := 0) c2 (iv_lit (l := 0) (h := 0) (by decide)) (iv_lit (l := 0) (h := 0) (by decide)) (by decide)) (by decide)).elim
    · skip
      exact hpost _ _ _ (iv_w (iv_lit (l := (-2)) (h := (-2)) (by decide)) (by decide)) (iv_lit (l := 0) (h := 0) (by decide))
  · skip
    refine ⟨fun c3 => ?_, fun c3 => ?_⟩
    · skip
      refine ⟨iv_nb (iv_lit (l := 0) (h := 0) (by decide)) (by decide), ?_⟩
      refine ⟨iv_nb (iv_lit (l := 0) (h := 0) (by decide)) (by decide), ?_⟩
      refine ⟨fun c4 => ?_, fun c4 => ?_⟩
      · skip
        exact (iv_emp (iv_ne (l := 1) (h := 0) c4 (iv_lit (l := 0) (h := 0) (by decide)) (iv_lit (l := 0) (h := 0) (by decide)) (by decide)) (by decide)).elim
      · skip
        exact hpost _ _ _ (iv_w (iv_lit (l := (-2)) (h := (-2)) (by decide)) (by decide)) (iv_lit (l := 0) (h := 0) (by decide))
    · skip
      refine ⟨iv_nb (iv_lit (l := 1) (h := 1) (by decide)) (by decide), ?_⟩
      refine ⟨iv_nb (iv_lit (l := 1) (h := 1) (by decide)) (by decide), ?_⟩
      refine ⟨fun c5 => ?_, fun c5 => ?_⟩
      · skip
        refine ⟨fun c6 => ?_, fun c6 => ?_⟩
        · skip
          refine sp_facts k_a_sights (iv_lea (l := 0) (h := 1) (r_nlt c3) (iv_leb (l := 0) (h := 2147483647) (r_nlt c1) (iv_lit (l := 0) (h := 0) (by decide)) (iv_top x1) (by decide)) (iv_sub (l := (-1)) (h := 1) (k_a_many _) (iv_lit (l := 1) (h := 1) (by decide)) (by decide)) (by decide)) (fun r7 hr7 => ?_)
          refine ⟨fun c8 => ?_, fun c8 => ?_⟩
          · skip
            refine ⟨fun c9 => ?_, fun c9 => ?_⟩
            · skip
              exact hpost _ _ _ (iv_w (iv_lit (l := (-2)) (h := (-2)) (by decide)) (by decide)) (iv_lit (l := 0) (h := 0) (by decide))
            · skip
              exact (iv_emp (iv_ne (l := 1) (h := 0) c9 (iv_lit (l := 0) (h := 0) (by decide)) (iv_lit (l := 0) (h := 0) (by decide)) (by decide)) (by decide)).elim
          · skip
            refine ⟨fun c10 => ?_, fun c10 => ?_⟩
            · skip
              refine ⟨fun c11 => ?_, fun c11 => ?_⟩
              · skip
                exact hpost _ _ _ (iv_w (iv_lit (l := (-2)) (h := (-2)) (by decide)) (by decide)) (iv_lit (l := 0) (h := 0) (by decide))
              · skip
                exact (iv_emp (iv_ne (l := 1) (h := 0) c11 (iv_lit (l := 0) (h := 0) (by decide)) (iv_lit (l := 0) (h := 0) (by decide)) (by decide)) (by decide)).elim
            · skip
              refine ⟨fun c12 => ?_, fun c12 => ?_⟩
              · skip
                exact (iv_emp (iv_eqa (l := 1) (h := 0) c12 (iv_lit (l := 1) (h := 1) (by decide)) (iv_lit (l := 0) (h := 0) (by decide)) (by decide)) (by decide)).elim
              · skip
                refine ⟨fun c13 => ?_, fun c13 => ?_⟩
                · skip
                  refine ⟨fun c14 => ?_, fun c14 => ?_⟩
                  · skip
                    exact hpost _ _ _ (iv_w (iv_lit (l := (-2)) (h := (-2)) (by decide)) (by decide)) (iv_lit (l := 0) (h := 0) (by decide))
                  · skip
                    exact (iv_emp (iv_ne (l := 1) (h := 0) c14 (iv_lit (l := 0) (h := 0) (by decide)) (iv_lit (l := 0) (h := 0) (by decide)) (by decide)) (by decide)).elim
                · skip
                  refine ⟨fun c15 => ?_, fun c15 => ?_⟩
                  · skip
                    refine ⟨fun c16 => ?_, fun c16 => ?_⟩
                    · skip
                      exact hpost _ _ _ (iv_w (iv_lit (l := (-2)) (h := (-2)) (by decide)) (by decide)) (iv_lit (l := 0) (h := 0) (by decide))
                    · skip
                      exact (iv_emp (iv_ne (l := 1) (h := 0) c16 (iv_lit (l := 0) (h := 0) (by decide)) (iv_lit (l := 0) (h := 0) (by decide)) (by decide)) (by decide)).elim
                  · skip
                    refine ⟨fun c17 => ?_, fun c17 => ?_⟩
                    · skip
                      exact (iv_emp (iv_eqa (l := 1) (h := 0) c17 (iv_lit (l := 1) (h := 1) (by decide)) (iv_lit (l := 0) (h := 0) (by decide)) (by decide)) (by decide)).elim
                    · skip
                      refine sp_factOf_w k_a_sights (iv_lea (l := 0) (h := 1) (r_nlt c3) (iv_leb (l := 0) (h := 2147483647) (r_nlt c1) (iv_lit (l := 0) (h := 0) (by decide)) (iv_top x1) (by decide)) (iv_sub (l := (-1)) (h := 1) (k_a_many _) (iv_lit (l := 1) (h := 1) (by decide)) (by decide)) (by decide)) (iv_lea (l := 0) (h := 9) (r_nlt c10) (iv_leb (l := 0) (h := 2147483647) (r_nlt c8) (iv_lit (l := 0) (h := 0) (by decide)) (iv_top x2) (by decide)) (iv_sub (l := (-1)) (h := 9) hr7 (iv_lit (l := 1) (h := 1) (by decide)) (by decide)) (by decide)) (iv_lea (l := 0) (h := 2) (r_nlt c15) (iv_leb (l := 0) (h := 2147483647) (r_nlt c13) (iv_lit (l := 0) (h := 0) (by decide)) (iv_top x3) (by decide)) (iv_lit (l := 2) (h := 2) (by decide)) (by decide)) (fun r18 hr18 => ?_)
                      exact hpost _ _ _ (iv_w hr18 (by decide)) (iv_lit (l := 0) (h := 0) (by decide))
        · skip
          refine ⟨fun c19 => ?_, fun c19 => ?_⟩
          · skip
            exact hpost _ _ _ (iv_w (iv_lit (l := (-2)) (h := (-2)) (by decide)) (by decide)) (iv_lit (l := 0) (h := 0) (by decide))
          · skip
            refine sp_facts k_a_sights (iv_lea (l := 0) (h := 1) (r_nlt c3) (iv_leb (l := 0) (h := 2147483647) (r_nlt c1) (iv_lit (l := 0) (h := 0) (by decide)) (iv_top x1) (by decide)) (iv_sub (l := (-1)) (h := 1) (k_a_many _) (iv_lit (l := 1) (h := 1) (by decide)) (by decide)) (by decide)) (fun r20 hr20 => ?_)
            exact hpost _ _ _ (iv_w hr20 (by decide)) (iv_lit (l := 0) (h := 0) (by decide))
      · skip
        exact (iv_emp (iv_eqa (l := 1) (h := 0) c5 (iv_lit (l := 1) (h := 1) (by decide)) (iv_lit (l := 0) (h := 0) (by decide)) (by decide)) (by decide)).elim
-- m_isFit
set_option maxRecDepth 20000 in
theorem s_m_isFit_89 {P41 : Int32 → Prop} {a_lands : Nat → Int32} {a_sights : Nat → Int32} {f_land : Int32} {f_huts : Int32} {a_run : Nat → Int32} {f_sight : Int32} {a_runs : Nat → Int32} {x1 : Int32} {x2 : Int32} {y0 : Int32} {y1 : Int32} {post : Int32 → (Nat → Int32) → (Nat → Int32) → Prop} (k_a_lands : mLand a_lands) (k_a_sights : mSig a_sights) (k_f_land : iv 0 1 f_land) (k_f_huts : iv 1 9 f_huts) (k_a_run : ∀ j, iv 0 1000000 (a_run j)) (k_f_sight : iv 0 1 f_sight) (k_a_runs : ∀ j, iv 0 1000000 (a_runs j)) (hx1 : iv 0 8 x1) (hx2 : iv 0 9 x2) (hy0 : iv 0 1 y0) (hy1 : iv 0 1 y1) (m41 : Int) (hm41 : m41 ≤ x2.toInt) (hP41 : ∀ (x2 : Int32), m41 < x2.toInt → iv 0 10 x2 → P41 x2) (hpost : ∀ (r : Int32) (a_run : Nat → Int32) (a_runs : Nat → Int32), iv 0 1 r → (∀ j, iv 0 1000000 (a_run j)) → (∀ j, iv 0 1000000 (a_runs j)) → post r a_run a_runs) : q_m_isFit_89 P41 a_lands a_sights f_land f_huts a_run f_sight a_runs x1 x2 y0 y1 post := by
  refine ⟨fun c1 => ?_, fun c1 => ?_⟩
  · skip
    intro w2 ew2
    have hw2 := iv_eq ew2 (iv_add (l := 1) (h := 10) hx2 (iv_lit (l := 1) (h := 1) (by decide)) (by decide))
    exact hP41 _ (ml_up hm41 (inc_lt ew2 hx2 (by decide))) (iv_w hw2 (by decide))
  · skip
    exact hpost _ _ _ (iv_w (iv_lit (l := 0) (h := 0) (by decide)) (by decide)) k_a_run k_a_runs
set_option maxRecDepth 20000 in
theorem s_m_isFit_74 {P41 : Int32 → Prop} {a_lands : Nat → Int32} {a_sights : Nat → Int32} {f_land : Int32} {f_huts : Int32} {a_run : Nat → Int32} {f_sight : Int32} {a_runs : Nat → Int32} {x1 : Int32} {x2 : Int32} {y0 : Int32} {post : Int32 → (Nat → Int32) → (Nat → Int32) → Prop} (k_a_lands : mLand a_lands) (k_a_sights : mSig a_sights) (k_f_land : iv 0 1 f_land) (k_f_huts : iv 1 9 f_huts) (k_a_run : ∀ j, iv 0 1000000 (a_run j)) (k_f_sight : iv 0 1 f_sight) (k_a_runs : ∀ j, iv 0 1000000 (a_runs j)) (hx1 : iv 0 8 x1) (hx2 : iv 0 9 x2) (hy0 : iv 0 1 y0) (m41 : Int) (hm41 : m41 ≤ x2.toInt) (hP41 : ∀ (x2 : Int32), m41 < x2.toInt → iv 0 10 x2 → P41 x2) (hpost : ∀ (r : Int32) (a_run : Nat → Int32) (a_runs : Nat → Int32), iv 0 1 r → (∀ j, iv 0 1000000 (a_run j)) → (∀ j, iv 0 1000000 (a_runs j)) → post r a_run a_runs) : q_m_isFit_74 P41 a_lands a_sights f_land f_huts a_run f_sight a_runs x1 x2 y0 post := by
  refine sp_factOf_0 k_a_sights k_f_sight hx2 (fun r1 hr1 => ?_)
  refine ⟨fun c2 => ?_, fun c2 => ?_⟩
  · skip
    exact s_m_isFit_89 k_a_lands k_a_sights k_f_land k_f_huts k_a_run k_f_sight k_a_runs hx1 hx2 hy0 (iv_w (iv_lit (l := 0) (h := 0) (by decide)) (by decide)) m41 hm41 hP41 hpost
  · skip
    exact s_m_isFit_89 k_a_lands k_a_sights k_f_land k_f_huts k_a_run k_f_sight k_a_runs hx1 hx2 hy0 (iv_w (iv_lit (l := 1) (h := 1) (by decide)) (by decide)) m41 hm41 hP41 hpost
set_option maxRecDepth 20000 in
theorem s_m_isFit_41 {a_lands : Nat → Int32} {a_sights : Nat → Int32} {f_land : Int32} {f_huts : Int32} {a_run : Nat → Int32} {f_sight : Int32} {a_runs : Nat → Int32} {x1 : Int32} {x2 : Int32} {post : Int32 → (Nat → Int32) → (Nat → Int32) → Prop} (k_a_lands : mLand a_lands) (k_a_sights : mSig a_sights) (k_f_land : iv 0 1 f_land) (k_f_huts : iv 1 9 f_huts) (k_a_run : ∀ j, iv 0 1000000 (a_run j)) (k_f_sight : iv 0 1 f_sight) (k_a_runs : ∀ j, iv 0 1000000 (a_runs j)) (hx1 : iv 0 8 x1) (hx2 : iv 0 10 x2) (hpost : ∀ (r : Int32) (a_run : Nat → Int32) (a_runs : Nat → Int32), iv 0 1 r → (∀ j, iv 0 1000000 (a_run j)) → (∀ j, iv 0 1000000 (a_runs j)) → post r a_run a_runs) : q_m_isFit_41 a_lands a_sights f_land f_huts a_run f_sight a_runs x1 x2 post := by
  intro P hP
  have loop : ∀ (n : Nat) (x2 : Int32), (10 - x2.toInt < (n : Int)) → (iv 0 10 x2) → P x2 := by
    intro n
    induction n with
    | zero => intro x2 hm hx2; exact (ms0_up hm hx2).elim
    | succ n ih =>
      intro x2 hm hx2
      apply hP
      refine sp_facts k_a_sights k_f_sight (fun r1 hr1 => ?_)
      refine ⟨fun c2 => ?_, fun c2 => ?_⟩
      · skip
        refine sp_of (a := 0) (b := 511) k_a_lands k_f_land (iv_lit (l := 3) (h := 3) (by decide)) (by decide +kernel) (fun r3 hr3 er3 => ?_)
        refine ⟨fun c4 => ?_, fun c4 => ?_⟩
        · skip
          refine ⟨iv_nb (iv_lit (l := 0) (h := 0) (by decide)) (by decide), ?_⟩
          refine ⟨fun c5 => ?_, fun c5 => ?_⟩
          · skip
            exact (iv_emp (iv_ne (l := 1) (h := 0) c5 (iv_lit (l := 0) (h := 0) (by decide)) (iv_lit (l := 0) (h := 0) (by decide)) (by decide)) (by decide)).elim
          · skip
            exact hpost _ _ _ (iv_w (iv_lit (l := 1) (h := 1) (by decide)) (by decide)) k_a_run k_a_runs
        · skip
          refine ⟨iv_nb (iv_lit (l := 1) (h := 1) (by decide)) (by decide), ?_⟩
          refine ⟨fun c6 => ?_, fun c6 => ?_⟩
          · skip
            exact hpost _ _ _ (iv_w (iv_lit (l := 0) (h := 0) (by decide)) (by decide)) k_a_run k_a_runs
          · skip
            exact (iv_emp (iv_eqa (l := 1) (h := 0) c6 (iv_lit (l := 1) (h := 1) (by decide)) (iv_lit (l := 0) (h := 0) (by decide)) (by decide)) (by decide)).elim
      · skip
        refine sp_factOf_1 k_a_sights k_f_sight (iv_lta (l := 0) (h := 9) (r_nle c2) hx2 hr1 (by decide)) (fun r7 hr7 => ?_)
        refine ⟨iv_in hr7 (by decide), ?_⟩
        refine sp_factOf_2 k_a_sights k_f_sight (iv_lta (l := 0) (h := 9) (r_nle c2) hx2 hr1 (by decide)) (fun r8 hr8 => ?_)
        refine ⟨fun c9 => ?_, fun c9 => ?_⟩
        · skip
          exact s_m_isFit_74 k_a_lands k_a_sights k_f_land k_f_huts k_a_run k_f_sight k_a_runs hx1 (iv_lta (l := 0) (h := 9) (r_nle c2) hx2 hr1 (by decide)) (iv_w (iv_lit (l := 0) (h := 0) (by decide)) (by decide)) x2.toInt (Int.le_refl _) (fun u0 hq g0 => ih u0 (ms_up hm hq) g0) hpost
        · skip
          exact s_m_isFit_74 k_a_lands k_a_sights k_f_land k_f_huts k_a_run k_f_sight k_a_runs hx1 (iv_lta (l := 0) (h := 9) (r_nle c2) hx2 hr1 (by decide)) (iv_w (iv_lit (l := 1) (h := 1) (by decide)) (by decide)) x2.toInt (Int.le_refl _) (fun u0 hq g0 => ih u0 (ms_up hm hq) g0) hpost
  exact loop _ _ (ms_init_up _ _) hx2
set_option maxRecDepth 20000 in
theorem s_m_isFit_8 {a_lands : Nat → Int32} {a_sights : Nat → Int32} {f_land : Int32} {f_huts : Int32} {a_run : Nat → Int32} {f_sight : Int32} {a_runs : Nat → Int32} {x1 : Int32} {x2 : Int32} {post : Int32 → (Nat → Int32) → (Nat → Int32) → Prop} (k_a_lands : mLand a_lands) (k_a_sights : mSig a_sights) (k_f_land : iv 0 1 f_land) (k_f_huts : iv 1 9 f_huts) (k_a_run : ∀ j, iv 0 1000000 (a_run j)) (k_f_sight : iv 0 1 f_sight) (k_a_runs : ∀ j, iv 0 1000000 (a_runs j)) (hx1 : iv 0 8 x1) (hx2 : iv 0 9 x2) (hpost : ∀ (r : Int32) (a_run : Nat → Int32) (a_runs : Nat → Int32), iv 0 1 r → (∀ j, iv 0 1000000 (a_run j)) → (∀ j, iv 0 1000000 (a_runs j)) → post r a_run a_runs) : q_m_isFit_8 a_lands a_sights f_land f_huts a_run f_sight a_runs x1 x2 post := by
  intro P hP
  have loop : ∀ (n : Nat) (x2 : Int32) (a_runs : Nat → Int32), (9 - x2.toInt < (n : Int)) → (iv 0 9 x2) → (∀ j, iv 0 1000000 (a_runs j)) → P x2 a_runs := by
    intro n
    induction n with
    | zero => intro x2 a_runs hm hx2 k_a_runs; exact (ms0_up hm hx2).elim
    | succ n ih =>
      intro x2 a_runs hm hx2 k_a_runs
      apply hP
      refine ⟨fun c1 => ?_, fun c1 => ?_⟩
      · skip
        exact s_m_isFit_41 k_a_lands k_a_sights k_f_land k_f_huts k_a_run k_f_sight k_a_runs hx1 (iv_w (iv_lit (l := 0) (h := 0) (by decide)) (by decide)) hpost
      · skip
        refine ⟨iv_in (iv_lta (l := 0) (h := 8) (r_nle c1) hx2 k_f_huts (by decide)) (by decide), ?_⟩
        intro w2 ew2
        have hw2 := iv_eq ew2 (k_a_run _)
        refine ⟨iv_in (iv_add (l := 0) (h := 80) (iv_mul (l := 0) (h := 72) (iv_lit (l := 9) (h := 9) (by decide)) hx1 (by decide)) (iv_lta (l := 0) (h := 8) (r_nle c1) hx2 k_f_huts (by decide)) (by decide)) (by decide), ?_⟩
        intro a3 ea3
        have k_a3 := iv_upd ea3 k_a_runs hw2
        intro w4 ew4
        have hw4 := iv_eq ew4 (iv_add (l := 1) (h := 9) (iv_lta (l := 0) (h := 8) (r_nle c1) hx2 k_f_huts (by decide)) (iv_lit (l := 1) (h := 1) (by decide)) (by decide))
        exact ih _ _ (ms_up hm (inc_lt ew4 (iv_lta (l := 0) (h := 8) (r_nle c1) hx2 k_f_huts (by decide)) (by decide))) (iv_w hw4 (by decide)) k_a3
  exact loop _ _ _ (ms_init_up _ _) hx2 k_a_runs
set_option maxRecDepth 20000 in
theorem s_m_isFit_0 {a_lands : Nat → Int32} {a_sights : Nat → Int32} {f_land : Int32} {f_huts : Int32} {a_run : Nat → Int32} {f_sight : Int32} {a_runs : Nat → Int32} {x1 : Int32} {post : Int32 → (Nat → Int32) → (Nat → Int32) → Prop} (k_a_lands : mLand a_lands) (k_a_sights : mSig a_sights) (k_f_land : iv 0 1 f_land) (k_f_huts : iv 1 9 f_huts) (k_a_run : ∀ j, iv 0 1000000 (a_run j)) (k_f_sight : iv 0 1 f_sight) (k_a_runs : ∀ j, iv 0 1000000 (a_runs j)) (hx1 : iv 0 8 x1) (hpost : ∀ (r : Int32) (a_run : Nat → Int32) (a_runs : Nat → Int32), iv 0 1 r → (∀ j, iv 0 1000000 (a_run j)) → (∀ j, iv 0 1000000 (a_runs j)) → post r a_run a_runs) : q_m_isFit_0 a_lands a_sights f_land f_huts a_run f_sight a_runs x1 post := by
  refine s_m_findRun_0 k_a_lands k_f_land (iv_w k_f_huts (by decide)) k_a_run hx1 (iv_w (iv_lit (l := 0) (h := 0) (by decide)) (by decide)) (fun o1 k_o1 => ?_)
  exact s_m_isFit_8 k_a_lands k_a_sights k_f_land k_f_huts k_o1 k_f_sight k_a_runs hx1 (iv_w (iv_lit (l := 0) (h := 0) (by decide)) (by decide)) hpost
-- m_askOf
set_option maxRecDepth 20000 in
theorem s_m_askOf_128 {P9 : Int32 → Int32 → Int32 → Prop} {f_huts : Int32} {a_runs : Nat → Int32} {x1 : Int32} {x2 : Int32} {x3 : Int32} {x4 : Int32} {post : Int32 → Prop} (k_f_huts : iv 0 9 f_huts) (k_a_runs : ∀ j, iv 0 1000000 (a_runs j)) (hx1 : iv 1 511 x1) (hx2 : iv (-1) 2147483647 x2) (hx3 : iv (-2147483648) 1000000 x3) (hx4 : iv 0 608 x4) (m9 : Int) (hm9 : m9 ≤ x4.toInt) (hP9 : ∀ (x2 : Int32) (x3 : Int32) (x4 : Int32), m9 < x4.toInt → iv (-1) 2147483647 x2 → iv (-2147483648) 1000000 x3 → iv 0 609 x4 → P9 x2 x3 x4) (hpost : ∀ (r : Int32), iv (-1) 2147483647 r → post r) : q_m_askOf_128 P9 f_huts a_runs x1 x2 x3 x4 post := by
  intro w1 ew1
  have hw1 := iv_eq ew1 (iv_add (l := 1) (h := 609) hx4 (iv_lit (l := 1) (h := 1) (by decide)) (by decide))
  exact hP9 _ _ _ (ml_up hm9 (inc_lt ew1 hx4 (by decide))) hx2 hx3 (iv_w hw1 (by decide))
set_option maxRecDepth 20000 in
theorem s_m_askOf_120 {P9 : Int32 → Int32 → Int32 → Prop} {f_huts : Int32} {a_runs : Nat → Int32} {x1 : Int32} {x3 : Int32} {x4 : Int32} {x7 : Int32} {y0 : Int32} {post : Int32 → Prop} (k_f_huts : iv 0 9 f_huts) (k_a_runs : ∀ j, iv 0 1000000 (a_runs j)) (hx1 : iv 1 511 x1) (hx3 : iv (-2147483648) 1000000 x3) (hx4 : iv 0 608 x4) (hy0 : iv (-1) 2147483647 y0) (m9 : Int) (hm9 : m9 ≤ x4.toInt) (hP9 : ∀ (x2 : Int32) (x3 : Int32) (x4 : Int32), m9 < x4.toInt → iv (-1) 2147483647 x2 → iv (-2147483648) 1000000 x3 → iv 0 609 x4 → P9 x2 x3 x4) (hpost : ∀ (r : Int32), iv (-1) 2147483647 r → post r) : q_m_askOf_120 P9 f_huts a_runs x1 x3 x4 x7 y0 post := by
  refine ⟨fun c1 => ?_, fun c1 => ?_⟩
  · skip
    exact s_m_askOf_128 k_f_huts k_a_runs hx1 hy0 (iv_lea (l := (-2147483648)) (h := 1000000) (r_le c1) (iv_top x7) hx3 (by decide)) hx4 m9 hm9 hP9 hpost
  · skip
    exact s_m_askOf_128 k_f_huts k_a_runs hx1 hy0 hx3 hx4 m9 hm9 hP9 hpost
set_option maxRecDepth 20000 in
theorem s_m_askOf_85 {P9 : Int32 → Int32 → Int32 → Prop} {P39 : Int32 → Int32 → Prop} {f_huts : Int32} {a_runs : Nat → Int32} {x1 : Int32} {x2 : Int32} {x3 : Int32} {x4 : Int32} {x5 : Int32} {x7 : Int32} {y0 : Int32} {y1 : Int32} {post : Int32 → Prop} (k_f_huts : iv 1 9 f_huts) (k_a_runs : ∀ j, iv 0 1000000 (a_runs j)) (hx1 : iv 1 511 x1) (hx2 : iv (-1) 2147483647 x2) (hx3 : iv (-2147483648) 1000000 x3) (hx4 : iv 0 608 x4) (hx5 : iv 0 8 x5) (hx7 : iv 0 8 x7) (hy1 : iv 0 1 y1) (m9 : Int) (hm9 : m9 ≤ x4.toInt) (hP9 : ∀ (x2 : Int32) (x3 : Int32) (x4 : Int32), m9 < x4.toInt → iv (-1) 2147483647 x2 → iv (-2147483648) 1000000 x3 → iv 0 609 x4 → P9 x2 x3 x4) (m39 : Int) (hm39 : m39 ≤ x7.toInt) (hP39 : ∀ (x6 : Int32) (x7 : Int32), m39 < x7.toInt → iv 0 9 x7 → P39 x6 x7) (hpost : ∀ (r : Int32), iv (-1) 2147483647 r → post r) : q_m_askOf_85 P9 P39 f_huts a_runs x1 x2 x3 x4 x5 x7 y0 y1 post := by
  intro w1 ew1
  intro w2 ew2
  have hw2 := iv_eq ew2 (iv_add (l := 1) (h := 9) hx7 (iv_lit (l := 1) (h := 1) (by decide)) (by decide))
  exact hP39 _ _ (ml_up hm39 (inc_lt ew2 hx7 (by decide))) (iv_w hw2 (by decide))
set_option maxRecDepth 20000 in
theorem s_m_askOf_84 {P9 : Int32 → Int32 → Int32 → Prop} {P39 : Int32 → Int32 → Prop} {f_huts : Int32} {a_runs : Nat → Int32} {x1 : Int32} {x2 : Int32} {x3 : Int32} {x4 : Int32} {x5 : Int32} {x7 : Int32} {y0 : Int32} {post : Int32 → Prop} (k_f_huts : iv 1 9 f_huts) (k_a_runs : ∀ j, iv 0 1000000 (a_runs j)) (hx1 : iv 1 511 x1) (hx2 : iv (-1) 2147483647 x2) (hx3 : iv (-2147483648) 1000000 x3) (hx4 : iv 0 608 x4) (hx5 : iv 0 8 x5) (hx7 : iv 0 8 x7) (m9 : Int) (hm9 : m9 ≤ x4.toInt) (hP9 : ∀ (x2 : Int32) (x3 : Int32) (x4 : Int32), m9 < x4.toInt → iv (-1) 2147483647 x2 → iv (-2147483648) 1000000 x3 → iv 0 609 x4 → P9 x2 x3 x4) (m39 : Int) (hm39 : m39 ≤ x7.toInt) (hP39 : ∀ (x6 : Int32) (x7 : Int32), m39 < x7.toInt → iv 0 9 x7 → P39 x6 x7) (hpost : ∀ (r : Int32), iv (-1) 2147483647 r → post r) : q_m_askOf_84 P9 P39 f_huts a_runs x1 x2 x3 x4 x5 x7 y0 post := by
  exact s_m_askOf_85 k_f_huts k_a_runs hx1 hx2 hx3 hx4 hx5 hx7 (iv_w (iv_lit (l := 0) (h := 0) (by decide)) (by decide)) m9 hm9 hP9 m39 hm39 hP39 hpost
set_option maxRecDepth 20000 in
theorem s_m_askOf_39 {P9 : Int32 → Int32 → Int32 → Prop} {f_huts : Int32} {a_runs : Nat → Int32} {x1 : Int32} {x2 : Int32} {x3 : Int32} {x4 : Int32} {x5 : Int32} {x6 : Int32} {x7 : Int32} {post : Int32 → Prop} (k_f_huts : iv 0 9 f_huts) (k_a_runs : ∀ j, iv 0 1000000 (a_runs j)) (hx1 : iv 1 511 x1) (hx2 : iv (-1) 2147483647 x2) (hx3 : iv (-2147483648) 1000000 x3) (hx4 : iv 0 608 x4) (hx5 : iv 0 8 x5) (hx7 : iv 0 9 x7) (m9 : Int) (hm9 : m9 ≤ x4.toInt) (hP9 : ∀ (x2 : Int32) (x3 : Int32) (x4 : Int32), m9 < x4.toInt → iv (-1) 2147483647 x2 → iv (-2147483648) 1000000 x3 → iv 0 609 x4 → P9 x2 x3 x4) (hpost : ∀ (r : Int32), iv (-1) 2147483647 r → post r) : q_m_askOf_39 P9 f_huts a_runs x1 x2 x3 x4 x5 x6 x7 post := by
  intro P hP
  have loop : ∀ (n : Nat) (x6 : Int32) (x7 : Int32), (9 - x7.toInt < (n : Int)) → (iv 0 9 x7) → P x6 x7 := by
    intro n
    induction n with
    | zero => intro x6 x7 hm hx7; exact (ms0_up hm hx7).elim
    | succ n ih =>
      intro x6 x7 hm hx7
      apply hP
      refine ⟨fun c1 => ?_, fun c1 => ?_⟩
      · skip
        refine s_m_ones_0 (iv_w hx1 (by decide)) (fun r2 => ?_)
        refine ⟨fun c3 => ?_, fun c3 => ?_⟩
        · skip
          refine ⟨fun c4 => ?_, fun c4 => ?_⟩
          · skip
            exact s_m_askOf_120 k_f_huts k_a_runs hx1 hx3 hx4 hx2 m9 hm9 hP9 hpost
          · skip
            exact s_m_askOf_120 k_f_huts k_a_runs hx1 (iv_w (iv_ltb (l := (-2147483647)) (h := 1000000) (r_nle c4) (iv_top _) hx3 (by decide)) (by decide)) hx4 (iv_w hx4 (by decide)) m9 hm9 hP9 hpost
        · skip
          refine ⟨fun c5 => ?_, fun c5 => ?_⟩
          · skip
            exact s_m_askOf_120 k_f_huts k_a_runs hx1 hx3 hx4 hx2 m9 hm9 hP9 hpost
          · skip
            exact s_m_askOf_120 k_f_huts k_a_runs hx1 (iv_w (iv_ltb (l := (-2147483646)) (h := 1000000) (r_nle c5) (iv_ltb (l := (-2147483647)) (h := 2147483647) (r_nle c3) (iv_top _) (iv_top x6) (by decide)) hx3 (by decide)) (by decide)) hx4 (iv_w hx4 (by decide)) m9 hm9 hP9 hpost
      · skip
        refine ⟨fun c6 => ?_, fun c6 => ?_⟩
        · skip
          refine ⟨fun c7 => ?_, fun c7 => ?_⟩
          · skip
            exact s_m_askOf_84 (iv_ltb (l := 1) (h := 9) (r_nle c1) hx7 k_f_huts (by decide)) k_a_runs hx1 hx2 hx3 hx4 hx5 (iv_lta (l := 0) (h := 8) (r_nle c1) hx7 k_f_huts (by decide)) m9 hm9 hP9 x7.toInt (Int.le_refl _) (fun u0 u1 hq g0 => ih u0 u1 (ms_up hm hq) g0) hpost
          · skip
            exact (iv_emp (iv_ne (l := 1) (h := 0) c7 (iv_lit (l := 0) (h := 0) (by decide)) (iv_lit (l := 0) (h := 0) (by decide)) (by decide)) (by decide)).elim
        · skip
          refine ⟨fun c8 => ?_, fun c8 => ?_⟩
          · skip
            exact (iv_emp (iv_eqa (l := 1) (h := 0) c8 (iv_lit (l := 1) (h := 1) (by decide)) (iv_lit (l := 0) (h := 0) (by decide)) (by decide)) (by decide)).elim
          · skip
            refine ⟨iv_in (iv_add (l := 0) (h := 80) (iv_mul (l := 0) (h := 72) (iv_lit (l := 9) (h := 9) (by decide)) (iv_lta (l := 0) (h := 8) (r_nle c1) hx7 k_f_huts (by decide)) (by decide)) hx5 (by decide)) (by decide), ?_⟩
            refine ⟨fun c9 => ?_, fun c9 => ?_⟩
            · skip
              exact s_m_askOf_84 (iv_ltb (l := 1) (h := 9) (r_nle c1) hx7 k_f_huts (by decide)) k_a_runs hx1 hx2 hx3 hx4 hx5 (iv_lta (l := 0) (h := 8) (r_nle c1) hx7 k_f_huts (by decide)) m9 hm9 hP9 x7.toInt (Int.le_refl _) (fun u0 u1 hq g0 => ih u0 u1 (ms_up hm hq) g0) hpost
            · skip
              exact s_m_askOf_85 (iv_ltb (l := 1) (h := 9) (r_nle c1) hx7 k_f_huts (by decide)) k_a_runs hx1 hx2 hx3 hx4 hx5 (iv_lta (l := 0) (h := 8) (r_nle c1) hx7 k_f_huts (by decide)) (iv_w (iv_lit (l := 1) (h := 1) (by decide)) (by decide)) m9 hm9 hP9 x7.toInt (Int.le_refl _) (fun u0 u1 hq g0 => ih u0 u1 (ms_up hm hq) g0) hpost
  exact loop _ _ _ (ms_init_up _ _) hx7
set_option maxRecDepth 20000 in
theorem s_m_askOf_9 {f_huts : Int32} {a_runs : Nat → Int32} {x1 : Int32} {x2 : Int32} {x3 : Int32} {x4 : Int32} {post : Int32 → Prop} (k_f_huts : iv 0 9 f_huts) (k_a_runs : ∀ j, iv 0 1000000 (a_runs j)) (hx1 : iv 1 511 x1) (hx2 : iv (-1) 2147483647 x2) (hx3 : iv (-2147483648) 1000000 x3) (hx4 : iv 0 609 x4) (hpost : ∀ (r : Int32), iv (-1) 2147483647 r → post r) : q_m_askOf_9 f_huts a_runs x1 x2 x3 x4 post := by
  intro P hP
  have loop : ∀ (n : Nat) (x2 : Int32) (x3 : Int32) (x4 : Int32), (609 - x4.toInt < (n : Int)) → (iv (-1) 2147483647 x2) → (iv (-2147483648) 1000000 x3) → (iv 0 609 x4) → P x2 x3 x4 := by
    intro n
    induction n with
    | zero => intro x2 x3 x4 hm hx2 hx3 hx4; exact (ms0_up hm hx4).elim
    | succ n ih =>
      intro x2 x3 x4 hm hx2 hx3 hx4
      apply hP
      refine ⟨fun c1 => ?_, fun c1 => ?_⟩
      · skip
        exact hpost _ hx2
      · skip
        intro w2 ew2
        have hw2 := iv_eq ew2 (iv_rem (l := 0) (h := 9) (iv_lea (l := 0) (h := 608) (r_nlt c1) hx4 (iv_lit (l := 608) (h := 608) (by decide)) (by decide)) (iv_lit (l := 10) (h := 10) (by decide)) (by decide))
        refine ⟨fun c3 => ?_, fun c3 => ?_⟩
        · skip
          exact (iv_emp (iv_lta (l := 0) (h := (-1)) (r_lt c3) hw2 (iv_lit (l := 0) (h := 0) (by decide)) (by decide)) (by decide)).elim
        · skip
          refine ⟨fun c4 => ?_, fun c4 => ?_⟩
          · skip
            refine ⟨iv_nb (iv_lit (l := 0) (h := 0) (by decide)) (by decide), ?_⟩
            refine ⟨fun c5 => ?_, fun c5 => ?_⟩
            · skip
              exact s_m_askOf_128 k_f_huts k_a_runs hx1 hx2 hx3 (iv_lea (l := 0) (h := 608) (r_nlt c1) hx4 (iv_lit (l := 608) (h := 608) (by decide)) (by decide)) x4.toInt (Int.le_refl _) (fun u0 u1 u2 hq g0 g1 g2 => ih u0 u1 u2 (ms_up hm hq) g0 g1 g2) hpost
            · skip
              exact (iv_emp (iv_ne (l := 1) (h := 0) c5 (iv_lit (l := 0) (h := 0) (by decide)) (iv_lit (l := 0) (h := 0) (by decide)) (by decide)) (by decide)).elim
          · skip
            refine ⟨iv_nb (iv_lit (l := 1) (h := 1) (by decide)) (by decide), ?_⟩
            refine ⟨fun c6 => ?_, fun c6 => ?_⟩
            · skip
              exact (iv_emp (iv_eqa (l := 1) (h := 0) c6 (iv_lit (l := 1) (h := 1) (by decide)) (iv_lit (l := 0) (h := 0) (by decide)) (by decide)) (by decide)).elim
            · skip
              exact s_m_askOf_39 k_f_huts k_a_runs hx1 hx2 hx3 (iv_lea (l := 0) (h := 608) (r_nlt c1) hx4 (iv_lit (l := 608) (h := 608) (by decide)) (by decide)) (iv_lea (l := 0) (h := 8) (r_nlt c4) hw2 (iv_sub (l := (-1)) (h := 8) k_f_huts (iv_lit (l := 1) (h := 1) (by decide)) (by decide)) (by decide)) (iv_w (iv_lit (l := 0) (h := 0) (by decide)) (by decide)) x4.toInt (Int.le_refl _) (fun u0 u1 u2 hq g0 g1 g2 => ih u0 u1 u2 (ms_up hm hq) g0 g1 g2) hpost
  exact loop _ _ _ _ (ms_init_up _ _) hx2 hx3 hx4
set_option maxRecDepth 20000 in
theorem s_m_askOf_0 {f_huts : Int32} {a_runs : Nat → Int32} {x1 : Int32} {post : Int32 → Prop} (k_f_huts : iv 0 9 f_huts) (k_a_runs : ∀ j, iv 0 1000000 (a_runs j)) (hx1 : iv 1 511 x1) (hpost : ∀ (r : Int32), iv (-1) 2147483647 r → post r) : q_m_askOf_0 f_huts a_runs x1 post := by
  exact s_m_askOf_9 k_f_huts k_a_runs hx1 (iv_w (iv_lit (l := (-1)) (h := (-1)) (by decide)) (by decide)) (iv_w (iv_lit (l := 1000000) (h := 1000000) (by decide)) (by decide)) (iv_w (iv_lit (l := 0) (h := 0) (by decide)) (by decide)) hpost
-- m_fits
set_option maxRecDepth 20000 in
theorem s_m_fits_93 {P65 : Int32 → Int32 → (Nat → Int32) → (Nat → Int32) → Prop} {f_code : Int32} {a_many : Nat → Int32} {a_lands : Nat → Int32} {a_sights : Nat → Int32} {f_land : Int32} {f_huts : Int32} {f_singers : Int32} {a_run : Nat → Int32} {f_sight : Int32} {a_runs : Nat → Int32} {x3 : Int32} {x5 : Int32} {y0 : Int32} {y1 : Int32} {post : Int32 → (Int32) → (Int32) → (Int32) → (Int32) → (Nat → Int32) → (Int32) → (Nat → Int32) → Prop} (k_f_code : iv 0 0 f_code) (k_a_many : ∀ j, iv 0 2 (a_many j)) (k_a_lands : mLand a_lands) (k_a_sights : mSig a_sights) (k_f_land : iv 0 1 f_land) (k_f_huts : iv 1 9 f_huts) (k_f_singers : iv 0 6 f_singers) (k_a_run : ∀ j, iv 0 1000000 (a_run j)) (k_f_sight : iv 0 1 f_sight) (k_a_runs : ∀ j, iv 0 1000000 (a_runs j)) (hx5 : iv 0 8 x5) (hy0 : iv 0 511 y0) (hy1 : iv 0 256 y1) (m65 : Int) (hm65 : m65 ≤ x5.toInt) (hP65 : ∀ (x4 : Int32) (x5 : Int32) (a_run : Nat → Int32) (a_runs : Nat → Int32), m65 < x5.toInt → iv 0 511 x4 → iv 0 9 x5 → (∀ j, iv 0 1000000 (a_run j)) → (∀ j, iv 0 1000000 (a_runs j)) → P65 x4 x5 a_run a_runs) (hpost : ∀ (r : Int32) (f_code : Int32) (f_land : Int32) (f_huts : Int32) (f_singers : Int32) (a_run : Nat → Int32) (f_sight : Int32) (a_runs : Nat → Int32), iv (-2) 2147483647 r → (iv 0 0 f_code) → (iv 0 1 f_land) → (iv 0 9 f_huts) → (iv 0 6 f_singers) → (∀ j, iv 0 1000000 (a_run j)) → (∀ j, iv 0 1000000 (a_runs j)) → post r f_code f_land f_huts f_singers a_run f_sight a_runs) : q_m_fits_93 P65 f_code a_many a_lands a_sights f_land f_huts f_singers a_run f_sight a_runs x3 x5 y0 y1 post := by
  intro w1 ew1
  have hw1 := iv_eq ew1 (iv_or 9 (l := 0) (h := 511) hy0 hy1 (by decide))
  intro w2 ew2
  have hw2 := iv_eq ew2 (iv_add (l := 1) (h := 9) hx5 (iv_lit (l := 1) (h := 1) (by decide)) (by decide))
  exact hP65 _ _ _ _ (ml_up hm65 (inc_lt ew2 hx5 (by decide))) hw1 (iv_w hw2 (by decide)) k_a_run k_a_runs
set_option maxRecDepth 20000 in
theorem s_m_fits_65 {f_code : Int32} {a_many : Nat → Int32} {a_lands : Nat → Int32} {a_sights : Nat → Int32} {f_land : Int32} {f_huts : Int32} {f_singers : Int32} {a_run : Nat → Int32} {f_sight : Int32} {a_runs : Nat → Int32} {x3 : Int32} {x4 : Int32} {x5 : Int32} {post : Int32 → (Int32) → (Int32) → (Int32) → (Int32) → (Nat → Int32) → (Int32) → (Nat → Int32) → Prop} (k_f_code : iv 0 0 f_code) (k_a_many : ∀ j, iv 0 2 (a_many j)) (k_a_lands : mLand a_lands) (k_a_sights : mSig a_sights) (k_f_land : iv 0 1 f_land) (k_f_huts : iv 0 9 f_huts) (k_f_singers : iv 0 6 f_singers) (k_a_run : ∀ j, iv 0 1000000 (a_run j)) (k_f_sight : iv 0 1 f_sight) (k_a_runs : ∀ j, iv 0 1000000 (a_runs j)) (hx4 : iv 0 511 x4) (hx5 : iv 0 9 x5) (hpost : ∀ (r : Int32) (f_code : Int32) (f_land : Int32) (f_huts : Int32) (f_singers : Int32) (a_run : Nat → Int32) (f_sight : Int32) (a_runs : Nat → Int32), iv (-2) 2147483647 r → (iv 0 0 f_code) → (iv 0 1 f_land) → (iv 0 9 f_huts) → (iv 0 6 f_singers) → (∀ j, iv 0 1000000 (a_run j)) → (∀ j, iv 0 1000000 (a_runs j)) → post r f_code f_land f_huts f_singers a_run f_sight a_runs) : q_m_fits_65 f_code a_many a_lands a_sights f_land f_huts f_singers a_run f_sight a_runs x3 x4 x5 post := by
  intro P hP
  have loop : ∀ (n : Nat) (x4 : Int32) (x5 : Int32) (a_run : Nat → Int32) (a_runs : Nat → Int32), (9 - x5.toInt < (n : Int)) → (iv 0 511 x4) → (iv 0 9 x5) → (∀ j, iv 0 1000000 (a_run j)) → (∀ j, iv 0 1000000 (a_runs j)) → P x4 x5 a_run a_runs := by
    intro n
    induction n with
    | zero => intro x4 x5 a_run a_runs hm hx4 hx5 k_a_run k_a_runs; exact (ms0_up hm hx5).elim
    | succ n ih =>
      intro x4 x5 a_run a_runs hm hx4 hx5 k_a_run k_a_runs
      apply hP
      refine ⟨fun c1 => ?_, fun c1 => ?_⟩
      · skip
        refine ⟨fun c2 => ?_, fun c2 => ?_⟩
        · skip
          refine ⟨fun c3 => ?_, fun c3 => ?_⟩
          · skip
            refine s_m_askOf_0 k_f_huts k_a_runs (iv_ne (l := 1) (h := 511) c3 hx4 (iv_lit (l := 0) (h := 0) (by decide)) (by decide)) (fun r4 hr4 => ?_)
            exact hpost _ _ _ _ _ _ _ _ (iv_w hr4 (by decide)) k_f_code k_f_land k_f_huts k_f_singers k_a_run k_a_runs
          · skip
            exact hpost _ _ _ _ _ _ _ _ (iv_w (iv_lit (l := (-1)) (h := (-1)) (by decide)) (by decide)) k_f_code k_f_land k_f_huts k_f_singers k_a_run k_a_runs
        · skip
          exact hpost _ _ _ _ _ _ _ _ (iv_w hx4 (by decide)) k_f_code k_f_land k_f_huts k_f_singers k_a_run k_a_runs
      · skip
        refine s_m_isFit_0 k_a_lands k_a_sights k_f_land (iv_ltb (l := 1) (h := 9) (r_nle c1) hx5 k_f_huts (by decide)) k_a_run k_f_sight k_a_runs (iv_lta (l := 0) (h := 8) (r_nle c1) hx5 k_f_huts (by decide)) (fun r5 o6 o7 hr5 k_o6 k_o7 => ?_)
        refine ⟨fun c8 => ?_, fun c8 => ?_⟩
        · skip
          exact s_m_fits_93 k_f_code k_a_many k_a_lands k_a_sights k_f_land (iv_ltb (l := 1) (h := 9) (r_nle c1) hx5 k_f_huts (by decide)) k_f_singers k_o6 k_f_sight k_o7 (iv_lta (l := 0) (h := 8) (r_nle c1) hx5 k_f_huts (by decide)) hx4 (iv_w (iv_lit (l := 0) (h := 0) (by decide)) (by decide)) x5.toInt (Int.le_refl _) (fun u0 u1 u2 u3 hq g0 g1 g2 g3 => ih u0 u1 u2 u3 (ms_up hm hq) g0 g1 g2 g3) hpost
        · skip
          exact s_m_fits_93 k_f_code k_a_many k_a_lands k_a_sights k_f_land (iv_ltb (l := 1) (h := 9) (r_nle c1) hx5 k_f_huts (by decide)) k_f_singers k_o6 k_f_sight k_o7 (iv_lta (l := 0) (h := 8) (r_nle c1) hx5 k_f_huts (by decide)) hx4 (iv_w (iv_shl1 (l := 1) (h := 256) (iv_lit (l := 1) (h := 1) (by decide)) (iv_lta (l := 0) (h := 8) (r_nle c1) hx5 k_f_huts (by decide)) (by decide)) (by decide)) x5.toInt (Int.le_refl _) (fun u0 u1 u2 u3 hq g0 g1 g2 g3 => ih u0 u1 u2 u3 (ms_up hm hq) g0 g1 g2 g3) hpost
  exact loop _ _ _ _ _ (ms_init_up _ _) hx4 hx5 k_a_run k_a_runs
set_option maxRecDepth 20000 in
theorem s_m_fits_27 {f_code : Int32} {a_many : Nat → Int32} {a_lands : Nat → Int32} {a_sights : Nat → Int32} {f_land : Int32} {f_huts : Int32} {f_singers : Int32} {a_run : Nat → Int32} {f_sight : Int32} {a_runs : Nat → Int32} {x3 : Int32} {x4 : Int32} {post : Int32 → (Int32) → (Int32) → (Int32) → (Int32) → (Nat → Int32) → (Int32) → (Nat → Int32) → Prop} (k_f_code : iv 0 0 f_code) (k_a_many : ∀ j, iv 0 2 (a_many j)) (k_a_lands : mLand a_lands) (k_a_sights : mSig a_sights) (k_f_land : iv 0 1 f_land) (k_f_huts : iv 0 9 f_huts) (k_f_singers : iv 0 6 f_singers) (k_a_run : ∀ j, iv 0 1000000 (a_run j)) (k_f_sight : iv 0 1 f_sight) (k_a_runs : ∀ j, iv 0 1000000 (a_runs j)) (hx4 : iv 0 10 x4) (hpost : ∀ (r : Int32) (f_code : Int32) (f_land : Int32) (f_huts : Int32) (f_singers : Int32) (a_run : Nat → Int32) (f_sight : Int32) (a_runs : Nat → Int32), iv (-2) 2147483647 r → (iv 0 0 f_code) → (iv 0 1 f_land) → (iv 0 9 f_huts) → (iv 0 6 f_singers) → (∀ j, iv 0 1000000 (a_run j)) → (∀ j, iv 0 1000000 (a_runs j)) → post r f_code f_land f_huts f_singers a_run f_sight a_runs) : q_m_fits_27 f_code a_many a_lands a_sights f_land f_huts f_singers a_run f_sight a_runs x3 x4 post := by
  intro P hP
  have loop : ∀ (n : Nat) (x4 : Int32), (10 - x4.toInt < (n : Int)) → (iv 0 10 x4) → P x4 := by
    intro n
    induction n with
    | zero => intro x4 hm hx4; exact (ms0_up hm hx4).elim
    | succ n ih =>
      intro x4 hm hx4
      apply hP
      refine sp_facts k_a_sights k_f_sight (fun r1 hr1 => ?_)
      refine ⟨fun c2 => ?_, fun c2 => ?_⟩
      · skip
        exact s_m_fits_65 k_f_code k_a_many k_a_lands k_a_sights k_f_land k_f_huts k_f_singers k_a_run k_f_sight k_a_runs (iv_w (iv_lit (l := 0) (h := 0) (by decide)) (by decide)) (iv_w (iv_lit (l := 0) (h := 0) (by decide)) (by decide)) hpost
      · skip
        refine sp_factOf_1 k_a_sights k_f_sight (iv_lta (l := 0) (h := 9) (r_nle c2) hx4 hr1 (by decide)) (fun r3 hr3 => ?_)
        refine ⟨fun c4 => ?_, fun c4 => ?_⟩
        · skip
          exact (iv_emp (iv_lta (l := 0) (h := (-1)) (r_lt c4) hr3 (iv_lit (l := 0) (h := 0) (by decide)) (by decide)) (by decide)).elim
        · skip
          refine ⟨fun c5 => ?_, fun c5 => ?_⟩
          · skip
            refine ⟨iv_nb (iv_lit (l := 0) (h := 0) (by decide)) (by decide), ?_⟩
            refine ⟨fun c6 => ?_, fun c6 => ?_⟩
            · skip
              exact (iv_emp (iv_ne (l := 1) (h := 0) c6 (iv_lit (l := 0) (h := 0) (by decide)) (iv_lit (l := 0) (h := 0) (by decide)) (by decide)) (by decide)).elim
            · skip
              exact hpost _ _ _ _ _ _ _ _ (iv_w (iv_lit (l := (-2)) (h := (-2)) (by decide)) (by decide)) k_f_code k_f_land k_f_huts k_f_singers k_a_run k_a_runs
          · skip
            refine ⟨iv_nb (iv_lit (l := 1) (h := 1) (by decide)) (by decide), ?_⟩
            refine ⟨fun c7 => ?_, fun c7 => ?_⟩
            · skip
              intro w8 ew8
              have hw8 := iv_eq ew8 (iv_add (l := 1) (h := 10) (iv_lta (l := 0) (h := 9) (r_nle c2) hx4 hr1 (by decide)) (iv_lit (l := 1) (h := 1) (by decide)) (by decide))
              exact ih _ (ms_up hm (inc_lt ew8 (iv_lta (l := 0) (h := 9) (r_nle c2) hx4 hr1 (by decide)) (by decide))) (iv_w hw8 (by decide))
            · skip
              exact (iv_emp (iv_eqa (l := 1) (h := 0) c7 (iv_lit (l := 1) (h := 1) (by decide)) (iv_lit (l := 0) (h := 0) (by decide)) (by decide)) (by decide)).elim
  exact loop _ _ (ms_init_up _ _) hx4
set_option maxRecDepth 20000 in
theorem s_m_fits_0 {f_code : Int32} {a_many : Nat → Int32} {a_lands : Nat → Int32} {a_sights : Nat → Int32} {f_land : Int32} {f_huts : Int32} {f_singers : Int32} {a_run : Nat → Int32} {f_sight : Int32} {a_runs : Nat → Int32} {x1 : Int32} {x2 : Int32} {x3 : Int32} {post : Int32 → (Int32) → (Int32) → (Int32) → (Int32) → (Nat → Int32) → (Int32) → (Nat → Int32) → Prop} (k_f_code : iv 0 0 f_code) (k_a_many : ∀ j, iv 0 2 (a_many j)) (k_a_lands : mLand a_lands) (k_a_sights : mSig a_sights) (k_f_land : iv 0 1 f_land) (k_f_huts : iv 0 9 f_huts) (k_f_singers : iv 0 6 f_singers) (k_a_run : ∀ j, iv 0 1000000 (a_run j)) (k_a_runs : ∀ j, iv 0 1000000 (a_runs j)) (hpost : ∀ (r : Int32) (f_code : Int32) (f_land : Int32) (f_huts : Int32) (f_singers : Int32) (a_run : Nat → Int32) (f_sight : Int32) (a_runs : Nat → Int32), iv (-2) 2147483647 r → (iv 0 0 f_code) → (iv 0 1 f_land) → (iv 0 9 f_huts) → (iv 0 6 f_singers) → (∀ j, iv 0 1000000 (a_run j)) → (∀ j, iv 0 1000000 (a_runs j)) → post r f_code f_land f_huts f_singers a_run f_sight a_runs) : q_m_fits_0 f_code a_many a_lands a_sights f_land f_huts f_singers a_run f_sight a_runs x1 x2 x3 post := by
  refine ⟨iv_in (iv_lit (l := 2) (h := 2) (by decide)) (by decide), ?_⟩
  refine ⟨fun c1 => ?_, fun c1 => ?_⟩
  · skip
    refine ⟨iv_nb (iv_lit (l := 0) (h := 0) (by decide)) (by decide), ?_⟩
    refine ⟨iv_nb (iv_lit (l := 0) (h := 0) (by decide)) (by decide), ?_⟩
    refine ⟨fun c2 => ?_, fun c2 => ?_⟩
    · skip
      exact hpost _ _ _ _ _ _ _ _ (iv_w (iv_lit (l := (-2)) (h := (-2)) (by decide)) (by decide)) (iv_lit (l := 0) (h := 0) (by decide)) k_f_land k_f_huts k_f_singers k_a_run k_a_runs
    · skip
      exact (iv_emp (iv_ne (l := 1) (h := 0) c2 (iv_lit (l := 0) (h := 0) (by decide)) (iv_lit (l := 0) (h := 0) (by decide)) (by decide)) (by decide)).elim
  · skip
    refine ⟨fun c3 => ?_, fun c3 => ?_⟩
    · skip
      refine ⟨iv_nb (iv_lit (l := 0) (h := 0) (by decide)) (by decide), ?_⟩
      refine ⟨iv_nb (iv_lit (l := 0) (h := 0) (by decide)) (by decide), ?_⟩
      refine ⟨fun c4 => ?_, fun c4 => ?_⟩
      · skip
        exact hpost _ _ _ _ _ _ _ _ (iv_w (iv_lit (l := (-2)) (h := (-2)) (by decide)) (by decide)) (iv_lit (l := 0) (h := 0) (by decide)) k_f_land k_f_huts k_f_singers k_a_run k_a_runs
      · skip
        exact (iv_emp (iv_ne (l := 1) (h := 0) c4 (iv_lit (l := 0) (h := 0) (by decide)) (iv_lit (l := 0) (h := 0) (by decide)) (by decide)) (by decide)).elim
    · skip
      refine ⟨iv_nb (iv_lit (l := 1) (h := 1) (by decide)) (by decide), ?_⟩
      refine ⟨iv_nb (iv_lit (l := 1) (h := 1) (by decide)) (by decide), ?_⟩
      refine ⟨fun c5 => ?_, fun c5 => ?_⟩
      · skip
        exact (iv_emp (iv_eqa (l := 1) (h := 0) c5 (iv_lit (l := 1) (h := 1) (by decide)) (iv_lit (l := 0) (h := 0) (by decide)) (by decide)) (by decide)).elim
      · skip
        refine ⟨iv_in (iv_lit (l := 0) (h := 0) (by decide)) (by decide), ?_⟩
        refine ⟨fun c6 => ?_, fun c6 => ?_⟩
        · skip
          refine ⟨iv_nb (iv_lit (l := 0) (h := 0) (by decide)) (by decide), ?_⟩
          refine ⟨fun c7 => ?_, fun c7 => ?_⟩
          · skip
            exact (iv_emp (iv_ne (l := 1) (h := 0) c7 (iv_lit (l := 0) (h := 0) (by decide)) (iv_lit (l := 0) (h := 0) (by decide)) (by decide)) (by decide)).elim
          · skip
            refine ⟨fun c8 => ?_, fun c8 => ?_⟩
            · skip
              exact (iv_emp (iv_ne (l := 1) (h := 0) c8 (iv_lit (l := 0) (h := 0) (by decide)) (iv_lit (l := 0) (h := 0) (by decide)) (by decide)) (by decide)).elim
            · skip
              exact hpost _ _ _ _ _ _ _ _ (iv_w (iv_lit (l := (-2)) (h := (-2)) (by decide)) (by decide)) (iv_lit (l := 0) (h := 0) (by decide)) k_f_land k_f_huts k_f_singers k_a_run k_a_runs
        · skip
          refine ⟨fun c9 => ?_, fun c9 => ?_⟩
          · skip
            refine ⟨iv_nb (iv_lit (l := 0) (h := 0) (by decide)) (by decide), ?_⟩
            refine ⟨fun c10 => ?_, fun c10 => ?_⟩
            · skip
              exact (iv_emp (iv_ne (l := 1) (h := 0) c10 (iv_lit (l := 0) (h := 0) (by decide)) (iv_lit (l := 0) (h := 0) (by decide)) (by decide)) (by decide)).elim
            · skip
              refine ⟨fun c11 => ?_, fun c11 => ?_⟩
              · skip
                exact (iv_emp (iv_ne (l := 1) (h := 0) c11 (iv_lit (l := 0) (h := 0) (by decide)) (iv_lit (l := 0) (h := 0) (by decide)) (by decide)) (by decide)).elim
              · skip
                exact hpost _ _ _ _ _ _ _ _ (iv_w (iv_lit (l := (-2)) (h := (-2)) (by decide)) (by decide)) (iv_lit (l := 0) (h := 0) (by decide)) k_f_land k_f_huts k_f_singers k_a_run k_a_runs
          · skip
            refine ⟨iv_nb (iv_lit (l := 1) (h := 1) (by decide)) (by decide), ?_⟩
            refine ⟨fun c12 => ?_, fun c12 => ?_⟩
            · skip
              refine sp_of (a := 0) (b := 9) k_a_lands (iv_lea (l := 0) (h := 1) (r_nlt c9) (iv_leb (l := 0) (h := 2147483647) (r_nlt c6) (iv_lit (l := 0) (h := 0) (by decide)) (iv_top x1) (by decide)) (iv_sub (l := (-1)) (h := 1) (k_a_many _) (iv_lit (l := 1) (h := 1) (by decide)) (by decide)) (by decide)) (iv_lit (l := 0) (h := 0) (by decide)) (by decide +kernel) (fun r13 hr13 er13 => ?_)
              refine sp_of (a := 0) (b := 6) k_a_lands (iv_lea (l := 0) (h := 1) (r_nlt c9) (iv_leb (l := 0) (h := 2147483647) (r_nlt c6) (iv_lit (l := 0) (h := 0) (by decide)) (iv_top x1) (by decide)) (iv_sub (l := (-1)) (h := 1) (k_a_many _) (iv_lit (l := 1) (h := 1) (by decide)) (by decide)) (by decide)) (iv_lit (l := 1) (h := 1) (by decide)) (by decide +kernel) (fun r14 hr14 er14 => ?_)
              refine ⟨fun c15 => ?_, fun c15 => ?_⟩
              · skip
                exact s_m_fits_27 (iv_lit (l := 0) (h := 0) (by decide)) k_a_many k_a_lands k_a_sights (iv_lea (l := 0) (h := 1) (r_nlt c9) (iv_leb (l := 0) (h := 2147483647) (r_nlt c6) (iv_lit (l := 0) (h := 0) (by decide)) (iv_top x1) (by decide)) (iv_sub (l := (-1)) (h := 1) (k_a_many _) (iv_lit (l := 1) (h := 1) (by decide)) (by decide)) (by decide)) hr13 hr14 k_a_run (iv_lea (l := 0) (h := 1) (r_nlt c3) (iv_leb (l := 0) (h := 2147483647) (r_nlt c1) (iv_lit (l := 0) (h := 0) (by decide)) (iv_top x2) (by decide)) (iv_sub (l := (-1)) (h := 1) (k_a_many _) (iv_lit (l := 1) (h := 1) (by decide)) (by decide)) (by decide)) k_a_runs (iv_w (iv_lit (l := 0) (h := 0) (by decide)) (by decide)) hpost
              · skip
                exact (iv_emp (iv_eqa (l := 1) (h := 0) c15 (iv_lit (l := 1) (h := 1) (by decide)) (iv_lit (l := 0) (h := 0) (by decide)) (by decide)) (by decide)).elim
            · skip
              exact (iv_emp (iv_eqa (l := 1) (h := 0) c12 (iv_lit (l := 1) (h := 1) (by decide)) (iv_lit (l := 0) (h := 0) (by decide)) (by decide)) (by decide)).elim
-- m_findRest
set_option maxRecDepth 20000 in
theorem s_m_findRest_159 {a_choirs : Nat → Int32} {f_choir : Int32} {f_voices : Int32} {a_rest : Nat → Int64} {x3 : Int64} {x5 : Int32} {post : Int64 → (Nat → Int64) → Prop} (k_a_choirs : mCho a_choirs) (k_f_choir : iv 0 1 f_choir) (k_f_voices : iv 0 9 f_voices) (hx5 : iv 0 9 x5) (hpost : ∀ (r : Int64) (a_rest : Nat → Int64), post r a_rest) : q_m_findRest_159 a_choirs f_choir f_voices a_rest x3 x5 post := by
  intro P hP
  have loop : ∀ (n : Nat) (x3 : Int64) (x5 : Int32), (9 - x5.toInt < (n : Int)) → (iv 0 9 x5) → P x3 x5 := by
    intro n
    induction n with
    | zero => intro x3 x5 hm hx5; exact (ms0_up hm hx5).elim
    | succ n ih =>
      intro x3 x5 hm hx5
      apply hP
      refine ⟨fun c1 => ?_, fun c1 => ?_⟩
      · skip
        exact hpost _ _
      · skip
        refine ⟨iv_in (iv_add (l := 9) (h := 2312) (iv_mul (l := 9) (h := 2304) (iv_lit (l := 9) (h := 9) (by decide)) (iv_shl1 (l := 1) (h := 256) (iv_lit (l := 1) (h := 1) (by decide)) (iv_lta (l := 0) (h := 8) (r_nle c1) hx5 k_f_voices (by decide)) (by decide)) (by decide)) (iv_lta (l := 0) (h := 8) (r_nle c1) hx5 k_f_voices (by decide)) (by decide)) (by decide), ?_⟩
        intro w2 ew2
        intro w3 ew3
        have hw3 := iv_eq ew3 (iv_add (l := 1) (h := 9) (iv_lta (l := 0) (h := 8) (r_nle c1) hx5 k_f_voices (by decide)) (iv_lit (l := 1) (h := 1) (by decide)) (by decide))
        exact ih _ _ (ms_up hm (inc_lt ew3 (iv_lta (l := 0) (h := 8) (r_nle c1) hx5 k_f_voices (by decide)) (by decide))) (iv_w hw3 (by decide))
  exact loop _ _ _ (ms_init_up _ _) hx5
set_option maxRecDepth 20000 in
theorem s_m_findRest_155 {a_choirs : Nat → Int32} {f_choir : Int32} {f_voices : Int32} {a_rest : Nat → Int64} {y0 : Int64} {post : Int64 → (Nat → Int64) → Prop} (k_a_choirs : mCho a_choirs) (k_f_choir : iv 0 1 f_choir) (k_f_voices : iv 0 9 f_voices) (hpost : ∀ (r : Int64) (a_rest : Nat → Int64), post r a_rest) : q_m_findRest_155 a_choirs f_choir f_voices a_rest y0 post := by
  exact s_m_findRest_159 k_a_choirs k_f_choir k_f_voices (iv_w (iv_lit (l := 0) (h := 0) (by decide)) (by decide)) hpost
set_option maxRecDepth 20000 in
theorem s_m_findRest_130 {P11 : Int32 → (Nat → Int64) → Prop} {P18 : Int32 → (Nat → Int64) → Prop} {a_choirs : Nat → Int32} {f_choir : Int32} {f_voices : Int32} {a_rest : Nat → Int64} {x1 : Int32} {x2 : Int32} {x3 : Int32} {x4 : Int32} {y0 : Int32} {y1 : Int64} {post : Int64 → (Nat → Int64) → Prop} (k_a_choirs : mCho a_choirs) (k_f_choir : iv 0 1 f_choir) (k_f_voices : iv 1 9 f_voices) (hx1 : iv 0 9 x1) (hx2 : iv 0 511 x2) (hx3 : iv 1 511 x3) (hx4 : iv 0 8 x4) (hy0 : iv 9 4607 y0) (m11 : Int) (hm11 : x3.toInt ≤ m11) (hP11 : ∀ (x3 : Int32) (a_rest : Nat → Int64), x3.toInt < m11 → iv 0 511 x3 → P11 x3 a_rest) (m18 : Int) (hm18 : m18 ≤ x4.toInt) (hP18 : ∀ (x4 : Int32) (a_rest : Nat → Int64), m18 < x4.toInt → iv 0 9 x4 → P18 x4 a_rest) (hpost : ∀ (r : Int64) (a_rest : Nat → Int64), post r a_rest) : q_m_findRest_130 P11 P18 a_choirs f_choir f_voices a_rest x1 x2 x3 x4 y0 y1 post := by
  refine ⟨iv_in hy0 (by decide), ?_⟩
  intro a1 ea1
  intro w2 ew2
  have hw2 := iv_eq ew2 (iv_add (l := 1) (h := 9) hx4 (iv_lit (l := 1) (h := 1) (by decide)) (by decide))
  exact hP18 _ _ (ml_up hm18 (inc_lt ew2 hx4 (by decide))) (iv_w hw2 (by decide))
set_option maxRecDepth 20000 in
theorem s_m_findRest_95 {P11 : Int32 → (Nat → Int64) → Prop} {P18 : Int32 → (Nat → Int64) → Prop} {P42 : Int64 → Int32 → Prop} {a_choirs : Nat → Int32} {f_choir : Int32} {f_voices : Int32} {a_rest : Nat → Int64} {x1 : Int32} {x2 : Int32} {x3 : Int32} {x4 : Int32} {x7 : Int32} {y0 : Int64} {y1 : Int64} {post : Int64 → (Nat → Int64) → Prop} (k_a_choirs : mCho a_choirs) (k_f_choir : iv 0 1 f_choir) (k_f_voices : iv 1 9 f_voices) (hx1 : iv 0 9 x1) (hx2 : iv 0 511 x2) (hx3 : iv 1 511 x3) (hx4 : iv 0 8 x4) (hx7 : iv 0 8 x7) (m11 : Int) (hm11 : x3.toInt ≤ m11) (hP11 : ∀ (x3 : Int32) (a_rest : Nat → Int64), x3.toInt < m11 → iv 0 511 x3 → P11 x3 a_rest) (m18 : Int) (hm18 : m18 ≤ x4.toInt) (hP18 : ∀ (x4 : Int32) (a_rest : Nat → Int64), m18 < x4.toInt → iv 0 9 x4 → P18 x4 a_rest) (m42 : Int) (hm42 : m42 ≤ x7.toInt) (hP42 : ∀ (x5 : Int64) (x7 : Int32), m42 < x7.toInt → iv 0 9 x7 → P42 x5 x7) (hpost : ∀ (r : Int64) (a_rest : Nat → Int64), post r a_rest) : q_m_findRest_95 P11 P18 P42 a_choirs f_choir f_voices a_rest x1 x2 x3 x4 x7 y0 y1 post := by
  intro w1 ew1
  intro w2 ew2
  have hw2 := iv_eq ew2 (iv_add (l := 1) (h := 9) hx7 (iv_lit (l := 1) (h := 1) (by decide)) (by decide))
  exact hP42 _ _ (ml_up hm42 (inc_lt ew2 hx7 (by decide))) (iv_w hw2 (by decide))
set_option maxRecDepth 20000 in
theorem s_m_findRest_94 {P11 : Int32 → (Nat → Int64) → Prop} {P18 : Int32 → (Nat → Int64) → Prop} {P42 : Int64 → Int32 → Prop} {a_choirs : Nat → Int32} {f_choir : Int32} {f_voices : Int32} {a_rest : Nat → Int64} {x1 : Int32} {x2 : Int32} {x3 : Int32} {x4 : Int32} {x7 : Int32} {y0 : Int64} {post : Int64 → (Nat → Int64) → Prop} (k_a_choirs : mCho a_choirs) (k_f_choir : iv 0 1 f_choir) (k_f_voices : iv 1 9 f_voices) (hx1 : iv 0 9 x1) (hx2 : iv 0 511 x2) (hx3 : iv 1 511 x3) (hx4 : iv 0 8 x4) (hx7 : iv 0 8 x7) (m11 : Int) (hm11 : x3.toInt ≤ m11) (hP11 : ∀ (x3 : Int32) (a_rest : Nat → Int64), x3.toInt < m11 → iv 0 511 x3 → P11 x3 a_rest) (m18 : Int) (hm18 : m18 ≤ x4.toInt) (hP18 : ∀ (x4 : Int32) (a_rest : Nat → Int64), m18 < x4.toInt → iv 0 9 x4 → P18 x4 a_rest) (m42 : Int) (hm42 : m42 ≤ x7.toInt) (hP42 : ∀ (x5 : Int64) (x7 : Int32), m42 < x7.toInt → iv 0 9 x7 → P42 x5 x7) (hpost : ∀ (r : Int64) (a_rest : Nat → Int64), post r a_rest) : q_m_findRest_94 P11 P18 P42 a_choirs f_choir f_voices a_rest x1 x2 x3 x4 x7 y0 post := by
  exact s_m_findRest_95 k_a_choirs k_f_choir k_f_voices hx1 hx2 hx3 hx4 hx7 m11 hm11 hP11 m18 hm18 hP18 m42 hm42 hP42 hpost
set_option maxRecDepth 20000 in
theorem s_m_findRest_42 {P11 : Int32 → (Nat → Int64) → Prop} {P18 : Int32 → (Nat → Int64) → Prop} {a_choirs : Nat → Int32} {f_choir : Int32} {f_voices : Int32} {a_rest : Nat → Int64} {x1 : Int32} {x2 : Int32} {x3 : Int32} {x4 : Int32} {x5 : Int64} {x7 : Int32} {post : Int64 → (Nat → Int64) → Prop} (k_a_choirs : mCho a_choirs) (k_f_choir : iv 0 1 f_choir) (k_f_voices : iv 1 9 f_voices) (hx1 : iv 0 9 x1) (hx2 : iv 0 511 x2) (hx3 : iv 1 511 x3) (hx4 : iv 0 8 x4) (hx7 : iv 0 9 x7) (m11 : Int) (hm11 : x3.toInt ≤ m11) (hP11 : ∀ (x3 : Int32) (a_rest : Nat → Int64), x3.toInt < m11 → iv 0 511 x3 → P11 x3 a_rest) (m18 : Int) (hm18 : m18 ≤ x4.toInt) (hP18 : ∀ (x4 : Int32) (a_rest : Nat → Int64), m18 < x4.toInt → iv 0 9 x4 → P18 x4 a_rest) (hpost : ∀ (r : Int64) (a_rest : Nat → Int64), post r a_rest) : q_m_findRest_42 P11 P18 a_choirs f_choir f_voices a_rest x1 x2 x3 x4 x5 x7 post := by
  intro P hP
  have loop : ∀ (n : Nat) (x5 : Int64) (x7 : Int32), (9 - x7.toInt < (n : Int)) → (iv 0 9 x7) → P x5 x7 := by
    intro n
    induction n with
    | zero => intro x5 x7 hm hx7; exact (ms0_up hm hx7).elim
    | succ n ih =>
      intro x5 x7 hm hx7
      apply hP
      refine ⟨fun c1 => ?_, fun c1 => ?_⟩
      · skip
        refine ⟨fun c2 => ?_, fun c2 => ?_⟩
        · skip
          refine ⟨fun c3 => ?_, fun c3 => ?_⟩
          · skip
            exact s_m_findRest_130 k_a_choirs k_f_choir k_f_voices hx1 hx2 hx3 hx4 (iv_add (l := 9) (h := 4607) (iv_mul (l := 9) (h := 4599) (iv_lit (l := 9) (h := 9) (by decide)) hx3 (by decide)) hx4 (by decide)) m11 hm11 hP11 m18 hm18 hP18 hpost
          · skip
            exact (iv_emp (iv_ne (l := 1) (h := 0) c3 (iv_lit (l := 0) (h := 0) (by decide)) (iv_lit (l := 0) (h := 0) (by decide)) (by decide)) (by decide)).elim
        · skip
          refine ⟨fun c4 => ?_, fun c4 => ?_⟩
          · skip
            exact (iv_emp (iv_eqa (l := 1) (h := 0) c4 (iv_lit (l := 1) (h := 1) (by decide)) (iv_lit (l := 0) (h := 0) (by decide)) (by decide)) (by decide)).elim
          · skip
            exact s_m_findRest_130 k_a_choirs k_f_choir k_f_voices hx1 hx2 hx3 hx4 (iv_add (l := 9) (h := 4607) (iv_mul (l := 9) (h := 4599) (iv_lit (l := 9) (h := 9) (by decide)) hx3 (by decide)) hx4 (by decide)) m11 hm11 hP11 m18 hm18 hP18 hpost
      · skip
        refine ⟨fun c5 => ?_, fun c5 => ?_⟩
        · skip
          refine ⟨fun c6 => ?_, fun c6 => ?_⟩
          · skip
            exact (iv_emp (iv_ne (l := 1) (h := 0) c6 (iv_lit (l := 0) (h := 0) (by decide)) (iv_lit (l := 0) (h := 0) (by decide)) (by decide)) (by decide)).elim
          · skip
            refine sp_voice_0 k_a_choirs k_f_choir hx4 (fun r7 hr7 => ?_)
            refine sp_voice_0 k_a_choirs k_f_choir (iv_lta (l := 0) (h := 8) (r_nle c1) hx7 k_f_voices (by decide)) (fun r8 hr8 => ?_)
            refine ⟨fun c9 => ?_, fun c9 => ?_⟩
            · skip
              refine ⟨fun c10 => ?_, fun c10 => ?_⟩
              · skip
                exact s_m_findRest_94 k_a_choirs k_f_choir k_f_voices hx1 hx2 hx3 hx4 (iv_lta (l := 0) (h := 8) (r_nle c1) hx7 k_f_voices (by decide)) m11 hm11 hP11 m18 hm18 hP18 x7.toInt (Int.le_refl _) (fun u0 u1 hq g0 => ih u0 u1 (ms_up hm hq) g0) hpost
              · skip
                exact (iv_emp (iv_ne (l := 1) (h := 0) c10 (iv_lit (l := 0) (h := 0) (by decide)) (iv_lit (l := 0) (h := 0) (by decide)) (by decide)) (by decide)).elim
            · skip
              refine sp_voice_1 k_a_choirs k_f_choir (iv_lta (l := 0) (h := 8) (r_nle c1) hx7 k_f_voices (by decide)) (fun r11 hr11 => ?_)
              refine sp_voice_1 k_a_choirs k_f_choir hx4 (fun r12 hr12 => ?_)
              refine ⟨fun c13 => ?_, fun c13 => ?_⟩
              · skip
                refine ⟨fun c14 => ?_, fun c14 => ?_⟩
                · skip
                  exact s_m_findRest_94 k_a_choirs k_f_choir k_f_voices hx1 hx2 hx3 hx4 (iv_lta (l := 0) (h := 8) (r_nle c1) hx7 k_f_voices (by decide)) m11 hm11 hP11 m18 hm18 hP18 x7.toInt (Int.le_refl _) (fun u0 u1 hq g0 => ih u0 u1 (ms_up hm hq) g0) hpost
                · skip
                  exact (iv_emp (iv_ne (l := 1) (h := 0) c14 (iv_lit (l := 0) (h := 0) (by decide)) (iv_lit (l := 0) (h := 0) (by decide)) (by decide)) (by decide)).elim
              · skip
                refine ⟨fun c15 => ?_, fun c15 => ?_⟩
                · skip
                  exact (iv_emp (iv_eqa (l := 1) (h := 0) c15 (iv_lit (l := 1) (h := 1) (by decide)) (iv_lit (l := 0) (h := 0) (by decide)) (by decide)) (by decide)).elim
                · skip
                  refine ⟨iv_in (iv_add (l := 0) (h := 4607) (iv_mul (l := 0) (h := 4599) (iv_lit (l := 9) (h := 9) (by decide)) (iv_or 9 (l := 0) (h := 511) hx3 (iv_shl1 (l := 1) (h := 256) (iv_lit (l := 1) (h := 1) (by decide)) (iv_lta (l := 0) (h := 8) (r_nle c1) hx7 k_f_voices (by decide)) (by decide)) (by decide)) (by decide)) (iv_lta (l := 0) (h := 8) (r_nle c1) hx7 k_f_voices (by decide)) (by decide)) (by decide), ?_⟩
                  exact s_m_findRest_95 k_a_choirs k_f_choir k_f_voices hx1 hx2 hx3 hx4 (iv_lta (l := 0) (h := 8) (r_nle c1) hx7 k_f_voices (by decide)) m11 hm11 hP11 m18 hm18 hP18 x7.toInt (Int.le_refl _) (fun u0 u1 hq g0 => ih u0 u1 (ms_up hm hq) g0) hpost
        · skip
          refine ⟨fun c16 => ?_, fun c16 => ?_⟩
          · skip
            exact s_m_findRest_94 k_a_choirs k_f_choir k_f_voices hx1 hx2 hx3 hx4 (iv_lta (l := 0) (h := 8) (r_nle c1) hx7 k_f_voices (by decide)) m11 hm11 hP11 m18 hm18 hP18 x7.toInt (Int.le_refl _) (fun u0 u1 hq g0 => ih u0 u1 (ms_up hm hq) g0) hpost
          · skip
            exact (iv_emp (iv_eqa (l := 1) (h := 0) c16 (iv_lit (l := 1) (h := 1) (by decide)) (iv_lit (l := 0) (h := 0) (by decide)) (by decide)) (by decide)).elim
  exact loop _ _ _ (ms_init_up _ _) hx7
set_option maxRecDepth 20000 in
theorem s_m_findRest_37 {P11 : Int32 → (Nat → Int64) → Prop} {P18 : Int32 → (Nat → Int64) → Prop} {a_choirs : Nat → Int32} {f_choir : Int32} {f_voices : Int32} {a_rest : Nat → Int64} {x1 : Int32} {x2 : Int32} {x3 : Int32} {x4 : Int32} {y0 : Int64} {post : Int64 → (Nat → Int64) → Prop} (k_a_choirs : mCho a_choirs) (k_f_choir : iv 0 1 f_choir) (k_f_voices : iv 1 9 f_voices) (hx1 : iv 0 9 x1) (hx2 : iv 0 511 x2) (hx3 : iv 1 511 x3) (hx4 : iv 0 8 x4) (m11 : Int) (hm11 : x3.toInt ≤ m11) (hP11 : ∀ (x3 : Int32) (a_rest : Nat → Int64), x3.toInt < m11 → iv 0 511 x3 → P11 x3 a_rest) (m18 : Int) (hm18 : m18 ≤ x4.toInt) (hP18 : ∀ (x4 : Int32) (a_rest : Nat → Int64), m18 < x4.toInt → iv 0 9 x4 → P18 x4 a_rest) (hpost : ∀ (r : Int64) (a_rest : Nat → Int64), post r a_rest) : q_m_findRest_37 P11 P18 a_choirs f_choir f_voices a_rest x1 x2 x3 x4 y0 post := by
  exact s_m_findRest_42 k_a_choirs k_f_choir k_f_voices hx1 hx2 hx3 hx4 (iv_w (iv_lit (l := 0) (h := 0) (by decide)) (by decide)) m11 hm11 hP11 m18 hm18 hP18 hpost
set_option maxRecDepth 20000 in
theorem s_m_findRest_18 {P11 : Int32 → (Nat → Int64) → Prop} {a_choirs : Nat → Int32} {f_choir : Int32} {f_voices : Int32} {a_rest : Nat → Int64} {x1 : Int32} {x2 : Int32} {x3 : Int32} {x4 : Int32} {post : Int64 → (Nat → Int64) → Prop} (k_a_choirs : mCho a_choirs) (k_f_choir : iv 0 1 f_choir) (k_f_voices : iv 0 9 f_voices) (hx1 : iv 0 9 x1) (hx2 : iv 0 511 x2) (hx3 : iv 1 511 x3) (hx4 : iv 0 9 x4) (m11 : Int) (hm11 : x3.toInt ≤ m11) (hP11 : ∀ (x3 : Int32) (a_rest : Nat → Int64), x3.toInt < m11 → iv 0 511 x3 → P11 x3 a_rest) (hpost : ∀ (r : Int64) (a_rest : Nat → Int64), post r a_rest) : q_m_findRest_18 P11 a_choirs f_choir f_voices a_rest x1 x2 x3 x4 post := by
  intro P hP
  have loop : ∀ (n : Nat) (x4 : Int32) (a_rest : Nat → Int64), (9 - x4.toInt < (n : Int)) → (iv 0 9 x4) → P x4 a_rest := by
    intro n
    induction n with
    | zero => intro x4 a_rest hm hx4; exact (ms0_up hm hx4).elim
    | succ n ih =>
      intro x4 a_rest hm hx4
      apply hP
      refine ⟨fun c1 => ?_, fun c1 => ?_⟩
      · skip
        intro w2 ew2
        have hw2 := iv_eq ew2 (iv_add (l := 0) (h := 510) hx3 (iv_lit (l := (-1)) (h := (-1)) (by decide)) (by decide))
        exact hP11 _ _ (ml_dn hm11 (dec_lt ew2 hx3 (by decide))) (iv_w hw2 (by decide))
      · skip
        refine ⟨fun c3 => ?_, fun c3 => ?_⟩
        · skip
          exact s_m_findRest_37 k_a_choirs k_f_choir (iv_ltb (l := 1) (h := 9) (r_nle c1) hx4 k_f_voices (by decide)) hx1 hx2 hx3 (iv_lta (l := 0) (h := 8) (r_nle c1) hx4 k_f_voices (by decide)) m11 hm11 hP11 x4.toInt (Int.le_refl _) (fun u0 u1 hq g0 => ih u0 u1 (ms_up hm hq) g0) hpost
        · skip
          exact s_m_findRest_37 k_a_choirs k_f_choir (iv_ltb (l := 1) (h := 9) (r_nle c1) hx4 k_f_voices (by decide)) hx1 (iv_w (iv_eqb (l := 1) (h := 511) c3 hx3 hx2 (by decide)) (by decide)) hx3 (iv_lta (l := 0) (h := 8) (r_nle c1) hx4 k_f_voices (by decide)) m11 hm11 hP11 x4.toInt (Int.le_refl _) (fun u0 u1 hq g0 => ih u0 u1 (ms_up hm hq) g0) hpost
  exact loop _ _ _ (ms_init_up _ _) hx4
set_option maxRecDepth 20000 in
theorem s_m_findRest_11 {a_choirs : Nat → Int32} {f_choir : Int32} {f_voices : Int32} {a_rest : Nat → Int64} {x1 : Int32} {x2 : Int32} {x3 : Int32} {post : Int64 → (Nat → Int64) → Prop} (k_a_choirs : mCho a_choirs) (k_f_choir : iv 0 1 f_choir) (k_f_voices : iv 0 9 f_voices) (hx1 : iv 0 9 x1) (hx2 : iv 0 511 x2) (hx3 : iv 0 511 x3) (hpost : ∀ (r : Int64) (a_rest : Nat → Int64), post r a_rest) : q_m_findRest_11 a_choirs f_choir f_voices a_rest x1 x2 x3 post := by
  intro P hP
  have loop : ∀ (n : Nat) (x3 : Int32) (a_rest : Nat → Int64), (x3.toInt - 0 < (n : Int)) → (iv 0 511 x3) → P x3 a_rest := by
    intro n
    induction n with
    | zero => intro x3 a_rest hm hx3; exact (ms0_dn hm hx3).elim
    | succ n ih =>
      intro x3 a_rest hm hx3
      apply hP
      refine ⟨fun c1 => ?_, fun c1 => ?_⟩
      · skip
        refine ⟨fun c2 => ?_, fun c2 => ?_⟩
        · skip
          exact s_m_findRest_155 k_a_choirs k_f_choir (iv_w (iv_ne (l := 1) (h := 9) c2 k_f_voices (iv_lit (l := 0) (h := 0) (by decide)) (by decide)) (by decide)) hpost
        · skip
          exact s_m_findRest_155 k_a_choirs k_f_choir (iv_w (iv_eqa (l := 0) (h := 0) c2 k_f_voices (iv_lit (l := 0) (h := 0) (by decide)) (by decide)) (by decide)) hpost
      · skip
        exact s_m_findRest_18 k_a_choirs k_f_choir k_f_voices hx1 hx2 (iv_ltb (l := 1) (h := 511) (r_nle c1) (iv_lit (l := 0) (h := 0) (by decide)) hx3 (by decide)) (iv_w (iv_lit (l := 0) (h := 0) (by decide)) (by decide)) x3.toInt (Int.le_refl _) (fun u0 u1 hq g0 => ih u0 u1 (ms_dn hm hq) g0) hpost
  exact loop _ _ _ (ms_init_dn _ _) hx3
set_option maxRecDepth 20000 in
theorem s_m_findRest_0 {a_choirs : Nat → Int32} {f_choir : Int32} {f_voices : Int32} {a_rest : Nat → Int64} {x1 : Int32} {post : Int64 → (Nat → Int64) → Prop} (k_a_choirs : mCho a_choirs) (k_f_choir : iv 0 1 f_choir) (k_f_voices : iv 0 9 f_voices) (hx1 : iv 0 9 x1) (hpost : ∀ (r : Int64) (a_rest : Nat → Int64), post r a_rest) : q_m_findRest_0 a_choirs f_choir f_voices a_rest x1 post := by
  intro w1 ew1
  have hw1 := iv_eq ew1 (iv_sub (l := 0) (h := 511) (iv_shl1 (l := 1) (h := 512) (iv_lit (l := 1) (h := 1) (by decide)) k_f_voices (by decide)) (iv_lit (l := 1) (h := 1) (by decide)) (by decide))
  exact s_m_findRest_11 k_a_choirs k_f_choir k_f_voices hx1 hw1 hw1 hpost
